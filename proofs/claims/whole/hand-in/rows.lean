section
-- ===== PART A: goes FIRST, ahead of the names: the tables' words, and 'selects' of the private methods out of them =====
/-- a private method of a class that the tables say can be made, by its rows of tables_1 -/
def lw_okq (q : MethodName × Nat) : Prop := (q.1.cls ≠ "java/lang/invoke/MethodHandle" ∧ q.1.cls ≠ "java/lang/invoke/VarHandle") ∧ Cond.instantiable q.1.cls q.2 ∈ tables_1 ∧ Cond.privateMethod q.1 ∈ tables_1 ∧ Cond.instanceMethod q.1 ∈ tables_1
theorem lw_p0 : lw_okq (⟨"SnapshotDesk", "transactionOf", "(I)LSnapshotDesk$Transaction;"⟩, 3) := ⟨⟨by decide +kernel, by decide +kernel⟩, List.mem_of_getElem? (i := 15) (by decide +kernel), List.mem_of_getElem? (i := 99) (by decide +kernel), List.mem_of_getElem? (i := 100) (by decide +kernel)⟩
theorem lw_p1 : lw_okq (⟨"SnapshotDesk", "giveMissingNumbers", "(LSnapshotDesk$Transaction;)V"⟩, 3) := ⟨⟨by decide +kernel, by decide +kernel⟩, List.mem_of_getElem? (i := 15) (by decide +kernel), List.mem_of_getElem? (i := 118) (by decide +kernel), List.mem_of_getElem? (i := 119) (by decide +kernel)⟩
theorem lw_p2 : lw_okq (⟨"java/util/ArrayList", "add", "(Ljava/lang/Object;[Ljava/lang/Object;I)V"⟩, 3) := ⟨⟨by decide +kernel, by decide +kernel⟩, List.mem_of_getElem? (i := 25) (by decide +kernel), List.mem_of_getElem? (i := 150) (by decide +kernel), List.mem_of_getElem? (i := 151) (by decide +kernel)⟩
theorem lw_p3 : lw_okq (⟨"java/util/ArrayList", "grow", "()[Ljava/lang/Object;"⟩, 3) := ⟨⟨by decide +kernel, by decide +kernel⟩, List.mem_of_getElem? (i := 25) (by decide +kernel), List.mem_of_getElem? (i := 154) (by decide +kernel), List.mem_of_getElem? (i := 155) (by decide +kernel)⟩
theorem lw_p4 : lw_okq (⟨"java/util/ArrayList", "grow", "(I)[Ljava/lang/Object;"⟩, 3) := ⟨⟨by decide +kernel, by decide +kernel⟩, List.mem_of_getElem? (i := 25) (by decide +kernel), List.mem_of_getElem? (i := 158) (by decide +kernel), List.mem_of_getElem? (i := 159) (by decide +kernel)⟩
theorem lw_p5 : lw_okq (⟨"SnapshotDesk", "abortNumbersFrom", "(LSnapshotDesk$Transaction;I)V"⟩, 3) := ⟨⟨by decide +kernel, by decide +kernel⟩, List.mem_of_getElem? (i := 15) (by decide +kernel), List.mem_of_getElem? (i := 236) (by decide +kernel), List.mem_of_getElem? (i := 237) (by decide +kernel)⟩
theorem lw_p6 : lw_okq (⟨"SnapshotDesk", "commitRunningNumbers", "(LSnapshotDesk$Transaction;)V"⟩, 3) := ⟨⟨by decide +kernel, by decide +kernel⟩, List.mem_of_getElem? (i := 15) (by decide +kernel), List.mem_of_getElem? (i := 244) (by decide +kernel), List.mem_of_getElem? (i := 245) (by decide +kernel)⟩
theorem lw_p7 : lw_okq (⟨"SnapshotDesk", "find", "(I)LSnapshotDesk$Given;"⟩, 3) := ⟨⟨by decide +kernel, by decide +kernel⟩, List.mem_of_getElem? (i := 15) (by decide +kernel), List.mem_of_getElem? (i := 261) (by decide +kernel), List.mem_of_getElem? (i := 262) (by decide +kernel)⟩
theorem lw_p8 : lw_okq (⟨"SnapshotDesk", "isInEveryLiveSnapshot", "(LSnapshotDesk$Given;)Z"⟩, 3) := ⟨⟨by decide +kernel, by decide +kernel⟩, List.mem_of_getElem? (i := 15) (by decide +kernel), List.mem_of_getElem? (i := 288) (by decide +kernel), List.mem_of_getElem? (i := 289) (by decide +kernel)⟩
theorem lw_p9 : lw_okq (⟨"SnapshotDeskModel", "runs", "(I)Z"⟩, 12) := ⟨⟨by decide +kernel, by decide +kernel⟩, List.mem_of_getElem? (i := 299) (by decide +kernel), List.mem_of_getElem? (i := 351) (by decide +kernel), List.mem_of_getElem? (i := 352) (by decide +kernel)⟩
theorem lw_p10 : lw_okq (⟨"SnapshotDeskModel", "isFrom", "(III)Z"⟩, 12) := ⟨⟨by decide +kernel, by decide +kernel⟩, List.mem_of_getElem? (i := 299) (by decide +kernel), List.mem_of_getElem? (i := 367) (by decide +kernel), List.mem_of_getElem? (i := 368) (by decide +kernel)⟩
theorem lw_p11 : lw_okq (⟨"SnapshotDeskModel", "ends", "(II)I"⟩, 12) := ⟨⟨by decide +kernel, by decide +kernel⟩, List.mem_of_getElem? (i := 299) (by decide +kernel), List.mem_of_getElem? (i := 379) (by decide +kernel), List.mem_of_getElem? (i := 380) (by decide +kernel)⟩
theorem lw_p12 : lw_okq (⟨"SnapshotDeskModel", "isGiven", "(I)Z"⟩, 12) := ⟨⟨by decide +kernel, by decide +kernel⟩, List.mem_of_getElem? (i := 299) (by decide +kernel), List.mem_of_getElem? (i := 396) (by decide +kernel), List.mem_of_getElem? (i := 397) (by decide +kernel)⟩
theorem lw_p13 : lw_okq (⟨"SnapshotDeskModel", "isSeen", "(III)Z"⟩, 12) := ⟨⟨by decide +kernel, by decide +kernel⟩, List.mem_of_getElem? (i := 299) (by decide +kernel), List.mem_of_getElem? (i := 412) (by decide +kernel), List.mem_of_getElem? (i := 413) (by decide +kernel)⟩
def lw_privs_1 : List (MethodName × Nat) := [(⟨"SnapshotDesk", "transactionOf", "(I)LSnapshotDesk$Transaction;"⟩, 3), (⟨"SnapshotDesk", "giveMissingNumbers", "(LSnapshotDesk$Transaction;)V"⟩, 3), (⟨"java/util/ArrayList", "add", "(Ljava/lang/Object;[Ljava/lang/Object;I)V"⟩, 3), (⟨"java/util/ArrayList", "grow", "()[Ljava/lang/Object;"⟩, 3), (⟨"java/util/ArrayList", "grow", "(I)[Ljava/lang/Object;"⟩, 3), (⟨"SnapshotDesk", "abortNumbersFrom", "(LSnapshotDesk$Transaction;I)V"⟩, 3), (⟨"SnapshotDesk", "commitRunningNumbers", "(LSnapshotDesk$Transaction;)V"⟩, 3), (⟨"SnapshotDesk", "find", "(I)LSnapshotDesk$Given;"⟩, 3), (⟨"SnapshotDesk", "isInEveryLiveSnapshot", "(LSnapshotDesk$Given;)Z"⟩, 3), (⟨"SnapshotDeskModel", "runs", "(I)Z"⟩, 12), (⟨"SnapshotDeskModel", "isFrom", "(III)Z"⟩, 12), (⟨"SnapshotDeskModel", "ends", "(II)I"⟩, 12), (⟨"SnapshotDeskModel", "isGiven", "(I)Z"⟩, 12), (⟨"SnapshotDeskModel", "isSeen", "(III)Z"⟩, 12)]
theorem lw_r1 : ∀ q ∈ lw_privs_1, lw_okq q := List.forall_mem_cons.mpr ⟨lw_p0, List.forall_mem_cons.mpr ⟨lw_p1, List.forall_mem_cons.mpr ⟨lw_p2, List.forall_mem_cons.mpr ⟨lw_p3, List.forall_mem_cons.mpr ⟨lw_p4, List.forall_mem_cons.mpr ⟨lw_p5, List.forall_mem_cons.mpr ⟨lw_p6, List.forall_mem_cons.mpr ⟨lw_p7, List.forall_mem_cons.mpr ⟨lw_p8, List.forall_mem_cons.mpr ⟨lw_p9, List.forall_mem_cons.mpr ⟨lw_p10, List.forall_mem_cons.mpr ⟨lw_p11, List.forall_mem_cons.mpr ⟨lw_p12, List.forall_mem_cons.mpr ⟨lw_p13, fun _ h => absurd h List.not_mem_nil⟩⟩⟩⟩⟩⟩⟩⟩⟩⟩⟩⟩⟩⟩
def lw_privs : List (MethodName × Nat) := lw_privs_1
def lw_tbl : List Cond := k2_sels lw_privs ++ tables_1
theorem lw_privs_ok : ∀ q ∈ lw_privs, lw_okq q := lw_r1
/-- the words that a call carries along -/
def gw : List Cond := lw_tbl.filter goodWord
theorem gw_in {w : Cond} (h : w ∈ lw_tbl) (hg : goodWord w = true) : w ∈ gw := List.mem_filter.mpr ⟨h, hg⟩
theorem gw_good : GoodIn gw gw := fun w h => ⟨h, good_of_word (List.mem_filter.mp h).2⟩
end
section
def R_M : String := "SnapshotDeskModel"
def R_D : String := "SnapshotDesk"
def R_G : String := "SnapshotDesk$Given"
def R_T : String := "SnapshotDesk$Transaction"
def R_L : String := "java/util/ArrayList"
def R_AL : String := "java/util/AbstractList"
def R_AC : String := "java/util/AbstractCollection"
def R_O : String := "java/util/Objects"
def R_P : String := "jdk/internal/util/Preconditions"
def R_AS : String := "jdk/internal/util/ArraysSupport"
def R_AR : String := "java/util/Arrays"
def R_W : String := "SnapshotDeskLaw"
def F_M : u_T := fun k => match k with
  | 0 => ("SnapshotDeskModel", "given", "I", false)
  | 1 => ("SnapshotDeskModel", "commits", "I", false)
  | 2 => ("SnapshotDeskModel", "states", "[I", true)
  | 3 => ("SnapshotDeskModel", "belongs", "[I", true)
  | 4 => ("SnapshotDeskModel", "roots", "[I", true)
  | 5 => ("SnapshotDeskModel", "places", "[I", true)
  | 6 => ("SnapshotDeskModel", "has", "[Z", true)
  | 7 => ("SnapshotDeskModel", "modes", "[I", true)
  | 8 => ("SnapshotDeskModel", "commands", "[I", true)
  | 9 => ("SnapshotDeskModel", "tops", "[I", true)
  | 10 => ("SnapshotDeskModel", "snaps", "[I", true)
  | _ => ("SnapshotDeskModel", "levels", "[I", true)
def ty_M : Nat → FieldType := fun k => match k with
  | 0 => .int
  | 1 => .int
  | 2 => .array .int
  | 3 => .array .int
  | 4 => .array .int
  | 5 => .array .int
  | 6 => .array .boolean
  | 7 => .array .int
  | 8 => .array .int
  | 9 => .array .int
  | 10 => .array .int
  | _ => .array .int
theorem nm_M : ∀ a, a < 12 → ∀ b, b < 12 → a ≠ b → (F_M a).2.1 ≠ (F_M b).2.1 := by decide +kernel
theorem tk_M : ∀ k, k < 12 → parseFieldDescriptor (F_M k).2.2.1 = some (ty_M k) := by decide +kernel
def F_D : u_T := fun k => match k with
  | 0 => ("SnapshotDesk", "sessions", "[LSnapshotDesk$Transaction;", true)
  | 1 => ("SnapshotDesk", "given", "Ljava/util/ArrayList;", true)
  | _ => ("SnapshotDesk", "commits", "I", false)
def ty_D : Nat → FieldType := fun k => match k with
  | 0 => .array (.object "SnapshotDesk$Transaction")
  | 1 => .object "java/util/ArrayList"
  | _ => .int
theorem nm_D : ∀ a, a < 3 → ∀ b, b < 3 → a ≠ b → (F_D a).2.1 ≠ (F_D b).2.1 := by decide +kernel
theorem tk_D : ∀ k, k < 3 → parseFieldDescriptor (F_D k).2.2.1 = some (ty_D k) := by decide +kernel
def F_G : u_T := fun k => match k with
  | 0 => ("SnapshotDesk$Given", "rootNumber", "I", true)
  | 1 => ("SnapshotDesk$Given", "level", "I", false)
  | 2 => ("SnapshotDesk$Given", "condition", "I", false)
  | _ => ("SnapshotDesk$Given", "commitPlace", "I", false)
def ty_G : Nat → FieldType := fun k => match k with
  | 0 => .int
  | 1 => .int
  | 2 => .int
  | _ => .int
theorem nm_G : ∀ a, a < 4 → ∀ b, b < 4 → a ≠ b → (F_G a).2.1 ≠ (F_G b).2.1 := by decide +kernel
theorem tk_G : ∀ k, k < 4 → parseFieldDescriptor (F_G k).2.2.1 = some (ty_G k) := by decide +kernel
def F_T : u_T := fun k => match k with
  | 0 => ("SnapshotDesk$Transaction", "mode", "I", true)
  | 1 => ("SnapshotDesk$Transaction", "numbers", "[I", true)
  | 2 => ("SnapshotDesk$Transaction", "top", "I", false)
  | 3 => ("SnapshotDesk$Transaction", "command", "I", false)
  | _ => ("SnapshotDesk$Transaction", "snapshot", "I", false)
def ty_T : Nat → FieldType := fun k => match k with
  | 0 => .int
  | 1 => .array .int
  | 2 => .int
  | 3 => .int
  | _ => .int
theorem nm_T : ∀ a, a < 5 → ∀ b, b < 5 → a ≠ b → (F_T a).2.1 ≠ (F_T b).2.1 := by decide +kernel
theorem tk_T : ∀ k, k < 5 → parseFieldDescriptor (F_T k).2.2.1 = some (ty_T k) := by decide +kernel
def F_L : u_T := fun k => match k with
  | 0 => ("java/util/AbstractList", "modCount", "I", false)
  | 1 => ("java/util/ArrayList", "elementData", "[Ljava/lang/Object;", false)
  | _ => ("java/util/ArrayList", "size", "I", false)
def ty_L : Nat → FieldType := fun k => match k with
  | 0 => .int
  | 1 => .array (.object "java/lang/Object")
  | _ => .int
theorem nm_L : ∀ a, a < 3 → ∀ b, b < 3 → a ≠ b → (F_L a).2.1 ≠ (F_L b).2.1 := by decide +kernel
theorem tk_L : ∀ k, k < 3 → parseFieldDescriptor (F_L k).2.2.1 = some (ty_L k) := by decide +kernel
abbrev cls : List vw_C := [(R_M, F_M, 12), (R_D, F_D, 3), (R_G, F_G, 4), (R_T, F_T, 5), (R_L, F_L, 3)]
abbrev gk (κ : Nat → ClassId) : List (ClassId × FieldType) := [(κ 0, .int), (κ 1, .boolean), (κ 2, .object "SnapshotDesk$Transaction"), (κ 3, .object "java/lang/Object")]
def mw (κ : Nat → ClassId) (a : Nat → Nat) (g cm : Int32) (st be ro pl ha mo co to sn le : Nat → Int32) : va_W := [(a 0, .inr (0, [.int g, .int cm, .ref (a 1), .ref (a 2), .ref (a 3), .ref (a 4), .ref (a 5), .ref (a 6), .ref (a 7), .ref (a 8), .ref (a 9), .ref (a 10)])), (a 1, .inl (κ 0, 4001, .inl st)), (a 2, .inl (κ 0, 4001, .inl be)), (a 3, .inl (κ 0, 4001, .inl ro)), (a 4, .inl (κ 0, 4001, .inl pl)), (a 5, .inl (κ 1, 6, .inl ha)), (a 6, .inl (κ 0, 6, .inl mo)), (a 7, .inl (κ 0, 6, .inl co)), (a 8, .inl (κ 0, 6, .inl to)), (a 9, .inl (κ 0, 6, .inl sn)), (a 10, .inl (κ 0, 48, .inl le))]
/-! What stays as it was from the start: the list's empty array (z.1), the mirror of the array of objects (z.2), the words that no call carries along by itself. -/
def zf (z : Nat × Nat) (A : Nat → Prop) (U : State) (H : Heap) : Prop := va_Z "java/util/ArrayList" "DEFAULTCAPACITY_EMPTY_ELEMENTDATA" "[Ljava/lang/Object;" (.ref z.1) A U H ∧ va_T (.object "java/lang/Object") z.1 0 (fun _ => .null) A U H ∧ va_Mi "[Ljava/lang/Object;" z.2 U ∧ va_Nw (.castable R_G "java/lang/Object") U ∧ va_AO "SnapshotDesk$Transaction" U ∧ va_AO "java/lang/Object" U ∧ va_Dc U
theorem cast_moved {C T : String} {u U : State} (hvm : u.vm.Alike U.vm) (h : va_Nw (.castable C T) u) : va_Nw (.castable C T) U := va_tabs rfl (rfl : (u.setVm U.vm).vm = U.vm) (by rw [Cond.castable_setVm hvm]; exact h)
theorem zf.moved {z : Nat × Nat} {A : Nat → Prop} {u U : State} {H : Heap} (hvm : u.vm.Alike U.vm) (h : zf z A u H) : zf z A U H := ⟨h.1.moved hvm, h.2.1.moved hvm, h.2.2.1.moved hvm, cast_moved hvm h.2.2.2.1, h.2.2.2.2.1.moved hvm, h.2.2.2.2.2.1.moved hvm, h.2.2.2.2.2.2.moved hvm⟩
theorem zf.kept {z : Nat × Nat} {A : Nat → Prop} {U : State} {H H1 : Heap} (h : zf z A U H) (hq : ∀ a : Nat, a < H.size → ¬ A a → H1[a]? = H[a]?) : zf z A U H1 := ⟨h.1.kept hq, h.2.1.kept hq, h.2.2⟩
theorem zf.narrow {z : Nat × Nat} {A B : Nat → Prop} {U : State} {H : Heap} (h : zf z A U H) (hAB : ∀ q, B q → A q) : zf z B U H := ⟨h.1.narrow hAB, h.2.1.narrow hAB, h.2.2⟩
end
section
abbrev u_G : Type := List (ClassId × FieldType) × Nat × Nat
/-! The walk's own judgement. V: the machine at a frame, over a world ws; U: the same with the locals as a list. Rows: one an instruction, lifted from the kit's rows. -/
def u_lk (L : List (Nat × Value)) (i : Nat) : Option Value := match L with
  | [] => none
  | q :: r => if q.1 == i then some q.2 else u_lk r i
theorem u_lk_mem {v : Value} {i : Nat} : ∀ {L : List (Nat × Value)}, u_lk L i = some v → (i, v) ∈ L
  | [], h => by simp [u_lk] at h
  | q :: r, h => by
    unfold u_lk at h
    by_cases c : (q.1 == i) = true
    · rw [if_pos c] at h
      have h1 : q.1 = i := by simpa using c
      have h2 : q.2 = v := Option.some.inj h
      have h3 : q = (i, v) := by rw [← h1, ← h2]
      rw [h3]
      exact List.mem_cons_self
    · rw [if_neg c] at h
      exact List.mem_cons_of_mem _ (u_lk_mem h)
theorem u_lk_ok {ls : Array Slot} {nL i : Nat} {L : List (Nat × Value)} {v : Value} (h : lv_has ls nL L) (hx : u_lk L i = some v) : ls[i]? = some (.val v) := h.2.2 (i, v) (u_lk_mem hx)
abbrev u_st (L : List (Nat × Value)) (i : Nat) (v : Value) : List (Nat × Value) := (i, v) :: L.filter (fun q => !(q.1 == i) && !(q.1 + 1 == i && q.2.category == 2))
/-- what stays the same through a method's walk -/
def vx (p : Program) (s : State) (m : MethodId) (args : Array Value) (meth : Method) (c : Code) (cc : ByteArray) (nL : Nat) (own : String) (D : va_G) (G : u_G) (A : Nat → Prop) : Prop :=
  CallFix p m c cc nL s args gw own ∧ va_K D cls G.1 s ∧ (∀ q, s.heap.size ≤ q → A q) ∧ zf G.2 A s s.heap ∧ meth.locks = false
def V (p : Program) (l : Launch) (e : Env) (R : Room) (s : State) (m : MethodId) (args : Array Value) (below : List Frame) (meth : Method) (c : Code) (D : va_G) (A : Nat → Prop) (ws : va_W) (k n : Nat) (Q : State → Prop) (g : JFrame) : Prop :=
  ∀ (H : Heap) (locs : List Loc), va_P D cls ws H → va_D A ws → va_S A s.heap H locs → W p l e R s m args below meth c H locs k n Q g
def U (p : Program) (l : Launch) (e : Env) (R : Room) (s : State) (m : MethodId) (args : Array Value) (below : List Frame) (meth : Method) (c : Code) (nL : Nat) (D : va_G) (A : Nat → Prop) (ws : va_W) (k n : Nat) (Q : State → Prop) (pc : Nat) (L : List (Nat × Value)) (st : List Value) : Prop :=
  ∀ ls : Array Slot, lv_has ls nL L → V p l e R s m args below meth c D A ws k n Q (F0 m pc ls st)
section VL
variable {p : Program} {l : Launch} {e : Env} {R : Room} {s : State} {m : MethodId} {args : Array Value} {below : List Frame} {meth : Method} {c : Code} {k n : Nat} {Q : State → Prop}
variable {cc : ByteArray} {nL : Nat} {own : String} {D : va_G} {G : u_G} {A : Nat → Prop} {pc : Nat} {L : List (Nat × Value)} {st : List Value} {ws : va_W}
theorem u_iconst (hC : vx p s m args meth c cc nL own D G A) {z : Int} (v : Int32) (d : decode cc pc = .ok (.iconst z, 1)) (hv : Int32.ofInt z = v) (kk : U p l e R s m args below meth c nL D A ws k n Q (pc + 1) (L) (.int v :: st)) : U p l e R s m args below meth c nL D A ws k n Q (pc) (L) (st) := by
  intro ls hl H locs hP hD hS
  exact lv_iconst hC.1.1 hC.1.2.1 d hv (kk ls hl H locs hP hD hS)
theorem u_bipush (hC : vx p s m args meth c cc nL own D G A) {z : Int} (v : Int32) (d : decode cc pc = .ok (.bipush z, 2)) (hv : (Int8.ofInt z).toInt32 = v) (kk : U p l e R s m args below meth c nL D A ws k n Q (pc + 2) (L) (.int v :: st)) : U p l e R s m args below meth c nL D A ws k n Q (pc) (L) (st) := by
  intro ls hl H locs hP hD hS
  exact lv_bipush hC.1.1 hC.1.2.1 d hv (kk ls hl H locs hP hD hS)
theorem u_sipush (hC : vx p s m args meth c cc nL own D G A) {z : Int} (v : Int32) (d : decode cc pc = .ok (.sipush z, 3)) (hv : (Int16.ofInt z).toInt32 = v) (kk : U p l e R s m args below meth c nL D A ws k n Q (pc + 3) (L) (.int v :: st)) : U p l e R s m args below meth c nL D A ws k n Q (pc) (L) (st) := by
  intro ls hl H locs hP hD hS
  exact lv_sipush hC.1.1 hC.1.2.1 d hv (kk ls hl H locs hP hD hS)
theorem u_iload_n (hC : vx p s m args meth c cc nL own D G A) {i : Fin 4} {x : Int32} (d : decode cc pc = .ok (.iload_n i, 1)) (hx : u_lk L (i : Nat) = some (.int x)) (kk : U p l e R s m args below meth c nL D A ws k n Q (pc + 1) (L) (.int x :: st)) : U p l e R s m args below meth c nL D A ws k n Q (pc) (L) (st) := by
  intro ls hl H locs hP hD hS
  exact lv_iload_n hC.1.1 hC.1.2.1 d rfl (u_lk_ok hl hx) (kk ls hl H locs hP hD hS)
theorem u_iload (hC : vx p s m args meth c cc nL own D G A) {i : Nat} {x : Int32} (d : decode cc pc = .ok (.iload i, 2)) (hx : u_lk L i = some (.int x)) (kk : U p l e R s m args below meth c nL D A ws k n Q (pc + 2) (L) (.int x :: st)) : U p l e R s m args below meth c nL D A ws k n Q (pc) (L) (st) := by
  intro ls hl H locs hP hD hS
  exact lv_iload hC.1.1 hC.1.2.1 d (u_lk_ok hl hx) (kk ls hl H locs hP hD hS)
theorem u_aload_n (hC : vx p s m args meth c cc nL own D G A) {i : Fin 4} {x : Nat} (d : decode cc pc = .ok (.aload_n i, 1)) (hx : u_lk L (i : Nat) = some (.ref x)) (kk : U p l e R s m args below meth c nL D A ws k n Q (pc + 1) (L) (.ref x :: st)) : U p l e R s m args below meth c nL D A ws k n Q (pc) (L) (st) := by
  intro ls hl H locs hP hD hS
  exact lv_aload_n hC.1.1 hC.1.2.1 d rfl (u_lk_ok hl hx) (kk ls hl H locs hP hD hS)
theorem u_aload (hC : vx p s m args meth c cc nL own D G A) {i : Nat} {x : Nat} (d : decode cc pc = .ok (.aload i, 2)) (hx : u_lk L i = some (.ref x)) (kk : U p l e R s m args below meth c nL D A ws k n Q (pc + 2) (L) (.ref x :: st)) : U p l e R s m args below meth c nL D A ws k n Q (pc) (L) (st) := by
  intro ls hl H locs hP hD hS
  exact lv_aload hC.1.1 hC.1.2.1 d (u_lk_ok hl hx) (kk ls hl H locs hP hD hS)
theorem u_aload_nN (hC : vx p s m args meth c cc nL own D G A) {i : Fin 4} (d : decode cc pc = .ok (.aload_n i, 1)) (hx : u_lk L (i : Nat) = some .null) (kk : U p l e R s m args below meth c nL D A ws k n Q (pc + 1) (L) (.null :: st)) : U p l e R s m args below meth c nL D A ws k n Q (pc) (L) (st) := by
  intro ls hl H locs hP hD hS
  exact lv_aload_nN hC.1.1 hC.1.2.1 d rfl (u_lk_ok hl hx) (kk ls hl H locs hP hD hS)
theorem u_aloadN (hC : vx p s m args meth c cc nL own D G A) {i : Nat} (d : decode cc pc = .ok (.aload i, 2)) (hx : u_lk L i = some .null) (kk : U p l e R s m args below meth c nL D A ws k n Q (pc + 2) (L) (.null :: st)) : U p l e R s m args below meth c nL D A ws k n Q (pc) (L) (st) := by
  intro ls hl H locs hP hD hS
  exact lv_aloadN hC.1.1 hC.1.2.1 d (u_lk_ok hl hx) (kk ls hl H locs hP hD hS)
theorem u_istore_n (hC : vx p s m args meth c cc nL own D G A) {i : Fin 4} {x : Int32} (d : decode cc pc = .ok (.istore_n i, 1)) (hn : (i : Nat) < nL) (kk : U p l e R s m args below meth c nL D A ws k n Q (pc + 1) (u_st L (i : Nat) (.int x)) (st)) : U p l e R s m args below meth c nL D A ws k n Q (pc) (L) (.int x :: st) := by
  intro ls hl H locs hP hD hS
  exact lv_istore_n hC.1.1 hC.1.2.1 d rfl hl hn rfl (fun ls' hl' => kk ls' hl' H locs hP hD hS)
theorem u_istore (hC : vx p s m args meth c cc nL own D G A) {i : Nat} {x : Int32} (d : decode cc pc = .ok (.istore i, 2)) (hn : i < nL) (kk : U p l e R s m args below meth c nL D A ws k n Q (pc + 2) (u_st L i (.int x)) (st)) : U p l e R s m args below meth c nL D A ws k n Q (pc) (L) (.int x :: st) := by
  intro ls hl H locs hP hD hS
  exact lv_istore hC.1.1 hC.1.2.1 d hl hn rfl (fun ls' hl' => kk ls' hl' H locs hP hD hS)
theorem u_astore_n (hC : vx p s m args meth c cc nL own D G A) {i : Fin 4} {x : Nat} (d : decode cc pc = .ok (.astore_n i, 1)) (hn : (i : Nat) < nL) (kk : U p l e R s m args below meth c nL D A ws k n Q (pc + 1) (u_st L (i : Nat) (.ref x)) (st)) : U p l e R s m args below meth c nL D A ws k n Q (pc) (L) (.ref x :: st) := by
  intro ls hl H locs hP hD hS
  exact lv_astore_n hC.1.1 hC.1.2.1 d rfl hl hn rfl (fun ls' hl' => kk ls' hl' H locs hP hD hS)
theorem u_astore (hC : vx p s m args meth c cc nL own D G A) {i : Nat} {x : Nat} (d : decode cc pc = .ok (.astore i, 2)) (hn : i < nL) (kk : U p l e R s m args below meth c nL D A ws k n Q (pc + 2) (u_st L i (.ref x)) (st)) : U p l e R s m args below meth c nL D A ws k n Q (pc) (L) (.ref x :: st) := by
  intro ls hl H locs hP hD hS
  exact lv_astore hC.1.1 hC.1.2.1 d hl hn rfl (fun ls' hl' => kk ls' hl' H locs hP hD hS)
theorem u_astore_nN (hC : vx p s m args meth c cc nL own D G A) {i : Fin 4}  (d : decode cc pc = .ok (.astore_n i, 1)) (hn : (i : Nat) < nL) (kk : U p l e R s m args below meth c nL D A ws k n Q (pc + 1) (u_st L (i : Nat) (.null)) (st)) : U p l e R s m args below meth c nL D A ws k n Q (pc) (L) (.null :: st) := by
  intro ls hl H locs hP hD hS
  exact lv_astore_nN hC.1.1 hC.1.2.1 d rfl hl hn rfl (fun ls' hl' => kk ls' hl' H locs hP hD hS)
theorem u_astoreN (hC : vx p s m args meth c cc nL own D G A) {i : Nat}  (d : decode cc pc = .ok (.astore i, 2)) (hn : i < nL) (kk : U p l e R s m args below meth c nL D A ws k n Q (pc + 2) (u_st L i (.null)) (st)) : U p l e R s m args below meth c nL D A ws k n Q (pc) (L) (.null :: st) := by
  intro ls hl H locs hP hD hS
  exact lv_astoreN hC.1.1 hC.1.2.1 d hl hn rfl (fun ls' hl' => kk ls' hl' H locs hP hD hS)
theorem u_iinc (hC : vx p s m args meth c cc nL own D G A) {i j : Nat} {z : Int} {x : Int32} (v : Int32) (d : decode cc pc = .ok (.iinc i z, 3)) (hj : L[j]? = some (i, .int x)) (hv : x + Int32.ofInt z = v) (hn : i < nL) (kk : U p l e R s m args below meth c nL D A ws k n Q (pc + 3) (u_st L i (.int v)) (st)) : U p l e R s m args below meth c nL D A ws k n Q (pc) (L) (st) := by
  intro ls hl H locs hP hD hS
  exact lv_iinc hC.1.1 hC.1.2.1 d hl hj hv hn rfl (fun ls' hl' => kk ls' hl' H locs hP hD hS)
theorem u_iadd (hC : vx p s m args meth c cc nL own D G A) {x y : Int32} (d : decode cc pc = .ok (.iadd, 1)) (kk : U p l e R s m args below meth c nL D A ws k n Q (pc + 1) (L) (.int (x + y) :: st)) : U p l e R s m args below meth c nL D A ws k n Q (pc) (L) (.int y :: .int x :: st) := by
  intro ls hl H locs hP hD hS
  exact lv_iadd hC.1.1 hC.1.2.1 d (kk ls hl H locs hP hD hS)
theorem u_isub (hC : vx p s m args meth c cc nL own D G A) {x y : Int32} (d : decode cc pc = .ok (.isub, 1)) (kk : U p l e R s m args below meth c nL D A ws k n Q (pc + 1) (L) (.int (x - y) :: st)) : U p l e R s m args below meth c nL D A ws k n Q (pc) (L) (.int y :: .int x :: st) := by
  intro ls hl H locs hP hD hS
  exact lv_isub hC.1.1 hC.1.2.1 d (kk ls hl H locs hP hD hS)
theorem u_imul (hC : vx p s m args meth c cc nL own D G A) {x y : Int32} (d : decode cc pc = .ok (.imul, 1)) (kk : U p l e R s m args below meth c nL D A ws k n Q (pc + 1) (L) (.int (x * y) :: st)) : U p l e R s m args below meth c nL D A ws k n Q (pc) (L) (.int y :: .int x :: st) := by
  intro ls hl H locs hP hD hS
  exact lv_imul hC.1.1 hC.1.2.1 d (kk ls hl H locs hP hD hS)
theorem u_iand (hC : vx p s m args meth c cc nL own D G A) {x y : Int32} (d : decode cc pc = .ok (.iand, 1)) (kk : U p l e R s m args below meth c nL D A ws k n Q (pc + 1) (L) (.int (x &&& y) :: st)) : U p l e R s m args below meth c nL D A ws k n Q (pc) (L) (.int y :: .int x :: st) := by
  intro ls hl H locs hP hD hS
  exact lv_iand hC.1.1 hC.1.2.1 d (kk ls hl H locs hP hD hS)
theorem u_ishr (hC : vx p s m args meth c cc nL own D G A) {x y : Int32} (d : decode cc pc = .ok (.ishr, 1)) (kk : U p l e R s m args below meth c nL D A ws k n Q (pc + 1) (L) (.int (x >>> (y &&& 31)) :: st)) : U p l e R s m args below meth c nL D A ws k n Q (pc) (L) (.int y :: .int x :: st) := by
  intro ls hl H locs hP hD hS
  exact lv_ishr hC.1.1 hC.1.2.1 d (kk ls hl H locs hP hD hS)
theorem u_idiv (hC : vx p s m args meth c cc nL own D G A) {x y : Int32} (d : decode cc pc = .ok (.idiv, 1)) (hne : ¬ y = 0) (kk : U p l e R s m args below meth c nL D A ws k n Q (pc + 1) (L) (.int (x / y) :: st)) : U p l e R s m args below meth c nL D A ws k n Q (pc) (L) (.int y :: .int x :: st) := by
  intro ls hl H locs hP hD hS
  exact lv_idiv hC.1.1 hC.1.2.1 d hne (kk ls hl H locs hP hD hS)
theorem u_irem (hC : vx p s m args meth c cc nL own D G A) {x y : Int32} (d : decode cc pc = .ok (.irem, 1)) (hne : ¬ y = 0) (kk : U p l e R s m args below meth c nL D A ws k n Q (pc + 1) (L) (.int (x - x / y * y) :: st)) : U p l e R s m args below meth c nL D A ws k n Q (pc) (L) (.int y :: .int x :: st) := by
  intro ls hl H locs hP hD hS
  exact lv_irem hC.1.1 hC.1.2.1 d hne (kk ls hl H locs hP hD hS)
theorem u_dup (hC : vx p s m args meth c cc nL own D G A) {va : Value} (d : decode cc pc = .ok (.dup, 1)) (h1 : va.category = 1) (kk : U p l e R s m args below meth c nL D A ws k n Q (pc + 1) (L) (va :: va :: st)) : U p l e R s m args below meth c nL D A ws k n Q (pc) (L) (va :: st) := by
  intro ls hl H locs hP hD hS
  exact lv_dup hC.1.1 hC.1.2.1 d h1 (kk ls hl H locs hP hD hS)
theorem u_pop (hC : vx p s m args meth c cc nL own D G A) {va : Value} (d : decode cc pc = .ok (.pop, 1)) (h1 : va.category = 1) (kk : U p l e R s m args below meth c nL D A ws k n Q (pc + 1) (L) (st)) : U p l e R s m args below meth c nL D A ws k n Q (pc) (L) (va :: st) := by
  intro ls hl H locs hP hD hS
  exact lv_pop hC.1.1 hC.1.2.1 d h1 (kk ls hl H locs hP hD hS)
theorem u_dup_x1 (hC : vx p s m args meth c cc nL own D G A) {va vb : Value} (d : decode cc pc = .ok (.dup_x1, 1)) (h1 : va.category = 1) (h2 : vb.category = 1) (kk : U p l e R s m args below meth c nL D A ws k n Q (pc + 1) (L) (va :: vb :: va :: st)) : U p l e R s m args below meth c nL D A ws k n Q (pc) (L) (va :: vb :: st) := by
  intro ls hl H locs hP hD hS
  exact lv_dup_x1 hC.1.1 hC.1.2.1 d h1 h2 (kk ls hl H locs hP hD hS)
theorem u_dup2 (hC : vx p s m args meth c cc nL own D G A) {va vb : Value} (d : decode cc pc = .ok (.dup2, 1)) (h1 : va.category = 1) (h2 : vb.category = 1) (kk : U p l e R s m args below meth c nL D A ws k n Q (pc + 1) (L) (va :: vb :: va :: vb :: st)) : U p l e R s m args below meth c nL D A ws k n Q (pc) (L) (va :: vb :: st) := by
  intro ls hl H locs hP hD hS
  exact lv_dup2_11 hC.1.1 hC.1.2.1 d h1 h2 (kk ls hl H locs hP hD hS)
theorem u_if_eq (hC : vx p s m args meth c cc nL own D G A) {x : Int32} {off : Int} (tgt : Nat) (d : decode cc pc = .ok (.ifCond .eq off, 3)) (ht : (pc : Int) + off = (tgt : Int)) (kt : x = 0 → U p l e R s m args below meth c nL D A ws k n Q (tgt) (L) (st)) (kf : ¬ x = 0 → U p l e R s m args below meth c nL D A ws k n Q (pc + 3) (L) (st)) : U p l e R s m args below meth c nL D A ws k n Q (pc) (L) (.int x :: st) := by
  intro ls hl H locs hP hD hS
  exact lv_if_eq hC.1.1 hC.1.2.1 d ht (fun h => kt h ls hl H locs hP hD hS) (fun h => kf h ls hl H locs hP hD hS)
theorem u_icmp_eq (hC : vx p s m args meth c cc nL own D G A) {x y : Int32} {off : Int} (tgt : Nat) (d : decode cc pc = .ok (.if_icmp .eq off, 3)) (ht : (pc : Int) + off = (tgt : Int)) (kt : x = y → U p l e R s m args below meth c nL D A ws k n Q (tgt) (L) (st)) (kf : ¬ x = y → U p l e R s m args below meth c nL D A ws k n Q (pc + 3) (L) (st)) : U p l e R s m args below meth c nL D A ws k n Q (pc) (L) (.int y :: .int x :: st) := by
  intro ls hl H locs hP hD hS
  exact lv_icmp_eq hC.1.1 hC.1.2.1 d ht (fun h => kt h ls hl H locs hP hD hS) (fun h => kf h ls hl H locs hP hD hS)
theorem u_if_ne (hC : vx p s m args meth c cc nL own D G A) {x : Int32} {off : Int} (tgt : Nat) (d : decode cc pc = .ok (.ifCond .ne off, 3)) (ht : (pc : Int) + off = (tgt : Int)) (kt : ¬ x = 0 → U p l e R s m args below meth c nL D A ws k n Q (tgt) (L) (st)) (kf : x = 0 → U p l e R s m args below meth c nL D A ws k n Q (pc + 3) (L) (st)) : U p l e R s m args below meth c nL D A ws k n Q (pc) (L) (.int x :: st) := by
  intro ls hl H locs hP hD hS
  exact lv_if_ne hC.1.1 hC.1.2.1 d ht (fun h => kt h ls hl H locs hP hD hS) (fun h => kf h ls hl H locs hP hD hS)
theorem u_icmp_ne (hC : vx p s m args meth c cc nL own D G A) {x y : Int32} {off : Int} (tgt : Nat) (d : decode cc pc = .ok (.if_icmp .ne off, 3)) (ht : (pc : Int) + off = (tgt : Int)) (kt : ¬ x = y → U p l e R s m args below meth c nL D A ws k n Q (tgt) (L) (st)) (kf : x = y → U p l e R s m args below meth c nL D A ws k n Q (pc + 3) (L) (st)) : U p l e R s m args below meth c nL D A ws k n Q (pc) (L) (.int y :: .int x :: st) := by
  intro ls hl H locs hP hD hS
  exact lv_icmp_ne hC.1.1 hC.1.2.1 d ht (fun h => kt h ls hl H locs hP hD hS) (fun h => kf h ls hl H locs hP hD hS)
theorem u_if_lt (hC : vx p s m args meth c cc nL own D G A) {x : Int32} {off : Int} (tgt : Nat) (d : decode cc pc = .ok (.ifCond .lt off, 3)) (ht : (pc : Int) + off = (tgt : Int)) (kt : x < 0 → U p l e R s m args below meth c nL D A ws k n Q (tgt) (L) (st)) (kf : ¬ x < 0 → U p l e R s m args below meth c nL D A ws k n Q (pc + 3) (L) (st)) : U p l e R s m args below meth c nL D A ws k n Q (pc) (L) (.int x :: st) := by
  intro ls hl H locs hP hD hS
  exact lv_if_lt hC.1.1 hC.1.2.1 d ht (fun h => kt h ls hl H locs hP hD hS) (fun h => kf h ls hl H locs hP hD hS)
theorem u_icmp_lt (hC : vx p s m args meth c cc nL own D G A) {x y : Int32} {off : Int} (tgt : Nat) (d : decode cc pc = .ok (.if_icmp .lt off, 3)) (ht : (pc : Int) + off = (tgt : Int)) (kt : x < y → U p l e R s m args below meth c nL D A ws k n Q (tgt) (L) (st)) (kf : ¬ x < y → U p l e R s m args below meth c nL D A ws k n Q (pc + 3) (L) (st)) : U p l e R s m args below meth c nL D A ws k n Q (pc) (L) (.int y :: .int x :: st) := by
  intro ls hl H locs hP hD hS
  exact lv_icmp_lt hC.1.1 hC.1.2.1 d ht (fun h => kt h ls hl H locs hP hD hS) (fun h => kf h ls hl H locs hP hD hS)
theorem u_if_ge (hC : vx p s m args meth c cc nL own D G A) {x : Int32} {off : Int} (tgt : Nat) (d : decode cc pc = .ok (.ifCond .ge off, 3)) (ht : (pc : Int) + off = (tgt : Int)) (kt : 0 ≤ x → U p l e R s m args below meth c nL D A ws k n Q (tgt) (L) (st)) (kf : ¬ 0 ≤ x → U p l e R s m args below meth c nL D A ws k n Q (pc + 3) (L) (st)) : U p l e R s m args below meth c nL D A ws k n Q (pc) (L) (.int x :: st) := by
  intro ls hl H locs hP hD hS
  exact lv_if_ge hC.1.1 hC.1.2.1 d ht (fun h => kt h ls hl H locs hP hD hS) (fun h => kf h ls hl H locs hP hD hS)
theorem u_icmp_ge (hC : vx p s m args meth c cc nL own D G A) {x y : Int32} {off : Int} (tgt : Nat) (d : decode cc pc = .ok (.if_icmp .ge off, 3)) (ht : (pc : Int) + off = (tgt : Int)) (kt : y ≤ x → U p l e R s m args below meth c nL D A ws k n Q (tgt) (L) (st)) (kf : ¬ y ≤ x → U p l e R s m args below meth c nL D A ws k n Q (pc + 3) (L) (st)) : U p l e R s m args below meth c nL D A ws k n Q (pc) (L) (.int y :: .int x :: st) := by
  intro ls hl H locs hP hD hS
  exact lv_icmp_ge hC.1.1 hC.1.2.1 d ht (fun h => kt h ls hl H locs hP hD hS) (fun h => kf h ls hl H locs hP hD hS)
theorem u_if_gt (hC : vx p s m args meth c cc nL own D G A) {x : Int32} {off : Int} (tgt : Nat) (d : decode cc pc = .ok (.ifCond .gt off, 3)) (ht : (pc : Int) + off = (tgt : Int)) (kt : 0 < x → U p l e R s m args below meth c nL D A ws k n Q (tgt) (L) (st)) (kf : ¬ 0 < x → U p l e R s m args below meth c nL D A ws k n Q (pc + 3) (L) (st)) : U p l e R s m args below meth c nL D A ws k n Q (pc) (L) (.int x :: st) := by
  intro ls hl H locs hP hD hS
  exact lv_if_gt hC.1.1 hC.1.2.1 d ht (fun h => kt h ls hl H locs hP hD hS) (fun h => kf h ls hl H locs hP hD hS)
theorem u_icmp_gt (hC : vx p s m args meth c cc nL own D G A) {x y : Int32} {off : Int} (tgt : Nat) (d : decode cc pc = .ok (.if_icmp .gt off, 3)) (ht : (pc : Int) + off = (tgt : Int)) (kt : y < x → U p l e R s m args below meth c nL D A ws k n Q (tgt) (L) (st)) (kf : ¬ y < x → U p l e R s m args below meth c nL D A ws k n Q (pc + 3) (L) (st)) : U p l e R s m args below meth c nL D A ws k n Q (pc) (L) (.int y :: .int x :: st) := by
  intro ls hl H locs hP hD hS
  exact lv_icmp_gt hC.1.1 hC.1.2.1 d ht (fun h => kt h ls hl H locs hP hD hS) (fun h => kf h ls hl H locs hP hD hS)
theorem u_if_le (hC : vx p s m args meth c cc nL own D G A) {x : Int32} {off : Int} (tgt : Nat) (d : decode cc pc = .ok (.ifCond .le off, 3)) (ht : (pc : Int) + off = (tgt : Int)) (kt : x ≤ 0 → U p l e R s m args below meth c nL D A ws k n Q (tgt) (L) (st)) (kf : ¬ x ≤ 0 → U p l e R s m args below meth c nL D A ws k n Q (pc + 3) (L) (st)) : U p l e R s m args below meth c nL D A ws k n Q (pc) (L) (.int x :: st) := by
  intro ls hl H locs hP hD hS
  exact lv_if_le hC.1.1 hC.1.2.1 d ht (fun h => kt h ls hl H locs hP hD hS) (fun h => kf h ls hl H locs hP hD hS)
theorem u_icmp_le (hC : vx p s m args meth c cc nL own D G A) {x y : Int32} {off : Int} (tgt : Nat) (d : decode cc pc = .ok (.if_icmp .le off, 3)) (ht : (pc : Int) + off = (tgt : Int)) (kt : x ≤ y → U p l e R s m args below meth c nL D A ws k n Q (tgt) (L) (st)) (kf : ¬ x ≤ y → U p l e R s m args below meth c nL D A ws k n Q (pc + 3) (L) (st)) : U p l e R s m args below meth c nL D A ws k n Q (pc) (L) (.int y :: .int x :: st) := by
  intro ls hl H locs hP hD hS
  exact lv_icmp_le hC.1.1 hC.1.2.1 d ht (fun h => kt h ls hl H locs hP hD hS) (fun h => kf h ls hl H locs hP hD hS)
theorem u_acmp_eq (hC : vx p s m args meth c cc nL own D G A) (rx ry : Option Nat) {off : Int} (tgt : Nat) (d : decode cc pc = .ok (.if_acmp .eq off, 3)) (ht : (pc : Int) + off = (tgt : Int)) (kt : rx = ry → U p l e R s m args below meth c nL D A ws k n Q (tgt) (L) (st)) (kf : ¬ rx = ry → U p l e R s m args below meth c nL D A ws k n Q (pc + 3) (L) (st)) : U p l e R s m args below meth c nL D A ws k n Q (pc) (L) (va_rf ry :: va_rf rx :: st) := by
  intro ls hl H locs hP hD hS
  exact lv_acmp_eq hC.1.1 hC.1.2.1 d ht (fun h => kt h ls hl H locs hP hD hS) (fun h => kf h ls hl H locs hP hD hS)
theorem u_acmp_ne (hC : vx p s m args meth c cc nL own D G A) (rx ry : Option Nat) {off : Int} (tgt : Nat) (d : decode cc pc = .ok (.if_acmp .ne off, 3)) (ht : (pc : Int) + off = (tgt : Int)) (kt : ¬ rx = ry → U p l e R s m args below meth c nL D A ws k n Q (tgt) (L) (st)) (kf : rx = ry → U p l e R s m args below meth c nL D A ws k n Q (pc + 3) (L) (st)) : U p l e R s m args below meth c nL D A ws k n Q (pc) (L) (va_rf ry :: va_rf rx :: st) := by
  intro ls hl H locs hP hD hS
  exact lv_acmp_ne hC.1.1 hC.1.2.1 d ht (fun h => kt h ls hl H locs hP hD hS) (fun h => kf h ls hl H locs hP hD hS)
theorem u_goto (hC : vx p s m args meth c cc nL own D G A) {off : Int} (tgt : Nat) (d : decode cc pc = .ok (.goto off, 3)) (ht : (pc : Int) + off = (tgt : Int)) (kk : U p l e R s m args below meth c nL D A ws k n Q (tgt) (L) (st)) : U p l e R s m args below meth c nL D A ws k n Q (pc) (L) (st) := by
  intro ls hl H locs hP hD hS
  exact lv_goto hC.1.1 hC.1.2.1 d ht (kk ls hl H locs hP hD hS)
theorem u_ifnonnull (hC : vx p s m args meth c cc nL own D G A) {x : Nat} {off : Int} (tgt : Nat) (d : decode cc pc = .ok (.ifnonnull off, 3)) (ht : (pc : Int) + off = (tgt : Int)) (kk : U p l e R s m args below meth c nL D A ws k n Q (tgt) (L) (st)) : U p l e R s m args below meth c nL D A ws k n Q (pc) (L) (.ref x :: st) := by
  intro ls hl H locs hP hD hS
  exact lv_ifnonnull hC.1.1 hC.1.2.1 d ht (kk ls hl H locs hP hD hS)
theorem u_ifnull (hC : vx p s m args meth c cc nL own D G A) {x : Nat} {off : Int} (d : decode cc pc = .ok (.ifnull off, 3)) (kk : U p l e R s m args below meth c nL D A ws k n Q (pc + 3) (L) (st)) : U p l e R s m args below meth c nL D A ws k n Q (pc) (L) (.ref x :: st) := by
  intro ls hl H locs hP hD hS
  exact lv_ifnull hC.1.1 hC.1.2.1 d (kk ls hl H locs hP hD hS)
theorem u_ifnullN (hC : vx p s m args meth c cc nL own D G A) {off : Int} (tgt : Nat) (d : decode cc pc = .ok (.ifnull off, 3)) (ht : (pc : Int) + off = (tgt : Int)) (kk : U p l e R s m args below meth c nL D A ws k n Q (tgt) (L) (st)) : U p l e R s m args below meth c nL D A ws k n Q (pc) (L) (.null :: st) := by
  intro ls hl H locs hP hD hS
  exact lv_ifnullN hC.1.1 hC.1.2.1 d ht (kk ls hl H locs hP hD hS)
theorem u_ifnonnullN (hC : vx p s m args meth c cc nL own D G A) {off : Int} (d : decode cc pc = .ok (.ifnonnull off, 3)) (kk : U p l e R s m args below meth c nL D A ws k n Q (pc + 3) (L) (st)) : U p l e R s m args below meth c nL D A ws k n Q (pc) (L) (.null :: st) := by
  intro ls hl H locs hP hD hS
  exact lv_ifnonnullN hC.1.1 hC.1.2.1 d (kk ls hl H locs hP hD hS)
theorem u_null (hC : vx p s m args meth c cc nL own D G A)  (d : decode cc pc = .ok (.aconst_null, 1)) (kk : U p l e R s m args below meth c nL D A ws k n Q (pc + 1) (L) (.null :: st)) : U p l e R s m args below meth c nL D A ws k n Q (pc) (L) (st) := by
  intro ls hl H locs hP hD hS
  exact lv_null hC.1.1 hC.1.2.1 d (kk ls hl H locs hP hD hS)
theorem u_castN (hC : vx p s m args meth c cc nL own D G A) {idx : Nat} (d : decode cc pc = .ok (.checkcast idx, 3)) (kk : U p l e R s m args below meth c nL D A ws k n Q (pc + 3) (L) (.null :: st)) : U p l e R s m args below meth c nL D A ws k n Q (pc) (L) (.null :: st) := by
  intro ls hl H locs hP hD hS
  exact lv_castN hC.1.1 hC.1.2.1 d (kk ls hl H locs hP hD hS)
theorem u_tableOut (hC : vx p s m args meth c cc nL own D G A) {dflt lo hi : Int} {offs : Array Int} {len : Nat} {x : Int32} (tgt : Nat) (d : decode cc pc = .ok (.tableswitch dflt lo hi offs, len)) (h : x.toInt < lo ∨ hi < x.toInt) (ht : (pc : Int) + dflt = (tgt : Int)) (kk : U p l e R s m args below meth c nL D A ws k n Q (tgt) (L) (st)) : U p l e R s m args below meth c nL D A ws k n Q (pc) (L) (.int x :: st) := by
  intro ls hl H locs hP hD hS
  exact lv_tableOut hC.1.1 hC.1.2.1 d h ht (kk ls hl H locs hP hD hS)
theorem u_tableIn (hC : vx p s m args meth c cc nL own D G A) {dflt lo hi off : Int} {offs : Array Int} {len : Nat} {x : Int32} (tgt : Nat) (d : decode cc pc = .ok (.tableswitch dflt lo hi offs, len)) (h1 : ¬ x.toInt < lo) (h2 : ¬ hi < x.toInt) (ho : offs[(x.toInt - lo).toNat]? = some off) (ht : (pc : Int) + off = (tgt : Int)) (kk : U p l e R s m args below meth c nL D A ws k n Q (tgt) (L) (st)) : U p l e R s m args below meth c nL D A ws k n Q (pc) (L) (.int x :: st) := by
  intro ls hl H locs hP hD hS
  exact lv_tableIn hC.1.1 hC.1.2.1 d h1 h2 ho ht (kk ls hl H locs hP hD hS)
end VL
end
section
/-! Rows that touch the heap; returns; calls; contracts. -/
/-- a field of a class of the worlds, as a class's constant pool links it -/
def u_Ff (own : String) (idx ci j : Nat) (C : String) (T : u_T) (N : Nat) : Prop := cls[ci]? = some (C, T, N) ∧ j < N ∧ (∀ w ∈ u_ws C T N, w ∈ gw) ∧ ∃ ref : String, Cond.fieldLink own idx ref (T j).2.1 (T j).2.2.1 ∈ gw ∧ (ref = (T j).1 ∨ Cond.sameField ref (T j).1 (T j).2.1 (T j).2.2.1 ∈ gw)
theorem u_Fr {s : State} {args : Array Value} {ref : String} {T : u_T} {j : Nat} (hts : ∀ w ∈ gw, w.before args s = true) (h : ref = (T j).1 ∨ Cond.sameField ref (T j).1 (T j).2.1 (T j).2.2.1 ∈ gw) (x : ClassId × Class × Nat × Field) (hx : s.fieldFound? (T j).1 (T j).2.1 (T j).2.2.1 = some x) : s.fieldFound? ref (T j).2.1 (T j).2.2.1 = some x := by
  rcases h with h | h
  · rw [h]; exact hx
  · exact u_same (hts _ h) x hx
/-- its type -/
def u_Ft (j : Nat) (T : u_T) (N : Nat) (t0 : Nat → FieldType) : Prop := (∀ q, q < N → parseFieldDescriptor (T q).2.2.1 = some (t0 q)) ∧ (∀ a, a < N → ∀ b, b < N → a ≠ b → (T a).2.1 ≠ (T b).2.1) ∧ j < N
section VH
variable {p : Program} {l : Launch} {e : Env} {R : Room} {s : State} {m : MethodId} {args : Array Value} {below : List Frame} {meth : Method} {c : Code} {k n : Nat} {Q : State → Prop}
variable {cc : ByteArray} {nL : Nat} {own : String} {D : va_G} {G : u_G} {A : Nat → Prop} {pc : Nat} {L : List (Nat × Value)} {st : List Value} {ws : va_W}
theorem u_eqw {ws' : va_W} {k n pc : Nat} (h : ws = ws') (kk : U p l e R s m args below meth c nL D A ws' k n Q pc L st) : U p l e R s m args below meth c nL D A ws k n Q pc L st := h ▸ kk
theorem u_sub {L' : List (Nat × Value)} (h : ∀ q ∈ L', q ∈ L) (kk : U p l e R s m args below meth c nL D A ws k n Q pc L' st) : U p l e R s m args below meth c nL D A ws k n Q pc L st := fun ls hl => kk ls ⟨hl.1, hl.2.1, fun q hq => hl.2.2 q (h q hq)⟩
theorem u_widen {k' n' : Nat} (h1 : k ≤ k') (h2 : n ≤ n') (kk : U p l e R s m args below meth c nL D A ws k' n' Q pc L st) : U p l e R s m args below meth c nL D A ws k n Q pc L st := fun ls hl H locs hP hD hS => W.widen h1 h2 (kk ls hl H locs hP hD hS)
theorem u_get (hC : vx p s m args meth c cc nL own D G A) {idx ci j N a : Nat} {C : String} {T : u_T} {fs : List Value} {v : Value} (hf : u_Ff own idx ci j C T N) (q0 : Nat) (he : ws[q0]? = some (a, .inr (ci, fs))) (hv : fs[j]? = some v) (d : decode cc pc = .ok (.getfield idx, 3))
    (kk : U p l e R s m args below meth c nL D A ws k n Q (pc + 3) L (v :: st)) : U p l e R s m args below meth c nL D A ws k n Q pc L (.ref a :: st) := by
  intro ls hl H locs hP hD hS
  obtain ⟨ref, hl1, hl2⟩ := hf.2.2.2
  exact va_get (D := D) (cl := cls) hC.1.1 hC.1.2.1 hC.1.2.2.2.2 hf.2.2.1 hC.1.2.2.2.1 hC.2.1 hP q0 he hf.1 j hf.2.1 (hC.1.2.2.2.2 _ hl1) (u_Fr hC.1.2.2.2.2 hl2) hv d (kk ls hl H locs hP hD hS)
theorem u_put (hC : vx p s m args meth c cc nL own D G A) {idx ci j N a : Nat} {C : String} {T : u_T} {fs : List Value} {v : Value} {ws' : va_W} {t0 : Nat → FieldType} (hf : u_Ff own idx ci j C T N) (ht : u_Ft j T N t0) (hfin : (T j).2.2.2 = false) (q0 : Nat) (he : ws[q0]? = some (a, .inr (ci, fs))) (hn : narrow (t0 j) v = v) (hfit : fits (t0 j) v = true) (hl9 : j < fs.length) (hw : ws.set q0 (a, .inr (ci, fs.set j v)) = ws') (d : decode cc pc = .ok (.putfield idx, 3))
    (kk : U p l e R s m args below meth c nL D A ws' k n Q (pc + 3) L st) : U p l e R s m args below meth c nL D A ws k n Q pc L (v :: .ref a :: st) := by
  intro ls hl H locs hP hD hS
  subst hw
  obtain ⟨ref, hl1, hl2⟩ := hf.2.2.2
  exact va_put (D := D) (cl := cls) hC.1.1 hC.1.2.1 hC.1.2.2.2.2 hf.2.2.1 t0 ht.1 ht.2.1 hC.1.2.2.2.1 hC.2.1 hP hD hS q0 he hf.1 j hf.2.1 (hC.1.2.2.2.2 _ hl1) (u_Fr hC.1.2.2.2.2 hl2) hfin (ht.1 j ht.2.2) hn hfit hl9 d (fun H1 locs1 h1 h2 h3 => kk ls hl H1 locs1 h1 h2 h3)
theorem u_putF (hC : vx p s m args meth c cc nL own D G A) {idx ci j N a : Nat} {C : String} {T : u_T} {fs : List Value} {v : Value} {ws' : va_W} {t0 : Nat → FieldType} (hf : u_Ff own idx ci j C T N) (ht : u_Ft j T N t0) (hfin : (T j).2.2.2 = true) (hin : meth.name = "<init>") (hdecl : (T j).1 = own) (q0 : Nat) (he : ws[q0]? = some (a, .inr (ci, fs))) (hn : narrow (t0 j) v = v) (hfit : fits (t0 j) v = true) (hl9 : j < fs.length) (hw : ws.set q0 (a, .inr (ci, fs.set j v)) = ws') (d : decode cc pc = .ok (.putfield idx, 3))
    (kk : U p l e R s m args below meth c nL D A ws' k n Q (pc + 3) L st) : U p l e R s m args below meth c nL D A ws k n Q pc L (v :: .ref a :: st) := by
  intro ls hl H locs hP hD hS
  subst hw
  obtain ⟨ref, hl1, hl2⟩ := hf.2.2.2
  exact va_putF (D := D) (cl := cls) hC.1.1 hC.1.2.1 hC.1.2.2.2.2 hf.2.2.1 t0 ht.1 ht.2.1 hC.1.2.2.2.1 hC.2.1 hP hD hS q0 he hf.1 j hf.2.1 (hC.1.2.2.2.2 _ hl1) (u_Fr hC.1.2.2.2.2 hl2) hfin hin hdecl (ht.1 j ht.2.2) hn hfit hl9 d (fun H1 locs1 h1 h2 h3 => kk ls hl H1 locs1 h1 h2 h3)
theorem u_iald (hC : vx p s m args meth c cc nL own D G A) {a N : Nat} {cA : ClassId} {f : Nat → Int32} {i : Int32} (q0 t0 : Nat) (ha : ws[q0]? = some (a, .inl (cA, N, .inl f))) (ht : G.1[t0]? = some (cA, .int)) (hin : vp_in i N) (d : decode cc pc = .ok (.iaload, 1))
    (kk : U p l e R s m args below meth c nL D A ws k n Q (pc + 1) L (.int (f i.toNatClampNeg) :: st)) : U p l e R s m args below meth c nL D A ws k n Q pc L (.int i :: .ref a :: st) := by
  intro ls hl H locs hP hD hS
  exact va_iald hC.1.1 hC.1.2.1 hC.2.1 hP q0 t0 ha ht hin d (kk ls hl H locs hP hD hS)
theorem u_zald (hC : vx p s m args meth c cc nL own D G A) {a N : Nat} {cA : ClassId} {f : Nat → Int32} {i : Int32} (q0 t0 : Nat) (ha : ws[q0]? = some (a, .inl (cA, N, .inl f))) (ht : G.1[t0]? = some (cA, .boolean)) (hin : vp_in i N) (d : decode cc pc = .ok (.baload, 1))
    (kk : U p l e R s m args below meth c nL D A ws k n Q (pc + 1) L (.int (f i.toNatClampNeg) :: st)) : U p l e R s m args below meth c nL D A ws k n Q pc L (.int i :: .ref a :: st) := by
  intro ls hl H locs hP hD hS
  exact va_zald hC.1.1 hC.1.2.1 hC.2.1 hP q0 t0 ha ht hin d (kk ls hl H locs hP hD hS)
theorem u_iast (hC : vx p s m args meth c cc nL own D G A) {a N : Nat} {cA : ClassId} {f : Nat → Int32} {i x : Int32} {ws' : va_W} (q0 t0 : Nat) (ha : ws[q0]? = some (a, .inl (cA, N, .inl f))) (ht : G.1[t0]? = some (cA, .int)) (hin : vp_in i N) (hw : ws.set q0 (a, .inl (cA, N, .inl (upd f i.toNatClampNeg x))) = ws') (d : decode cc pc = .ok (.iastore, 1))
    (kk : U p l e R s m args below meth c nL D A ws' k n Q (pc + 1) L st) : U p l e R s m args below meth c nL D A ws k n Q pc L (.int x :: .int i :: .ref a :: st) := by
  intro ls hl H locs hP hD hS
  subst hw
  exact va_iast hC.1.1 hC.1.2.1 hC.2.1 hP hD hS q0 t0 ha ht hin d (fun H1 locs1 h1 h2 h3 => kk ls hl H1 locs1 h1 h2 h3)
theorem u_zast (hC : vx p s m args meth c cc nL own D G A) {a N : Nat} {cA : ClassId} {f : Nat → Int32} {i x : Int32} {ws' : va_W} (q0 t0 : Nat) (ha : ws[q0]? = some (a, .inl (cA, N, .inl f))) (ht : G.1[t0]? = some (cA, .boolean)) (hin : vp_in i N) (hw : ws.set q0 (a, .inl (cA, N, .inl (upd f i.toNatClampNeg (vp_nar .boolean x)))) = ws') (d : decode cc pc = .ok (.bastore, 1))
    (kk : U p l e R s m args below meth c nL D A ws' k n Q (pc + 1) L st) : U p l e R s m args below meth c nL D A ws k n Q pc L (.int x :: .int i :: .ref a :: st) := by
  intro ls hl H locs hP hD hS
  subst hw
  exact va_zast hC.1.1 hC.1.2.1 hC.2.1 hP hD hS q0 t0 ha ht hin d (fun H1 locs1 h1 h2 h3 => kk ls hl H1 locs1 h1 h2 h3)
theorem u_alen (hC : vx p s m args meth c cc nL own D G A) {a : Nat} {cA : ClassId} {x : vp_A} {ty : FieldType} (v : Int32) (q0 t0 : Nat) (ha : ws[q0]? = some (a, .inl (cA, x))) (ht : G.1[t0]? = some (cA, ty)) (hv : Int32.ofNat x.1 = v) (d : decode cc pc = .ok (.arraylength, 1))
    (kk : U p l e R s m args below meth c nL D A ws k n Q (pc + 1) L (.int v :: st)) : U p l e R s m args below meth c nL D A ws k n Q pc L (.ref a :: st) := by
  intro ls hl H locs hP hD hS
  exact va_alen hC.1.1 hC.1.2.1 hC.2.1 hP q0 t0 ha ht hv d (kk ls hl H locs hP hD hS)
theorem u_aldq (hC : vx p s m args meth c cc nL own D G A) {a N : Nat} {cA : ClassId} {C : String} {f : Nat → Option Nat} {i : Int32} (q0 t0 : Nat) (ha : ws[q0]? = some (a, .inl (cA, N, .inr (.inr (.inr (.inr f)))))) (ht : G.1[t0]? = some (cA, .object C)) (hin : vp_in i N) (d : decode cc pc = .ok (.aaload, 1))
    (kk : U p l e R s m args below meth c nL D A ws k n Q (pc + 1) L (va_rf (f i.toNatClampNeg) :: st)) : U p l e R s m args below meth c nL D A ws k n Q pc L (.int i :: .ref a :: st) := by
  intro ls hl H locs hP hD hS
  exact va_aldq hC.1.1 hC.1.2.1 hC.2.1 hP q0 t0 ha ht hin d (kk ls hl H locs hP hD hS)
theorem u_astq (hC : vx p s m args meth c cc nL own D G A) {a N v ci : Nat} {cA : ClassId} {r : vw_C} {vs : List Value} {f : Nat → Option Nat} {i : Int32} {ws' : va_W} (q0 t0 qk : Nat) (ha : ws[q0]? = some (a, .inl (cA, N, .inr (.inr (.inr (.inr f)))))) (ht : G.1[t0]? = some (cA, .object r.1)) (hv : ws[qk]? = some (v, .inr (ci, vs))) (hc : cls[ci]? = some r) (hin : vp_in i N) (hw : ws.set q0 (a, .inl (cA, N, .inr (.inr (.inr (.inr (va_up f i.toNatClampNeg (some v))))))) = ws') (d : decode cc pc = .ok (.aastore, 1))
    (kk : U p l e R s m args below meth c nL D A ws' k n Q (pc + 1) L st) : U p l e R s m args below meth c nL D A ws k n Q pc L (.ref v :: .int i :: .ref a :: st) := by
  intro ls hl H locs hP hD hS
  subst hw
  exact va_astq hC.1.1 hC.1.2.1 hC.2.1 hP hD hS q0 t0 qk ci ha ht hv hc hin d (fun H1 locs1 h1 h2 h3 => kk ls hl H1 locs1 h1 h2 h3)
theorem u_astqN (hC : vx p s m args meth c cc nL own D G A) {a N : Nat} {cA : ClassId} {C : String} {f : Nat → Option Nat} {i : Int32} {ws' : va_W} (q0 t0 : Nat) (ha : ws[q0]? = some (a, .inl (cA, N, .inr (.inr (.inr (.inr f)))))) (ht : G.1[t0]? = some (cA, .object C)) (hin : vp_in i N) (hw : ws.set q0 (a, .inl (cA, N, .inr (.inr (.inr (.inr (va_up f i.toNatClampNeg none)))))) = ws') (d : decode cc pc = .ok (.aastore, 1))
    (kk : U p l e R s m args below meth c nL D A ws' k n Q (pc + 1) L st) : U p l e R s m args below meth c nL D A ws k n Q pc L (.null :: .int i :: .ref a :: st) := by
  intro ls hl H locs hP hD hS
  subst hw
  exact va_astqN hC.1.1 hC.1.2.1 hC.2.1 hP hD hS q0 t0 ha ht hin d (fun H1 locs1 h1 h2 h3 => kk ls hl H1 locs1 h1 h2 h3)
theorem u_astqO (hC : vx p s m args meth c cc nL own D G A) {a N v ci : Nat} {E : String} {cA : ClassId} {r : vw_C} {vs : List Value} {f : Nat → Option Nat} {i : Int32} {ws' : va_W} (q0 t0 qk : Nat) (ha : ws[q0]? = some (a, .inl (cA, N, .inr (.inr (.inr (.inr f)))))) (ht : G.1[t0]? = some (cA, .object E)) (hca : va_Nw (.castable r.1 E) s) (hv : ws[qk]? = some (v, .inr (ci, vs))) (hc : cls[ci]? = some r) (hin : vp_in i N) (hw : ws.set q0 (a, .inl (cA, N, .inr (.inr (.inr (.inr (va_up f i.toNatClampNeg (some v))))))) = ws') (d : decode cc pc = .ok (.aastore, 1))
    (kk : U p l e R s m args below meth c nL D A ws' k n Q (pc + 1) L st) : U p l e R s m args below meth c nL D A ws k n Q pc L (.ref v :: .int i :: .ref a :: st) := by
  intro ls hl H locs hP hD hS
  subst hw
  exact va_astqO hC.1.1 hC.1.2.1 hC.2.1 hP hD hS q0 t0 qk ci ha ht hca hv hc hin d (fun H1 locs1 h1 h2 h3 => kk ls hl H1 locs1 h1 h2 h3)
theorem u_K1 {tys : List (ClassId × FieldType)} {cA cB : ClassId} {ty : FieldType} {i j : Nat} (hK : va_K D cls tys s) (h1 : tys[i]? = some (cA, ty)) (h2 : tys[j]? = some (cB, ty)) : cA = cB := by
  have a1 := (hK.2 i _ h1).2
  have a2 := (hK.2 j _ h2).2
  cases ty with
  | object C =>
    obtain ⟨_, _, _, _, _, e1⟩ := a1
    obtain ⟨_, _, _, _, _, e2⟩ := a2
    exact Option.some.inj (e1.symm.trans e2)
  | _ => exact Option.some.inj ((show s.vm.findClass _ = some cA from a1).symm.trans (show s.vm.findClass _ = some cB from a2))
theorem u_newi (hC : vx p s m args meth c cc nL own D G A) {cA : ClassId} {z : Int32} {N : Nat} (t0 : Nat) (ht : G.1[t0]? = some (cA, .int)) (harr : Cond.arrayClass .int ∈ gw) (hz : ¬ z < 0) (hN : z.toNatClampNeg = N) (hb : N * 4 ≤ 536870912) (hk : k + 1 ≤ R.cells) (hn : n + N ≤ R.slots) (d : decode cc pc = .ok (.newarray .int, 2))
    (kk : ∀ q : Nat, U p l e R s m args below meth c nL D A (ws ++ [(q, .inl (cA, N, .inl (fun _ => 0)))]) (k + 1) (n + N) Q (pc + 2) L (.ref q :: st)) : U p l e R s m args below meth c nL D A ws k n Q pc L (.int z :: st) := by
  intro ls hl H locs hP hD hS
  refine va_newa (atype := .int) (ty := .int) (N' := N) (a0 := (N, .inl (fun _ => 0))) hC.1.1 hC.1.2.1 (hC.1.2.2.2.2 _ harr) rfl hC.2.1 hP hD hS hC.2.2.1 (fun _ => rfl) hz hN hb hk hn d (fun q cB H1 h0 h1 h2 h3 => ?_)
  have e : cA = cB := u_K1 (i := t0) (j := G.1.length) h0 (by rw [List.getElem?_append_left (List.getElem?_eq_some_iff.mp ht).1]; exact ht) (by rw [List.getElem?_append_right (Nat.le_refl _), Nat.sub_self]; rfl)
  subst e
  exact kk q ls hl H1 locs h1 h2 h3
theorem u_newz (hC : vx p s m args meth c cc nL own D G A) {cA : ClassId} {z : Int32} {N : Nat} (t0 : Nat) (ht : G.1[t0]? = some (cA, .boolean)) (harr : Cond.arrayClass .boolean ∈ gw) (hz : ¬ z < 0) (hN : z.toNatClampNeg = N) (hb : N * 1 ≤ 536870912) (hk : k + 1 ≤ R.cells) (hn : n + N ≤ R.slots) (d : decode cc pc = .ok (.newarray .boolean, 2))
    (kk : ∀ q : Nat, U p l e R s m args below meth c nL D A (ws ++ [(q, .inl (cA, N, .inl (fun _ => 0)))]) (k + 1) (n + N) Q (pc + 2) L (.ref q :: st)) : U p l e R s m args below meth c nL D A ws k n Q pc L (.int z :: st) := by
  intro ls hl H locs hP hD hS
  refine va_newa (atype := .boolean) (ty := .boolean) (N' := N) (a0 := (N, .inl (fun _ => 0))) hC.1.1 hC.1.2.1 (hC.1.2.2.2.2 _ harr) rfl hC.2.1 hP hD hS hC.2.2.1 (fun _ => rfl) hz hN hb hk hn d (fun q cB H1 h0 h1 h2 h3 => ?_)
  have e : cA = cB := u_K1 (i := t0) (j := G.1.length) h0 (by rw [List.getElem?_append_left (List.getElem?_eq_some_iff.mp ht).1]; exact ht) (by rw [List.getElem?_append_right (Nat.le_refl _), Nat.sub_self]; rfl)
  subst e
  exact kk q ls hl H1 locs h1 h2 h3
theorem u_newq (hC : vx p s m args meth c cc nL own D G A) {cA : ClassId} {C : String} {idx : Nat} {z : Int32} {N : Nat} (t0 : Nat) (ht : G.1[t0]? = some (cA, .object C)) (hlk : Cond.classLink own idx C ∈ gw) (hao : va_AO C s) (hz : ¬ z < 0) (hN : z.toNatClampNeg = N) (hb : N * 4 ≤ 536870912) (hk : k + 1 ≤ R.cells) (hn : n + N ≤ R.slots) (d : decode cc pc = .ok (.anewarray idx, 3))
    (kk : ∀ q : Nat, U p l e R s m args below meth c nL D A (ws ++ [(q, .inl (cA, N, .inr (.inr (.inr (.inr (fun _ => none))))))]) (k + 1) (n + N) Q (pc + 3) L (.ref q :: st)) : U p l e R s m args below meth c nL D A ws k n Q pc L (.int z :: st) := by
  intro ls hl H locs hP hD hS
  refine va_newq (N' := N) hC.1.1 hC.1.2.1 hC.1.2.2.2.1 (hC.1.2.2.2.2 _ hlk) hao hC.2.1 hP hD hS hC.2.2.1 hz hN hb hk hn d (fun q cB H1 h0 h1 h2 h3 => ?_)
  have e : cA = cB := u_K1 (i := t0) (j := G.1.length) h0 (by rw [List.getElem?_append_left (List.getElem?_eq_some_iff.mp ht).1]; exact ht) (by rw [List.getElem?_append_right (Nat.le_refl _), Nat.sub_self]; rfl)
  subst e
  exact kk q ls hl H1 locs h1 h2 h3
/-- what a class must say to be made: linked, able to be made, its default fields -/
def u_Nf (own : String) (idx ci : Nat) (C : String) (T : u_T) (N : Nat) (t0 : Nat → FieldType) (fs : List Value) : Prop := cls[ci]? = some (C, T, N) ∧ (∀ w ∈ u_ws C T N, w ∈ gw) ∧ (∀ q, q < N → parseFieldDescriptor (T q).2.2.1 = some (t0 q)) ∧ Cond.classLink own idx C ∈ gw ∧ Cond.instantiable C N ∈ gw ∧ Cond.initialized C ∈ gw ∧ ∀ j, j < N → defaultValue (t0 j) = vp_V fs j
theorem u_new (hC : vx p s m args meth c cc nL own D G A) {idx ci N : Nat} {C : String} {T : u_T} {t0 : Nat → FieldType} {fs : List Value} (hf : u_Nf own idx ci C T N t0 fs) (hk : k + 1 ≤ R.cells) (hn : n + N ≤ R.slots) (d : decode cc pc = .ok (.new idx, 3))
    (kk : ∀ q : Nat, U p l e R s m args below meth c nL D A (ws ++ [(q, .inr (ci, fs))]) (k + 1) (n + N) Q (pc + 3) L (.ref q :: st)) : U p l e R s m args below meth c nL D A ws k n Q pc L st := by
  intro ls hl H locs hP hD hS
  exact va_new (D := D) (cl := cls) hC.1.1 hC.1.2.1 hC.1.2.2.2.2 hf.2.1 t0 hf.2.2.1 hC.1.2.2.2.1 (hC.1.2.2.2.2 _ hf.2.2.2.1) (hC.1.2.2.2.2 _ hf.2.2.2.2.1) (hC.1.2.2.2.2 _ hf.2.2.2.2.2.1) hC.2.1 hP hD hS hC.2.2.1 hf.1 hf.2.2.2.2.2.2 hk hn d (fun q H1 h1 h2 h3 => kk q ls hl H1 locs h1 h2 h3)
theorem u_cast (hC : vx p s m args meth c cc nL own D G A) {idx ci N a : Nat} {C : String} {T : u_T} {fs : List Value} (hc : cls[ci]? = some (C, T, N)) (hlk : Cond.classLink own idx C ∈ gw) (q0 : Nat) (he : ws[q0]? = some (a, .inr (ci, fs))) (d : decode cc pc = .ok (.checkcast idx, 3))
    (kk : U p l e R s m args below meth c nL D A ws k n Q (pc + 3) L (.ref a :: st)) : U p l e R s m args below meth c nL D A ws k n Q pc L (.ref a :: st) := by
  intro ls hl H locs hP hD hS
  have hcl := (hC.2.1.1 ci _ hc).2
  exact va_castS hC.1.1 hC.1.2.1 hC.1.2.2.2.1 (hC.1.2.2.2.2 _ hlk) hcl (va_recv hC.2.1 hP hc he) d (kk ls hl H locs hP hD hS)
theorem u_objInit (hC : vx p s m args meth c cc nL own D G A) {idx a : Nat} (h1 : Cond.methodLink own idx Lib.objectInit ∈ gw) (h2 : Cond.instanceMethod Lib.objectInit ∈ gw) (h3 : Cond.code Lib.objectInit ⟨#[0xb1]⟩ 1 none ∈ gw) (hR : 1 ≤ R.frames) (hR2 : 20 ≤ R.locals) (hst : (st.map fun v => v.category).sum ≤ 8) (d : decode cc pc = .ok (.invokespecial idx, 3))
    (kk : U p l e R s m args below meth c nL D A ws k n Q (pc + 3) L st) : U p l e R s m args below meth c nL D A ws k n Q pc L (.ref a :: st) := by
  intro ls hl H locs hP hD hS
  refine W.objInit hC.1.1 hC.1.2.1 hC.1.2.2.2.1 (hC.1.2.2.2.2 _ h1) (hC.1.2.2.2.2 _ h2) (hC.1.2.2.2.2 _ h3) rfl (by rw [hC.1.2.2.1]; exact hl.1) rfl d hR (Nat.le_trans (Nat.add_le_add_right (lv_room (m := m) (pc := pc) (ls := ls) (rest := st) hst) 12) hR2) ?_
  exact kk ls hl H locs hP hD hS
end VH
end
section
/-! Contracts over worlds: from any state whose heap holds the world ws, the method returns v and leaves a world w' with 'post v w'' . -/
def rmL (h mc ms : Nat) : Room := { frames := h, cells := mc, slots := ms, locals := 40 * h }
def Qg (D : va_G) (post : Option Value → va_W → Prop) (A : Nat → Prop) : Array Value → State → Outcome → State → Prop := fun _ st oc t => (∃ (v : Option Value) (w' : va_W), oc = .returned v ∧ post v w' ∧ va_P D cls w' t.heap ∧ va_D A w') ∧ va_F A st t
def Pg (D : va_G) (G : u_G) (ws : va_W) (sz : Nat) (U : State) : Prop := U.heap.size = sz ∧ va_P D cls ws U.heap ∧ va_K D cls G.1 U ∧ va_D (fun _ => True) ws ∧ zf G.2 (va_A ws sz) U U.heap
def Ct (l : Launch) (y : MethodName) (b : ByteArray) (nL : Nat) (ret : Option FieldType) (h mc ms : Nat) (D : va_G) (G : u_G) (ws : va_W) (av : List Value) (post : Option Value → va_W → Prop) : Prop :=
  ∀ sz : Nat, Met l y (.code y b nL ret :: gw) (rmL h mc ms) (va_Pc av (Pg D G ws sz)) (Qg D post (va_A ws sz)) mc ms (va_A ws sz)
theorem Ct.of {l : Launch} {y : MethodName} {b : ByteArray} {nL : Nat} {ret : Option FieldType} {h mc ms : Nat} {D : va_G} {G : u_G} {ws : va_W} {av : List Value} {post : Option Value → va_W → Prop} (hy : plainName y.cls = true) (hav : (lg_sl av).length ≤ nL)
    (body : ∀ (p : Program) (e : Env) (s : State) (m : MethodId) (below : List Frame) (meth : Method) (c : Code) (A : Nat → Prop), vx p s m av.toArray meth c b nL y.cls D G A → meth.sig.returnType = ret → meth.name = y.name →
      U p l e (rmL h mc ms) s m av.toArray below meth c nL D A ws 0 0 (MQ below (Qg D post A) av.toArray s mc ms A) 0 (lv_args 0 av) []) : Ct l y b nL ret h mc ms D G ws av post := by
  intro sz
  refine Met.ofW (cc := b) (maxL := nL) (ret := ret) hy rfl ?_
  intro p e s m args below meth c s₁ B hml hv
  obtain ⟨rfl, hsz, hP, hK, hD0, hZ⟩ := hv
  subst hsz
  have hts0 := atoms_spec (ws := .code y b nL ret :: gw) B.pre
  have hown : s.vm.findClass y.cls = some m.cls := findClass_of_methodNamed B.named
  have hC : vx p s m av.toArray meth c b nL y.cls D G (va_A ws s.heap.size) := ⟨⟨B.exec, B.bytes, hml, hown, fun w hw => hts0 w (List.mem_cons_of_mem _ hw)⟩, hK, fun q h => Or.inr h, hZ, B.notSynchronized⟩
  have hl := lv_entry av (n := nL) hav
  rw [lg_entry_eq]
  exact body p e s m below meth c _ hC B.returns (name_of_methodNamed B.named B.method).1 _ hl s.heap [] hP hD0.self va_S.rf
theorem u_PL {D : va_G} {w1 w2 : va_W} {H : Heap} (h : va_P D cls (w1 ++ w2) H) : va_P D cls w1 H := fun k q hk => h k q (by rw [List.getElem?_append_left (List.getElem?_eq_some_iff.mp hk).1]; exact hk)
theorem u_ixR {w1 w2 : va_W} {k : Nat} {q : Nat × va_E} (hk : w2[k]? = some q) : (w1 ++ w2)[w1.length + k]? = some q := by rw [List.getElem?_append_right (Nat.le_add_right _ _), Nat.add_sub_cancel_left]; exact hk
theorem u_ixL {w1 w2 : va_W} {k : Nat} {q : Nat × va_E} (hk : w1[k]? = some q) : (w1 ++ w2)[k]? = some q := by rw [List.getElem?_append_left (List.getElem?_eq_some_iff.mp hk).1]; exact hk
theorem u_PR {D : va_G} {w1 w2 : va_W} {H : Heap} (h : va_P D cls (w1 ++ w2) H) : va_P D cls w2 H := fun _ q hk => h _ q (u_ixR hk)
theorem u_DL {A : Nat → Prop} {w1 w2 : va_W} (h : va_D A (w1 ++ w2)) : va_D A w1 := ⟨fun i j x y hi hj e => h.1 i j x y (u_ixL hi) (u_ixL hj) e, fun _ q hk => h.2 _ q (u_ixL hk)⟩
theorem u_DR {A : Nat → Prop} {w1 w2 : va_W} (h : va_D A (w1 ++ w2)) : va_D A w2 := ⟨fun i j x y hi hj e => Nat.add_left_cancel (h.1 _ _ x y (u_ixR (w1 := w1) hi) (u_ixR (w1 := w1) hj) e), fun _ q hk => h.2 _ q (u_ixR hk)⟩
theorem u_Dx {A : Nat → Prop} {w1 w2 : va_W} (h : va_D A (w1 ++ w2)) {i j : Nat} {x y : Nat × va_E} (hi : w1[i]? = some x) (hj : w2[j]? = some y) : x.1 ≠ y.1 := by
  intro e
  have h1 := h.1 _ _ x y (u_ixL (w2 := w2) hi) (u_ixR (w1 := w1) hj) e
  have h2 := (List.getElem?_eq_some_iff.mp hi).1
  omega
section VC
variable {p : Program} {l : Launch} {e : Env} {R : Room} {s : State} {m : MethodId} {args : Array Value} {below : List Frame} {meth : Method} {c : Code} {k n : Nat} {Q : State → Prop}
variable {cc : ByteArray} {nL : Nat} {own : String} {D : va_G} {G : u_G} {A : Nat → Prop} {pc : Nat} {L : List (Nat × Value)} {st : List Value} {ws : va_W}
theorem u_swap {w1 w2 : va_W} (kk : U p l e R s m args below meth c nL D A (w2 ++ w1) k n Q pc L st) : U p l e R s m args below meth c nL D A (w1 ++ w2) k n Q pc L st := fun ls hl H locs hP hD hS =>
  kk ls hl H locs (va_P.app (u_PR hP) (u_PL hP)) (va_D.app (u_DR hD) (u_DL hD) (fun i j x y hx hy z => u_Dx hD hy hx z.symm)) hS
theorem u_drop {w1 w2 : va_W} (kk : U p l e R s m args below meth c nL D A w1 k n Q pc L st) : U p l e R s m args below meth c nL D A (w1 ++ w2) k n Q pc L st := fun ls hl H locs hP hD hS => kk ls hl H locs (u_PL hP) (u_DL hD) hS
variable {post : Option Value → va_W → Prop} {mc ms : Nat}
theorem u_iret (hC : vx p s m args meth c cc nL own D G A) (hr : meth.sig.returnType = some .int) {v : Int32} (d : decode cc pc = .ok (.ireturn, 1)) (hk : k ≤ mc) (hn : n ≤ ms) (hp : post (some (.int v)) ws) : U p l e R s m args below meth c nL D A ws k n (MQ below (Qg D post A) args s mc ms A) pc L [.int v] := by
  intro ls hl H locs hP hD hS
  exact W.widen hk hn (W.iret hC.1.1 hC.1.2.1 hr (fun t ht hW => ⟨⟨_, ws, rfl, hp, by rw [ht]; exact hP, hD⟩, hS.F ht⟩) hS.2.2 d hC.2.2.2.2)
theorem u_zret (hC : vx p s m args meth c cc nL own D G A) (hr : meth.sig.returnType = some .boolean) {v : Int32} (hv : narrow .boolean (.int v) = .int v) (d : decode cc pc = .ok (.ireturn, 1)) (hk : k ≤ mc) (hn : n ≤ ms) (hp : post (some (.int v)) ws) : U p l e R s m args below meth c nL D A ws k n (MQ below (Qg D post A) args s mc ms A) pc L [.int v] := by
  intro ls hl H locs hP hD hS
  exact W.widen hk hn (W.zret hC.1.1 hC.1.2.1 hr hv (fun t ht hW => ⟨⟨_, ws, rfl, hp, by rw [ht]; exact hP, hD⟩, hS.F ht⟩) hS.2.2 d hC.2.2.2.2)
theorem u_vret (hC : vx p s m args meth c cc nL own D G A) (hr : meth.sig.returnType = none) (d : decode cc pc = .ok (.return_, 1)) (hk : k ≤ mc) (hn : n ≤ ms) (hp : post none ws) : U p l e R s m args below meth c nL D A ws k n (MQ below (Qg D post A) args s mc ms A) pc L [] := by
  intro ls hl H locs hP hD hS
  exact W.widen hk hn (W.vret hC.1.1 hC.1.2.1 hr (fun t ht hW => ⟨⟨_, ws, rfl, hp, by rw [ht]; exact hP, hD⟩, hS.F ht⟩) hS.2.2 d hC.2.2.2.2)
theorem u_aret (hC : vx p s m args meth c cc nL own D G A) {rt : FieldType} (hr : meth.sig.returnType = some rt) (hrt : (∃ nm, rt = .object nm) ∨ ∃ t, rt = .array t) {v : Value} (hv : v = .null ∨ ∃ a, v = .ref a) (d : decode cc pc = .ok (.areturn, 1)) (hk : k ≤ mc) (hn : n ≤ ms) (hp : post (some v) ws) : U p l e R s m args below meth c nL D A ws k n (MQ below (Qg D post A) args s mc ms A) pc L [v] := by
  intro ls hl H locs hP hD hS
  exact W.widen hk hn (W.aret hC.1.1 hC.1.2.1 hr hrt hv (fun t ht hW => ⟨⟨_, ws, rfl, hp, by rw [ht]; exact hP, hD⟩, hS.F ht⟩) hS.2.2 d hC.2.2.2.2)
/-- behind a call, over a frame wr of cells that the callee doesn't get -/
theorem u_run {wc wr : va_W} {a : Array Value} {ls : Array Slot} {st0 : List Value} {H : Heap} {locs : List Loc} (hA : ∀ q, s.heap.size ≤ q → A q) (hl : lv_has ls nL L)
    (hr : va_Run p l e R s m args below meth c H locs k n mc ms (F0 m pc ls st0) st (Qg D post (va_A wc H.size) a) (va_A wc H.size)) (hP : va_P D cls (wc ++ wr) H) (hD : va_D A (wc ++ wr)) (hS : va_S A s.heap H locs)
    (kk : ∀ (v : Option Value) (w' : va_W), post v w' → U p l e R s m args below meth c nL D A (w' ++ wr) (k + mc) (n + ms) Q (pc + 3) L (v.toList ++ st)) : W p l e R s m args below meth c H locs k n Q (F0 m pc ls st0) := by
  have hF : ∀ q, va_A wc H.size q → A q := by
    intro q h
    rcases h with ⟨j, x, h⟩ | h
    · exact hD.2 j (q, x) (u_ixL h)
    · exact hA q (Nat.le_trans hS.1 h)
  have hap : ∀ (j : Nat) (q : Nat × va_E), wr[j]? = some q → q.1 < H.size ∧ ¬ va_A wc H.size q.1 := by
    intro j q hj
    have hlt : q.1 < H.size := (u_PR hP j q hj).lt
    refine ⟨hlt, fun h => ?_⟩
    rcases h with ⟨i, x, h⟩ | h
    · exact u_Dx hD h hj rfl
    · omega
  intro T hT X
  obtain ⟨v, st₀, t, T', L1, h0, X', hL, e1, e2, ⟨⟨v', w', hv, hp, hP', hD'⟩, hz, hk⟩, stp⟩ := hr T hT X
  have hvv : v = v' := Outcome.returned.inj hv
  subst hvv
  rw [h0] at hz hk
  have hP1 : va_P D cls (w' ++ wr) T'.heap := va_P.app (by rw [e1]; exact hP') (fun j q hj => (u_PR hP j q hj).kept (by rw [e1]; exact hk q.1 (hap j q hj).1 (hap j q hj).2))
  have hD1 : va_D A (w' ++ wr) := va_D.app (hD'.weaken (fun _ _ _ h => hF _ h)) (u_DR hD) (fun i j x y hx hy z => (hap j y hy).2 (by rw [← z]; exact hD'.2 i x hx))
  obtain ⟨t2, a1, b1⟩ := kk v w' hp ls hl T'.heap (locs ++ L1) hP1 hD1
    ⟨Nat.le_trans hS.1 (by rw [e1]; exact hz), fun q h1 h2 => by rw [e1, hk q (Nat.lt_of_lt_of_le h1 hS.1) (fun z => h2 (hF q z))]; exact hS.2.1 q h1 h2, fun q hq => by
      rcases List.mem_append.mp hq with h | h
      · exact hS.2.2 q h
      · exact hF _ (hL q h)⟩ T' rfl X'
  exact ⟨t2, stp t2 a1, b1⟩
/-- a callee as a class's constant pool links it -/
def u_Cb (own : String) (idx : Nat) (y : MethodName) (b : ByteArray) (yL : Nat) (ret : Option FieldType) (na : Nat) : Prop := Cond.methodLink own idx y ∈ gw ∧ Cond.initialized y.cls ∈ gw ∧ Cond.code y b yL ret ∈ gw ∧ (y.cls ≠ "java/lang/invoke/MethodHandle" ∧ y.cls ≠ "java/lang/invoke/VarHandle" ∧ (parseMethodDescriptor y.desc).map (fun d => d.parameters.length) = some na)
theorem u_CallB (hC : vx p s m args meth c cc nL own D G A) {idx yL h na : Nat} {y : MethodName} {b : ByteArray} {ret : Option FieldType} (hf : u_Cb own idx y b yL ret na) (hR : h + 1 ≤ R.frames ∧ 8 + (yL + 11) + 40 * h ≤ R.locals) : CallB R s args own idx y b yL ret (.code y b yL ret :: gw) (rmL h mc ms) mc ms na :=
  callB_of na hC.1.2.2.2.2 (fun w hw => by
    rcases List.mem_cons.mp hw with h | h
    · rw [h]; exact gw_good _ hf.2.2.1
    · exact gw_good _ h) rfl rfl rfl (hC.1.2.2.2.2 _ hf.2.1) (hC.1.2.2.2.2 _ hf.1) hf.2.2.2 hR
theorem u_PreS (hC : vx p s m args meth c cc nL own D G A) {wc wr : va_W} {av : List Value} {H : Heap} {locs : List Loc} (hP : va_P D cls (wc ++ wr) H) (hD : va_D A (wc ++ wr)) (hS : va_S A s.heap H locs) : PreS s H (va_Pc av (Pg D G wc H.size)) av := by
  refine ⟨fun a U g mk q => ⟨q.1, q.2.1, q.2.2.1, va_K.moved (u := U) (U := U.calling g mk a) (Vm.Alike.refl U.vm) q.2.2.2.1, q.2.2.2.2.1, zf.moved (u := U) (U := U.calling g mk a) (Vm.Alike.refl U.vm) q.2.2.2.2.2⟩, fun U hU hW => ⟨rfl, by rw [hU], by rw [hU]; exact u_PL hP, va_K.moved hW.alike hC.2.1, (u_DL hD).weaken (fun _ _ _ _ => trivial), ?_⟩⟩
  rw [hU]
  refine zf.moved hW.alike (zf.narrow (A := A) (zf.kept hC.2.2.2.1 (fun a h1 h2 => hS.2.1 a h1 h2)) (fun q h => ?_))
  rcases h with ⟨j, x, h⟩ | h
  · exact hD.2 j (q, x) (u_ixL h)
  · exact hC.2.2.1 q (Nat.le_trans hS.1 h)
/-- invokevirtual, framed -/
theorem u_callVF (hC : vx p s m args meth c cc nL own D G A) {idx yL h na a ci N q0 : Nat} {y : MethodName} {b : ByteArray} {ret : Option FieldType} {wc wr : va_W} {As fs : List Value} {T : u_T} {st0 : List Value} (hM : Ct l y b yL ret h mc ms D G wc (.ref a :: As) post) (hf : u_Cb own idx y b yL ret na) (hi : Cond.instanceMethod y ∈ gw ∧ Cond.selects y.cls y y ∈ gw) (he : wc[q0]? = some (a, .inr (ci, fs))) (hc : cls[ci]? = some (y.cls, T, N))
    (hR : h + 1 ≤ R.frames ∧ 8 + (yL + 11) + 40 * h ≤ R.locals) (hcs : k + mc ≤ R.cells ∧ n + ms ≤ R.slots) (hna : As.length = na) (hst : st0 = As.reverse ++ .ref a :: st) (hw8 : (st.map fun v => v.category).sum ≤ 8) (d : decode cc pc = .ok (.invokevirtual idx, 3))
    (kk : ∀ (v : Option Value) (w' : va_W), post v w' → U p l e R s m args below meth c nL D A (w' ++ wr) (k + mc) (n + ms) Q (pc + 3) L (v.toList ++ st)) : U p l e R s m args below meth c nL D A (wc ++ wr) k n Q pc L st0 := by
  intro ls hl H locs hP hD hS
  have hp := u_PreS hC (av := .ref a :: As) hP hD hS
  exact u_run hC.2.2.1 hl (va_runV (C := y.cls) (As := As) (rest := st) hC.1 (hM H.size) ⟨u_CallB hC hf hR, hC.1.2.2.2.2 _ hi.1, hC.1.2.2.2.2 _ hi.2⟩ ⟨hp.1, va_recv hC.2.1 (u_PL hP) hc he, hp.2⟩ rfl hna hl.1 hst (lv_room hw8) d hcs) hP hD hS kk
/-- invokestatic, framed -/
theorem u_callSF (hC : vx p s m args meth c cc nL own D G A) {idx yL h na : Nat} {y : MethodName} {b : ByteArray} {ret : Option FieldType} {wc wr : va_W} {As : List Value} {st0 : List Value} (hM : Ct l y b yL ret h mc ms D G wc As post) (hf : u_Cb own idx y b yL ret na) (hi : Cond.static y ∈ gw)
    (hR : h + 1 ≤ R.frames ∧ 8 + (yL + 11) + 40 * h ≤ R.locals) (hcs : k + mc ≤ R.cells ∧ n + ms ≤ R.slots) (hna : As.length = na) (hst : st0 = As.reverse ++ st) (hw8 : (st.map fun v => v.category).sum ≤ 8) (d : decode cc pc = .ok (.invokestatic idx, 3))
    (kk : ∀ (v : Option Value) (w' : va_W), post v w' → U p l e R s m args below meth c nL D A (w' ++ wr) (k + mc) (n + ms) Q (pc + 3) L (v.toList ++ st)) : U p l e R s m args below meth c nL D A (wc ++ wr) k n Q pc L st0 := by
  intro ls hl H locs hP hD hS
  exact u_run hC.2.2.1 hl (va_runS (As := As) (rest := st) hC.1 (hM H.size) ⟨u_CallB hC hf hR, hC.1.2.2.2.2 _ hi⟩ (u_PreS hC (av := As) hP hD hS) rfl hna hl.1 hst (lv_room hw8) d hcs) hP hD hS kk
/-- invokespecial of a constructor, framed -/
theorem u_callIF (hC : vx p s m args meth c cc nL own D G A) {idx yL h na a : Nat} {y : MethodName} {b : ByteArray} {wc wr : va_W} {As : List Value} {st0 : List Value} (hM : Ct l y b yL none h mc ms D G wc (.ref a :: As) post) (hf : u_Cb own idx y b yL none na) (hi : Cond.instanceMethod y ∈ gw) (hy : y.name = "<init>")
    (hR : h + 1 ≤ R.frames ∧ 8 + (yL + 11) + 40 * h ≤ R.locals) (hcs : k + mc ≤ R.cells ∧ n + ms ≤ R.slots) (hna : As.length = na) (hst : st0 = As.reverse ++ .ref a :: st) (hw8 : (st.map fun v => v.category).sum ≤ 8) (d : decode cc pc = .ok (.invokespecial idx, 3))
    (kk : ∀ (v : Option Value) (w' : va_W), post v w' → U p l e R s m args below meth c nL D A (w' ++ wr) (k + mc) (n + ms) Q (pc + 3) L (v.toList ++ st)) : U p l e R s m args below meth c nL D A (wc ++ wr) k n Q pc L st0 := by
  intro ls hl H locs hP hD hS
  exact u_run hC.2.2.1 hl (va_runI (As := As) (rest := st) hC.1 (hM H.size) ⟨u_CallB hC hf hR, hy, hC.1.2.2.2.2 _ hi⟩ (u_PreS hC (av := .ref a :: As) hP hD hS) rfl hna hl.1 hst (lv_room hw8) d hcs) hP hD hS kk
theorem u_nil {w : va_W} {k n pc : Nat} {st : List Value} (kk : U p l e R s m args below meth c nL D A w k n Q pc L st) : U p l e R s m args below meth c nL D A (w ++ []) k n Q pc L st := by rw [List.append_nil]; exact kk
theorem u_callV (hC : vx p s m args meth c cc nL own D G A) {idx yL h na a ci N q0 : Nat} {y : MethodName} {b : ByteArray} {ret : Option FieldType} {As fs : List Value} {T : u_T} {st0 : List Value} (hM : Ct l y b yL ret h mc ms D G ws (.ref a :: As) post) (hf : u_Cb own idx y b yL ret na) (hi : Cond.instanceMethod y ∈ gw ∧ Cond.selects y.cls y y ∈ gw) (he : ws[q0]? = some (a, .inr (ci, fs))) (hc : cls[ci]? = some (y.cls, T, N))
    (hR : h + 1 ≤ R.frames ∧ 8 + (yL + 11) + 40 * h ≤ R.locals) (hcs : k + mc ≤ R.cells ∧ n + ms ≤ R.slots) (hna : As.length = na) (hst : st0 = As.reverse ++ .ref a :: st) (hw8 : (st.map fun v => v.category).sum ≤ 8) (d : decode cc pc = .ok (.invokevirtual idx, 3))
    (kk : ∀ (v : Option Value) (w' : va_W), post v w' → U p l e R s m args below meth c nL D A w' (k + mc) (n + ms) Q (pc + 3) L (v.toList ++ st)) : U p l e R s m args below meth c nL D A ws k n Q pc L st0 := by
  have h := u_callVF (wr := []) (Q := Q) (n := n) (k := k) (L := L) (pc := pc) (e := e) (below := below) hC hM hf hi he hc hR hcs hna hst hw8 d (fun v w' hp => u_nil (kk v w' hp))
  rwa [List.append_nil] at h
theorem u_callS (hC : vx p s m args meth c cc nL own D G A) {idx yL h na : Nat} {y : MethodName} {b : ByteArray} {ret : Option FieldType} {As : List Value} {st0 : List Value} (hM : Ct l y b yL ret h mc ms D G ws As post) (hf : u_Cb own idx y b yL ret na) (hi : Cond.static y ∈ gw)
    (hR : h + 1 ≤ R.frames ∧ 8 + (yL + 11) + 40 * h ≤ R.locals) (hcs : k + mc ≤ R.cells ∧ n + ms ≤ R.slots) (hna : As.length = na) (hst : st0 = As.reverse ++ st) (hw8 : (st.map fun v => v.category).sum ≤ 8) (d : decode cc pc = .ok (.invokestatic idx, 3))
    (kk : ∀ (v : Option Value) (w' : va_W), post v w' → U p l e R s m args below meth c nL D A w' (k + mc) (n + ms) Q (pc + 3) L (v.toList ++ st)) : U p l e R s m args below meth c nL D A ws k n Q pc L st0 := by
  have h := u_callSF (wr := []) (Q := Q) (n := n) (k := k) (L := L) (pc := pc) (e := e) (below := below) hC hM hf hi hR hcs hna hst hw8 d (fun v w' hp => u_nil (kk v w' hp))
  rwa [List.append_nil] at h
theorem u_callI (hC : vx p s m args meth c cc nL own D G A) {idx yL h na a : Nat} {y : MethodName} {b : ByteArray} {As : List Value} {st0 : List Value} (hM : Ct l y b yL none h mc ms D G ws (.ref a :: As) post) (hf : u_Cb own idx y b yL none na) (hi : Cond.instanceMethod y ∈ gw) (hy : y.name = "<init>")
    (hR : h + 1 ≤ R.frames ∧ 8 + (yL + 11) + 40 * h ≤ R.locals) (hcs : k + mc ≤ R.cells ∧ n + ms ≤ R.slots) (hna : As.length = na) (hst : st0 = As.reverse ++ .ref a :: st) (hw8 : (st.map fun v => v.category).sum ≤ 8) (d : decode cc pc = .ok (.invokespecial idx, 3))
    (kk : ∀ (v : Option Value) (w' : va_W), post v w' → U p l e R s m args below meth c nL D A w' (k + mc) (n + ms) Q (pc + 3) L (v.toList ++ st)) : U p l e R s m args below meth c nL D A ws k n Q pc L st0 := by
  have h := u_callIF (wr := []) (Q := Q) (n := n) (k := k) (L := L) (pc := pc) (e := e) (below := below) hC hM hf hi hy hR hcs hna hst hw8 d (fun v w' hp => u_nil (kk v w' hp))
  rwa [List.append_nil] at h
end VC
end
section
/-! A world read by addresses: wg (what lies at an address), wup (another content at an address), and the rows over them: no places in lists. -/
def wg : va_W → Nat → Option va_E
  | [], _ => none
  | q :: r, a => if q.1 = a then some q.2 else wg r a
def wup (ws : va_W) (a : Nat) (x : va_E) : va_W := ws.map (fun q => if q.1 = a then (a, x) else q)
theorem wg_ix : ∀ {ws : va_W} {a : Nat} {x : va_E}, wg ws a = some x → ∃ q0 : Nat, ws[q0]? = some (a, x)
  | [], a, x, h => by simp [wg] at h
  | q :: r, a, x, h => by
    unfold wg at h
    by_cases c : q.1 = a
    · rw [if_pos c] at h
      exact ⟨0, by rw [List.getElem?_cons_zero, ← c, ← Option.some.inj h]⟩
    · rw [if_neg c] at h
      obtain ⟨i, hi⟩ := wg_ix h
      exact ⟨i + 1, by rw [List.getElem?_cons_succ]; exact hi⟩
theorem wg_app {w2 : va_W} : ∀ {w1 : va_W} {a : Nat} {x : va_E}, wg w1 a = some x → wg (w1 ++ w2) a = some x
  | [], a, x, h => by simp [wg] at h
  | q :: r, a, x, h => by
    rw [List.cons_append]
    unfold wg at h ⊢
    by_cases c : q.1 = a
    · rw [if_pos c] at h ⊢; exact h
    · rw [if_neg c] at h ⊢; exact wg_app h
theorem wg_appN {w2 : va_W} : ∀ {w1 : va_W} {a : Nat}, wg w1 a = none → wg (w1 ++ w2) a = wg w2 a
  | [], a, h => rfl
  | q :: r, a, h => by
    rw [List.cons_append]
    unfold wg at h
    by_cases c : q.1 = a
    · rw [if_pos c] at h; cases h
    · rw [if_neg c] at h
      rw [wg, if_neg c]
      exact wg_appN h
theorem wg_push {ws : va_W} {a : Nat} {x : va_E} (h : wg ws a = none) : wg (ws ++ [(a, x)]) a = some x := by
  rw [wg_appN h]; simp [wg]
theorem wg_pushN {ws : va_W} {a b : Nat} {x : va_E} (h : b ≠ a) : wg (ws ++ [(a, x)]) b = wg ws b := by
  cases hb : wg ws b with
  | some y => exact wg_app hb
  | none => rw [wg_appN hb]; simp [wg, Ne.symm h]
theorem wg_up : ∀ {ws : va_W} {a : Nat} {x y : va_E}, wg ws a = some x → wg (wup ws a y) a = some y
  | [], a, x, y, h => by simp [wg] at h
  | q :: r, a, x, y, h => by
    unfold wg at h
    unfold wup
    rw [List.map_cons]
    by_cases c : q.1 = a
    · rw [if_pos c]; simp [wg]
    · rw [if_neg c] at h ⊢
      rw [wg, if_neg c]
      exact wg_up h
theorem wg_upN : ∀ {ws : va_W} {a b : Nat} {y : va_E}, b ≠ a → wg (wup ws a y) b = wg ws b
  | [], a, b, y, h => rfl
  | q :: r, a, b, y, h => by
    unfold wup
    rw [List.map_cons]
    by_cases c : q.1 = a
    · rw [if_pos c, wg, wg, if_neg (Ne.symm h), if_neg (by rw [c]; exact Ne.symm h)]
      exact wg_upN h
    · rw [if_neg c, wg, wg]
      by_cases c2 : q.1 = b
      · rw [if_pos c2, if_pos c2]
      · rw [if_neg c2, if_neg c2]
        exact wg_upN h
/-- two contents that differ lie at two addresses -/
theorem wg_ne {ws : va_W} {a b : Nat} {x y : va_E} (h1 : wg ws a = some x) (h2 : wg ws b = some y) (h : x ≠ y) : a ≠ b := by
  intro q
  subst q
  exact h (Option.some.inj (h1.symm.trans h2))
theorem wup_noop : ∀ {ws : va_W} {a : Nat} {y : va_E}, (∀ (i : Nat) (q : Nat × va_E), ws[i]? = some q → q.1 ≠ a) → wup ws a y = ws
  | [], a, y, h => rfl
  | q :: r, a, y, h => by
    unfold wup
    rw [List.map_cons, if_neg (h 0 q rfl)]
    congr 1
    exact wup_noop (fun i x hx => h (i + 1) x (by rw [List.getElem?_cons_succ]; exact hx))
theorem wup_set : ∀ {ws : va_W} {A : Nat → Prop} {q0 a : Nat} {x y : va_E}, va_D A ws → ws[q0]? = some (a, x) → ws.set q0 (a, y) = wup ws a y
  | [], A, q0, a, x, y, hD, h => by simp at h
  | q :: r, A, 0, a, x, y, hD, h => by
    rw [List.getElem?_cons_zero] at h
    have e : q = (a, x) := Option.some.inj h
    subst e
    rw [List.set_cons_zero]
    unfold wup
    rw [List.map_cons, if_pos rfl]
    congr 1
    refine (wup_noop (fun i z hz c => ?_)).symm
    have := hD.1 (i + 1) 0 z (a, x) (by rw [List.getElem?_cons_succ]; exact hz) rfl c
    omega
  | q :: r, A, q0 + 1, a, x, y, hD, h => by
    rw [List.getElem?_cons_succ] at h
    rw [List.set_cons_succ]
    unfold wup
    rw [List.map_cons, if_neg (fun c => by
      have := hD.1 0 (q0 + 1) q (a, x) rfl (by rw [List.getElem?_cons_succ]; exact h) c
      omega)]
    congr 1
    exact wup_set (A := A) ⟨fun i j u v hi hj e => Nat.succ.inj (hD.1 (i + 1) (j + 1) u v (by rw [List.getElem?_cons_succ]; exact hi) (by rw [List.getElem?_cons_succ]; exact hj) e), fun i u hi => hD.2 (i + 1) u (by rw [List.getElem?_cons_succ]; exact hi)⟩ h
theorem wg_fresh {ws : va_W} {A : Nat → Prop} {q : Nat} {x : va_E} (hD : va_D A (ws ++ [(q, x)])) : wg ws q = none := by
  cases h : wg ws q with
  | none => rfl
  | some y =>
    obtain ⟨i, hi⟩ := wg_ix h
    exact absurd (rfl : q = q) (u_Dx hD (x := (q, y)) (y := (q, x)) (j := 0) hi rfl)
section VM
variable {p : Program} {l : Launch} {e : Env} {R : Room} {s : State} {m : MethodId} {args : Array Value} {below : List Frame} {meth : Method} {c : Code} {k n : Nat} {Q : State → Prop}
variable {cc : ByteArray} {nL : Nat} {own : String} {D : va_G} {G : u_G} {A : Nat → Prop} {pc : Nat} {L : List (Nat × Value)} {st : List Value} {ws : va_W}
/-- the addresses are apart: told to the one who asks -/
theorem u_D (kk : (∃ B : Nat → Prop, va_D B ws) → U p l e R s m args below meth c nL D A ws k n Q pc L st) : U p l e R s m args below meth c nL D A ws k n Q pc L st := fun ls hl H locs hP hD hS => kk ⟨A, hD⟩ ls hl H locs hP hD hS
theorem w_get (hC : vx p s m args meth c cc nL own D G A) {idx ci j N a : Nat} {C : String} {T : u_T} {fs : List Value} {v : Value} (hf : u_Ff own idx ci j C T N) (he : wg ws a = some (.inr (ci, fs))) (hv : fs[j]? = some v) (d : decode cc pc = .ok (.getfield idx, 3))
    (kk : U p l e R s m args below meth c nL D A ws k n Q (pc + 3) L (v :: st)) : U p l e R s m args below meth c nL D A ws k n Q pc L (.ref a :: st) := by
  obtain ⟨q0, h0⟩ := wg_ix he
  exact u_get hC hf q0 h0 hv d kk
theorem w_put (hC : vx p s m args meth c cc nL own D G A) {idx ci j N a : Nat} {C : String} {T : u_T} {fs : List Value} {v : Value} {t0 : Nat → FieldType} (hf : u_Ff own idx ci j C T N) (ht : u_Ft j T N t0) (hfin : (T j).2.2.2 = false) (he : wg ws a = some (.inr (ci, fs))) (hn : narrow (t0 j) v = v) (hfit : fits (t0 j) v = true) (hl9 : j < fs.length) (d : decode cc pc = .ok (.putfield idx, 3))
    (kk : U p l e R s m args below meth c nL D A (wup ws a (.inr (ci, fs.set j v))) k n Q (pc + 3) L st) : U p l e R s m args below meth c nL D A ws k n Q pc L (v :: .ref a :: st) := by
  obtain ⟨q0, h0⟩ := wg_ix he
  exact u_D (fun ⟨B, hD⟩ => u_put hC hf ht hfin q0 h0 hn hfit hl9 (wup_set hD h0) d kk)
theorem w_putF (hC : vx p s m args meth c cc nL own D G A) {idx ci j N a : Nat} {C : String} {T : u_T} {fs : List Value} {v : Value} {t0 : Nat → FieldType} (hf : u_Ff own idx ci j C T N) (ht : u_Ft j T N t0) (hfin : (T j).2.2.2 = true) (hin : meth.name = "<init>") (hdecl : (T j).1 = own) (he : wg ws a = some (.inr (ci, fs))) (hn : narrow (t0 j) v = v) (hfit : fits (t0 j) v = true) (hl9 : j < fs.length) (d : decode cc pc = .ok (.putfield idx, 3))
    (kk : U p l e R s m args below meth c nL D A (wup ws a (.inr (ci, fs.set j v))) k n Q (pc + 3) L st) : U p l e R s m args below meth c nL D A ws k n Q pc L (v :: .ref a :: st) := by
  obtain ⟨q0, h0⟩ := wg_ix he
  exact u_D (fun ⟨B, hD⟩ => u_putF hC hf ht hfin hin hdecl q0 h0 hn hfit hl9 (wup_set hD h0) d kk)
theorem w_iald (hC : vx p s m args meth c cc nL own D G A) {a N : Nat} {cA : ClassId} {f : Nat → Int32} {i : Int32} (t0 : Nat) (ha : wg ws a = some (.inl (cA, N, .inl f))) (ht : G.1[t0]? = some (cA, .int)) (q : Nat) (hi : i = nI q) (hq : q < N) (hN : N < 2 ^ 31) (d : decode cc pc = .ok (.iaload, 1))
    (kk : U p l e R s m args below meth c nL D A ws k n Q (pc + 1) L (.int (f q) :: st)) : U p l e R s m args below meth c nL D A ws k n Q pc L (.int i :: .ref a :: st) := by
  obtain ⟨q0, h0⟩ := wg_ix ha
  subst hi
  have e : (nI q).toNatClampNeg = q := nI_clamp (Nat.lt_trans hq hN)
  exact u_iald hC q0 t0 h0 ht (vp_in_nI hq hN) d (by rw [e]; exact kk)
theorem w_iast (hC : vx p s m args meth c cc nL own D G A) {a N : Nat} {cA : ClassId} {f : Nat → Int32} {i x : Int32} (t0 : Nat) (ha : wg ws a = some (.inl (cA, N, .inl f))) (ht : G.1[t0]? = some (cA, .int)) (q : Nat) (hi : i = nI q) (hq : q < N) (hN : N < 2 ^ 31) (d : decode cc pc = .ok (.iastore, 1))
    (kk : U p l e R s m args below meth c nL D A (wup ws a (.inl (cA, N, .inl (upd f q x)))) k n Q (pc + 1) L st) : U p l e R s m args below meth c nL D A ws k n Q pc L (.int x :: .int i :: .ref a :: st) := by
  obtain ⟨q0, h0⟩ := wg_ix ha
  subst hi
  have e : (nI q).toNatClampNeg = q := nI_clamp (Nat.lt_trans hq hN)
  exact u_D (fun ⟨B, hD⟩ => u_iast hC q0 t0 h0 ht (vp_in_nI hq hN) (by rw [e]; exact wup_set hD h0) d kk)
theorem w_aldq (hC : vx p s m args meth c cc nL own D G A) {a N : Nat} {cA : ClassId} {C : String} {f : Nat → Option Nat} {i : Int32} (t0 : Nat) (ha : wg ws a = some (.inl (cA, N, .inr (.inr (.inr (.inr f)))))) (ht : G.1[t0]? = some (cA, .object C)) (q : Nat) (hi : i = nI q) (hq : q < N) (hN : N < 2 ^ 31) (d : decode cc pc = .ok (.aaload, 1))
    (kk : U p l e R s m args below meth c nL D A ws k n Q (pc + 1) L (va_rf (f q) :: st)) : U p l e R s m args below meth c nL D A ws k n Q pc L (.int i :: .ref a :: st) := by
  obtain ⟨q0, h0⟩ := wg_ix ha
  subst hi
  have e : (nI q).toNatClampNeg = q := nI_clamp (Nat.lt_trans hq hN)
  exact u_aldq hC q0 t0 h0 ht (vp_in_nI hq hN) d (by rw [e]; exact kk)
theorem w_astq (hC : vx p s m args meth c cc nL own D G A) {a N v ci : Nat} {cA : ClassId} {r : vw_C} {vs : List Value} {f : Nat → Option Nat} {i : Int32} (t0 : Nat) (ha : wg ws a = some (.inl (cA, N, .inr (.inr (.inr (.inr f)))))) (ht : G.1[t0]? = some (cA, .object r.1)) (hv : wg ws v = some (.inr (ci, vs))) (hc : cls[ci]? = some r) (q : Nat) (hi : i = nI q) (hq : q < N) (hN : N < 2 ^ 31) (d : decode cc pc = .ok (.aastore, 1))
    (kk : U p l e R s m args below meth c nL D A (wup ws a (.inl (cA, N, .inr (.inr (.inr (.inr (va_up f q (some v)))))))) k n Q (pc + 1) L st) : U p l e R s m args below meth c nL D A ws k n Q pc L (.ref v :: .int i :: .ref a :: st) := by
  obtain ⟨q0, h0⟩ := wg_ix ha
  obtain ⟨q1, h1⟩ := wg_ix hv
  subst hi
  have e : (nI q).toNatClampNeg = q := nI_clamp (Nat.lt_trans hq hN)
  exact u_D (fun ⟨B, hD⟩ => u_astq hC q0 t0 q1 h0 ht h1 hc (vp_in_nI hq hN) (by rw [e]; exact wup_set hD h0) d kk)
theorem w_astqN (hC : vx p s m args meth c cc nL own D G A) {a N : Nat} {cA : ClassId} {C : String} {f : Nat → Option Nat} {i : Int32} (t0 : Nat) (ha : wg ws a = some (.inl (cA, N, .inr (.inr (.inr (.inr f)))))) (ht : G.1[t0]? = some (cA, .object C)) (q : Nat) (hi : i = nI q) (hq : q < N) (hN : N < 2 ^ 31) (d : decode cc pc = .ok (.aastore, 1))
    (kk : U p l e R s m args below meth c nL D A (wup ws a (.inl (cA, N, .inr (.inr (.inr (.inr (va_up f q none))))))) k n Q (pc + 1) L st) : U p l e R s m args below meth c nL D A ws k n Q pc L (.null :: .int i :: .ref a :: st) := by
  obtain ⟨q0, h0⟩ := wg_ix ha
  subst hi
  have e : (nI q).toNatClampNeg = q := nI_clamp (Nat.lt_trans hq hN)
  exact u_D (fun ⟨B, hD⟩ => u_astqN hC q0 t0 h0 ht (vp_in_nI hq hN) (by rw [e]; exact wup_set hD h0) d kk)
theorem w_astqO (hC : vx p s m args meth c cc nL own D G A) {a N v ci : Nat} {E : String} {cA : ClassId} {r : vw_C} {vs : List Value} {f : Nat → Option Nat} {i : Int32} (t0 : Nat) (ha : wg ws a = some (.inl (cA, N, .inr (.inr (.inr (.inr f)))))) (ht : G.1[t0]? = some (cA, .object E)) (hca : va_Nw (.castable r.1 E) s) (hv : wg ws v = some (.inr (ci, vs))) (hc : cls[ci]? = some r) (q : Nat) (hi : i = nI q) (hq : q < N) (hN : N < 2 ^ 31) (d : decode cc pc = .ok (.aastore, 1))
    (kk : U p l e R s m args below meth c nL D A (wup ws a (.inl (cA, N, .inr (.inr (.inr (.inr (va_up f q (some v)))))))) k n Q (pc + 1) L st) : U p l e R s m args below meth c nL D A ws k n Q pc L (.ref v :: .int i :: .ref a :: st) := by
  obtain ⟨q0, h0⟩ := wg_ix ha
  obtain ⟨q1, h1⟩ := wg_ix hv
  subst hi
  have e : (nI q).toNatClampNeg = q := nI_clamp (Nat.lt_trans hq hN)
  exact u_D (fun ⟨B, hD⟩ => u_astqO hC q0 t0 q1 h0 ht hca h1 hc (vp_in_nI hq hN) (by rw [e]; exact wup_set hD h0) d kk)
theorem w_alen (hC : vx p s m args meth c cc nL own D G A) {a N : Nat} {cA : ClassId} {x : (Nat → Int32) ⊕ (Nat → Int64) ⊕ (Nat → UInt32) ⊕ (Nat → UInt64) ⊕ (Nat → Option Nat)} {ty : FieldType} (t0 : Nat) (ha : wg ws a = some (.inl (cA, N, x))) (ht : G.1[t0]? = some (cA, ty)) (d : decode cc pc = .ok (.arraylength, 1))
    (kk : U p l e R s m args below meth c nL D A ws k n Q (pc + 1) L (.int (nI N) :: st)) : U p l e R s m args below meth c nL D A ws k n Q pc L (.ref a :: st) := by
  obtain ⟨q0, h0⟩ := wg_ix ha
  exact u_alen hC (nI N) q0 t0 h0 ht rfl d kk
theorem w_cast (hC : vx p s m args meth c cc nL own D G A) {idx ci N a : Nat} {C : String} {T : u_T} {fs : List Value} (hc : cls[ci]? = some (C, T, N)) (hlk : Cond.classLink own idx C ∈ gw) (he : wg ws a = some (.inr (ci, fs))) (d : decode cc pc = .ok (.checkcast idx, 3))
    (kk : U p l e R s m args below meth c nL D A ws k n Q (pc + 3) L (.ref a :: st)) : U p l e R s m args below meth c nL D A ws k n Q pc L (.ref a :: st) := by
  obtain ⟨q0, h0⟩ := wg_ix he
  exact u_cast hC hc hlk q0 h0 d kk
theorem w_fresh {q pc k n : Nat} {x : va_E} {st : List Value} (kk : wg ws q = none → U p l e R s m args below meth c nL D A (ws ++ [(q, x)]) k n Q pc L st) : U p l e R s m args below meth c nL D A (ws ++ [(q, x)]) k n Q pc L st := u_D (fun ⟨_, hD⟩ => kk (wg_fresh hD))
theorem w_new (hC : vx p s m args meth c cc nL own D G A) {idx ci N : Nat} {C : String} {T : u_T} {t0 : Nat → FieldType} {fs : List Value} (hf : u_Nf own idx ci C T N t0 fs) (hk : k + 1 ≤ R.cells) (hn : n + N ≤ R.slots) (d : decode cc pc = .ok (.new idx, 3))
    (kk : ∀ q : Nat, wg ws q = none → U p l e R s m args below meth c nL D A (ws ++ [(q, .inr (ci, fs))]) (k + 1) (n + N) Q (pc + 3) L (.ref q :: st)) : U p l e R s m args below meth c nL D A ws k n Q pc L st := u_new hC hf hk hn d (fun q => w_fresh (kk q))
variable {post : Option Value → va_W → Prop} {mc ms : Nat}
theorem w_callV (hC : vx p s m args meth c cc nL own D G A) {idx yL h na a ci N : Nat} {y : MethodName} {b : ByteArray} {ret : Option FieldType} {As fs : List Value} {T : u_T} {st0 : List Value} (hM : Ct l y b yL ret h mc ms D G ws (.ref a :: As) post) (hf : u_Cb own idx y b yL ret na) (hi : Cond.instanceMethod y ∈ gw ∧ Cond.selects y.cls y y ∈ gw) (he : wg ws a = some (.inr (ci, fs))) (hc : cls[ci]? = some (y.cls, T, N))
    (hR : h + 1 ≤ R.frames ∧ 8 + (yL + 11) + 40 * h ≤ R.locals) (hcs : k + mc ≤ R.cells ∧ n + ms ≤ R.slots) (hna : As.length = na) (hst : st0 = As.reverse ++ .ref a :: st) (hw8 : (st.map fun v => v.category).sum ≤ 8) (d : decode cc pc = .ok (.invokevirtual idx, 3))
    (kk : ∀ (v : Option Value) (w' : va_W), post v w' → U p l e R s m args below meth c nL D A w' (k + mc) (n + ms) Q (pc + 3) L (v.toList ++ st)) : U p l e R s m args below meth c nL D A ws k n Q pc L st0 := by
  obtain ⟨q0, h0⟩ := wg_ix he
  exact u_callV hC hM hf hi h0 hc hR hcs hna hst hw8 d kk
end VM
end
section
/-! Rows by places, with an index that is a number; small rows on numbers. -/
def rt (v : Value) (w : va_W) : Option Value → va_W → Prop := fun v' w' => v' = some v ∧ w' = w
def rtv (w : va_W) : Option Value → va_W → Prop := fun v' w' => v' = none ∧ w' = w
section VP2
variable {p : Program} {l : Launch} {e : Env} {R : Room} {s : State} {m : MethodId} {args : Array Value} {below : List Frame} {meth : Method} {c : Code} {k n : Nat} {Q : State → Prop}
variable {cc : ByteArray} {nL : Nat} {own : String} {D : va_G} {G : u_G} {A : Nat → Prop} {pc : Nat} {L : List (Nat × Value)} {st : List Value} {ws : va_W}
theorem p_iald (hC : vx p s m args meth c cc nL own D G A) {a N : Nat} {cA : ClassId} {f : Nat → Int32} {i : Int32} (q0 t0 : Nat) (ha : ws[q0]? = some (a, .inl (cA, N, .inl f))) (ht : G.1[t0]? = some (cA, .int)) (q : Nat) (hi : i = nI q) (hq : q < N) (hN : N < 2 ^ 31) (d : decode cc pc = .ok (.iaload, 1))
    (kk : U p l e R s m args below meth c nL D A ws k n Q (pc + 1) L (.int (f q) :: st)) : U p l e R s m args below meth c nL D A ws k n Q pc L (.int i :: .ref a :: st) := by
  subst hi
  have e : (nI q).toNatClampNeg = q := nI_clamp (Nat.lt_trans hq hN)
  exact u_iald hC q0 t0 ha ht (vp_in_nI hq hN) d (by rw [e]; exact kk)
theorem p_zald (hC : vx p s m args meth c cc nL own D G A) {a N : Nat} {cA : ClassId} {f : Nat → Int32} {i : Int32} (q0 t0 : Nat) (ha : ws[q0]? = some (a, .inl (cA, N, .inl f))) (ht : G.1[t0]? = some (cA, .boolean)) (q : Nat) (hi : i = nI q) (hq : q < N) (hN : N < 2 ^ 31) (d : decode cc pc = .ok (.baload, 1))
    (kk : U p l e R s m args below meth c nL D A ws k n Q (pc + 1) L (.int (f q) :: st)) : U p l e R s m args below meth c nL D A ws k n Q pc L (.int i :: .ref a :: st) := by
  subst hi
  have e : (nI q).toNatClampNeg = q := nI_clamp (Nat.lt_trans hq hN)
  exact u_zald hC q0 t0 ha ht (vp_in_nI hq hN) d (by rw [e]; exact kk)
theorem p_iast (hC : vx p s m args meth c cc nL own D G A) {a N : Nat} {cA : ClassId} {f : Nat → Int32} {i x : Int32} {ws' : va_W} (q0 t0 : Nat) (ha : ws[q0]? = some (a, .inl (cA, N, .inl f))) (ht : G.1[t0]? = some (cA, .int)) (q : Nat) (hi : i = nI q) (hq : q < N) (hN : N < 2 ^ 31) (hw : ws.set q0 (a, .inl (cA, N, .inl (upd f q x))) = ws') (d : decode cc pc = .ok (.iastore, 1))
    (kk : U p l e R s m args below meth c nL D A ws' k n Q (pc + 1) L st) : U p l e R s m args below meth c nL D A ws k n Q pc L (.int x :: .int i :: .ref a :: st) := by
  subst hi
  have e : (nI q).toNatClampNeg = q := nI_clamp (Nat.lt_trans hq hN)
  exact u_iast hC q0 t0 ha ht (vp_in_nI hq hN) (by rw [e]; exact hw) d kk
theorem p_zast (hC : vx p s m args meth c cc nL own D G A) {a N : Nat} {cA : ClassId} {f : Nat → Int32} {i x : Int32} {ws' : va_W} (q0 t0 : Nat) (ha : ws[q0]? = some (a, .inl (cA, N, .inl f))) (ht : G.1[t0]? = some (cA, .boolean)) (q : Nat) (hi : i = nI q) (hq : q < N) (hN : N < 2 ^ 31) (hw : ws.set q0 (a, .inl (cA, N, .inl (upd f q (vp_nar .boolean x)))) = ws') (d : decode cc pc = .ok (.bastore, 1))
    (kk : U p l e R s m args below meth c nL D A ws' k n Q (pc + 1) L st) : U p l e R s m args below meth c nL D A ws k n Q pc L (.int x :: .int i :: .ref a :: st) := by
  subst hi
  have e : (nI q).toNatClampNeg = q := nI_clamp (Nat.lt_trans hq hN)
  exact u_zast hC q0 t0 ha ht (vp_in_nI hq hN) (by rw [e]; exact hw) d kk
end VP2
theorem n_rng {x : Int32} {lo hi : Nat} (hh : hi < 2 ^ 31) (hlo : lo < 2 ^ 31) (h1 : ¬ x < nI lo) (h2 : ¬ nI hi < x) : ∃ i : Nat, lo ≤ i ∧ i ≤ hi ∧ x = nI i := by
  rw [Int32.lt_iff_toInt_lt, nI_toInt hlo] at h1
  rw [Int32.lt_iff_toInt_lt, nI_toInt hh] at h2
  have h0 : ¬ x < 0 := by rw [Int32.lt_iff_toInt_lt, Int32.toInt_zero]; omega
  obtain ⟨j, hj, rfl⟩ := nI_of h0
  rw [nI_toInt hj] at h1 h2
  exact ⟨j, by omega, by omega, rfl⟩
theorem n_rng0 {x : Int32} {hi : Nat} (hh : hi < 2 ^ 31) (h1 : ¬ x < 0) (h2 : ¬ nI hi ≤ x) : ∃ i : Nat, i < hi ∧ x = nI i := by
  obtain ⟨j, hj, rfl⟩ := nI_of h1
  rw [Int32.le_iff_toInt_le, nI_toInt hj, nI_toInt hh] at h2
  exact ⟨j, by omega, rfl⟩
theorem n_8 (j q : Nat) : nI 8 * nI j + nI q = nI (8 * j + q) := by rw [pk_mul, nI_add]
theorem n_8a (j : Nat) : nI 8 * nI j = nI (8 * j) := pk_mul 8 j
theorem n_8d {b : Nat} (hb : b < 2 ^ 31) : nI b / nI 8 = nI (b / 8) := pk_div hb (by decide) (by decide)
theorem n_8r {b : Nat} (hb : b < 2 ^ 31) : nI b - nI b / nI 8 * nI 8 = nI (b % 8) := pk_rem hb (by decide) (by decide)
theorem n_pred {q : Nat} (h : 0 < q) : nI q - nI 1 = nI (q - 1) := pk_sub h
section VP3
variable {p : Program} {l : Launch} {e : Env} {R : Room} {s : State} {m : MethodId} {args : Array Value} {below : List Frame} {meth : Method} {c : Code} {k n : Nat} {Q : State → Prop}
variable {cc : ByteArray} {nL : Nat} {own : String} {D : va_G} {G : u_G} {A : Nat → Prop} {pc : Nat} {L : List (Nat × Value)} {st : List Value} {ws w1 : va_W} {v1 : Value} {mc ms : Nat}
theorem u_callVr (hC : vx p s m args meth c cc nL own D G A) {idx yL h na a ci N q0 : Nat} {y : MethodName} {b : ByteArray} {ret : Option FieldType} {As fs : List Value} {T : u_T} {st0 : List Value} (hM : Ct l y b yL ret h mc ms D G ws (.ref a :: As) (rt v1 w1)) (hf : u_Cb own idx y b yL ret na) (hi : Cond.instanceMethod y ∈ gw ∧ Cond.selects y.cls y y ∈ gw) (he : ws[q0]? = some (a, .inr (ci, fs))) (hc : cls[ci]? = some (y.cls, T, N))
    (hR : h + 1 ≤ R.frames ∧ 8 + (yL + 11) + 40 * h ≤ R.locals) (hcs : k + mc ≤ R.cells ∧ n + ms ≤ R.slots) (hna : As.length = na) (hst : st0 = As.reverse ++ .ref a :: st) (hw8 : (st.map fun v => v.category).sum ≤ 8) (d : decode cc pc = .ok (.invokevirtual idx, 3))
    (kk : U p l e R s m args below meth c nL D A w1 (k + mc) (n + ms) Q (pc + 3) L (v1 :: st)) : U p l e R s m args below meth c nL D A ws k n Q pc L st0 :=
  u_callV hC hM hf hi he hc hR hcs hna hst hw8 d (fun v w' hp => by obtain ⟨rfl, rfl⟩ := hp; exact kk)
theorem u_callVv (hC : vx p s m args meth c cc nL own D G A) {idx yL h na a ci N q0 : Nat} {y : MethodName} {b : ByteArray} {ret : Option FieldType} {As fs : List Value} {T : u_T} {st0 : List Value} (hM : Ct l y b yL ret h mc ms D G ws (.ref a :: As) (rtv w1)) (hf : u_Cb own idx y b yL ret na) (hi : Cond.instanceMethod y ∈ gw ∧ Cond.selects y.cls y y ∈ gw) (he : ws[q0]? = some (a, .inr (ci, fs))) (hc : cls[ci]? = some (y.cls, T, N))
    (hR : h + 1 ≤ R.frames ∧ 8 + (yL + 11) + 40 * h ≤ R.locals) (hcs : k + mc ≤ R.cells ∧ n + ms ≤ R.slots) (hna : As.length = na) (hst : st0 = As.reverse ++ .ref a :: st) (hw8 : (st.map fun v => v.category).sum ≤ 8) (d : decode cc pc = .ok (.invokevirtual idx, 3))
    (kk : U p l e R s m args below meth c nL D A w1 (k + mc) (n + ms) Q (pc + 3) L st) : U p l e R s m args below meth c nL D A ws k n Q pc L st0 :=
  u_callV hC hM hf hi he hc hR hcs hna hst hw8 d (fun v w' hp => by obtain ⟨rfl, rfl⟩ := hp; exact kk)
theorem w_callVr (hC : vx p s m args meth c cc nL own D G A) {idx yL h na a ci N : Nat} {y : MethodName} {b : ByteArray} {ret : Option FieldType} {As fs : List Value} {T : u_T} {st0 : List Value} (hM : Ct l y b yL ret h mc ms D G ws (.ref a :: As) (rt v1 w1)) (hf : u_Cb own idx y b yL ret na) (hi : Cond.instanceMethod y ∈ gw ∧ Cond.selects y.cls y y ∈ gw) (he : wg ws a = some (.inr (ci, fs))) (hc : cls[ci]? = some (y.cls, T, N))
    (hR : h + 1 ≤ R.frames ∧ 8 + (yL + 11) + 40 * h ≤ R.locals) (hcs : k + mc ≤ R.cells ∧ n + ms ≤ R.slots) (hna : As.length = na) (hst : st0 = As.reverse ++ .ref a :: st) (hw8 : (st.map fun v => v.category).sum ≤ 8) (d : decode cc pc = .ok (.invokevirtual idx, 3))
    (kk : U p l e R s m args below meth c nL D A w1 (k + mc) (n + ms) Q (pc + 3) L (v1 :: st)) : U p l e R s m args below meth c nL D A ws k n Q pc L st0 :=
  w_callV hC hM hf hi he hc hR hcs hna hst hw8 d (fun v w' hp => by obtain ⟨rfl, rfl⟩ := hp; exact kk)
theorem w_callVv (hC : vx p s m args meth c cc nL own D G A) {idx yL h na a ci N : Nat} {y : MethodName} {b : ByteArray} {ret : Option FieldType} {As fs : List Value} {T : u_T} {st0 : List Value} (hM : Ct l y b yL ret h mc ms D G ws (.ref a :: As) (rtv w1)) (hf : u_Cb own idx y b yL ret na) (hi : Cond.instanceMethod y ∈ gw ∧ Cond.selects y.cls y y ∈ gw) (he : wg ws a = some (.inr (ci, fs))) (hc : cls[ci]? = some (y.cls, T, N))
    (hR : h + 1 ≤ R.frames ∧ 8 + (yL + 11) + 40 * h ≤ R.locals) (hcs : k + mc ≤ R.cells ∧ n + ms ≤ R.slots) (hna : As.length = na) (hst : st0 = As.reverse ++ .ref a :: st) (hw8 : (st.map fun v => v.category).sum ≤ 8) (d : decode cc pc = .ok (.invokevirtual idx, 3))
    (kk : U p l e R s m args below meth c nL D A w1 (k + mc) (n + ms) Q (pc + 3) L st) : U p l e R s m args below meth c nL D A ws k n Q pc L st0 :=
  w_callV hC hM hf hi he hc hR hcs hna hst hw8 d (fun v w' hp => by obtain ⟨rfl, rfl⟩ := hp; exact kk)
theorem u_callSr (hC : vx p s m args meth c cc nL own D G A) {idx yL h na : Nat} {y : MethodName} {b : ByteArray} {ret : Option FieldType} {As : List Value} {st0 : List Value} (hM : Ct l y b yL ret h mc ms D G ws As (rt v1 w1)) (hf : u_Cb own idx y b yL ret na) (hi : Cond.static y ∈ gw)
    (hR : h + 1 ≤ R.frames ∧ 8 + (yL + 11) + 40 * h ≤ R.locals) (hcs : k + mc ≤ R.cells ∧ n + ms ≤ R.slots) (hna : As.length = na) (hst : st0 = As.reverse ++ st) (hw8 : (st.map fun v => v.category).sum ≤ 8) (d : decode cc pc = .ok (.invokestatic idx, 3))
    (kk : U p l e R s m args below meth c nL D A w1 (k + mc) (n + ms) Q (pc + 3) L (v1 :: st)) : U p l e R s m args below meth c nL D A ws k n Q pc L st0 :=
  u_callS hC hM hf hi hR hcs hna hst hw8 d (fun v w' hp => by obtain ⟨rfl, rfl⟩ := hp; exact kk)
theorem u_callIv (hC : vx p s m args meth c cc nL own D G A) {idx yL h na a : Nat} {y : MethodName} {b : ByteArray} {As : List Value} {st0 : List Value} (hM : Ct l y b yL none h mc ms D G ws (.ref a :: As) (rtv w1)) (hf : u_Cb own idx y b yL none na) (hi : Cond.instanceMethod y ∈ gw) (hy : y.name = "<init>")
    (hR : h + 1 ≤ R.frames ∧ 8 + (yL + 11) + 40 * h ≤ R.locals) (hcs : k + mc ≤ R.cells ∧ n + ms ≤ R.slots) (hna : As.length = na) (hst : st0 = As.reverse ++ .ref a :: st) (hw8 : (st.map fun v => v.category).sum ≤ 8) (d : decode cc pc = .ok (.invokespecial idx, 3))
    (kk : U p l e R s m args below meth c nL D A w1 (k + mc) (n + ms) Q (pc + 3) L st) : U p l e R s m args below meth c nL D A ws k n Q pc L st0 :=
  u_callI hC hM hf hi hy hR hcs hna hst hw8 d (fun v w' hp => by obtain ⟨rfl, rfl⟩ := hp; exact kk)
end VP3
theorem u_pick {p : Program} {l : Launch} {e : Env} {R : Room} {s : State} {m : MethodId} {args : Array Value} {below : List Frame} {meth : Method} {c : Code} {k n : Nat} {Q : State → Prop} {nL : Nat} {D : va_G} {A : Nat → Prop} {pc : Nat} {L L' : List (Nat × Value)} {st : List Value} {ws : va_W} (ks : List Nat) (h : lv_pick L ks = L') (kk : U p l e R s m args below meth c nL D A ws k n Q pc L' st) : U p l e R s m args below meth c nL D A ws k n Q pc L st := fun ls hl => kk ls (lv_sub hl ks h)
theorem u_val {p : Program} {l : Launch} {e : Env} {R : Room} {s : State} {m : MethodId} {args : Array Value} {below : List Frame} {meth : Method} {c : Code} {k n : Nat} {Q : State → Prop} {nL : Nat} {D : va_G} {A : Nat → Prop} {pc : Nat} {L : List (Nat × Value)} {st : List Value} {ws : va_W} {x x' : Int32} (h : x = x') (kk : U p l e R s m args below meth c nL D A ws k n Q pc L (.int x' :: st)) : U p l e R s m args below meth c nL D A ws k n Q pc L (.int x :: st) := h ▸ kk
theorem n_rngl {x : Int32} {hi : Nat} (hh : hi < 2 ^ 31) (h1 : ¬ x < 0) (h2 : x ≤ nI hi) : ∃ i : Nat, i ≤ hi ∧ x = nI i := by
  obtain ⟨j, hj, rfl⟩ := nI_of h1
  rw [Int32.le_iff_toInt_le, nI_toInt hj, nI_toInt hh] at h2
  exact ⟨j, by omega, rfl⟩
theorem u_valb {p : Program} {l : Launch} {e : Env} {R : Room} {s : State} {m : MethodId} {args : Array Value} {below : List Frame} {meth : Method} {c : Code} {k n : Nat} {Q : State → Prop} {nL : Nat} {D : va_G} {A : Nat → Prop} {pc : Nat} {L : List (Nat × Value)} {st : List Value} {ws : va_W} {y : Value} {x x' : Int32} (h : x = x') (kk : U p l e R s m args below meth c nL D A ws k n Q pc L (y :: .int x' :: st)) : U p l e R s m args below meth c nL D A ws k n Q pc L (y :: .int x :: st) := h ▸ kk
end
section
/-! Rows for the list's own methods: the empty array, mirrors, max and min, arraycopy. -/
section VJ
variable {p : Program} {l : Launch} {e : Env} {R : Room} {s : State} {m : MethodId} {args : Array Value} {below : List Frame} {meth : Method} {c : Code} {k n : Nat} {Q : State → Prop}
variable {cc : ByteArray} {nL : Nat} {own : String} {D : va_G} {G : u_G} {A : Nat → Prop} {pc : Nat} {L : List (Nat × Value)} {st : List Value} {ws : va_W}
theorem u_gets (hC : vx p s m args meth c cc nL own D G A) {idx : Nat} (hl9 : Cond.fieldLink own idx "java/util/ArrayList" "DEFAULTCAPACITY_EMPTY_ELEMENTDATA" "[Ljava/lang/Object;" ∈ gw) (d : decode cc pc = .ok (.getstatic idx, 3))
    (kk : U p l e R s m args below meth c nL D A ws k n Q (pc + 3) L (.ref G.2.1 :: st)) : U p l e R s m args below meth c nL D A ws k n Q pc L st := by
  intro ls hl H locs hP hD hS
  exact va_gets hC.1.1 hC.1.2.1 hC.2.2.2.1.1 hS hC.1.2.2.2.1 (hC.1.2.2.2.2 _ hl9) (fun _ h => h) d (kk ls hl H locs hP hD hS)
theorem u_tlen (hC : vx p s m args meth c cc nL own D G A) (d : decode cc pc = .ok (.arraylength, 1))
    (kk : U p l e R s m args below meth c nL D A ws k n Q (pc + 1) L (.int (nI 0) :: st)) : U p l e R s m args below meth c nL D A ws k n Q pc L (.ref G.2.1 :: st) := by
  intro ls hl H locs hP hD hS
  exact va_tlen hC.1.1 hC.1.2.1 hC.2.2.2.1.2.1 hS rfl d (kk ls hl H locs hP hD hS)
theorem u_ldcM (hC : vx p s m args meth c cc nL own D G A) {idx : Nat} (hl9 : Cond.classLink own idx "[Ljava/lang/Object;" ∈ gw) (d : decode cc pc = .ok (.ldc idx, 2))
    (kk : U p l e R s m args below meth c nL D A ws k n Q (pc + 2) L (.ref G.2.2 :: st)) : U p l e R s m args below meth c nL D A ws k n Q pc L st := by
  intro ls hl H locs hP hD hS
  exact va_ldcM hC.1.1 hC.1.2.1 hC.1.2.2.2.1 (hC.1.2.2.2.2 _ hl9) hC.2.2.2.1.2.2.1 d (kk ls hl H locs hP hD hS)
theorem u_ldcI (hC : vx p s m args meth c cc nL own D G A) {idx : Nat} {v : Int32} (hl9 : Cond.constant own idx v ∈ gw) (d : decode cc pc = .ok (.ldc idx, 2))
    (kk : U p l e R s m args below meth c nL D A ws k n Q (pc + 2) L (.int v :: st)) : U p l e R s m args below meth c nL D A ws k n Q pc L st := by
  intro ls hl H locs hP hD hS
  exact lv_ldc hC.1.1 hC.1.2.1 hC.1.2.2.2.1 (hC.1.2.2.2.2 _ hl9) d (kk ls hl H locs hP hD hS)
theorem u_mmax (hC : vx p s m args meth c cc nL own D G A) {idx : Nat} (h1 : Cond.methodLink own idx Lib.Math.max.name ∈ gw) (h2 : Cond.static Lib.Math.max.name ∈ gw) (h3 : Cond.initialized "java/lang/Math" ∈ gw) (h4 : Cond.code Lib.Math.max.name Lib.Math.max.code 2 (some .int) ∈ gw) (hf : 1 ≤ R.frames) (hlo : 21 ≤ R.locals) (hst : (st.map fun v => v.category).sum ≤ 8) (hk : k ≤ R.cells) (hn : n ≤ R.slots) {x y : Int32} (d : decode cc pc = .ok (.invokestatic idx, 3))
    (kk : U p l e R s m args below meth c nL D A ws k n Q (pc + 3) L (.int (if x < y then y else x) :: st)) : U p l e R s m args below meth c nL D A ws k n Q pc L (.int y :: .int x :: st) := by
  intro ls hl H locs hP hD hS
  exact va_mmax hC.1.1 hC.1.2.1 (hC.1.2.2.1.trans hl.1.symm) hC.1.2.2.2.1 (hC.1.2.2.2.2 _ h1) (hC.1.2.2.2.2 _ h2) (hC.1.2.2.2.2 _ h3) (hC.1.2.2.2.2 _ h4) hf (by omega) hk hn d (kk ls hl H locs hP hD hS)
theorem u_mmin (hC : vx p s m args meth c cc nL own D G A) {idx : Nat} (h1 : Cond.methodLink own idx Lib.Math.min.name ∈ gw) (h2 : Cond.static Lib.Math.min.name ∈ gw) (h3 : Cond.initialized "java/lang/Math" ∈ gw) (h4 : Cond.code Lib.Math.min.name Lib.Math.min.code 2 (some .int) ∈ gw) (hf : 1 ≤ R.frames) (hlo : 21 ≤ R.locals) (hst : (st.map fun v => v.category).sum ≤ 8) (hk : k ≤ R.cells) (hn : n ≤ R.slots) {x y : Int32} (d : decode cc pc = .ok (.invokestatic idx, 3))
    (kk : U p l e R s m args below meth c nL D A ws k n Q (pc + 3) L (.int (if y < x then y else x) :: st)) : U p l e R s m args below meth c nL D A ws k n Q pc L (.int y :: .int x :: st) := by
  intro ls hl H locs hP hD hS
  exact va_mmin hC.1.1 hC.1.2.1 (hC.1.2.2.1.trans hl.1.symm) hC.1.2.2.2.1 (hC.1.2.2.2.2 _ h1) (hC.1.2.2.2.2 _ h2) (hC.1.2.2.2.2 _ h3) (hC.1.2.2.2.2 _ h4) hf (by omega) hk hn d (kk ls hl H locs hP hD hS)
end VJ
end
section
theorem i_M : ∀ w ∈ u_ws R_M F_M 12, w ∈ gw := by decide +kernel
theorem tt_M (j : Nat) (h : j < 12) : u_Ft j F_M 12 ty_M := ⟨tk_M, nm_M, h⟩
theorem i_D : ∀ w ∈ u_ws R_D F_D 3, w ∈ gw := by decide +kernel
theorem tt_D (j : Nat) (h : j < 3) : u_Ft j F_D 3 ty_D := ⟨tk_D, nm_D, h⟩
theorem i_G : ∀ w ∈ u_ws R_G F_G 4, w ∈ gw := by decide +kernel
theorem tt_G (j : Nat) (h : j < 4) : u_Ft j F_G 4 ty_G := ⟨tk_G, nm_G, h⟩
theorem i_T : ∀ w ∈ u_ws R_T F_T 5, w ∈ gw := by decide +kernel
theorem tt_T (j : Nat) (h : j < 5) : u_Ft j F_T 5 ty_T := ⟨tk_T, nm_T, h⟩
theorem i_L : ∀ w ∈ u_ws R_L F_L 3, w ∈ gw := by decide +kernel
theorem tt_L (j : Nat) (h : j < 3) : u_Ft j F_L 3 ty_L := ⟨tk_L, nm_L, h⟩
abbrev b_D_init : ByteArray := prog_1_method_1_code
def y_D_init : MethodName := ⟨R_D, "<init>", "()V"⟩
theorem cd_D_init : Cond.code y_D_init b_D_init 1 none ∈ gw := gw_in (List.mem_append_right _ (List.mem_of_getElem? (i := 18) rfl)) rfl
theorem i_D_init : Cond.instanceMethod y_D_init ∈ gw := gw_in (List.mem_append_right _ (List.mem_of_getElem? (i := 17) (by decide +kernel))) rfl
abbrev b_L_init : ByteArray := prog_13_method_2_code
def y_L_init : MethodName := ⟨R_L, "<init>", "()V"⟩
theorem cd_L_init : Cond.code y_L_init b_L_init 1 none ∈ gw := gw_in (List.mem_append_right _ (List.mem_of_getElem? (i := 28) rfl)) rfl
theorem i_L_init : Cond.instanceMethod y_L_init ∈ gw := gw_in (List.mem_append_right _ (List.mem_of_getElem? (i := 27) (by decide +kernel))) rfl
abbrev b_AL_init : ByteArray := prog_12_method_1_code
def y_AL_init : MethodName := ⟨R_AL, "<init>", "()V"⟩
theorem cd_AL_init : Cond.code y_AL_init b_AL_init 1 none ∈ gw := gw_in (List.mem_append_right _ (List.mem_of_getElem? (i := 31) rfl)) rfl
theorem i_AL_init : Cond.instanceMethod y_AL_init ∈ gw := gw_in (List.mem_append_right _ (List.mem_of_getElem? (i := 30) (by decide +kernel))) rfl
abbrev b_AC_init : ByteArray := prog_11_method_1_code
def y_AC_init : MethodName := ⟨R_AC, "<init>", "()V"⟩
theorem cd_AC_init : Cond.code y_AC_init b_AC_init 1 none ∈ gw := gw_in (List.mem_append_right _ (List.mem_of_getElem? (i := 34) rfl)) rfl
theorem i_AC_init : Cond.instanceMethod y_AC_init ∈ gw := gw_in (List.mem_append_right _ (List.mem_of_getElem? (i := 33) (by decide +kernel))) rfl
abbrev b_D_begin : ByteArray := prog_1_method_2_code
def y_D_begin : MethodName := ⟨R_D, "begin", "(II)Z"⟩
theorem cd_D_begin : Cond.code y_D_begin b_D_begin 3 (some .boolean) ∈ gw := gw_in (List.mem_append_right _ (List.mem_of_getElem? (i := 63) rfl)) rfl
theorem i_D_begin : Cond.instanceMethod y_D_begin ∈ gw ∧ Cond.selects y_D_begin.cls y_D_begin y_D_begin ∈ gw := ⟨gw_in (List.mem_append_right _ (List.mem_of_getElem? (i := 61) (by decide +kernel))) rfl, gw_in (List.mem_append_right _ (List.mem_of_getElem? (i := 62) (by decide +kernel))) rfl⟩
abbrev b_D_isSession : ByteArray := prog_1_method_19_code
def y_D_isSession : MethodName := ⟨R_D, "isSession", "(I)Z"⟩
theorem cd_D_isSession : Cond.code y_D_isSession b_D_isSession 1 (some .boolean) ∈ gw := gw_in (List.mem_append_right _ (List.mem_of_getElem? (i := 66) rfl)) rfl
theorem s_D_isSession : Cond.static y_D_isSession ∈ gw := gw_in (List.mem_append_right _ (List.mem_of_getElem? (i := 65) (by decide +kernel))) rfl
abbrev b_T_init : ByteArray := prog_3_method_1_code
def y_T_init : MethodName := ⟨R_T, "<init>", "(I)V"⟩
theorem cd_T_init : Cond.code y_T_init b_T_init 2 none ∈ gw := gw_in (List.mem_append_right _ (List.mem_of_getElem? (i := 70) rfl)) rfl
theorem i_T_init : Cond.instanceMethod y_T_init ∈ gw := gw_in (List.mem_append_right _ (List.mem_of_getElem? (i := 69) (by decide +kernel))) rfl
abbrev b_D_statement : ByteArray := prog_1_method_3_code
def y_D_statement : MethodName := ⟨R_D, "statement", "(I)I"⟩
theorem cd_D_statement : Cond.code y_D_statement b_D_statement 3 (some .int) ∈ gw := gw_in (List.mem_append_right _ (List.mem_of_getElem? (i := 97) rfl)) rfl
theorem i_D_statement : Cond.instanceMethod y_D_statement ∈ gw ∧ Cond.selects y_D_statement.cls y_D_statement y_D_statement ∈ gw := ⟨gw_in (List.mem_append_right _ (List.mem_of_getElem? (i := 95) (by decide +kernel))) rfl, gw_in (List.mem_append_right _ (List.mem_of_getElem? (i := 96) (by decide +kernel))) rfl⟩
abbrev b_D_transactionOf : ByteArray := prog_1_method_20_code
def y_D_transactionOf : MethodName := ⟨R_D, "transactionOf", "(I)LSnapshotDesk$Transaction;"⟩
theorem cd_D_transactionOf : Cond.code y_D_transactionOf b_D_transactionOf 2 (some (.object "SnapshotDesk$Transaction")) ∈ gw := gw_in (List.mem_append_right _ (List.mem_of_getElem? (i := 101) rfl)) rfl
theorem i_D_transactionOf : Cond.instanceMethod y_D_transactionOf ∈ gw ∧ Cond.selects y_D_transactionOf.cls y_D_transactionOf y_D_transactionOf ∈ gw := ⟨gw_in (List.mem_append_right _ (List.mem_of_getElem? (i := 100) (by decide +kernel))) rfl, gw_in (List.mem_append_left _ (List.mem_of_getElem? (i := 0) (by decide +kernel))) rfl⟩
abbrev b_T_hasSnapshot : ByteArray := prog_3_method_2_code
def y_T_hasSnapshot : MethodName := ⟨R_T, "hasSnapshot", "()Z"⟩
theorem cd_T_hasSnapshot : Cond.code y_T_hasSnapshot b_T_hasSnapshot 1 (some .boolean) ∈ gw := gw_in (List.mem_append_right _ (List.mem_of_getElem? (i := 105) rfl)) rfl
theorem i_T_hasSnapshot : Cond.instanceMethod y_T_hasSnapshot ∈ gw ∧ Cond.selects y_T_hasSnapshot.cls y_T_hasSnapshot y_T_hasSnapshot ∈ gw := ⟨gw_in (List.mem_append_right _ (List.mem_of_getElem? (i := 103) (by decide +kernel))) rfl, gw_in (List.mem_append_right _ (List.mem_of_getElem? (i := 104) (by decide +kernel))) rfl⟩
abbrev b_D_number : ByteArray := prog_1_method_4_code
def y_D_number : MethodName := ⟨R_D, "number", "(I)I"⟩
theorem cd_D_number : Cond.code y_D_number b_D_number 3 (some .int) ∈ gw := gw_in (List.mem_append_right _ (List.mem_of_getElem? (i := 109) rfl)) rfl
theorem i_D_number : Cond.instanceMethod y_D_number ∈ gw ∧ Cond.selects y_D_number.cls y_D_number y_D_number ∈ gw := ⟨gw_in (List.mem_append_right _ (List.mem_of_getElem? (i := 107) (by decide +kernel))) rfl, gw_in (List.mem_append_right _ (List.mem_of_getElem? (i := 108) (by decide +kernel))) rfl⟩
abbrev b_D_countLevelsWithoutNumber : ByteArray := prog_1_method_22_code
def y_D_countLevelsWithoutNumber : MethodName := ⟨R_D, "countLevelsWithoutNumber", "(LSnapshotDesk$Transaction;)I"⟩
theorem cd_D_countLevelsWithoutNumber : Cond.code y_D_countLevelsWithoutNumber b_D_countLevelsWithoutNumber 3 (some .int) ∈ gw := gw_in (List.mem_append_right _ (List.mem_of_getElem? (i := 112) rfl)) rfl
theorem s_D_countLevelsWithoutNumber : Cond.static y_D_countLevelsWithoutNumber ∈ gw := gw_in (List.mem_append_right _ (List.mem_of_getElem? (i := 111) (by decide +kernel))) rfl
abbrev b_L_size : ByteArray := prog_13_method_8_code
def y_L_size : MethodName := ⟨R_L, "size", "()I"⟩
theorem cd_L_size : Cond.code y_L_size b_L_size 1 (some .int) ∈ gw := gw_in (List.mem_append_right _ (List.mem_of_getElem? (i := 116) rfl)) rfl
theorem i_L_size : Cond.instanceMethod y_L_size ∈ gw ∧ Cond.selects y_L_size.cls y_L_size y_L_size ∈ gw := ⟨gw_in (List.mem_append_right _ (List.mem_of_getElem? (i := 114) (by decide +kernel))) rfl, gw_in (List.mem_append_right _ (List.mem_of_getElem? (i := 115) (by decide +kernel))) rfl⟩
abbrev b_D_giveMissingNumbers : ByteArray := prog_1_method_23_code
def y_D_giveMissingNumbers : MethodName := ⟨R_D, "giveMissingNumbers", "(LSnapshotDesk$Transaction;)V"⟩
theorem cd_D_giveMissingNumbers : Cond.code y_D_giveMissingNumbers b_D_giveMissingNumbers 3 none ∈ gw := gw_in (List.mem_append_right _ (List.mem_of_getElem? (i := 120) rfl)) rfl
theorem i_D_giveMissingNumbers : Cond.instanceMethod y_D_giveMissingNumbers ∈ gw ∧ Cond.selects y_D_giveMissingNumbers.cls y_D_giveMissingNumbers y_D_giveMissingNumbers ∈ gw := ⟨gw_in (List.mem_append_right _ (List.mem_of_getElem? (i := 119) (by decide +kernel))) rfl, gw_in (List.mem_append_left _ (List.mem_of_getElem? (i := 1) (by decide +kernel))) rfl⟩
abbrev b_G_init : ByteArray := prog_2_method_1_code
def y_G_init : MethodName := ⟨R_G, "<init>", "(II)V"⟩
theorem cd_G_init : Cond.code y_G_init b_G_init 3 none ∈ gw := gw_in (List.mem_append_right _ (List.mem_of_getElem? (i := 125) rfl)) rfl
theorem i_G_init : Cond.instanceMethod y_G_init ∈ gw := gw_in (List.mem_append_right _ (List.mem_of_getElem? (i := 124) (by decide +kernel))) rfl
abbrev b_L_add : ByteArray := prog_13_method_25_code
def y_L_add : MethodName := ⟨R_L, "add", "(Ljava/lang/Object;)Z"⟩
theorem cd_L_add : Cond.code y_L_add b_L_add 2 (some .boolean) ∈ gw := gw_in (List.mem_append_right _ (List.mem_of_getElem? (i := 148) rfl)) rfl
theorem i_L_add : Cond.instanceMethod y_L_add ∈ gw ∧ Cond.selects y_L_add.cls y_L_add y_L_add ∈ gw := ⟨gw_in (List.mem_append_right _ (List.mem_of_getElem? (i := 146) (by decide +kernel))) rfl, gw_in (List.mem_append_right _ (List.mem_of_getElem? (i := 147) (by decide +kernel))) rfl⟩
abbrev b_L_add3 : ByteArray := prog_13_method_24_code
def y_L_add3 : MethodName := ⟨R_L, "add", "(Ljava/lang/Object;[Ljava/lang/Object;I)V"⟩
theorem cd_L_add3 : Cond.code y_L_add3 b_L_add3 4 none ∈ gw := gw_in (List.mem_append_right _ (List.mem_of_getElem? (i := 152) rfl)) rfl
theorem i_L_add3 : Cond.instanceMethod y_L_add3 ∈ gw ∧ Cond.selects y_L_add3.cls y_L_add3 y_L_add3 ∈ gw := ⟨gw_in (List.mem_append_right _ (List.mem_of_getElem? (i := 151) (by decide +kernel))) rfl, gw_in (List.mem_append_left _ (List.mem_of_getElem? (i := 2) (by decide +kernel))) rfl⟩
abbrev b_L_grow : ByteArray := prog_13_method_7_code
def y_L_grow : MethodName := ⟨R_L, "grow", "()[Ljava/lang/Object;"⟩
theorem cd_L_grow : Cond.code y_L_grow b_L_grow 1 (some (.array (.object "java/lang/Object"))) ∈ gw := gw_in (List.mem_append_right _ (List.mem_of_getElem? (i := 156) rfl)) rfl
theorem i_L_grow : Cond.instanceMethod y_L_grow ∈ gw ∧ Cond.selects y_L_grow.cls y_L_grow y_L_grow ∈ gw := ⟨gw_in (List.mem_append_right _ (List.mem_of_getElem? (i := 155) (by decide +kernel))) rfl, gw_in (List.mem_append_left _ (List.mem_of_getElem? (i := 3) (by decide +kernel))) rfl⟩
abbrev b_L_growI : ByteArray := prog_13_method_6_code
def y_L_growI : MethodName := ⟨R_L, "grow", "(I)[Ljava/lang/Object;"⟩
theorem cd_L_growI : Cond.code y_L_growI b_L_growI 4 (some (.array (.object "java/lang/Object"))) ∈ gw := gw_in (List.mem_append_right _ (List.mem_of_getElem? (i := 160) rfl)) rfl
theorem i_L_growI : Cond.instanceMethod y_L_growI ∈ gw ∧ Cond.selects y_L_growI.cls y_L_growI y_L_growI ∈ gw := ⟨gw_in (List.mem_append_right _ (List.mem_of_getElem? (i := 159) (by decide +kernel))) rfl, gw_in (List.mem_append_left _ (List.mem_of_getElem? (i := 4) (by decide +kernel))) rfl⟩
abbrev b_AS_newLength : ByteArray := prog_20_method_27_code
def y_AS_newLength : MethodName := ⟨R_AS, "newLength", "(III)I"⟩
theorem cd_AS_newLength : Cond.code y_AS_newLength b_AS_newLength 4 (some .int) ∈ gw := gw_in (List.mem_append_right _ (List.mem_of_getElem? (i := 163) rfl)) rfl
theorem s_AS_newLength : Cond.static y_AS_newLength ∈ gw := gw_in (List.mem_append_right _ (List.mem_of_getElem? (i := 162) (by decide +kernel))) rfl
abbrev b_AS_hugeLength : ByteArray := prog_20_method_28_code
def y_AS_hugeLength : MethodName := ⟨R_AS, "hugeLength", "(II)I"⟩
theorem cd_AS_hugeLength : Cond.code y_AS_hugeLength b_AS_hugeLength 3 (some .int) ∈ gw := gw_in (List.mem_append_right _ (List.mem_of_getElem? (i := 170) rfl)) rfl
theorem s_AS_hugeLength : Cond.static y_AS_hugeLength ∈ gw := gw_in (List.mem_append_right _ (List.mem_of_getElem? (i := 169) (by decide +kernel))) rfl
abbrev b_AR_copyOf : ByteArray := prog_14_method_119_code
def y_AR_copyOf : MethodName := ⟨R_AR, "copyOf", "([Ljava/lang/Object;I)[Ljava/lang/Object;"⟩
theorem cd_AR_copyOf : Cond.code y_AR_copyOf b_AR_copyOf 2 (some (.array (.object "java/lang/Object"))) ∈ gw := gw_in (List.mem_append_right _ (List.mem_of_getElem? (i := 173) rfl)) rfl
theorem s_AR_copyOf : Cond.static y_AR_copyOf ∈ gw := gw_in (List.mem_append_right _ (List.mem_of_getElem? (i := 172) (by decide +kernel))) rfl
abbrev b_AR_copyOf3 : ByteArray := prog_14_method_120_code
def y_AR_copyOf3 : MethodName := ⟨R_AR, "copyOf", "([Ljava/lang/Object;ILjava/lang/Class;)[Ljava/lang/Object;"⟩
theorem cd_AR_copyOf3 : Cond.code y_AR_copyOf3 b_AR_copyOf3 4 (some (.array (.object "java/lang/Object"))) ∈ gw := gw_in (List.mem_append_right _ (List.mem_of_getElem? (i := 185) rfl)) rfl
theorem s_AR_copyOf3 : Cond.static y_AR_copyOf3 ∈ gw := gw_in (List.mem_append_right _ (List.mem_of_getElem? (i := 184) (by decide +kernel))) rfl
abbrev b_D_save : ByteArray := prog_1_method_5_code
def y_D_save : MethodName := ⟨R_D, "save", "(I)I"⟩
theorem cd_D_save : Cond.code y_D_save b_D_save 3 (some .int) ∈ gw := gw_in (List.mem_append_right _ (List.mem_of_getElem? (i := 200) rfl)) rfl
theorem i_D_save : Cond.instanceMethod y_D_save ∈ gw ∧ Cond.selects y_D_save.cls y_D_save y_D_save ∈ gw := ⟨gw_in (List.mem_append_right _ (List.mem_of_getElem? (i := 198) (by decide +kernel))) rfl, gw_in (List.mem_append_right _ (List.mem_of_getElem? (i := 199) (by decide +kernel))) rfl⟩
abbrev b_D_release : ByteArray := prog_1_method_6_code
def y_D_release : MethodName := ⟨R_D, "release", "(II)Z"⟩
theorem cd_D_release : Cond.code y_D_release b_D_release 6 (some .boolean) ∈ gw := gw_in (List.mem_append_right _ (List.mem_of_getElem? (i := 204) rfl)) rfl
theorem i_D_release : Cond.instanceMethod y_D_release ∈ gw ∧ Cond.selects y_D_release.cls y_D_release y_D_release ∈ gw := ⟨gw_in (List.mem_append_right _ (List.mem_of_getElem? (i := 202) (by decide +kernel))) rfl, gw_in (List.mem_append_right _ (List.mem_of_getElem? (i := 203) (by decide +kernel))) rfl⟩
abbrev b_T_canLeave : ByteArray := prog_3_method_4_code
def y_T_canLeave : MethodName := ⟨R_T, "canLeave", "(I)Z"⟩
theorem cd_T_canLeave : Cond.code y_T_canLeave b_T_canLeave 2 (some .boolean) ∈ gw := gw_in (List.mem_append_right _ (List.mem_of_getElem? (i := 208) rfl)) rfl
theorem i_T_canLeave : Cond.instanceMethod y_T_canLeave ∈ gw ∧ Cond.selects y_T_canLeave.cls y_T_canLeave y_T_canLeave ∈ gw := ⟨gw_in (List.mem_append_right _ (List.mem_of_getElem? (i := 206) (by decide +kernel))) rfl, gw_in (List.mem_append_right _ (List.mem_of_getElem? (i := 207) (by decide +kernel))) rfl⟩
abbrev b_L_get : ByteArray := prog_13_method_20_code
def y_L_get : MethodName := ⟨R_L, "get", "(I)Ljava/lang/Object;"⟩
theorem cd_L_get : Cond.code y_L_get b_L_get 2 (some (.object "java/lang/Object")) ∈ gw := gw_in (List.mem_append_right _ (List.mem_of_getElem? (i := 212) rfl)) rfl
theorem i_L_get : Cond.instanceMethod y_L_get ∈ gw ∧ Cond.selects y_L_get.cls y_L_get y_L_get ∈ gw := ⟨gw_in (List.mem_append_right _ (List.mem_of_getElem? (i := 210) (by decide +kernel))) rfl, gw_in (List.mem_append_right _ (List.mem_of_getElem? (i := 211) (by decide +kernel))) rfl⟩
abbrev b_O_checkIndex : ByteArray := prog_17_method_17_code
def y_O_checkIndex : MethodName := ⟨R_O, "checkIndex", "(II)I"⟩
theorem cd_O_checkIndex : Cond.code y_O_checkIndex b_O_checkIndex 2 (some .int) ∈ gw := gw_in (List.mem_append_right _ (List.mem_of_getElem? (i := 215) rfl)) rfl
theorem s_O_checkIndex : Cond.static y_O_checkIndex ∈ gw := gw_in (List.mem_append_right _ (List.mem_of_getElem? (i := 214) (by decide +kernel))) rfl
abbrev b_P_checkIndex : ByteArray := prog_21_method_11_code
def y_P_checkIndex : MethodName := ⟨R_P, "checkIndex", "(IILjava/util/function/BiFunction;)I"⟩
theorem cd_P_checkIndex : Cond.code y_P_checkIndex b_P_checkIndex 3 (some .int) ∈ gw := gw_in (List.mem_append_right _ (List.mem_of_getElem? (i := 218) rfl)) rfl
theorem s_P_checkIndex : Cond.static y_P_checkIndex ∈ gw := gw_in (List.mem_append_right _ (List.mem_of_getElem? (i := 217) (by decide +kernel))) rfl
abbrev b_L_elementData : ByteArray := prog_13_method_18_code
def y_L_elementData : MethodName := ⟨R_L, "elementData", "(I)Ljava/lang/Object;"⟩
theorem cd_L_elementData : Cond.code y_L_elementData b_L_elementData 2 (some (.object "java/lang/Object")) ∈ gw := gw_in (List.mem_append_right _ (List.mem_of_getElem? (i := 222) rfl)) rfl
theorem i_L_elementData : Cond.instanceMethod y_L_elementData ∈ gw ∧ Cond.selects y_L_elementData.cls y_L_elementData y_L_elementData ∈ gw := ⟨gw_in (List.mem_append_right _ (List.mem_of_getElem? (i := 220) (by decide +kernel))) rfl, gw_in (List.mem_append_right _ (List.mem_of_getElem? (i := 221) (by decide +kernel))) rfl⟩
abbrev b_T_owns : ByteArray := prog_3_method_3_code
def y_T_owns : MethodName := ⟨R_T, "owns", "(LSnapshotDesk$Given;)Z"⟩
theorem cd_T_owns : Cond.code y_T_owns b_T_owns 2 (some .boolean) ∈ gw := gw_in (List.mem_append_right _ (List.mem_of_getElem? (i := 226) rfl)) rfl
theorem i_T_owns : Cond.instanceMethod y_T_owns ∈ gw ∧ Cond.selects y_T_owns.cls y_T_owns y_T_owns ∈ gw := ⟨gw_in (List.mem_append_right _ (List.mem_of_getElem? (i := 224) (by decide +kernel))) rfl, gw_in (List.mem_append_right _ (List.mem_of_getElem? (i := 225) (by decide +kernel))) rfl⟩
abbrev b_T_clearLevelsFrom : ByteArray := prog_3_method_5_code
def y_T_clearLevelsFrom : MethodName := ⟨R_T, "clearLevelsFrom", "(I)V"⟩
theorem cd_T_clearLevelsFrom : Cond.code y_T_clearLevelsFrom b_T_clearLevelsFrom 3 none ∈ gw := gw_in (List.mem_append_right _ (List.mem_of_getElem? (i := 230) rfl)) rfl
theorem i_T_clearLevelsFrom : Cond.instanceMethod y_T_clearLevelsFrom ∈ gw ∧ Cond.selects y_T_clearLevelsFrom.cls y_T_clearLevelsFrom y_T_clearLevelsFrom ∈ gw := ⟨gw_in (List.mem_append_right _ (List.mem_of_getElem? (i := 228) (by decide +kernel))) rfl, gw_in (List.mem_append_right _ (List.mem_of_getElem? (i := 229) (by decide +kernel))) rfl⟩
abbrev b_D_back : ByteArray := prog_1_method_7_code
def y_D_back : MethodName := ⟨R_D, "back", "(II)Z"⟩
theorem cd_D_back : Cond.code y_D_back b_D_back 4 (some .boolean) ∈ gw := gw_in (List.mem_append_right _ (List.mem_of_getElem? (i := 234) rfl)) rfl
theorem i_D_back : Cond.instanceMethod y_D_back ∈ gw ∧ Cond.selects y_D_back.cls y_D_back y_D_back ∈ gw := ⟨gw_in (List.mem_append_right _ (List.mem_of_getElem? (i := 232) (by decide +kernel))) rfl, gw_in (List.mem_append_right _ (List.mem_of_getElem? (i := 233) (by decide +kernel))) rfl⟩
abbrev b_D_abortNumbersFrom : ByteArray := prog_1_method_24_code
def y_D_abortNumbersFrom : MethodName := ⟨R_D, "abortNumbersFrom", "(LSnapshotDesk$Transaction;I)V"⟩
theorem cd_D_abortNumbersFrom : Cond.code y_D_abortNumbersFrom b_D_abortNumbersFrom 5 none ∈ gw := gw_in (List.mem_append_right _ (List.mem_of_getElem? (i := 238) rfl)) rfl
theorem i_D_abortNumbersFrom : Cond.instanceMethod y_D_abortNumbersFrom ∈ gw ∧ Cond.selects y_D_abortNumbersFrom.cls y_D_abortNumbersFrom y_D_abortNumbersFrom ∈ gw := ⟨gw_in (List.mem_append_right _ (List.mem_of_getElem? (i := 237) (by decide +kernel))) rfl, gw_in (List.mem_append_left _ (List.mem_of_getElem? (i := 5) (by decide +kernel))) rfl⟩
abbrev b_D_commit : ByteArray := prog_1_method_8_code
def y_D_commit : MethodName := ⟨R_D, "commit", "(I)I"⟩
theorem cd_D_commit : Cond.code y_D_commit b_D_commit 3 (some .int) ∈ gw := gw_in (List.mem_append_right _ (List.mem_of_getElem? (i := 242) rfl)) rfl
theorem i_D_commit : Cond.instanceMethod y_D_commit ∈ gw ∧ Cond.selects y_D_commit.cls y_D_commit y_D_commit ∈ gw := ⟨gw_in (List.mem_append_right _ (List.mem_of_getElem? (i := 240) (by decide +kernel))) rfl, gw_in (List.mem_append_right _ (List.mem_of_getElem? (i := 241) (by decide +kernel))) rfl⟩
abbrev b_D_commitRunningNumbers : ByteArray := prog_1_method_25_code
def y_D_commitRunningNumbers : MethodName := ⟨R_D, "commitRunningNumbers", "(LSnapshotDesk$Transaction;)V"⟩
theorem cd_D_commitRunningNumbers : Cond.code y_D_commitRunningNumbers b_D_commitRunningNumbers 4 none ∈ gw := gw_in (List.mem_append_right _ (List.mem_of_getElem? (i := 246) rfl)) rfl
theorem i_D_commitRunningNumbers : Cond.instanceMethod y_D_commitRunningNumbers ∈ gw ∧ Cond.selects y_D_commitRunningNumbers.cls y_D_commitRunningNumbers y_D_commitRunningNumbers ∈ gw := ⟨gw_in (List.mem_append_right _ (List.mem_of_getElem? (i := 245) (by decide +kernel))) rfl, gw_in (List.mem_append_left _ (List.mem_of_getElem? (i := 6) (by decide +kernel))) rfl⟩
abbrev b_D_abort : ByteArray := prog_1_method_9_code
def y_D_abort : MethodName := ⟨R_D, "abort", "(I)Z"⟩
theorem cd_D_abort : Cond.code y_D_abort b_D_abort 3 (some .boolean) ∈ gw := gw_in (List.mem_append_right _ (List.mem_of_getElem? (i := 250) rfl)) rfl
theorem i_D_abort : Cond.instanceMethod y_D_abort ∈ gw ∧ Cond.selects y_D_abort.cls y_D_abort y_D_abort ∈ gw := ⟨gw_in (List.mem_append_right _ (List.mem_of_getElem? (i := 248) (by decide +kernel))) rfl, gw_in (List.mem_append_right _ (List.mem_of_getElem? (i := 249) (by decide +kernel))) rfl⟩
abbrev b_D_crash : ByteArray := prog_1_method_10_code
def y_D_crash : MethodName := ⟨R_D, "crash", "()V"⟩
theorem cd_D_crash : Cond.code y_D_crash b_D_crash 2 none ∈ gw := gw_in (List.mem_append_right _ (List.mem_of_getElem? (i := 254) rfl)) rfl
theorem i_D_crash : Cond.instanceMethod y_D_crash ∈ gw ∧ Cond.selects y_D_crash.cls y_D_crash y_D_crash ∈ gw := ⟨gw_in (List.mem_append_right _ (List.mem_of_getElem? (i := 252) (by decide +kernel))) rfl, gw_in (List.mem_append_right _ (List.mem_of_getElem? (i := 253) (by decide +kernel))) rfl⟩
abbrev b_D_state : ByteArray := prog_1_method_11_code
def y_D_state : MethodName := ⟨R_D, "state", "(I)I"⟩
theorem cd_D_state : Cond.code y_D_state b_D_state 3 (some .int) ∈ gw := gw_in (List.mem_append_right _ (List.mem_of_getElem? (i := 259) rfl)) rfl
theorem i_D_state : Cond.instanceMethod y_D_state ∈ gw ∧ Cond.selects y_D_state.cls y_D_state y_D_state ∈ gw := ⟨gw_in (List.mem_append_right _ (List.mem_of_getElem? (i := 257) (by decide +kernel))) rfl, gw_in (List.mem_append_right _ (List.mem_of_getElem? (i := 258) (by decide +kernel))) rfl⟩
abbrev b_D_find : ByteArray := prog_1_method_21_code
def y_D_find : MethodName := ⟨R_D, "find", "(I)LSnapshotDesk$Given;"⟩
theorem cd_D_find : Cond.code y_D_find b_D_find 2 (some (.object "SnapshotDesk$Given")) ∈ gw := gw_in (List.mem_append_right _ (List.mem_of_getElem? (i := 263) rfl)) rfl
theorem i_D_find : Cond.instanceMethod y_D_find ∈ gw ∧ Cond.selects y_D_find.cls y_D_find y_D_find ∈ gw := ⟨gw_in (List.mem_append_right _ (List.mem_of_getElem? (i := 262) (by decide +kernel))) rfl, gw_in (List.mem_append_left _ (List.mem_of_getElem? (i := 7) (by decide +kernel))) rfl⟩
abbrev b_D_root : ByteArray := prog_1_method_12_code
def y_D_root : MethodName := ⟨R_D, "root", "(I)I"⟩
theorem cd_D_root : Cond.code y_D_root b_D_root 3 (some .int) ∈ gw := gw_in (List.mem_append_right _ (List.mem_of_getElem? (i := 267) rfl)) rfl
theorem i_D_root : Cond.instanceMethod y_D_root ∈ gw ∧ Cond.selects y_D_root.cls y_D_root y_D_root ∈ gw := ⟨gw_in (List.mem_append_right _ (List.mem_of_getElem? (i := 265) (by decide +kernel))) rfl, gw_in (List.mem_append_right _ (List.mem_of_getElem? (i := 266) (by decide +kernel))) rfl⟩
abbrev b_D_place : ByteArray := prog_1_method_13_code
def y_D_place : MethodName := ⟨R_D, "place", "(I)I"⟩
theorem cd_D_place : Cond.code y_D_place b_D_place 3 (some .int) ∈ gw := gw_in (List.mem_append_right _ (List.mem_of_getElem? (i := 271) rfl)) rfl
theorem i_D_place : Cond.instanceMethod y_D_place ∈ gw ∧ Cond.selects y_D_place.cls y_D_place y_D_place ∈ gw := ⟨gw_in (List.mem_append_right _ (List.mem_of_getElem? (i := 269) (by decide +kernel))) rfl, gw_in (List.mem_append_right _ (List.mem_of_getElem? (i := 270) (by decide +kernel))) rfl⟩
abbrev b_D_sees : ByteArray := prog_1_method_14_code
def y_D_sees : MethodName := ⟨R_D, "sees", "(IIIII)Z"⟩
theorem cd_D_sees : Cond.code y_D_sees b_D_sees 7 (some .boolean) ∈ gw := gw_in (List.mem_append_right _ (List.mem_of_getElem? (i := 275) rfl)) rfl
theorem i_D_sees : Cond.instanceMethod y_D_sees ∈ gw ∧ Cond.selects y_D_sees.cls y_D_sees y_D_sees ∈ gw := ⟨gw_in (List.mem_append_right _ (List.mem_of_getElem? (i := 273) (by decide +kernel))) rfl, gw_in (List.mem_append_right _ (List.mem_of_getElem? (i := 274) (by decide +kernel))) rfl⟩
abbrev b_D_seesDeed : ByteArray := prog_1_method_26_code
def y_D_seesDeed : MethodName := ⟨R_D, "seesDeed", "(LSnapshotDesk$Transaction;LSnapshotDesk$Given;I)Z"⟩
theorem cd_D_seesDeed : Cond.code y_D_seesDeed b_D_seesDeed 3 (some .boolean) ∈ gw := gw_in (List.mem_append_right _ (List.mem_of_getElem? (i := 278) rfl)) rfl
theorem s_D_seesDeed : Cond.static y_D_seesDeed ∈ gw := gw_in (List.mem_append_right _ (List.mem_of_getElem? (i := 277) (by decide +kernel))) rfl
abbrev b_D_ending : ByteArray := prog_1_method_15_code
def y_D_ending : MethodName := ⟨R_D, "ending", "(III)I"⟩
theorem cd_D_ending : Cond.code y_D_ending b_D_ending 7 (some .int) ∈ gw := gw_in (List.mem_append_right _ (List.mem_of_getElem? (i := 282) rfl)) rfl
theorem i_D_ending : Cond.instanceMethod y_D_ending ∈ gw ∧ Cond.selects y_D_ending.cls y_D_ending y_D_ending ∈ gw := ⟨gw_in (List.mem_append_right _ (List.mem_of_getElem? (i := 280) (by decide +kernel))) rfl, gw_in (List.mem_append_right _ (List.mem_of_getElem? (i := 281) (by decide +kernel))) rfl⟩
abbrev b_D_dead : ByteArray := prog_1_method_16_code
def y_D_dead : MethodName := ⟨R_D, "dead", "(II)Z"⟩
theorem cd_D_dead : Cond.code y_D_dead b_D_dead 4 (some .boolean) ∈ gw := gw_in (List.mem_append_right _ (List.mem_of_getElem? (i := 286) rfl)) rfl
theorem i_D_dead : Cond.instanceMethod y_D_dead ∈ gw ∧ Cond.selects y_D_dead.cls y_D_dead y_D_dead ∈ gw := ⟨gw_in (List.mem_append_right _ (List.mem_of_getElem? (i := 284) (by decide +kernel))) rfl, gw_in (List.mem_append_right _ (List.mem_of_getElem? (i := 285) (by decide +kernel))) rfl⟩
abbrev b_D_isInEveryLiveSnapshot : ByteArray := prog_1_method_27_code
def y_D_isInEveryLiveSnapshot : MethodName := ⟨R_D, "isInEveryLiveSnapshot", "(LSnapshotDesk$Given;)Z"⟩
theorem cd_D_isInEveryLiveSnapshot : Cond.code y_D_isInEveryLiveSnapshot b_D_isInEveryLiveSnapshot 4 (some .boolean) ∈ gw := gw_in (List.mem_append_right _ (List.mem_of_getElem? (i := 290) rfl)) rfl
theorem i_D_isInEveryLiveSnapshot : Cond.instanceMethod y_D_isInEveryLiveSnapshot ∈ gw ∧ Cond.selects y_D_isInEveryLiveSnapshot.cls y_D_isInEveryLiveSnapshot y_D_isInEveryLiveSnapshot ∈ gw := ⟨gw_in (List.mem_append_right _ (List.mem_of_getElem? (i := 289) (by decide +kernel))) rfl, gw_in (List.mem_append_left _ (List.mem_of_getElem? (i := 8) (by decide +kernel))) rfl⟩
abbrev b_D_look : ByteArray := prog_1_method_17_code
def y_D_look : MethodName := ⟨R_D, "look", "(II)I"⟩
theorem cd_D_look : Cond.code y_D_look b_D_look 4 (some .int) ∈ gw := gw_in (List.mem_append_right _ (List.mem_of_getElem? (i := 294) rfl)) rfl
theorem i_D_look : Cond.instanceMethod y_D_look ∈ gw ∧ Cond.selects y_D_look.cls y_D_look y_D_look ∈ gw := ⟨gw_in (List.mem_append_right _ (List.mem_of_getElem? (i := 292) (by decide +kernel))) rfl, gw_in (List.mem_append_right _ (List.mem_of_getElem? (i := 293) (by decide +kernel))) rfl⟩
abbrev b_D_lookAt : ByteArray := prog_1_method_18_code
def y_D_lookAt : MethodName := ⟨R_D, "lookAt", "(LSnapshotDesk$Transaction;I)I"⟩
theorem cd_D_lookAt : Cond.code y_D_lookAt b_D_lookAt 2 (some .int) ∈ gw := gw_in (List.mem_append_right _ (List.mem_of_getElem? (i := 297) rfl)) rfl
theorem s_D_lookAt : Cond.static y_D_lookAt ∈ gw := gw_in (List.mem_append_right _ (List.mem_of_getElem? (i := 296) (by decide +kernel))) rfl
abbrev b_M_init : ByteArray := prog_5_method_1_code
def y_M_init : MethodName := ⟨R_M, "<init>", "()V"⟩
theorem cd_M_init : Cond.code y_M_init b_M_init 1 none ∈ gw := gw_in (List.mem_append_right _ (List.mem_of_getElem? (i := 302) rfl)) rfl
theorem i_M_init : Cond.instanceMethod y_M_init ∈ gw := gw_in (List.mem_append_right _ (List.mem_of_getElem? (i := 301) (by decide +kernel))) rfl
abbrev b_M_begin : ByteArray := prog_5_method_4_code
def y_M_begin : MethodName := ⟨R_M, "begin", "(II)Z"⟩
theorem cd_M_begin : Cond.code y_M_begin b_M_begin 3 (some .boolean) ∈ gw := gw_in (List.mem_append_right _ (List.mem_of_getElem? (i := 345) rfl)) rfl
theorem i_M_begin : Cond.instanceMethod y_M_begin ∈ gw ∧ Cond.selects y_M_begin.cls y_M_begin y_M_begin ∈ gw := ⟨gw_in (List.mem_append_right _ (List.mem_of_getElem? (i := 343) (by decide +kernel))) rfl, gw_in (List.mem_append_right _ (List.mem_of_getElem? (i := 344) (by decide +kernel))) rfl⟩
abbrev b_M_statement : ByteArray := prog_5_method_5_code
def y_M_statement : MethodName := ⟨R_M, "statement", "(I)I"⟩
theorem cd_M_statement : Cond.code y_M_statement b_M_statement 2 (some .int) ∈ gw := gw_in (List.mem_append_right _ (List.mem_of_getElem? (i := 349) rfl)) rfl
theorem i_M_statement : Cond.instanceMethod y_M_statement ∈ gw ∧ Cond.selects y_M_statement.cls y_M_statement y_M_statement ∈ gw := ⟨gw_in (List.mem_append_right _ (List.mem_of_getElem? (i := 347) (by decide +kernel))) rfl, gw_in (List.mem_append_right _ (List.mem_of_getElem? (i := 348) (by decide +kernel))) rfl⟩
abbrev b_M_runs : ByteArray := prog_5_method_2_code
def y_M_runs : MethodName := ⟨R_M, "runs", "(I)Z"⟩
theorem cd_M_runs : Cond.code y_M_runs b_M_runs 2 (some .boolean) ∈ gw := gw_in (List.mem_append_right _ (List.mem_of_getElem? (i := 353) rfl)) rfl
theorem i_M_runs : Cond.instanceMethod y_M_runs ∈ gw ∧ Cond.selects y_M_runs.cls y_M_runs y_M_runs ∈ gw := ⟨gw_in (List.mem_append_right _ (List.mem_of_getElem? (i := 352) (by decide +kernel))) rfl, gw_in (List.mem_append_left _ (List.mem_of_getElem? (i := 9) (by decide +kernel))) rfl⟩
abbrev b_M_number : ByteArray := prog_5_method_6_code
def y_M_number : MethodName := ⟨R_M, "number", "(I)I"⟩
theorem cd_M_number : Cond.code y_M_number b_M_number 4 (some .int) ∈ gw := gw_in (List.mem_append_right _ (List.mem_of_getElem? (i := 357) rfl)) rfl
theorem i_M_number : Cond.instanceMethod y_M_number ∈ gw ∧ Cond.selects y_M_number.cls y_M_number y_M_number ∈ gw := ⟨gw_in (List.mem_append_right _ (List.mem_of_getElem? (i := 355) (by decide +kernel))) rfl, gw_in (List.mem_append_right _ (List.mem_of_getElem? (i := 356) (by decide +kernel))) rfl⟩
abbrev b_M_save : ByteArray := prog_5_method_7_code
def y_M_save : MethodName := ⟨R_M, "save", "(I)I"⟩
theorem cd_M_save : Cond.code y_M_save b_M_save 2 (some .int) ∈ gw := gw_in (List.mem_append_right _ (List.mem_of_getElem? (i := 361) rfl)) rfl
theorem i_M_save : Cond.instanceMethod y_M_save ∈ gw ∧ Cond.selects y_M_save.cls y_M_save y_M_save ∈ gw := ⟨gw_in (List.mem_append_right _ (List.mem_of_getElem? (i := 359) (by decide +kernel))) rfl, gw_in (List.mem_append_right _ (List.mem_of_getElem? (i := 360) (by decide +kernel))) rfl⟩
abbrev b_M_release : ByteArray := prog_5_method_9_code
def y_M_release : MethodName := ⟨R_M, "release", "(II)Z"⟩
theorem cd_M_release : Cond.code y_M_release b_M_release 4 (some .boolean) ∈ gw := gw_in (List.mem_append_right _ (List.mem_of_getElem? (i := 365) rfl)) rfl
theorem i_M_release : Cond.instanceMethod y_M_release ∈ gw ∧ Cond.selects y_M_release.cls y_M_release y_M_release ∈ gw := ⟨gw_in (List.mem_append_right _ (List.mem_of_getElem? (i := 363) (by decide +kernel))) rfl, gw_in (List.mem_append_right _ (List.mem_of_getElem? (i := 364) (by decide +kernel))) rfl⟩
abbrev b_M_isFrom : ByteArray := prog_5_method_8_code
def y_M_isFrom : MethodName := ⟨R_M, "isFrom", "(III)Z"⟩
theorem cd_M_isFrom : Cond.code y_M_isFrom b_M_isFrom 4 (some .boolean) ∈ gw := gw_in (List.mem_append_right _ (List.mem_of_getElem? (i := 369) rfl)) rfl
theorem i_M_isFrom : Cond.instanceMethod y_M_isFrom ∈ gw ∧ Cond.selects y_M_isFrom.cls y_M_isFrom y_M_isFrom ∈ gw := ⟨gw_in (List.mem_append_right _ (List.mem_of_getElem? (i := 368) (by decide +kernel))) rfl, gw_in (List.mem_append_left _ (List.mem_of_getElem? (i := 10) (by decide +kernel))) rfl⟩
abbrev b_M_back : ByteArray := prog_5_method_10_code
def y_M_back : MethodName := ⟨R_M, "back", "(II)Z"⟩
theorem cd_M_back : Cond.code y_M_back b_M_back 4 (some .boolean) ∈ gw := gw_in (List.mem_append_right _ (List.mem_of_getElem? (i := 373) rfl)) rfl
theorem i_M_back : Cond.instanceMethod y_M_back ∈ gw ∧ Cond.selects y_M_back.cls y_M_back y_M_back ∈ gw := ⟨gw_in (List.mem_append_right _ (List.mem_of_getElem? (i := 371) (by decide +kernel))) rfl, gw_in (List.mem_append_right _ (List.mem_of_getElem? (i := 372) (by decide +kernel))) rfl⟩
abbrev b_M_commit : ByteArray := prog_5_method_12_code
def y_M_commit : MethodName := ⟨R_M, "commit", "(I)I"⟩
theorem cd_M_commit : Cond.code y_M_commit b_M_commit 3 (some .int) ∈ gw := gw_in (List.mem_append_right _ (List.mem_of_getElem? (i := 377) rfl)) rfl
theorem i_M_commit : Cond.instanceMethod y_M_commit ∈ gw ∧ Cond.selects y_M_commit.cls y_M_commit y_M_commit ∈ gw := ⟨gw_in (List.mem_append_right _ (List.mem_of_getElem? (i := 375) (by decide +kernel))) rfl, gw_in (List.mem_append_right _ (List.mem_of_getElem? (i := 376) (by decide +kernel))) rfl⟩
abbrev b_M_ends : ByteArray := prog_5_method_11_code
def y_M_ends : MethodName := ⟨R_M, "ends", "(II)I"⟩
theorem cd_M_ends : Cond.code y_M_ends b_M_ends 5 (some .int) ∈ gw := gw_in (List.mem_append_right _ (List.mem_of_getElem? (i := 381) rfl)) rfl
theorem i_M_ends : Cond.instanceMethod y_M_ends ∈ gw ∧ Cond.selects y_M_ends.cls y_M_ends y_M_ends ∈ gw := ⟨gw_in (List.mem_append_right _ (List.mem_of_getElem? (i := 380) (by decide +kernel))) rfl, gw_in (List.mem_append_left _ (List.mem_of_getElem? (i := 11) (by decide +kernel))) rfl⟩
abbrev b_M_abort : ByteArray := prog_5_method_13_code
def y_M_abort : MethodName := ⟨R_M, "abort", "(I)Z"⟩
theorem cd_M_abort : Cond.code y_M_abort b_M_abort 3 (some .boolean) ∈ gw := gw_in (List.mem_append_right _ (List.mem_of_getElem? (i := 385) rfl)) rfl
theorem i_M_abort : Cond.instanceMethod y_M_abort ∈ gw ∧ Cond.selects y_M_abort.cls y_M_abort y_M_abort ∈ gw := ⟨gw_in (List.mem_append_right _ (List.mem_of_getElem? (i := 383) (by decide +kernel))) rfl, gw_in (List.mem_append_right _ (List.mem_of_getElem? (i := 384) (by decide +kernel))) rfl⟩
abbrev b_M_crash : ByteArray := prog_5_method_14_code
def y_M_crash : MethodName := ⟨R_M, "crash", "()V"⟩
theorem cd_M_crash : Cond.code y_M_crash b_M_crash 3 none ∈ gw := gw_in (List.mem_append_right _ (List.mem_of_getElem? (i := 389) rfl)) rfl
theorem i_M_crash : Cond.instanceMethod y_M_crash ∈ gw ∧ Cond.selects y_M_crash.cls y_M_crash y_M_crash ∈ gw := ⟨gw_in (List.mem_append_right _ (List.mem_of_getElem? (i := 387) (by decide +kernel))) rfl, gw_in (List.mem_append_right _ (List.mem_of_getElem? (i := 388) (by decide +kernel))) rfl⟩
abbrev b_M_state : ByteArray := prog_5_method_15_code
def y_M_state : MethodName := ⟨R_M, "state", "(I)I"⟩
theorem cd_M_state : Cond.code y_M_state b_M_state 2 (some .int) ∈ gw := gw_in (List.mem_append_right _ (List.mem_of_getElem? (i := 394) rfl)) rfl
theorem i_M_state : Cond.instanceMethod y_M_state ∈ gw ∧ Cond.selects y_M_state.cls y_M_state y_M_state ∈ gw := ⟨gw_in (List.mem_append_right _ (List.mem_of_getElem? (i := 392) (by decide +kernel))) rfl, gw_in (List.mem_append_right _ (List.mem_of_getElem? (i := 393) (by decide +kernel))) rfl⟩
abbrev b_M_isGiven : ByteArray := prog_5_method_3_code
def y_M_isGiven : MethodName := ⟨R_M, "isGiven", "(I)Z"⟩
theorem cd_M_isGiven : Cond.code y_M_isGiven b_M_isGiven 2 (some .boolean) ∈ gw := gw_in (List.mem_append_right _ (List.mem_of_getElem? (i := 398) rfl)) rfl
theorem i_M_isGiven : Cond.instanceMethod y_M_isGiven ∈ gw ∧ Cond.selects y_M_isGiven.cls y_M_isGiven y_M_isGiven ∈ gw := ⟨gw_in (List.mem_append_right _ (List.mem_of_getElem? (i := 397) (by decide +kernel))) rfl, gw_in (List.mem_append_left _ (List.mem_of_getElem? (i := 12) (by decide +kernel))) rfl⟩
abbrev b_M_root : ByteArray := prog_5_method_16_code
def y_M_root : MethodName := ⟨R_M, "root", "(I)I"⟩
theorem cd_M_root : Cond.code y_M_root b_M_root 2 (some .int) ∈ gw := gw_in (List.mem_append_right _ (List.mem_of_getElem? (i := 402) rfl)) rfl
theorem i_M_root : Cond.instanceMethod y_M_root ∈ gw ∧ Cond.selects y_M_root.cls y_M_root y_M_root ∈ gw := ⟨gw_in (List.mem_append_right _ (List.mem_of_getElem? (i := 400) (by decide +kernel))) rfl, gw_in (List.mem_append_right _ (List.mem_of_getElem? (i := 401) (by decide +kernel))) rfl⟩
abbrev b_M_place : ByteArray := prog_5_method_17_code
def y_M_place : MethodName := ⟨R_M, "place", "(I)I"⟩
theorem cd_M_place : Cond.code y_M_place b_M_place 2 (some .int) ∈ gw := gw_in (List.mem_append_right _ (List.mem_of_getElem? (i := 406) rfl)) rfl
theorem i_M_place : Cond.instanceMethod y_M_place ∈ gw ∧ Cond.selects y_M_place.cls y_M_place y_M_place ∈ gw := ⟨gw_in (List.mem_append_right _ (List.mem_of_getElem? (i := 404) (by decide +kernel))) rfl, gw_in (List.mem_append_right _ (List.mem_of_getElem? (i := 405) (by decide +kernel))) rfl⟩
abbrev b_M_sees : ByteArray := prog_5_method_19_code
def y_M_sees : MethodName := ⟨R_M, "sees", "(IIIII)Z"⟩
theorem cd_M_sees : Cond.code y_M_sees b_M_sees 6 (some .boolean) ∈ gw := gw_in (List.mem_append_right _ (List.mem_of_getElem? (i := 410) rfl)) rfl
theorem i_M_sees : Cond.instanceMethod y_M_sees ∈ gw ∧ Cond.selects y_M_sees.cls y_M_sees y_M_sees ∈ gw := ⟨gw_in (List.mem_append_right _ (List.mem_of_getElem? (i := 408) (by decide +kernel))) rfl, gw_in (List.mem_append_right _ (List.mem_of_getElem? (i := 409) (by decide +kernel))) rfl⟩
abbrev b_M_isSeen : ByteArray := prog_5_method_18_code
def y_M_isSeen : MethodName := ⟨R_M, "isSeen", "(III)Z"⟩
theorem cd_M_isSeen : Cond.code y_M_isSeen b_M_isSeen 4 (some .boolean) ∈ gw := gw_in (List.mem_append_right _ (List.mem_of_getElem? (i := 414) rfl)) rfl
theorem i_M_isSeen : Cond.instanceMethod y_M_isSeen ∈ gw ∧ Cond.selects y_M_isSeen.cls y_M_isSeen y_M_isSeen ∈ gw := ⟨gw_in (List.mem_append_right _ (List.mem_of_getElem? (i := 413) (by decide +kernel))) rfl, gw_in (List.mem_append_left _ (List.mem_of_getElem? (i := 13) (by decide +kernel))) rfl⟩
abbrev b_M_ending : ByteArray := prog_5_method_20_code
def y_M_ending : MethodName := ⟨R_M, "ending", "(III)I"⟩
theorem cd_M_ending : Cond.code y_M_ending b_M_ending 5 (some .int) ∈ gw := gw_in (List.mem_append_right _ (List.mem_of_getElem? (i := 418) rfl)) rfl
theorem i_M_ending : Cond.instanceMethod y_M_ending ∈ gw ∧ Cond.selects y_M_ending.cls y_M_ending y_M_ending ∈ gw := ⟨gw_in (List.mem_append_right _ (List.mem_of_getElem? (i := 416) (by decide +kernel))) rfl, gw_in (List.mem_append_right _ (List.mem_of_getElem? (i := 417) (by decide +kernel))) rfl⟩
abbrev b_M_dead : ByteArray := prog_5_method_21_code
def y_M_dead : MethodName := ⟨R_M, "dead", "(II)Z"⟩
theorem cd_M_dead : Cond.code y_M_dead b_M_dead 5 (some .boolean) ∈ gw := gw_in (List.mem_append_right _ (List.mem_of_getElem? (i := 422) rfl)) rfl
theorem i_M_dead : Cond.instanceMethod y_M_dead ∈ gw ∧ Cond.selects y_M_dead.cls y_M_dead y_M_dead ∈ gw := ⟨gw_in (List.mem_append_right _ (List.mem_of_getElem? (i := 420) (by decide +kernel))) rfl, gw_in (List.mem_append_right _ (List.mem_of_getElem? (i := 421) (by decide +kernel))) rfl⟩
abbrev b_M_look : ByteArray := prog_5_method_22_code
def y_M_look : MethodName := ⟨R_M, "look", "(II)I"⟩
theorem cd_M_look : Cond.code y_M_look b_M_look 3 (some .int) ∈ gw := gw_in (List.mem_append_right _ (List.mem_of_getElem? (i := 426) rfl)) rfl
theorem i_M_look : Cond.instanceMethod y_M_look ∈ gw ∧ Cond.selects y_M_look.cls y_M_look y_M_look ∈ gw := ⟨gw_in (List.mem_append_right _ (List.mem_of_getElem? (i := 424) (by decide +kernel))) rfl, gw_in (List.mem_append_right _ (List.mem_of_getElem? (i := 425) (by decide +kernel))) rfl⟩
theorem k_W_9 : u_Cb R_W 9 y_D_init b_D_init 1 none 0 := ⟨gw_in (List.mem_append_right _ (List.mem_of_getElem? (i := 16) (by decide +kernel))) rfl, gw_in (List.mem_append_right _ (List.mem_of_getElem? (i := 1) (by decide +kernel))) rfl, cd_D_init, by decide +kernel⟩
theorem o_D_1 : Cond.methodLink R_D 1 Lib.objectInit ∈ gw := gw_in (List.mem_append_right _ (List.mem_of_getElem? (i := 19) (by decide +kernel))) rfl
theorem k_D_17 : u_Cb R_D 17 y_L_init b_L_init 1 none 0 := ⟨gw_in (List.mem_append_right _ (List.mem_of_getElem? (i := 26) (by decide +kernel))) rfl, gw_in (List.mem_append_right _ (List.mem_of_getElem? (i := 4) (by decide +kernel))) rfl, cd_L_init, by decide +kernel⟩
theorem k_L_1 : u_Cb R_L 1 y_AL_init b_AL_init 1 none 0 := ⟨gw_in (List.mem_append_right _ (List.mem_of_getElem? (i := 29) (by decide +kernel))) rfl, gw_in (List.mem_append_right _ (List.mem_of_getElem? (i := 3) (by decide +kernel))) rfl, cd_AL_init, by decide +kernel⟩
theorem k_AL_1 : u_Cb R_AL 1 y_AC_init b_AC_init 1 none 0 := ⟨gw_in (List.mem_append_right _ (List.mem_of_getElem? (i := 32) (by decide +kernel))) rfl, gw_in (List.mem_append_right _ (List.mem_of_getElem? (i := 2) (by decide +kernel))) rfl, cd_AC_init, by decide +kernel⟩
theorem o_AC_1 : Cond.methodLink R_AC 1 Lib.objectInit ∈ gw := gw_in (List.mem_append_right _ (List.mem_of_getElem? (i := 35) (by decide +kernel))) rfl
theorem k_W_13 : u_Cb R_W 13 y_D_begin b_D_begin 3 (some .boolean) 2 := ⟨gw_in (List.mem_append_right _ (List.mem_of_getElem? (i := 60) (by decide +kernel))) rfl, gw_in (List.mem_append_right _ (List.mem_of_getElem? (i := 1) (by decide +kernel))) rfl, cd_D_begin, by decide +kernel⟩
theorem k_D_26 : u_Cb R_D 26 y_D_isSession b_D_isSession 1 (some .boolean) 1 := ⟨gw_in (List.mem_append_right _ (List.mem_of_getElem? (i := 64) (by decide +kernel))) rfl, gw_in (List.mem_append_right _ (List.mem_of_getElem? (i := 1) (by decide +kernel))) rfl, cd_D_isSession, by decide +kernel⟩
theorem k_D_30 : u_Cb R_D 30 y_T_init b_T_init 2 none 1 := ⟨gw_in (List.mem_append_right _ (List.mem_of_getElem? (i := 68) (by decide +kernel))) rfl, gw_in (List.mem_append_right _ (List.mem_of_getElem? (i := 6) (by decide +kernel))) rfl, cd_T_init, by decide +kernel⟩
theorem o_T_3 : Cond.methodLink R_T 3 Lib.objectInit ∈ gw := gw_in (List.mem_append_right _ (List.mem_of_getElem? (i := 71) (by decide +kernel))) rfl
theorem k_W_18 : u_Cb R_W 18 y_D_statement b_D_statement 3 (some .int) 1 := ⟨gw_in (List.mem_append_right _ (List.mem_of_getElem? (i := 94) (by decide +kernel))) rfl, gw_in (List.mem_append_right _ (List.mem_of_getElem? (i := 1) (by decide +kernel))) rfl, cd_D_statement, by decide +kernel⟩
theorem k_D_33 : u_Cb R_D 33 y_D_transactionOf b_D_transactionOf 2 (some (.object "SnapshotDesk$Transaction")) 1 := ⟨gw_in (List.mem_append_right _ (List.mem_of_getElem? (i := 98) (by decide +kernel))) rfl, gw_in (List.mem_append_right _ (List.mem_of_getElem? (i := 1) (by decide +kernel))) rfl, cd_D_transactionOf, by decide +kernel⟩
theorem k_D_43 : u_Cb R_D 43 y_T_hasSnapshot b_T_hasSnapshot 1 (some .boolean) 0 := ⟨gw_in (List.mem_append_right _ (List.mem_of_getElem? (i := 102) (by decide +kernel))) rfl, gw_in (List.mem_append_right _ (List.mem_of_getElem? (i := 6) (by decide +kernel))) rfl, cd_T_hasSnapshot, by decide +kernel⟩
theorem k_W_23 : u_Cb R_W 23 y_D_number b_D_number 3 (some .int) 1 := ⟨gw_in (List.mem_append_right _ (List.mem_of_getElem? (i := 106) (by decide +kernel))) rfl, gw_in (List.mem_append_right _ (List.mem_of_getElem? (i := 1) (by decide +kernel))) rfl, cd_D_number, by decide +kernel⟩
theorem k_D_50 : u_Cb R_D 50 y_D_countLevelsWithoutNumber b_D_countLevelsWithoutNumber 3 (some .int) 1 := ⟨gw_in (List.mem_append_right _ (List.mem_of_getElem? (i := 110) (by decide +kernel))) rfl, gw_in (List.mem_append_right _ (List.mem_of_getElem? (i := 1) (by decide +kernel))) rfl, cd_D_countLevelsWithoutNumber, by decide +kernel⟩
theorem k_D_54 : u_Cb R_D 54 y_L_size b_L_size 1 (some .int) 0 := ⟨gw_in (List.mem_append_right _ (List.mem_of_getElem? (i := 113) (by decide +kernel))) rfl, gw_in (List.mem_append_right _ (List.mem_of_getElem? (i := 4) (by decide +kernel))) rfl, cd_L_size, by decide +kernel⟩
theorem k_D_58 : u_Cb R_D 58 y_D_giveMissingNumbers b_D_giveMissingNumbers 3 none 1 := ⟨gw_in (List.mem_append_right _ (List.mem_of_getElem? (i := 117) (by decide +kernel))) rfl, gw_in (List.mem_append_right _ (List.mem_of_getElem? (i := 1) (by decide +kernel))) rfl, cd_D_giveMissingNumbers, by decide +kernel⟩
theorem k_D_122 : u_Cb R_D 122 y_G_init b_G_init 3 none 2 := ⟨gw_in (List.mem_append_right _ (List.mem_of_getElem? (i := 123) (by decide +kernel))) rfl, gw_in (List.mem_append_right _ (List.mem_of_getElem? (i := 7) (by decide +kernel))) rfl, cd_G_init, by decide +kernel⟩
theorem o_G_3 : Cond.methodLink R_G 3 Lib.objectInit ∈ gw := gw_in (List.mem_append_right _ (List.mem_of_getElem? (i := 126) (by decide +kernel))) rfl
theorem k_D_125 : u_Cb R_D 125 y_L_add b_L_add 2 (some .boolean) 1 := ⟨gw_in (List.mem_append_right _ (List.mem_of_getElem? (i := 145) (by decide +kernel))) rfl, gw_in (List.mem_append_right _ (List.mem_of_getElem? (i := 4) (by decide +kernel))) rfl, cd_L_add, by decide +kernel⟩
theorem k_L_131 : u_Cb R_L 131 y_L_add3 b_L_add3 4 none 3 := ⟨gw_in (List.mem_append_right _ (List.mem_of_getElem? (i := 149) (by decide +kernel))) rfl, gw_in (List.mem_append_right _ (List.mem_of_getElem? (i := 4) (by decide +kernel))) rfl, cd_L_add3, by decide +kernel⟩
theorem k_L_129 : u_Cb R_L 129 y_L_grow b_L_grow 1 (some (.array (.object "java/lang/Object"))) 0 := ⟨gw_in (List.mem_append_right _ (List.mem_of_getElem? (i := 153) (by decide +kernel))) rfl, gw_in (List.mem_append_right _ (List.mem_of_getElem? (i := 4) (by decide +kernel))) rfl, cd_L_grow, by decide +kernel⟩
theorem k_L_69 : u_Cb R_L 69 y_L_growI b_L_growI 4 (some (.array (.object "java/lang/Object"))) 1 := ⟨gw_in (List.mem_append_right _ (List.mem_of_getElem? (i := 157) (by decide +kernel))) rfl, gw_in (List.mem_append_right _ (List.mem_of_getElem? (i := 4) (by decide +kernel))) rfl, cd_L_growI, by decide +kernel⟩
theorem k_L_73 : u_Cb R_L 73 y_AS_newLength b_AS_newLength 4 (some .int) 3 := ⟨gw_in (List.mem_append_right _ (List.mem_of_getElem? (i := 161) (by decide +kernel))) rfl, gw_in (List.mem_append_right _ (List.mem_of_getElem? (i := 8) (by decide +kernel))) rfl, cd_AS_newLength, by decide +kernel⟩
theorem q_AS_194 : Cond.methodLink R_AS 194 Lib.Math.max.name ∈ gw := gw_in (List.mem_append_right _ (List.mem_of_getElem? (i := 164) (by decide +kernel))) rfl
theorem k_AS_201 : u_Cb R_AS 201 y_AS_hugeLength b_AS_hugeLength 3 (some .int) 2 := ⟨gw_in (List.mem_append_right _ (List.mem_of_getElem? (i := 168) (by decide +kernel))) rfl, gw_in (List.mem_append_right _ (List.mem_of_getElem? (i := 8) (by decide +kernel))) rfl, cd_AS_hugeLength, by decide +kernel⟩
theorem k_L_66 : u_Cb R_L 66 y_AR_copyOf b_AR_copyOf 2 (some (.array (.object "java/lang/Object"))) 2 := ⟨gw_in (List.mem_append_right _ (List.mem_of_getElem? (i := 171) (by decide +kernel))) rfl, gw_in (List.mem_append_right _ (List.mem_of_getElem? (i := 10) (by decide +kernel))) rfl, cd_AR_copyOf, by decide +kernel⟩
theorem q_AR_86 : Cond.methodLink R_AR 86 ⟨"java/lang/Object", "getClass", "()Ljava/lang/Class;"⟩ ∈ gw := gw_in (List.mem_append_right _ (List.mem_of_getElem? (i := 174) (by decide +kernel))) rfl
theorem k_AR_300 : u_Cb R_AR 300 y_AR_copyOf3 b_AR_copyOf3 4 (some (.array (.object "java/lang/Object"))) 3 := ⟨gw_in (List.mem_append_right _ (List.mem_of_getElem? (i := 183) (by decide +kernel))) rfl, gw_in (List.mem_append_right _ (List.mem_of_getElem? (i := 10) (by decide +kernel))) rfl, cd_AR_copyOf3, by decide +kernel⟩
theorem q_AR_304 : Cond.methodLink R_AR 304 Lib.Math.min.name ∈ gw := gw_in (List.mem_append_right _ (List.mem_of_getElem? (i := 189) (by decide +kernel))) rfl
theorem q_AR_150 : Cond.methodLink R_AR 150 arraycopyName ∈ gw := gw_in (List.mem_append_right _ (List.mem_of_getElem? (i := 192) (by decide +kernel))) rfl
theorem q_L_79 : Cond.methodLink R_L 79 Lib.Math.max.name ∈ gw := gw_in (List.mem_append_right _ (List.mem_of_getElem? (i := 195) (by decide +kernel))) rfl
theorem k_W_27 : u_Cb R_W 27 y_D_save b_D_save 3 (some .int) 1 := ⟨gw_in (List.mem_append_right _ (List.mem_of_getElem? (i := 197) (by decide +kernel))) rfl, gw_in (List.mem_append_right _ (List.mem_of_getElem? (i := 1) (by decide +kernel))) rfl, cd_D_save, by decide +kernel⟩
theorem k_W_31 : u_Cb R_W 31 y_D_release b_D_release 6 (some .boolean) 2 := ⟨gw_in (List.mem_append_right _ (List.mem_of_getElem? (i := 201) (by decide +kernel))) rfl, gw_in (List.mem_append_right _ (List.mem_of_getElem? (i := 1) (by decide +kernel))) rfl, cd_D_release, by decide +kernel⟩
theorem k_D_69 : u_Cb R_D 69 y_T_canLeave b_T_canLeave 2 (some .boolean) 1 := ⟨gw_in (List.mem_append_right _ (List.mem_of_getElem? (i := 205) (by decide +kernel))) rfl, gw_in (List.mem_append_right _ (List.mem_of_getElem? (i := 6) (by decide +kernel))) rfl, cd_T_canLeave, by decide +kernel⟩
theorem k_D_72 : u_Cb R_D 72 y_L_get b_L_get 2 (some (.object "java/lang/Object")) 1 := ⟨gw_in (List.mem_append_right _ (List.mem_of_getElem? (i := 209) (by decide +kernel))) rfl, gw_in (List.mem_append_right _ (List.mem_of_getElem? (i := 4) (by decide +kernel))) rfl, cd_L_get, by decide +kernel⟩
theorem k_L_118 : u_Cb R_L 118 y_O_checkIndex b_O_checkIndex 2 (some .int) 2 := ⟨gw_in (List.mem_append_right _ (List.mem_of_getElem? (i := 213) (by decide +kernel))) rfl, gw_in (List.mem_append_right _ (List.mem_of_getElem? (i := 12) (by decide +kernel))) rfl, cd_O_checkIndex, by decide +kernel⟩
theorem k_O_105 : u_Cb R_O 105 y_P_checkIndex b_P_checkIndex 3 (some .int) 3 := ⟨gw_in (List.mem_append_right _ (List.mem_of_getElem? (i := 216) (by decide +kernel))) rfl, gw_in (List.mem_append_right _ (List.mem_of_getElem? (i := 13) (by decide +kernel))) rfl, cd_P_checkIndex, by decide +kernel⟩
theorem k_L_123 : u_Cb R_L 123 y_L_elementData b_L_elementData 2 (some (.object "java/lang/Object")) 1 := ⟨gw_in (List.mem_append_right _ (List.mem_of_getElem? (i := 219) (by decide +kernel))) rfl, gw_in (List.mem_append_right _ (List.mem_of_getElem? (i := 4) (by decide +kernel))) rfl, cd_L_elementData, by decide +kernel⟩
theorem k_D_78 : u_Cb R_D 78 y_T_owns b_T_owns 2 (some .boolean) 1 := ⟨gw_in (List.mem_append_right _ (List.mem_of_getElem? (i := 223) (by decide +kernel))) rfl, gw_in (List.mem_append_right _ (List.mem_of_getElem? (i := 6) (by decide +kernel))) rfl, cd_T_owns, by decide +kernel⟩
theorem k_D_85 : u_Cb R_D 85 y_T_clearLevelsFrom b_T_clearLevelsFrom 3 none 1 := ⟨gw_in (List.mem_append_right _ (List.mem_of_getElem? (i := 227) (by decide +kernel))) rfl, gw_in (List.mem_append_right _ (List.mem_of_getElem? (i := 6) (by decide +kernel))) rfl, cd_T_clearLevelsFrom, by decide +kernel⟩
theorem k_W_35 : u_Cb R_W 35 y_D_back b_D_back 4 (some .boolean) 2 := ⟨gw_in (List.mem_append_right _ (List.mem_of_getElem? (i := 231) (by decide +kernel))) rfl, gw_in (List.mem_append_right _ (List.mem_of_getElem? (i := 1) (by decide +kernel))) rfl, cd_D_back, by decide +kernel⟩
theorem k_D_88 : u_Cb R_D 88 y_D_abortNumbersFrom b_D_abortNumbersFrom 5 none 2 := ⟨gw_in (List.mem_append_right _ (List.mem_of_getElem? (i := 235) (by decide +kernel))) rfl, gw_in (List.mem_append_right _ (List.mem_of_getElem? (i := 1) (by decide +kernel))) rfl, cd_D_abortNumbersFrom, by decide +kernel⟩
theorem k_W_39 : u_Cb R_W 39 y_D_commit b_D_commit 3 (some .int) 1 := ⟨gw_in (List.mem_append_right _ (List.mem_of_getElem? (i := 239) (by decide +kernel))) rfl, gw_in (List.mem_append_right _ (List.mem_of_getElem? (i := 1) (by decide +kernel))) rfl, cd_D_commit, by decide +kernel⟩
theorem k_D_92 : u_Cb R_D 92 y_D_commitRunningNumbers b_D_commitRunningNumbers 4 none 1 := ⟨gw_in (List.mem_append_right _ (List.mem_of_getElem? (i := 243) (by decide +kernel))) rfl, gw_in (List.mem_append_right _ (List.mem_of_getElem? (i := 1) (by decide +kernel))) rfl, cd_D_commitRunningNumbers, by decide +kernel⟩
theorem k_W_43 : u_Cb R_W 43 y_D_abort b_D_abort 3 (some .boolean) 1 := ⟨gw_in (List.mem_append_right _ (List.mem_of_getElem? (i := 247) (by decide +kernel))) rfl, gw_in (List.mem_append_right _ (List.mem_of_getElem? (i := 1) (by decide +kernel))) rfl, cd_D_abort, by decide +kernel⟩
theorem k_W_48 : u_Cb R_W 48 y_D_crash b_D_crash 2 none 0 := ⟨gw_in (List.mem_append_right _ (List.mem_of_getElem? (i := 251) (by decide +kernel))) rfl, gw_in (List.mem_append_right _ (List.mem_of_getElem? (i := 1) (by decide +kernel))) rfl, cd_D_crash, by decide +kernel⟩
theorem k_D_95 : u_Cb R_D 95 y_D_abort b_D_abort 3 (some .boolean) 1 := ⟨gw_in (List.mem_append_right _ (List.mem_of_getElem? (i := 255) (by decide +kernel))) rfl, gw_in (List.mem_append_right _ (List.mem_of_getElem? (i := 1) (by decide +kernel))) rfl, cd_D_abort, by decide +kernel⟩
theorem k_W_52 : u_Cb R_W 52 y_D_state b_D_state 3 (some .int) 1 := ⟨gw_in (List.mem_append_right _ (List.mem_of_getElem? (i := 256) (by decide +kernel))) rfl, gw_in (List.mem_append_right _ (List.mem_of_getElem? (i := 1) (by decide +kernel))) rfl, cd_D_state, by decide +kernel⟩
theorem k_D_98 : u_Cb R_D 98 y_D_find b_D_find 2 (some (.object "SnapshotDesk$Given")) 1 := ⟨gw_in (List.mem_append_right _ (List.mem_of_getElem? (i := 260) (by decide +kernel))) rfl, gw_in (List.mem_append_right _ (List.mem_of_getElem? (i := 1) (by decide +kernel))) rfl, cd_D_find, by decide +kernel⟩
theorem k_W_56 : u_Cb R_W 56 y_D_root b_D_root 3 (some .int) 1 := ⟨gw_in (List.mem_append_right _ (List.mem_of_getElem? (i := 264) (by decide +kernel))) rfl, gw_in (List.mem_append_right _ (List.mem_of_getElem? (i := 1) (by decide +kernel))) rfl, cd_D_root, by decide +kernel⟩
theorem k_W_60 : u_Cb R_W 60 y_D_place b_D_place 3 (some .int) 1 := ⟨gw_in (List.mem_append_right _ (List.mem_of_getElem? (i := 268) (by decide +kernel))) rfl, gw_in (List.mem_append_right _ (List.mem_of_getElem? (i := 1) (by decide +kernel))) rfl, cd_D_place, by decide +kernel⟩
theorem k_W_64 : u_Cb R_W 64 y_D_sees b_D_sees 7 (some .boolean) 5 := ⟨gw_in (List.mem_append_right _ (List.mem_of_getElem? (i := 272) (by decide +kernel))) rfl, gw_in (List.mem_append_right _ (List.mem_of_getElem? (i := 1) (by decide +kernel))) rfl, cd_D_sees, by decide +kernel⟩
theorem k_D_111 : u_Cb R_D 111 y_D_seesDeed b_D_seesDeed 3 (some .boolean) 3 := ⟨gw_in (List.mem_append_right _ (List.mem_of_getElem? (i := 276) (by decide +kernel))) rfl, gw_in (List.mem_append_right _ (List.mem_of_getElem? (i := 1) (by decide +kernel))) rfl, cd_D_seesDeed, by decide +kernel⟩
theorem k_W_69 : u_Cb R_W 69 y_D_ending b_D_ending 7 (some .int) 3 := ⟨gw_in (List.mem_append_right _ (List.mem_of_getElem? (i := 279) (by decide +kernel))) rfl, gw_in (List.mem_append_right _ (List.mem_of_getElem? (i := 1) (by decide +kernel))) rfl, cd_D_ending, by decide +kernel⟩
theorem k_W_74 : u_Cb R_W 74 y_D_dead b_D_dead 4 (some .boolean) 2 := ⟨gw_in (List.mem_append_right _ (List.mem_of_getElem? (i := 283) (by decide +kernel))) rfl, gw_in (List.mem_append_right _ (List.mem_of_getElem? (i := 1) (by decide +kernel))) rfl, cd_D_dead, by decide +kernel⟩
theorem k_D_115 : u_Cb R_D 115 y_D_isInEveryLiveSnapshot b_D_isInEveryLiveSnapshot 4 (some .boolean) 1 := ⟨gw_in (List.mem_append_right _ (List.mem_of_getElem? (i := 287) (by decide +kernel))) rfl, gw_in (List.mem_append_right _ (List.mem_of_getElem? (i := 1) (by decide +kernel))) rfl, cd_D_isInEveryLiveSnapshot, by decide +kernel⟩
theorem k_W_78 : u_Cb R_W 78 y_D_look b_D_look 4 (some .int) 2 := ⟨gw_in (List.mem_append_right _ (List.mem_of_getElem? (i := 291) (by decide +kernel))) rfl, gw_in (List.mem_append_right _ (List.mem_of_getElem? (i := 1) (by decide +kernel))) rfl, cd_D_look, by decide +kernel⟩
theorem k_D_118 : u_Cb R_D 118 y_D_lookAt b_D_lookAt 2 (some .int) 2 := ⟨gw_in (List.mem_append_right _ (List.mem_of_getElem? (i := 295) (by decide +kernel))) rfl, gw_in (List.mem_append_right _ (List.mem_of_getElem? (i := 1) (by decide +kernel))) rfl, cd_D_lookAt, by decide +kernel⟩
theorem k_W_12 : u_Cb R_W 12 y_M_init b_M_init 1 none 0 := ⟨gw_in (List.mem_append_right _ (List.mem_of_getElem? (i := 300) (by decide +kernel))) rfl, gw_in (List.mem_append_right _ (List.mem_of_getElem? (i := 5) (by decide +kernel))) rfl, cd_M_init, by decide +kernel⟩
theorem o_M_1 : Cond.methodLink R_M 1 Lib.objectInit ∈ gw := gw_in (List.mem_append_right _ (List.mem_of_getElem? (i := 303) (by decide +kernel))) rfl
theorem k_W_17 : u_Cb R_W 17 y_M_begin b_M_begin 3 (some .boolean) 2 := ⟨gw_in (List.mem_append_right _ (List.mem_of_getElem? (i := 342) (by decide +kernel))) rfl, gw_in (List.mem_append_right _ (List.mem_of_getElem? (i := 5) (by decide +kernel))) rfl, cd_M_begin, by decide +kernel⟩
theorem k_W_22 : u_Cb R_W 22 y_M_statement b_M_statement 2 (some .int) 1 := ⟨gw_in (List.mem_append_right _ (List.mem_of_getElem? (i := 346) (by decide +kernel))) rfl, gw_in (List.mem_append_right _ (List.mem_of_getElem? (i := 5) (by decide +kernel))) rfl, cd_M_statement, by decide +kernel⟩
theorem k_M_45 : u_Cb R_M 45 y_M_runs b_M_runs 2 (some .boolean) 1 := ⟨gw_in (List.mem_append_right _ (List.mem_of_getElem? (i := 350) (by decide +kernel))) rfl, gw_in (List.mem_append_right _ (List.mem_of_getElem? (i := 5) (by decide +kernel))) rfl, cd_M_runs, by decide +kernel⟩
theorem k_W_26 : u_Cb R_W 26 y_M_number b_M_number 4 (some .int) 1 := ⟨gw_in (List.mem_append_right _ (List.mem_of_getElem? (i := 354) (by decide +kernel))) rfl, gw_in (List.mem_append_right _ (List.mem_of_getElem? (i := 5) (by decide +kernel))) rfl, cd_M_number, by decide +kernel⟩
theorem k_W_30 : u_Cb R_W 30 y_M_save b_M_save 2 (some .int) 1 := ⟨gw_in (List.mem_append_right _ (List.mem_of_getElem? (i := 358) (by decide +kernel))) rfl, gw_in (List.mem_append_right _ (List.mem_of_getElem? (i := 5) (by decide +kernel))) rfl, cd_M_save, by decide +kernel⟩
theorem k_W_34 : u_Cb R_W 34 y_M_release b_M_release 4 (some .boolean) 2 := ⟨gw_in (List.mem_append_right _ (List.mem_of_getElem? (i := 362) (by decide +kernel))) rfl, gw_in (List.mem_append_right _ (List.mem_of_getElem? (i := 5) (by decide +kernel))) rfl, cd_M_release, by decide +kernel⟩
theorem k_M_52 : u_Cb R_M 52 y_M_isFrom b_M_isFrom 4 (some .boolean) 3 := ⟨gw_in (List.mem_append_right _ (List.mem_of_getElem? (i := 366) (by decide +kernel))) rfl, gw_in (List.mem_append_right _ (List.mem_of_getElem? (i := 5) (by decide +kernel))) rfl, cd_M_isFrom, by decide +kernel⟩
theorem k_W_38 : u_Cb R_W 38 y_M_back b_M_back 4 (some .boolean) 2 := ⟨gw_in (List.mem_append_right _ (List.mem_of_getElem? (i := 370) (by decide +kernel))) rfl, gw_in (List.mem_append_right _ (List.mem_of_getElem? (i := 5) (by decide +kernel))) rfl, cd_M_back, by decide +kernel⟩
theorem k_W_42 : u_Cb R_W 42 y_M_commit b_M_commit 3 (some .int) 1 := ⟨gw_in (List.mem_append_right _ (List.mem_of_getElem? (i := 374) (by decide +kernel))) rfl, gw_in (List.mem_append_right _ (List.mem_of_getElem? (i := 5) (by decide +kernel))) rfl, cd_M_commit, by decide +kernel⟩
theorem k_M_56 : u_Cb R_M 56 y_M_ends b_M_ends 5 (some .int) 2 := ⟨gw_in (List.mem_append_right _ (List.mem_of_getElem? (i := 378) (by decide +kernel))) rfl, gw_in (List.mem_append_right _ (List.mem_of_getElem? (i := 5) (by decide +kernel))) rfl, cd_M_ends, by decide +kernel⟩
theorem k_W_47 : u_Cb R_W 47 y_M_abort b_M_abort 3 (some .boolean) 1 := ⟨gw_in (List.mem_append_right _ (List.mem_of_getElem? (i := 382) (by decide +kernel))) rfl, gw_in (List.mem_append_right _ (List.mem_of_getElem? (i := 5) (by decide +kernel))) rfl, cd_M_abort, by decide +kernel⟩
theorem k_W_51 : u_Cb R_W 51 y_M_crash b_M_crash 3 none 0 := ⟨gw_in (List.mem_append_right _ (List.mem_of_getElem? (i := 386) (by decide +kernel))) rfl, gw_in (List.mem_append_right _ (List.mem_of_getElem? (i := 5) (by decide +kernel))) rfl, cd_M_crash, by decide +kernel⟩
theorem k_M_60 : u_Cb R_M 60 y_M_abort b_M_abort 3 (some .boolean) 1 := ⟨gw_in (List.mem_append_right _ (List.mem_of_getElem? (i := 390) (by decide +kernel))) rfl, gw_in (List.mem_append_right _ (List.mem_of_getElem? (i := 5) (by decide +kernel))) rfl, cd_M_abort, by decide +kernel⟩
theorem k_W_55 : u_Cb R_W 55 y_M_state b_M_state 2 (some .int) 1 := ⟨gw_in (List.mem_append_right _ (List.mem_of_getElem? (i := 391) (by decide +kernel))) rfl, gw_in (List.mem_append_right _ (List.mem_of_getElem? (i := 5) (by decide +kernel))) rfl, cd_M_state, by decide +kernel⟩
theorem k_M_63 : u_Cb R_M 63 y_M_isGiven b_M_isGiven 2 (some .boolean) 1 := ⟨gw_in (List.mem_append_right _ (List.mem_of_getElem? (i := 395) (by decide +kernel))) rfl, gw_in (List.mem_append_right _ (List.mem_of_getElem? (i := 5) (by decide +kernel))) rfl, cd_M_isGiven, by decide +kernel⟩
theorem k_W_59 : u_Cb R_W 59 y_M_root b_M_root 2 (some .int) 1 := ⟨gw_in (List.mem_append_right _ (List.mem_of_getElem? (i := 399) (by decide +kernel))) rfl, gw_in (List.mem_append_right _ (List.mem_of_getElem? (i := 5) (by decide +kernel))) rfl, cd_M_root, by decide +kernel⟩
theorem k_W_63 : u_Cb R_W 63 y_M_place b_M_place 2 (some .int) 1 := ⟨gw_in (List.mem_append_right _ (List.mem_of_getElem? (i := 403) (by decide +kernel))) rfl, gw_in (List.mem_append_right _ (List.mem_of_getElem? (i := 5) (by decide +kernel))) rfl, cd_M_place, by decide +kernel⟩
theorem k_W_68 : u_Cb R_W 68 y_M_sees b_M_sees 6 (some .boolean) 5 := ⟨gw_in (List.mem_append_right _ (List.mem_of_getElem? (i := 407) (by decide +kernel))) rfl, gw_in (List.mem_append_right _ (List.mem_of_getElem? (i := 5) (by decide +kernel))) rfl, cd_M_sees, by decide +kernel⟩
theorem k_M_66 : u_Cb R_M 66 y_M_isSeen b_M_isSeen 4 (some .boolean) 3 := ⟨gw_in (List.mem_append_right _ (List.mem_of_getElem? (i := 411) (by decide +kernel))) rfl, gw_in (List.mem_append_right _ (List.mem_of_getElem? (i := 5) (by decide +kernel))) rfl, cd_M_isSeen, by decide +kernel⟩
theorem k_W_73 : u_Cb R_W 73 y_M_ending b_M_ending 5 (some .int) 3 := ⟨gw_in (List.mem_append_right _ (List.mem_of_getElem? (i := 415) (by decide +kernel))) rfl, gw_in (List.mem_append_right _ (List.mem_of_getElem? (i := 5) (by decide +kernel))) rfl, cd_M_ending, by decide +kernel⟩
theorem k_W_77 : u_Cb R_W 77 y_M_dead b_M_dead 5 (some .boolean) 2 := ⟨gw_in (List.mem_append_right _ (List.mem_of_getElem? (i := 419) (by decide +kernel))) rfl, gw_in (List.mem_append_right _ (List.mem_of_getElem? (i := 5) (by decide +kernel))) rfl, cd_M_dead, by decide +kernel⟩
theorem k_W_82 : u_Cb R_W 82 y_M_look b_M_look 3 (some .int) 2 := ⟨gw_in (List.mem_append_right _ (List.mem_of_getElem? (i := 423) (by decide +kernel))) rfl, gw_in (List.mem_append_right _ (List.mem_of_getElem? (i := 5) (by decide +kernel))) rfl, cd_M_look, by decide +kernel⟩
theorem g_L_39 : Cond.fieldLink R_L 39 "java/util/ArrayList" "DEFAULTCAPACITY_EMPTY_ELEMENTDATA" "[Ljava/lang/Object;" ∈ gw := gw_in (List.mem_append_right _ (List.mem_of_getElem? (i := 36) (by decide +kernel))) rfl
theorem f_L_9 : u_Ff R_L 9 4 1 R_L F_L 3 := ⟨rfl, by decide, i_L, "java/util/ArrayList", gw_in (List.mem_append_right _ (List.mem_of_getElem? (i := 38) (by decide +kernel))) rfl, Or.inl rfl⟩
theorem f_L_48 : u_Ff R_L 48 4 2 R_L F_L 3 := ⟨rfl, by decide, i_L, "java/util/ArrayList", gw_in (List.mem_append_right _ (List.mem_of_getElem? (i := 39) (by decide +kernel))) rfl, Or.inl rfl⟩
theorem f_AL_7 : u_Ff R_AL 7 4 0 R_L F_L 3 := ⟨rfl, by decide, i_L, "java/util/AbstractList", gw_in (List.mem_append_right _ (List.mem_of_getElem? (i := 40) (by decide +kernel))) rfl, Or.inl rfl⟩
theorem f_L_63 : u_Ff R_L 63 4 0 R_L F_L 3 := ⟨rfl, by decide, i_L, "java/util/ArrayList", gw_in (List.mem_append_right _ (List.mem_of_getElem? (i := 41) (by decide +kernel))) rfl, Or.inr (gw_in (List.mem_append_right _ (List.mem_of_getElem? (i := 42) (by decide +kernel))) rfl)⟩
theorem f_D_11 : u_Ff R_D 11 1 0 R_D F_D 3 := ⟨rfl, by decide, i_D, "SnapshotDesk", gw_in (List.mem_append_right _ (List.mem_of_getElem? (i := 50) (by decide +kernel))) rfl, Or.inl rfl⟩
theorem f_D_18 : u_Ff R_D 18 1 1 R_D F_D 3 := ⟨rfl, by decide, i_D, "SnapshotDesk", gw_in (List.mem_append_right _ (List.mem_of_getElem? (i := 51) (by decide +kernel))) rfl, Or.inl rfl⟩
theorem f_D_22 : u_Ff R_D 22 1 2 R_D F_D 3 := ⟨rfl, by decide, i_D, "SnapshotDesk", gw_in (List.mem_append_right _ (List.mem_of_getElem? (i := 52) (by decide +kernel))) rfl, Or.inl rfl⟩
theorem f_T_25 : u_Ff R_T 25 3 0 R_T F_T 5 := ⟨rfl, by decide, i_T, "SnapshotDesk$Transaction", gw_in (List.mem_append_right _ (List.mem_of_getElem? (i := 72) (by decide +kernel))) rfl, Or.inl rfl⟩
theorem f_D_40 : u_Ff R_D 40 3 0 R_T F_T 5 := ⟨rfl, by decide, i_T, "SnapshotDesk$Transaction", gw_in (List.mem_append_right _ (List.mem_of_getElem? (i := 73) (by decide +kernel))) rfl, Or.inl rfl⟩
theorem f_T_9 : u_Ff R_T 9 3 1 R_T F_T 5 := ⟨rfl, by decide, i_T, "SnapshotDesk$Transaction", gw_in (List.mem_append_right _ (List.mem_of_getElem? (i := 74) (by decide +kernel))) rfl, Or.inl rfl⟩
theorem f_D_62 : u_Ff R_D 62 3 1 R_T F_T 5 := ⟨rfl, by decide, i_T, "SnapshotDesk$Transaction", gw_in (List.mem_append_right _ (List.mem_of_getElem? (i := 75) (by decide +kernel))) rfl, Or.inl rfl⟩
theorem f_T_15 : u_Ff R_T 15 3 2 R_T F_T 5 := ⟨rfl, by decide, i_T, "SnapshotDesk$Transaction", gw_in (List.mem_append_right _ (List.mem_of_getElem? (i := 76) (by decide +kernel))) rfl, Or.inl rfl⟩
theorem f_D_66 : u_Ff R_D 66 3 2 R_T F_T 5 := ⟨rfl, by decide, i_T, "SnapshotDesk$Transaction", gw_in (List.mem_append_right _ (List.mem_of_getElem? (i := 77) (by decide +kernel))) rfl, Or.inl rfl⟩
theorem f_T_19 : u_Ff R_T 19 3 3 R_T F_T 5 := ⟨rfl, by decide, i_T, "SnapshotDesk$Transaction", gw_in (List.mem_append_right _ (List.mem_of_getElem? (i := 78) (by decide +kernel))) rfl, Or.inl rfl⟩
theorem f_D_37 : u_Ff R_D 37 3 3 R_T F_T 5 := ⟨rfl, by decide, i_T, "SnapshotDesk$Transaction", gw_in (List.mem_append_right _ (List.mem_of_getElem? (i := 79) (by decide +kernel))) rfl, Or.inl rfl⟩
theorem f_T_22 : u_Ff R_T 22 3 4 R_T F_T 5 := ⟨rfl, by decide, i_T, "SnapshotDesk$Transaction", gw_in (List.mem_append_right _ (List.mem_of_getElem? (i := 80) (by decide +kernel))) rfl, Or.inl rfl⟩
theorem f_D_47 : u_Ff R_D 47 3 4 R_T F_T 5 := ⟨rfl, by decide, i_T, "SnapshotDesk$Transaction", gw_in (List.mem_append_right _ (List.mem_of_getElem? (i := 81) (by decide +kernel))) rfl, Or.inl rfl⟩
theorem f_G_18 : u_Ff R_G 18 2 0 R_G F_G 4 := ⟨rfl, by decide, i_G, "SnapshotDesk$Given", gw_in (List.mem_append_right _ (List.mem_of_getElem? (i := 127) (by decide +kernel))) rfl, Or.inl rfl⟩
theorem f_T_28 : u_Ff R_T 28 2 0 R_G F_G 4 := ⟨rfl, by decide, i_G, "SnapshotDesk$Given", gw_in (List.mem_append_right _ (List.mem_of_getElem? (i := 128) (by decide +kernel))) rfl, Or.inl rfl⟩
theorem f_D_105 : u_Ff R_D 105 2 0 R_G F_G 4 := ⟨rfl, by decide, i_G, "SnapshotDesk$Given", gw_in (List.mem_append_right _ (List.mem_of_getElem? (i := 129) (by decide +kernel))) rfl, Or.inl rfl⟩
theorem f_G_21 : u_Ff R_G 21 2 1 R_G F_G 4 := ⟨rfl, by decide, i_G, "SnapshotDesk$Given", gw_in (List.mem_append_right _ (List.mem_of_getElem? (i := 130) (by decide +kernel))) rfl, Or.inl rfl⟩
theorem f_D_82 : u_Ff R_D 82 2 1 R_G F_G 4 := ⟨rfl, by decide, i_G, "SnapshotDesk$Given", gw_in (List.mem_append_right _ (List.mem_of_getElem? (i := 131) (by decide +kernel))) rfl, Or.inl rfl⟩
theorem f_G_9 : u_Ff R_G 9 2 2 R_G F_G 4 := ⟨rfl, by decide, i_G, "SnapshotDesk$Given", gw_in (List.mem_append_right _ (List.mem_of_getElem? (i := 132) (by decide +kernel))) rfl, Or.inl rfl⟩
theorem f_D_102 : u_Ff R_D 102 2 2 R_G F_G 4 := ⟨rfl, by decide, i_G, "SnapshotDesk$Given", gw_in (List.mem_append_right _ (List.mem_of_getElem? (i := 133) (by decide +kernel))) rfl, Or.inl rfl⟩
theorem f_G_15 : u_Ff R_G 15 2 3 R_G F_G 4 := ⟨rfl, by decide, i_G, "SnapshotDesk$Given", gw_in (List.mem_append_right _ (List.mem_of_getElem? (i := 134) (by decide +kernel))) rfl, Or.inl rfl⟩
theorem f_D_108 : u_Ff R_D 108 2 3 R_G F_G 4 := ⟨rfl, by decide, i_G, "SnapshotDesk$Given", gw_in (List.mem_append_right _ (List.mem_of_getElem? (i := 135) (by decide +kernel))) rfl, Or.inl rfl⟩
theorem f_M_41 : u_Ff R_M 41 0 0 R_M F_M 12 := ⟨rfl, by decide, i_M, "SnapshotDeskModel", gw_in (List.mem_append_right _ (List.mem_of_getElem? (i := 304) (by decide +kernel))) rfl, Or.inl rfl⟩
theorem f_M_49 : u_Ff R_M 49 0 1 R_M F_M 12 := ⟨rfl, by decide, i_M, "SnapshotDeskModel", gw_in (List.mem_append_right _ (List.mem_of_getElem? (i := 305) (by decide +kernel))) rfl, Or.inl rfl⟩
theorem f_M_7 : u_Ff R_M 7 0 2 R_M F_M 12 := ⟨rfl, by decide, i_M, "SnapshotDeskModel", gw_in (List.mem_append_right _ (List.mem_of_getElem? (i := 306) (by decide +kernel))) rfl, Or.inl rfl⟩
theorem f_M_13 : u_Ff R_M 13 0 3 R_M F_M 12 := ⟨rfl, by decide, i_M, "SnapshotDeskModel", gw_in (List.mem_append_right _ (List.mem_of_getElem? (i := 307) (by decide +kernel))) rfl, Or.inl rfl⟩
theorem f_M_16 : u_Ff R_M 16 0 4 R_M F_M 12 := ⟨rfl, by decide, i_M, "SnapshotDeskModel", gw_in (List.mem_append_right _ (List.mem_of_getElem? (i := 308) (by decide +kernel))) rfl, Or.inl rfl⟩
theorem f_M_19 : u_Ff R_M 19 0 5 R_M F_M 12 := ⟨rfl, by decide, i_M, "SnapshotDeskModel", gw_in (List.mem_append_right _ (List.mem_of_getElem? (i := 309) (by decide +kernel))) rfl, Or.inl rfl⟩
theorem f_M_22 : u_Ff R_M 22 0 6 R_M F_M 12 := ⟨rfl, by decide, i_M, "SnapshotDeskModel", gw_in (List.mem_append_right _ (List.mem_of_getElem? (i := 310) (by decide +kernel))) rfl, Or.inl rfl⟩
theorem f_M_26 : u_Ff R_M 26 0 7 R_M F_M 12 := ⟨rfl, by decide, i_M, "SnapshotDeskModel", gw_in (List.mem_append_right _ (List.mem_of_getElem? (i := 311) (by decide +kernel))) rfl, Or.inl rfl⟩
theorem f_M_29 : u_Ff R_M 29 0 8 R_M F_M 12 := ⟨rfl, by decide, i_M, "SnapshotDeskModel", gw_in (List.mem_append_right _ (List.mem_of_getElem? (i := 312) (by decide +kernel))) rfl, Or.inl rfl⟩
theorem f_M_32 : u_Ff R_M 32 0 9 R_M F_M 12 := ⟨rfl, by decide, i_M, "SnapshotDeskModel", gw_in (List.mem_append_right _ (List.mem_of_getElem? (i := 313) (by decide +kernel))) rfl, Or.inl rfl⟩
theorem f_M_35 : u_Ff R_M 35 0 10 R_M F_M 12 := ⟨rfl, by decide, i_M, "SnapshotDeskModel", gw_in (List.mem_append_right _ (List.mem_of_getElem? (i := 314) (by decide +kernel))) rfl, Or.inl rfl⟩
theorem f_M_38 : u_Ff R_M 38 0 11 R_M F_M 12 := ⟨rfl, by decide, i_M, "SnapshotDeskModel", gw_in (List.mem_append_right _ (List.mem_of_getElem? (i := 315) (by decide +kernel))) rfl, Or.inl rfl⟩
theorem l_W_7 : Cond.classLink R_W 7 "SnapshotDesk" ∈ gw := gw_in (List.mem_append_right _ (List.mem_of_getElem? (i := 14) (by decide +kernel))) rfl
theorem n_W_7 : u_Nf R_W 7 1 R_D F_D 3 ty_D [.null, .null, .int 0] := ⟨rfl, i_D, tk_D, l_W_7, gw_in (List.mem_append_right _ (List.mem_of_getElem? (i := 15) (by decide +kernel))) rfl, gw_in (List.mem_append_right _ (List.mem_of_getElem? (i := 1) (by decide +kernel))) rfl, by decide +kernel⟩
theorem l_D_9 : Cond.classLink R_D 9 "SnapshotDesk$Transaction" ∈ gw := gw_in (List.mem_append_right _ (List.mem_of_getElem? (i := 22) (by decide +kernel))) rfl
theorem n_D_9 : u_Nf R_D 9 3 R_T F_T 5 ty_T [.int 0, .null, .int 0, .int 0, .int 0] := ⟨rfl, i_T, tk_T, l_D_9, gw_in (List.mem_append_right _ (List.mem_of_getElem? (i := 67) (by decide +kernel))) rfl, gw_in (List.mem_append_right _ (List.mem_of_getElem? (i := 6) (by decide +kernel))) rfl, by decide +kernel⟩
theorem l_D_15 : Cond.classLink R_D 15 "java/util/ArrayList" ∈ gw := gw_in (List.mem_append_right _ (List.mem_of_getElem? (i := 24) (by decide +kernel))) rfl
theorem n_D_15 : u_Nf R_D 15 4 R_L F_L 3 ty_L [.int 0, .null, .int 0] := ⟨rfl, i_L, tk_L, l_D_15, gw_in (List.mem_append_right _ (List.mem_of_getElem? (i := 25) (by decide +kernel))) rfl, gw_in (List.mem_append_right _ (List.mem_of_getElem? (i := 4) (by decide +kernel))) rfl, by decide +kernel⟩
theorem l_D_76 : Cond.classLink R_D 76 "SnapshotDesk$Given" ∈ gw := gw_in (List.mem_append_right _ (List.mem_of_getElem? (i := 121) (by decide +kernel))) rfl
theorem n_D_76 : u_Nf R_D 76 2 R_G F_G 4 ty_G [.int 0, .int 0, .int 0, .int 0] := ⟨rfl, i_G, tk_G, l_D_76, gw_in (List.mem_append_right _ (List.mem_of_getElem? (i := 122) (by decide +kernel))) rfl, gw_in (List.mem_append_right _ (List.mem_of_getElem? (i := 7) (by decide +kernel))) rfl, by decide +kernel⟩
theorem l_AR_110 : Cond.classLink R_AR 110 "[Ljava/lang/Object;" ∈ gw := gw_in (List.mem_append_right _ (List.mem_of_getElem? (i := 186) (by decide +kernel))) rfl
theorem l_AR_2 : Cond.classLink R_AR 2 "java/lang/Object" ∈ gw := gw_in (List.mem_append_right _ (List.mem_of_getElem? (i := 188) (by decide +kernel))) rfl
theorem l_L_7 : Cond.classLink R_L 7 "java/lang/Object" ∈ gw := gw_in (List.mem_append_right _ (List.mem_of_getElem? (i := 196) (by decide +kernel))) rfl
theorem l_W_10 : Cond.classLink R_W 10 "SnapshotDeskModel" ∈ gw := gw_in (List.mem_append_right _ (List.mem_of_getElem? (i := 298) (by decide +kernel))) rfl
theorem n_W_10 : u_Nf R_W 10 0 R_M F_M 12 ty_M [.int 0, .int 0, .null, .null, .null, .null, .null, .null, .null, .null, .null, .null] := ⟨rfl, i_M, tk_M, l_W_10, gw_in (List.mem_append_right _ (List.mem_of_getElem? (i := 299) (by decide +kernel))) rfl, gw_in (List.mem_append_right _ (List.mem_of_getElem? (i := 5) (by decide +kernel))) rfl, by decide +kernel⟩
theorem a_int : Cond.arrayClass .int ∈ gw := gw_in (List.mem_append_right _ (List.mem_of_getElem? (i := 93) (by decide +kernel))) rfl
theorem a_bool : Cond.arrayClass .boolean ∈ gw := gw_in (List.mem_append_right _ (List.mem_of_getElem? (i := 341) (by decide +kernel))) rfl
theorem m_max_s : Cond.static Lib.Math.max.name ∈ gw := gw_in (List.mem_append_right _ (List.mem_of_getElem? (i := 165) (by decide +kernel))) rfl
theorem m_max_c : Cond.code Lib.Math.max.name Lib.Math.max.code 2 (some .int) ∈ gw := gw_in (List.mem_append_right _ (List.mem_of_getElem? (i := 166) rfl)) rfl
theorem m_min_s : Cond.static Lib.Math.min.name ∈ gw := gw_in (List.mem_append_right _ (List.mem_of_getElem? (i := 190) (by decide +kernel))) rfl
theorem m_min_c : Cond.code Lib.Math.min.name Lib.Math.min.code 2 (some .int) ∈ gw := gw_in (List.mem_append_right _ (List.mem_of_getElem? (i := 191) rfl)) rfl
theorem m_i : Cond.initialized "java/lang/Math" ∈ gw := gw_in (List.mem_append_right _ (List.mem_of_getElem? (i := 9) (by decide +kernel))) rfl
theorem ac_s : Cond.static arraycopyName ∈ gw := gw_in (List.mem_append_right _ (List.mem_of_getElem? (i := 193) (by decide +kernel))) rfl
theorem ac_n : Cond.native arraycopyName ∈ gw := gw_in (List.mem_append_right _ (List.mem_of_getElem? (i := 194) (by decide +kernel))) rfl
theorem ac_i : Cond.initialized "java/lang/System" ∈ gw := gw_in (List.mem_append_right _ (List.mem_of_getElem? (i := 11) (by decide +kernel))) rfl
theorem gc_n : Cond.native ⟨"java/lang/Object", "getClass", "()Ljava/lang/Class;"⟩ ∈ gw := gw_in (List.mem_append_right _ (List.mem_of_getElem? (i := 182) (by decide +kernel))) rfl
theorem gc_i : Cond.instanceMethod ⟨"java/lang/Object", "getClass", "()Ljava/lang/Class;"⟩ ∈ gw := gw_in (List.mem_append_right _ (List.mem_of_getElem? (i := 175) (by decide +kernel))) rfl
theorem gc_s : Cond.selects "[Ljava/lang/Object;" ⟨"java/lang/Object", "getClass", "()Ljava/lang/Class;"⟩ ⟨"java/lang/Object", "getClass", "()Ljava/lang/Class;"⟩ ∈ gw := gw_in (List.mem_append_right _ (List.mem_of_getElem? (i := 429) (by decide +kernel))) rfl
theorem o_I : Cond.instanceMethod Lib.objectInit ∈ gw := gw_in (List.mem_append_right _ (List.mem_of_getElem? (i := 20) (by decide +kernel))) rfl
theorem o_C : Cond.code Lib.objectInit ⟨#[0xb1]⟩ 1 none ∈ gw := gw_in (List.mem_append_right _ (List.mem_of_getElem? (i := 21) rfl)) rfl
end
section
theorem d_M_init_0 : decode b_M_init 0 = .ok (.aload_n 0, 1) := by decide +kernel
theorem d_M_init_1 : decode b_M_init 1 = .ok (.invokespecial 1, 3) := by decide +kernel
theorem d_M_init_4 : decode b_M_init 4 = .ok (.aload_n 0, 1) := by decide +kernel
theorem d_M_init_5 : decode b_M_init 5 = .ok (.sipush 4001, 3) := by decide +kernel
theorem d_M_init_8 : decode b_M_init 8 = .ok (.newarray .int, 2) := by decide +kernel
theorem d_M_init_10 : decode b_M_init 10 = .ok (.putfield 7, 3) := by decide +kernel
theorem d_M_init_13 : decode b_M_init 13 = .ok (.aload_n 0, 1) := by decide +kernel
theorem d_M_init_14 : decode b_M_init 14 = .ok (.sipush 4001, 3) := by decide +kernel
theorem d_M_init_17 : decode b_M_init 17 = .ok (.newarray .int, 2) := by decide +kernel
theorem d_M_init_19 : decode b_M_init 19 = .ok (.putfield 13, 3) := by decide +kernel
theorem d_M_init_22 : decode b_M_init 22 = .ok (.aload_n 0, 1) := by decide +kernel
theorem d_M_init_23 : decode b_M_init 23 = .ok (.sipush 4001, 3) := by decide +kernel
theorem d_M_init_26 : decode b_M_init 26 = .ok (.newarray .int, 2) := by decide +kernel
theorem d_M_init_28 : decode b_M_init 28 = .ok (.putfield 16, 3) := by decide +kernel
theorem d_M_init_31 : decode b_M_init 31 = .ok (.aload_n 0, 1) := by decide +kernel
theorem d_M_init_32 : decode b_M_init 32 = .ok (.sipush 4001, 3) := by decide +kernel
theorem d_M_init_35 : decode b_M_init 35 = .ok (.newarray .int, 2) := by decide +kernel
theorem d_M_init_37 : decode b_M_init 37 = .ok (.putfield 19, 3) := by decide +kernel
theorem d_M_init_40 : decode b_M_init 40 = .ok (.aload_n 0, 1) := by decide +kernel
theorem d_M_init_41 : decode b_M_init 41 = .ok (.bipush 6, 2) := by decide +kernel
theorem d_M_init_43 : decode b_M_init 43 = .ok (.newarray .boolean, 2) := by decide +kernel
theorem d_M_init_45 : decode b_M_init 45 = .ok (.putfield 22, 3) := by decide +kernel
theorem d_M_init_48 : decode b_M_init 48 = .ok (.aload_n 0, 1) := by decide +kernel
theorem d_M_init_49 : decode b_M_init 49 = .ok (.bipush 6, 2) := by decide +kernel
theorem d_M_init_51 : decode b_M_init 51 = .ok (.newarray .int, 2) := by decide +kernel
theorem d_M_init_53 : decode b_M_init 53 = .ok (.putfield 26, 3) := by decide +kernel
theorem d_M_init_56 : decode b_M_init 56 = .ok (.aload_n 0, 1) := by decide +kernel
theorem d_M_init_57 : decode b_M_init 57 = .ok (.bipush 6, 2) := by decide +kernel
theorem d_M_init_59 : decode b_M_init 59 = .ok (.newarray .int, 2) := by decide +kernel
theorem d_M_init_61 : decode b_M_init 61 = .ok (.putfield 29, 3) := by decide +kernel
theorem d_M_init_64 : decode b_M_init 64 = .ok (.aload_n 0, 1) := by decide +kernel
theorem d_M_init_65 : decode b_M_init 65 = .ok (.bipush 6, 2) := by decide +kernel
theorem d_M_init_67 : decode b_M_init 67 = .ok (.newarray .int, 2) := by decide +kernel
theorem d_M_init_69 : decode b_M_init 69 = .ok (.putfield 32, 3) := by decide +kernel
theorem d_M_init_72 : decode b_M_init 72 = .ok (.aload_n 0, 1) := by decide +kernel
theorem d_M_init_73 : decode b_M_init 73 = .ok (.bipush 6, 2) := by decide +kernel
theorem d_M_init_75 : decode b_M_init 75 = .ok (.newarray .int, 2) := by decide +kernel
theorem d_M_init_77 : decode b_M_init 77 = .ok (.putfield 35, 3) := by decide +kernel
theorem d_M_init_80 : decode b_M_init 80 = .ok (.aload_n 0, 1) := by decide +kernel
theorem d_M_init_81 : decode b_M_init 81 = .ok (.bipush 48, 2) := by decide +kernel
theorem d_M_init_83 : decode b_M_init 83 = .ok (.newarray .int, 2) := by decide +kernel
theorem d_M_init_85 : decode b_M_init 85 = .ok (.putfield 38, 3) := by decide +kernel
theorem d_M_init_88 : decode b_M_init 88 = .ok (.return_, 1) := by decide +kernel
theorem d_M_runs_0 : decode b_M_runs 0 = .ok (.iload_n 1, 1) := by decide +kernel
theorem d_M_runs_1 : decode b_M_runs 1 = .ok (.ifCond .lt 22, 3) := by decide +kernel
theorem d_M_runs_4 : decode b_M_runs 4 = .ok (.iload_n 1, 1) := by decide +kernel
theorem d_M_runs_5 : decode b_M_runs 5 = .ok (.bipush 6, 2) := by decide +kernel
theorem d_M_runs_7 : decode b_M_runs 7 = .ok (.if_icmp .ge 16, 3) := by decide +kernel
theorem d_M_runs_10 : decode b_M_runs 10 = .ok (.aload_n 0, 1) := by decide +kernel
theorem d_M_runs_11 : decode b_M_runs 11 = .ok (.getfield 22, 3) := by decide +kernel
theorem d_M_runs_14 : decode b_M_runs 14 = .ok (.iload_n 1, 1) := by decide +kernel
theorem d_M_runs_15 : decode b_M_runs 15 = .ok (.baload, 1) := by decide +kernel
theorem d_M_runs_16 : decode b_M_runs 16 = .ok (.ifCond .eq 7, 3) := by decide +kernel
theorem d_M_runs_19 : decode b_M_runs 19 = .ok (.iconst 1, 1) := by decide +kernel
theorem d_M_runs_20 : decode b_M_runs 20 = .ok (.goto 4, 3) := by decide +kernel
theorem d_M_runs_23 : decode b_M_runs 23 = .ok (.iconst 0, 1) := by decide +kernel
theorem d_M_runs_24 : decode b_M_runs 24 = .ok (.ireturn, 1) := by decide +kernel
theorem d_M_isGiven_0 : decode b_M_isGiven 0 = .ok (.iload_n 1, 1) := by decide +kernel
theorem d_M_isGiven_1 : decode b_M_isGiven 1 = .ok (.iconst 1, 1) := by decide +kernel
theorem d_M_isGiven_2 : decode b_M_isGiven 2 = .ok (.if_icmp .lt 15, 3) := by decide +kernel
theorem d_M_isGiven_5 : decode b_M_isGiven 5 = .ok (.iload_n 1, 1) := by decide +kernel
theorem d_M_isGiven_6 : decode b_M_isGiven 6 = .ok (.aload_n 0, 1) := by decide +kernel
theorem d_M_isGiven_7 : decode b_M_isGiven 7 = .ok (.getfield 41, 3) := by decide +kernel
theorem d_M_isGiven_10 : decode b_M_isGiven 10 = .ok (.if_icmp .gt 7, 3) := by decide +kernel
theorem d_M_isGiven_13 : decode b_M_isGiven 13 = .ok (.iconst 1, 1) := by decide +kernel
theorem d_M_isGiven_14 : decode b_M_isGiven 14 = .ok (.goto 4, 3) := by decide +kernel
theorem d_M_isGiven_17 : decode b_M_isGiven 17 = .ok (.iconst 0, 1) := by decide +kernel
theorem d_M_isGiven_18 : decode b_M_isGiven 18 = .ok (.ireturn, 1) := by decide +kernel
theorem d_M_begin_0 : decode b_M_begin 0 = .ok (.iload_n 1, 1) := by decide +kernel
theorem d_M_begin_1 : decode b_M_begin 1 = .ok (.ifCond .lt 27, 3) := by decide +kernel
theorem d_M_begin_4 : decode b_M_begin 4 = .ok (.iload_n 1, 1) := by decide +kernel
theorem d_M_begin_5 : decode b_M_begin 5 = .ok (.bipush 6, 2) := by decide +kernel
theorem d_M_begin_7 : decode b_M_begin 7 = .ok (.if_icmp .ge 21, 3) := by decide +kernel
theorem d_M_begin_10 : decode b_M_begin 10 = .ok (.iload_n 2, 1) := by decide +kernel
theorem d_M_begin_11 : decode b_M_begin 11 = .ok (.ifCond .lt 17, 3) := by decide +kernel
theorem d_M_begin_14 : decode b_M_begin 14 = .ok (.iload_n 2, 1) := by decide +kernel
theorem d_M_begin_15 : decode b_M_begin 15 = .ok (.iconst 1, 1) := by decide +kernel
theorem d_M_begin_16 : decode b_M_begin 16 = .ok (.if_icmp .gt 12, 3) := by decide +kernel
theorem d_M_begin_19 : decode b_M_begin 19 = .ok (.aload_n 0, 1) := by decide +kernel
theorem d_M_begin_20 : decode b_M_begin 20 = .ok (.getfield 22, 3) := by decide +kernel
theorem d_M_begin_23 : decode b_M_begin 23 = .ok (.iload_n 1, 1) := by decide +kernel
theorem d_M_begin_24 : decode b_M_begin 24 = .ok (.baload, 1) := by decide +kernel
theorem d_M_begin_25 : decode b_M_begin 25 = .ok (.ifCond .eq 5, 3) := by decide +kernel
theorem d_M_begin_28 : decode b_M_begin 28 = .ok (.iconst 0, 1) := by decide +kernel
theorem d_M_begin_29 : decode b_M_begin 29 = .ok (.ireturn, 1) := by decide +kernel
theorem d_M_begin_30 : decode b_M_begin 30 = .ok (.aload_n 0, 1) := by decide +kernel
theorem d_M_begin_31 : decode b_M_begin 31 = .ok (.getfield 22, 3) := by decide +kernel
theorem d_M_begin_34 : decode b_M_begin 34 = .ok (.iload_n 1, 1) := by decide +kernel
theorem d_M_begin_35 : decode b_M_begin 35 = .ok (.iconst 1, 1) := by decide +kernel
theorem d_M_begin_36 : decode b_M_begin 36 = .ok (.bastore, 1) := by decide +kernel
theorem d_M_begin_37 : decode b_M_begin 37 = .ok (.aload_n 0, 1) := by decide +kernel
theorem d_M_begin_38 : decode b_M_begin 38 = .ok (.getfield 26, 3) := by decide +kernel
theorem d_M_begin_41 : decode b_M_begin 41 = .ok (.iload_n 1, 1) := by decide +kernel
theorem d_M_begin_42 : decode b_M_begin 42 = .ok (.iload_n 2, 1) := by decide +kernel
theorem d_M_begin_43 : decode b_M_begin 43 = .ok (.iastore, 1) := by decide +kernel
theorem d_M_begin_44 : decode b_M_begin 44 = .ok (.aload_n 0, 1) := by decide +kernel
theorem d_M_begin_45 : decode b_M_begin 45 = .ok (.getfield 29, 3) := by decide +kernel
theorem d_M_begin_48 : decode b_M_begin 48 = .ok (.iload_n 1, 1) := by decide +kernel
theorem d_M_begin_49 : decode b_M_begin 49 = .ok (.iconst 0, 1) := by decide +kernel
theorem d_M_begin_50 : decode b_M_begin 50 = .ok (.iastore, 1) := by decide +kernel
theorem d_M_begin_51 : decode b_M_begin 51 = .ok (.aload_n 0, 1) := by decide +kernel
theorem d_M_begin_52 : decode b_M_begin 52 = .ok (.getfield 32, 3) := by decide +kernel
theorem d_M_begin_55 : decode b_M_begin 55 = .ok (.iload_n 1, 1) := by decide +kernel
theorem d_M_begin_56 : decode b_M_begin 56 = .ok (.iconst 0, 1) := by decide +kernel
theorem d_M_begin_57 : decode b_M_begin 57 = .ok (.iastore, 1) := by decide +kernel
theorem d_M_begin_58 : decode b_M_begin 58 = .ok (.aload_n 0, 1) := by decide +kernel
theorem d_M_begin_59 : decode b_M_begin 59 = .ok (.getfield 35, 3) := by decide +kernel
theorem d_M_begin_62 : decode b_M_begin 62 = .ok (.iload_n 1, 1) := by decide +kernel
theorem d_M_begin_63 : decode b_M_begin 63 = .ok (.iconst (-1), 1) := by decide +kernel
theorem d_M_begin_64 : decode b_M_begin 64 = .ok (.iastore, 1) := by decide +kernel
theorem d_M_begin_65 : decode b_M_begin 65 = .ok (.aload_n 0, 1) := by decide +kernel
theorem d_M_begin_66 : decode b_M_begin 66 = .ok (.getfield 38, 3) := by decide +kernel
theorem d_M_begin_69 : decode b_M_begin 69 = .ok (.bipush 8, 2) := by decide +kernel
theorem d_M_begin_71 : decode b_M_begin 71 = .ok (.iload_n 1, 1) := by decide +kernel
theorem d_M_begin_72 : decode b_M_begin 72 = .ok (.imul, 1) := by decide +kernel
theorem d_M_begin_73 : decode b_M_begin 73 = .ok (.iconst 0, 1) := by decide +kernel
theorem d_M_begin_74 : decode b_M_begin 74 = .ok (.iastore, 1) := by decide +kernel
theorem d_M_begin_75 : decode b_M_begin 75 = .ok (.iconst 1, 1) := by decide +kernel
theorem d_M_begin_76 : decode b_M_begin 76 = .ok (.ireturn, 1) := by decide +kernel
theorem d_M_statement_0 : decode b_M_statement 0 = .ok (.aload_n 0, 1) := by decide +kernel
theorem d_M_statement_1 : decode b_M_statement 1 = .ok (.iload_n 1, 1) := by decide +kernel
theorem d_M_statement_2 : decode b_M_statement 2 = .ok (.invokevirtual 45, 3) := by decide +kernel
theorem d_M_statement_5 : decode b_M_statement 5 = .ok (.ifCond .ne 5, 3) := by decide +kernel
theorem d_M_statement_8 : decode b_M_statement 8 = .ok (.iconst (-1), 1) := by decide +kernel
theorem d_M_statement_9 : decode b_M_statement 9 = .ok (.ireturn, 1) := by decide +kernel
theorem d_M_statement_10 : decode b_M_statement 10 = .ok (.aload_n 0, 1) := by decide +kernel
theorem d_M_statement_11 : decode b_M_statement 11 = .ok (.getfield 29, 3) := by decide +kernel
theorem d_M_statement_14 : decode b_M_statement 14 = .ok (.iload_n 1, 1) := by decide +kernel
theorem d_M_statement_15 : decode b_M_statement 15 = .ok (.dup2, 1) := by decide +kernel
theorem d_M_statement_16 : decode b_M_statement 16 = .ok (.iaload, 1) := by decide +kernel
theorem d_M_statement_17 : decode b_M_statement 17 = .ok (.iconst 1, 1) := by decide +kernel
theorem d_M_statement_18 : decode b_M_statement 18 = .ok (.iadd, 1) := by decide +kernel
theorem d_M_statement_19 : decode b_M_statement 19 = .ok (.iastore, 1) := by decide +kernel
theorem d_M_statement_20 : decode b_M_statement 20 = .ok (.aload_n 0, 1) := by decide +kernel
theorem d_M_statement_21 : decode b_M_statement 21 = .ok (.getfield 35, 3) := by decide +kernel
theorem d_M_statement_24 : decode b_M_statement 24 = .ok (.iload_n 1, 1) := by decide +kernel
theorem d_M_statement_25 : decode b_M_statement 25 = .ok (.aload_n 0, 1) := by decide +kernel
theorem d_M_statement_26 : decode b_M_statement 26 = .ok (.getfield 26, 3) := by decide +kernel
theorem d_M_statement_29 : decode b_M_statement 29 = .ok (.iload_n 1, 1) := by decide +kernel
theorem d_M_statement_30 : decode b_M_statement 30 = .ok (.iaload, 1) := by decide +kernel
theorem d_M_statement_31 : decode b_M_statement 31 = .ok (.ifCond .eq 12, 3) := by decide +kernel
theorem d_M_statement_34 : decode b_M_statement 34 = .ok (.aload_n 0, 1) := by decide +kernel
theorem d_M_statement_35 : decode b_M_statement 35 = .ok (.getfield 35, 3) := by decide +kernel
theorem d_M_statement_38 : decode b_M_statement 38 = .ok (.iload_n 1, 1) := by decide +kernel
theorem d_M_statement_39 : decode b_M_statement 39 = .ok (.iaload, 1) := by decide +kernel
theorem d_M_statement_40 : decode b_M_statement 40 = .ok (.ifCond .ge 10, 3) := by decide +kernel
theorem d_M_statement_43 : decode b_M_statement 43 = .ok (.aload_n 0, 1) := by decide +kernel
theorem d_M_statement_44 : decode b_M_statement 44 = .ok (.getfield 49, 3) := by decide +kernel
theorem d_M_statement_47 : decode b_M_statement 47 = .ok (.goto 9, 3) := by decide +kernel
theorem d_M_statement_50 : decode b_M_statement 50 = .ok (.aload_n 0, 1) := by decide +kernel
theorem d_M_statement_51 : decode b_M_statement 51 = .ok (.getfield 35, 3) := by decide +kernel
theorem d_M_statement_54 : decode b_M_statement 54 = .ok (.iload_n 1, 1) := by decide +kernel
theorem d_M_statement_55 : decode b_M_statement 55 = .ok (.iaload, 1) := by decide +kernel
theorem d_M_statement_56 : decode b_M_statement 56 = .ok (.iastore, 1) := by decide +kernel
theorem d_M_statement_57 : decode b_M_statement 57 = .ok (.aload_n 0, 1) := by decide +kernel
theorem d_M_statement_58 : decode b_M_statement 58 = .ok (.getfield 29, 3) := by decide +kernel
theorem d_M_statement_61 : decode b_M_statement 61 = .ok (.iload_n 1, 1) := by decide +kernel
theorem d_M_statement_62 : decode b_M_statement 62 = .ok (.iaload, 1) := by decide +kernel
theorem d_M_statement_63 : decode b_M_statement 63 = .ok (.ireturn, 1) := by decide +kernel
theorem d_M_number_0 : decode b_M_number 0 = .ok (.iconst 0, 1) := by decide +kernel
theorem d_M_number_1 : decode b_M_number 1 = .ok (.istore_n 2, 1) := by decide +kernel
theorem d_M_number_2 : decode b_M_number 2 = .ok (.iconst 0, 1) := by decide +kernel
theorem d_M_number_3 : decode b_M_number 3 = .ok (.istore_n 3, 1) := by decide +kernel
theorem d_M_number_4 : decode b_M_number 4 = .ok (.aload_n 0, 1) := by decide +kernel
theorem d_M_number_5 : decode b_M_number 5 = .ok (.iload_n 1, 1) := by decide +kernel
theorem d_M_number_6 : decode b_M_number 6 = .ok (.invokevirtual 45, 3) := by decide +kernel
theorem d_M_number_9 : decode b_M_number 9 = .ok (.ifCond .eq 41, 3) := by decide +kernel
theorem d_M_number_12 : decode b_M_number 12 = .ok (.iload_n 3, 1) := by decide +kernel
theorem d_M_number_13 : decode b_M_number 13 = .ok (.aload_n 0, 1) := by decide +kernel
theorem d_M_number_14 : decode b_M_number 14 = .ok (.getfield 32, 3) := by decide +kernel
theorem d_M_number_17 : decode b_M_number 17 = .ok (.iload_n 1, 1) := by decide +kernel
theorem d_M_number_18 : decode b_M_number 18 = .ok (.iaload, 1) := by decide +kernel
theorem d_M_number_19 : decode b_M_number 19 = .ok (.if_icmp .gt 31, 3) := by decide +kernel
theorem d_M_number_22 : decode b_M_number 22 = .ok (.aload_n 0, 1) := by decide +kernel
theorem d_M_number_23 : decode b_M_number 23 = .ok (.getfield 38, 3) := by decide +kernel
theorem d_M_number_26 : decode b_M_number 26 = .ok (.bipush 8, 2) := by decide +kernel
theorem d_M_number_28 : decode b_M_number 28 = .ok (.iload_n 1, 1) := by decide +kernel
theorem d_M_number_29 : decode b_M_number 29 = .ok (.imul, 1) := by decide +kernel
theorem d_M_number_30 : decode b_M_number 30 = .ok (.iload_n 3, 1) := by decide +kernel
theorem d_M_number_31 : decode b_M_number 31 = .ok (.iadd, 1) := by decide +kernel
theorem d_M_number_32 : decode b_M_number 32 = .ok (.iaload, 1) := by decide +kernel
theorem d_M_number_33 : decode b_M_number 33 = .ok (.ifCond .ne 9, 3) := by decide +kernel
theorem d_M_number_36 : decode b_M_number 36 = .ok (.iload_n 2, 1) := by decide +kernel
theorem d_M_number_37 : decode b_M_number 37 = .ok (.iconst 1, 1) := by decide +kernel
theorem d_M_number_38 : decode b_M_number 38 = .ok (.iadd, 1) := by decide +kernel
theorem d_M_number_39 : decode b_M_number 39 = .ok (.goto 4, 3) := by decide +kernel
theorem d_M_number_42 : decode b_M_number 42 = .ok (.iload_n 2, 1) := by decide +kernel
theorem d_M_number_43 : decode b_M_number 43 = .ok (.istore_n 2, 1) := by decide +kernel
theorem d_M_number_44 : decode b_M_number 44 = .ok (.iinc 3 1, 3) := by decide +kernel
theorem d_M_number_47 : decode b_M_number 47 = .ok (.goto (-43), 3) := by decide +kernel
theorem d_M_number_50 : decode b_M_number 50 = .ok (.aload_n 0, 1) := by decide +kernel
theorem d_M_number_51 : decode b_M_number 51 = .ok (.iload_n 1, 1) := by decide +kernel
theorem d_M_number_52 : decode b_M_number 52 = .ok (.invokevirtual 45, 3) := by decide +kernel
theorem d_M_number_55 : decode b_M_number 55 = .ok (.ifCond .eq 15, 3) := by decide +kernel
theorem d_M_number_58 : decode b_M_number 58 = .ok (.aload_n 0, 1) := by decide +kernel
theorem d_M_number_59 : decode b_M_number 59 = .ok (.getfield 41, 3) := by decide +kernel
theorem d_M_number_62 : decode b_M_number 62 = .ok (.iload_n 2, 1) := by decide +kernel
theorem d_M_number_63 : decode b_M_number 63 = .ok (.iadd, 1) := by decide +kernel
theorem d_M_number_64 : decode b_M_number 64 = .ok (.sipush 4000, 3) := by decide +kernel
theorem d_M_number_67 : decode b_M_number 67 = .ok (.if_icmp .le 5, 3) := by decide +kernel
theorem d_M_number_70 : decode b_M_number 70 = .ok (.iconst (-1), 1) := by decide +kernel
theorem d_M_number_71 : decode b_M_number 71 = .ok (.ireturn, 1) := by decide +kernel
theorem d_M_number_72 : decode b_M_number 72 = .ok (.iconst 0, 1) := by decide +kernel
theorem d_M_number_73 : decode b_M_number 73 = .ok (.istore_n 3, 1) := by decide +kernel
theorem d_M_number_74 : decode b_M_number 74 = .ok (.iload_n 3, 1) := by decide +kernel
theorem d_M_number_75 : decode b_M_number 75 = .ok (.aload_n 0, 1) := by decide +kernel
theorem d_M_number_76 : decode b_M_number 76 = .ok (.getfield 32, 3) := by decide +kernel
theorem d_M_number_79 : decode b_M_number 79 = .ok (.iload_n 1, 1) := by decide +kernel
theorem d_M_number_80 : decode b_M_number 80 = .ok (.iaload, 1) := by decide +kernel
theorem d_M_number_81 : decode b_M_number 81 = .ok (.if_icmp .gt 91, 3) := by decide +kernel
theorem d_M_number_84 : decode b_M_number 84 = .ok (.aload_n 0, 1) := by decide +kernel
theorem d_M_number_85 : decode b_M_number 85 = .ok (.getfield 38, 3) := by decide +kernel
theorem d_M_number_88 : decode b_M_number 88 = .ok (.bipush 8, 2) := by decide +kernel
theorem d_M_number_90 : decode b_M_number 90 = .ok (.iload_n 1, 1) := by decide +kernel
theorem d_M_number_91 : decode b_M_number 91 = .ok (.imul, 1) := by decide +kernel
theorem d_M_number_92 : decode b_M_number 92 = .ok (.iload_n 3, 1) := by decide +kernel
theorem d_M_number_93 : decode b_M_number 93 = .ok (.iadd, 1) := by decide +kernel
theorem d_M_number_94 : decode b_M_number 94 = .ok (.iaload, 1) := by decide +kernel
theorem d_M_number_95 : decode b_M_number 95 = .ok (.ifCond .ne 71, 3) := by decide +kernel
theorem d_M_number_98 : decode b_M_number 98 = .ok (.aload_n 0, 1) := by decide +kernel
theorem d_M_number_99 : decode b_M_number 99 = .ok (.dup, 1) := by decide +kernel
theorem d_M_number_100 : decode b_M_number 100 = .ok (.getfield 41, 3) := by decide +kernel
theorem d_M_number_103 : decode b_M_number 103 = .ok (.iconst 1, 1) := by decide +kernel
theorem d_M_number_104 : decode b_M_number 104 = .ok (.iadd, 1) := by decide +kernel
theorem d_M_number_105 : decode b_M_number 105 = .ok (.putfield 41, 3) := by decide +kernel
theorem d_M_number_108 : decode b_M_number 108 = .ok (.aload_n 0, 1) := by decide +kernel
theorem d_M_number_109 : decode b_M_number 109 = .ok (.getfield 38, 3) := by decide +kernel
theorem d_M_number_112 : decode b_M_number 112 = .ok (.bipush 8, 2) := by decide +kernel
theorem d_M_number_114 : decode b_M_number 114 = .ok (.iload_n 1, 1) := by decide +kernel
theorem d_M_number_115 : decode b_M_number 115 = .ok (.imul, 1) := by decide +kernel
theorem d_M_number_116 : decode b_M_number 116 = .ok (.iload_n 3, 1) := by decide +kernel
theorem d_M_number_117 : decode b_M_number 117 = .ok (.iadd, 1) := by decide +kernel
theorem d_M_number_118 : decode b_M_number 118 = .ok (.aload_n 0, 1) := by decide +kernel
theorem d_M_number_119 : decode b_M_number 119 = .ok (.getfield 41, 3) := by decide +kernel
theorem d_M_number_122 : decode b_M_number 122 = .ok (.iastore, 1) := by decide +kernel
theorem d_M_number_123 : decode b_M_number 123 = .ok (.aload_n 0, 1) := by decide +kernel
theorem d_M_number_124 : decode b_M_number 124 = .ok (.getfield 7, 3) := by decide +kernel
theorem d_M_number_127 : decode b_M_number 127 = .ok (.aload_n 0, 1) := by decide +kernel
theorem d_M_number_128 : decode b_M_number 128 = .ok (.getfield 41, 3) := by decide +kernel
theorem d_M_number_131 : decode b_M_number 131 = .ok (.iconst 1, 1) := by decide +kernel
theorem d_M_number_132 : decode b_M_number 132 = .ok (.iastore, 1) := by decide +kernel
theorem d_M_number_133 : decode b_M_number 133 = .ok (.aload_n 0, 1) := by decide +kernel
theorem d_M_number_134 : decode b_M_number 134 = .ok (.getfield 13, 3) := by decide +kernel
theorem d_M_number_137 : decode b_M_number 137 = .ok (.aload_n 0, 1) := by decide +kernel
theorem d_M_number_138 : decode b_M_number 138 = .ok (.getfield 41, 3) := by decide +kernel
theorem d_M_number_141 : decode b_M_number 141 = .ok (.bipush 8, 2) := by decide +kernel
theorem d_M_number_143 : decode b_M_number 143 = .ok (.iload_n 1, 1) := by decide +kernel
theorem d_M_number_144 : decode b_M_number 144 = .ok (.imul, 1) := by decide +kernel
theorem d_M_number_145 : decode b_M_number 145 = .ok (.iload_n 3, 1) := by decide +kernel
theorem d_M_number_146 : decode b_M_number 146 = .ok (.iadd, 1) := by decide +kernel
theorem d_M_number_147 : decode b_M_number 147 = .ok (.iastore, 1) := by decide +kernel
theorem d_M_number_148 : decode b_M_number 148 = .ok (.aload_n 0, 1) := by decide +kernel
theorem d_M_number_149 : decode b_M_number 149 = .ok (.getfield 16, 3) := by decide +kernel
theorem d_M_number_152 : decode b_M_number 152 = .ok (.aload_n 0, 1) := by decide +kernel
theorem d_M_number_153 : decode b_M_number 153 = .ok (.getfield 41, 3) := by decide +kernel
theorem d_M_number_156 : decode b_M_number 156 = .ok (.aload_n 0, 1) := by decide +kernel
theorem d_M_number_157 : decode b_M_number 157 = .ok (.getfield 38, 3) := by decide +kernel
theorem d_M_number_160 : decode b_M_number 160 = .ok (.bipush 8, 2) := by decide +kernel
theorem d_M_number_162 : decode b_M_number 162 = .ok (.iload_n 1, 1) := by decide +kernel
theorem d_M_number_163 : decode b_M_number 163 = .ok (.imul, 1) := by decide +kernel
theorem d_M_number_164 : decode b_M_number 164 = .ok (.iaload, 1) := by decide +kernel
theorem d_M_number_165 : decode b_M_number 165 = .ok (.iastore, 1) := by decide +kernel
theorem d_M_number_166 : decode b_M_number 166 = .ok (.iinc 3 1, 3) := by decide +kernel
theorem d_M_number_169 : decode b_M_number 169 = .ok (.goto (-95), 3) := by decide +kernel
theorem d_M_number_172 : decode b_M_number 172 = .ok (.aload_n 0, 1) := by decide +kernel
theorem d_M_number_173 : decode b_M_number 173 = .ok (.getfield 38, 3) := by decide +kernel
theorem d_M_number_176 : decode b_M_number 176 = .ok (.bipush 8, 2) := by decide +kernel
theorem d_M_number_178 : decode b_M_number 178 = .ok (.iload_n 1, 1) := by decide +kernel
theorem d_M_number_179 : decode b_M_number 179 = .ok (.imul, 1) := by decide +kernel
theorem d_M_number_180 : decode b_M_number 180 = .ok (.aload_n 0, 1) := by decide +kernel
theorem d_M_number_181 : decode b_M_number 181 = .ok (.getfield 32, 3) := by decide +kernel
theorem d_M_number_184 : decode b_M_number 184 = .ok (.iload_n 1, 1) := by decide +kernel
theorem d_M_number_185 : decode b_M_number 185 = .ok (.iaload, 1) := by decide +kernel
theorem d_M_number_186 : decode b_M_number 186 = .ok (.iadd, 1) := by decide +kernel
theorem d_M_number_187 : decode b_M_number 187 = .ok (.iaload, 1) := by decide +kernel
theorem d_M_number_188 : decode b_M_number 188 = .ok (.ireturn, 1) := by decide +kernel
theorem d_M_save_0 : decode b_M_save 0 = .ok (.aload_n 0, 1) := by decide +kernel
theorem d_M_save_1 : decode b_M_save 1 = .ok (.iload_n 1, 1) := by decide +kernel
theorem d_M_save_2 : decode b_M_save 2 = .ok (.invokevirtual 45, 3) := by decide +kernel
theorem d_M_save_5 : decode b_M_save 5 = .ok (.ifCond .eq 14, 3) := by decide +kernel
theorem d_M_save_8 : decode b_M_save 8 = .ok (.aload_n 0, 1) := by decide +kernel
theorem d_M_save_9 : decode b_M_save 9 = .ok (.getfield 32, 3) := by decide +kernel
theorem d_M_save_12 : decode b_M_save 12 = .ok (.iload_n 1, 1) := by decide +kernel
theorem d_M_save_13 : decode b_M_save 13 = .ok (.iaload, 1) := by decide +kernel
theorem d_M_save_14 : decode b_M_save 14 = .ok (.bipush 7, 2) := by decide +kernel
theorem d_M_save_16 : decode b_M_save 16 = .ok (.if_icmp .ne 5, 3) := by decide +kernel
theorem d_M_save_19 : decode b_M_save 19 = .ok (.iconst (-1), 1) := by decide +kernel
theorem d_M_save_20 : decode b_M_save 20 = .ok (.ireturn, 1) := by decide +kernel
theorem d_M_save_21 : decode b_M_save 21 = .ok (.aload_n 0, 1) := by decide +kernel
theorem d_M_save_22 : decode b_M_save 22 = .ok (.getfield 32, 3) := by decide +kernel
theorem d_M_save_25 : decode b_M_save 25 = .ok (.iload_n 1, 1) := by decide +kernel
theorem d_M_save_26 : decode b_M_save 26 = .ok (.dup2, 1) := by decide +kernel
theorem d_M_save_27 : decode b_M_save 27 = .ok (.iaload, 1) := by decide +kernel
theorem d_M_save_28 : decode b_M_save 28 = .ok (.iconst 1, 1) := by decide +kernel
theorem d_M_save_29 : decode b_M_save 29 = .ok (.iadd, 1) := by decide +kernel
theorem d_M_save_30 : decode b_M_save 30 = .ok (.iastore, 1) := by decide +kernel
theorem d_M_save_31 : decode b_M_save 31 = .ok (.aload_n 0, 1) := by decide +kernel
theorem d_M_save_32 : decode b_M_save 32 = .ok (.getfield 38, 3) := by decide +kernel
theorem d_M_save_35 : decode b_M_save 35 = .ok (.bipush 8, 2) := by decide +kernel
theorem d_M_save_37 : decode b_M_save 37 = .ok (.iload_n 1, 1) := by decide +kernel
theorem d_M_save_38 : decode b_M_save 38 = .ok (.imul, 1) := by decide +kernel
theorem d_M_save_39 : decode b_M_save 39 = .ok (.aload_n 0, 1) := by decide +kernel
theorem d_M_save_40 : decode b_M_save 40 = .ok (.getfield 32, 3) := by decide +kernel
theorem d_M_save_43 : decode b_M_save 43 = .ok (.iload_n 1, 1) := by decide +kernel
theorem d_M_save_44 : decode b_M_save 44 = .ok (.iaload, 1) := by decide +kernel
theorem d_M_save_45 : decode b_M_save 45 = .ok (.iadd, 1) := by decide +kernel
theorem d_M_save_46 : decode b_M_save 46 = .ok (.iconst 0, 1) := by decide +kernel
theorem d_M_save_47 : decode b_M_save 47 = .ok (.iastore, 1) := by decide +kernel
theorem d_M_save_48 : decode b_M_save 48 = .ok (.aload_n 0, 1) := by decide +kernel
theorem d_M_save_49 : decode b_M_save 49 = .ok (.getfield 32, 3) := by decide +kernel
theorem d_M_save_52 : decode b_M_save 52 = .ok (.iload_n 1, 1) := by decide +kernel
theorem d_M_save_53 : decode b_M_save 53 = .ok (.iaload, 1) := by decide +kernel
theorem d_M_save_54 : decode b_M_save 54 = .ok (.ireturn, 1) := by decide +kernel
theorem d_M_isFrom_0 : decode b_M_isFrom 0 = .ok (.aload_n 0, 1) := by decide +kernel
theorem d_M_isFrom_1 : decode b_M_isFrom 1 = .ok (.getfield 7, 3) := by decide +kernel
theorem d_M_isFrom_4 : decode b_M_isFrom 4 = .ok (.iload_n 1, 1) := by decide +kernel
theorem d_M_isFrom_5 : decode b_M_isFrom 5 = .ok (.iaload, 1) := by decide +kernel
theorem d_M_isFrom_6 : decode b_M_isFrom 6 = .ok (.iconst 1, 1) := by decide +kernel
theorem d_M_isFrom_7 : decode b_M_isFrom 7 = .ok (.if_icmp .ne 33, 3) := by decide +kernel
theorem d_M_isFrom_10 : decode b_M_isFrom 10 = .ok (.aload_n 0, 1) := by decide +kernel
theorem d_M_isFrom_11 : decode b_M_isFrom 11 = .ok (.getfield 13, 3) := by decide +kernel
theorem d_M_isFrom_14 : decode b_M_isFrom 14 = .ok (.iload_n 1, 1) := by decide +kernel
theorem d_M_isFrom_15 : decode b_M_isFrom 15 = .ok (.iaload, 1) := by decide +kernel
theorem d_M_isFrom_16 : decode b_M_isFrom 16 = .ok (.bipush 8, 2) := by decide +kernel
theorem d_M_isFrom_18 : decode b_M_isFrom 18 = .ok (.idiv, 1) := by decide +kernel
theorem d_M_isFrom_19 : decode b_M_isFrom 19 = .ok (.iload_n 2, 1) := by decide +kernel
theorem d_M_isFrom_20 : decode b_M_isFrom 20 = .ok (.if_icmp .ne 20, 3) := by decide +kernel
theorem d_M_isFrom_23 : decode b_M_isFrom 23 = .ok (.aload_n 0, 1) := by decide +kernel
theorem d_M_isFrom_24 : decode b_M_isFrom 24 = .ok (.getfield 13, 3) := by decide +kernel
theorem d_M_isFrom_27 : decode b_M_isFrom 27 = .ok (.iload_n 1, 1) := by decide +kernel
theorem d_M_isFrom_28 : decode b_M_isFrom 28 = .ok (.iaload, 1) := by decide +kernel
theorem d_M_isFrom_29 : decode b_M_isFrom 29 = .ok (.bipush 8, 2) := by decide +kernel
theorem d_M_isFrom_31 : decode b_M_isFrom 31 = .ok (.irem, 1) := by decide +kernel
theorem d_M_isFrom_32 : decode b_M_isFrom 32 = .ok (.iload_n 3, 1) := by decide +kernel
theorem d_M_isFrom_33 : decode b_M_isFrom 33 = .ok (.if_icmp .lt 7, 3) := by decide +kernel
theorem d_M_isFrom_36 : decode b_M_isFrom 36 = .ok (.iconst 1, 1) := by decide +kernel
theorem d_M_isFrom_37 : decode b_M_isFrom 37 = .ok (.goto 4, 3) := by decide +kernel
theorem d_M_isFrom_40 : decode b_M_isFrom 40 = .ok (.iconst 0, 1) := by decide +kernel
theorem d_M_isFrom_41 : decode b_M_isFrom 41 = .ok (.ireturn, 1) := by decide +kernel
theorem d_M_release_0 : decode b_M_release 0 = .ok (.aload_n 0, 1) := by decide +kernel
theorem d_M_release_1 : decode b_M_release 1 = .ok (.iload_n 1, 1) := by decide +kernel
theorem d_M_release_2 : decode b_M_release 2 = .ok (.invokevirtual 45, 3) := by decide +kernel
theorem d_M_release_5 : decode b_M_release 5 = .ok (.ifCond .eq 18, 3) := by decide +kernel
theorem d_M_release_8 : decode b_M_release 8 = .ok (.iload_n 2, 1) := by decide +kernel
theorem d_M_release_9 : decode b_M_release 9 = .ok (.iconst 1, 1) := by decide +kernel
theorem d_M_release_10 : decode b_M_release 10 = .ok (.if_icmp .lt 13, 3) := by decide +kernel
theorem d_M_release_13 : decode b_M_release 13 = .ok (.iload_n 2, 1) := by decide +kernel
theorem d_M_release_14 : decode b_M_release 14 = .ok (.aload_n 0, 1) := by decide +kernel
theorem d_M_release_15 : decode b_M_release 15 = .ok (.getfield 32, 3) := by decide +kernel
theorem d_M_release_18 : decode b_M_release 18 = .ok (.iload_n 1, 1) := by decide +kernel
theorem d_M_release_19 : decode b_M_release 19 = .ok (.iaload, 1) := by decide +kernel
theorem d_M_release_20 : decode b_M_release 20 = .ok (.if_icmp .le 5, 3) := by decide +kernel
theorem d_M_release_23 : decode b_M_release 23 = .ok (.iconst 0, 1) := by decide +kernel
theorem d_M_release_24 : decode b_M_release 24 = .ok (.ireturn, 1) := by decide +kernel
theorem d_M_release_25 : decode b_M_release 25 = .ok (.iconst 1, 1) := by decide +kernel
theorem d_M_release_26 : decode b_M_release 26 = .ok (.istore_n 3, 1) := by decide +kernel
theorem d_M_release_27 : decode b_M_release 27 = .ok (.iload_n 3, 1) := by decide +kernel
theorem d_M_release_28 : decode b_M_release 28 = .ok (.aload_n 0, 1) := by decide +kernel
theorem d_M_release_29 : decode b_M_release 29 = .ok (.getfield 41, 3) := by decide +kernel
theorem d_M_release_32 : decode b_M_release 32 = .ok (.if_icmp .gt 42, 3) := by decide +kernel
theorem d_M_release_35 : decode b_M_release 35 = .ok (.aload_n 0, 1) := by decide +kernel
theorem d_M_release_36 : decode b_M_release 36 = .ok (.getfield 13, 3) := by decide +kernel
theorem d_M_release_39 : decode b_M_release 39 = .ok (.iload_n 3, 1) := by decide +kernel
theorem d_M_release_40 : decode b_M_release 40 = .ok (.aload_n 0, 1) := by decide +kernel
theorem d_M_release_41 : decode b_M_release 41 = .ok (.iload_n 3, 1) := by decide +kernel
theorem d_M_release_42 : decode b_M_release 42 = .ok (.iload_n 1, 1) := by decide +kernel
theorem d_M_release_43 : decode b_M_release 43 = .ok (.iload_n 2, 1) := by decide +kernel
theorem d_M_release_44 : decode b_M_release 44 = .ok (.invokevirtual 52, 3) := by decide +kernel
theorem d_M_release_47 : decode b_M_release 47 = .ok (.ifCond .eq 14, 3) := by decide +kernel
theorem d_M_release_50 : decode b_M_release 50 = .ok (.bipush 8, 2) := by decide +kernel
theorem d_M_release_52 : decode b_M_release 52 = .ok (.iload_n 1, 1) := by decide +kernel
theorem d_M_release_53 : decode b_M_release 53 = .ok (.imul, 1) := by decide +kernel
theorem d_M_release_54 : decode b_M_release 54 = .ok (.iload_n 2, 1) := by decide +kernel
theorem d_M_release_55 : decode b_M_release 55 = .ok (.iadd, 1) := by decide +kernel
theorem d_M_release_56 : decode b_M_release 56 = .ok (.iconst 1, 1) := by decide +kernel
theorem d_M_release_57 : decode b_M_release 57 = .ok (.isub, 1) := by decide +kernel
theorem d_M_release_58 : decode b_M_release 58 = .ok (.goto 9, 3) := by decide +kernel
theorem d_M_release_61 : decode b_M_release 61 = .ok (.aload_n 0, 1) := by decide +kernel
theorem d_M_release_62 : decode b_M_release 62 = .ok (.getfield 13, 3) := by decide +kernel
theorem d_M_release_65 : decode b_M_release 65 = .ok (.iload_n 3, 1) := by decide +kernel
theorem d_M_release_66 : decode b_M_release 66 = .ok (.iaload, 1) := by decide +kernel
theorem d_M_release_67 : decode b_M_release 67 = .ok (.iastore, 1) := by decide +kernel
theorem d_M_release_68 : decode b_M_release 68 = .ok (.iinc 3 1, 3) := by decide +kernel
theorem d_M_release_71 : decode b_M_release 71 = .ok (.goto (-44), 3) := by decide +kernel
theorem d_M_release_74 : decode b_M_release 74 = .ok (.aload_n 0, 1) := by decide +kernel
theorem d_M_release_75 : decode b_M_release 75 = .ok (.getfield 32, 3) := by decide +kernel
theorem d_M_release_78 : decode b_M_release 78 = .ok (.iload_n 1, 1) := by decide +kernel
theorem d_M_release_79 : decode b_M_release 79 = .ok (.iload_n 2, 1) := by decide +kernel
theorem d_M_release_80 : decode b_M_release 80 = .ok (.iconst 1, 1) := by decide +kernel
theorem d_M_release_81 : decode b_M_release 81 = .ok (.isub, 1) := by decide +kernel
theorem d_M_release_82 : decode b_M_release 82 = .ok (.iastore, 1) := by decide +kernel
theorem d_M_release_83 : decode b_M_release 83 = .ok (.iconst 1, 1) := by decide +kernel
theorem d_M_release_84 : decode b_M_release 84 = .ok (.ireturn, 1) := by decide +kernel
theorem d_M_back_0 : decode b_M_back 0 = .ok (.aload_n 0, 1) := by decide +kernel
theorem d_M_back_1 : decode b_M_back 1 = .ok (.iload_n 1, 1) := by decide +kernel
theorem d_M_back_2 : decode b_M_back 2 = .ok (.invokevirtual 45, 3) := by decide +kernel
theorem d_M_back_5 : decode b_M_back 5 = .ok (.ifCond .eq 18, 3) := by decide +kernel
theorem d_M_back_8 : decode b_M_back 8 = .ok (.iload_n 2, 1) := by decide +kernel
theorem d_M_back_9 : decode b_M_back 9 = .ok (.iconst 1, 1) := by decide +kernel
theorem d_M_back_10 : decode b_M_back 10 = .ok (.if_icmp .lt 13, 3) := by decide +kernel
theorem d_M_back_13 : decode b_M_back 13 = .ok (.iload_n 2, 1) := by decide +kernel
theorem d_M_back_14 : decode b_M_back 14 = .ok (.aload_n 0, 1) := by decide +kernel
theorem d_M_back_15 : decode b_M_back 15 = .ok (.getfield 32, 3) := by decide +kernel
theorem d_M_back_18 : decode b_M_back 18 = .ok (.iload_n 1, 1) := by decide +kernel
theorem d_M_back_19 : decode b_M_back 19 = .ok (.iaload, 1) := by decide +kernel
theorem d_M_back_20 : decode b_M_back 20 = .ok (.if_icmp .le 5, 3) := by decide +kernel
theorem d_M_back_23 : decode b_M_back 23 = .ok (.iconst 0, 1) := by decide +kernel
theorem d_M_back_24 : decode b_M_back 24 = .ok (.ireturn, 1) := by decide +kernel
theorem d_M_back_25 : decode b_M_back 25 = .ok (.iconst 1, 1) := by decide +kernel
theorem d_M_back_26 : decode b_M_back 26 = .ok (.istore_n 3, 1) := by decide +kernel
theorem d_M_back_27 : decode b_M_back 27 = .ok (.iload_n 3, 1) := by decide +kernel
theorem d_M_back_28 : decode b_M_back 28 = .ok (.aload_n 0, 1) := by decide +kernel
theorem d_M_back_29 : decode b_M_back 29 = .ok (.getfield 41, 3) := by decide +kernel
theorem d_M_back_32 : decode b_M_back 32 = .ok (.if_icmp .gt 35, 3) := by decide +kernel
theorem d_M_back_35 : decode b_M_back 35 = .ok (.aload_n 0, 1) := by decide +kernel
theorem d_M_back_36 : decode b_M_back 36 = .ok (.getfield 7, 3) := by decide +kernel
theorem d_M_back_39 : decode b_M_back 39 = .ok (.iload_n 3, 1) := by decide +kernel
theorem d_M_back_40 : decode b_M_back 40 = .ok (.aload_n 0, 1) := by decide +kernel
theorem d_M_back_41 : decode b_M_back 41 = .ok (.iload_n 3, 1) := by decide +kernel
theorem d_M_back_42 : decode b_M_back 42 = .ok (.iload_n 1, 1) := by decide +kernel
theorem d_M_back_43 : decode b_M_back 43 = .ok (.iload_n 2, 1) := by decide +kernel
theorem d_M_back_44 : decode b_M_back 44 = .ok (.invokevirtual 52, 3) := by decide +kernel
theorem d_M_back_47 : decode b_M_back 47 = .ok (.ifCond .eq 7, 3) := by decide +kernel
theorem d_M_back_50 : decode b_M_back 50 = .ok (.iconst 3, 1) := by decide +kernel
theorem d_M_back_51 : decode b_M_back 51 = .ok (.goto 9, 3) := by decide +kernel
theorem d_M_back_54 : decode b_M_back 54 = .ok (.aload_n 0, 1) := by decide +kernel
theorem d_M_back_55 : decode b_M_back 55 = .ok (.getfield 7, 3) := by decide +kernel
theorem d_M_back_58 : decode b_M_back 58 = .ok (.iload_n 3, 1) := by decide +kernel
theorem d_M_back_59 : decode b_M_back 59 = .ok (.iaload, 1) := by decide +kernel
theorem d_M_back_60 : decode b_M_back 60 = .ok (.iastore, 1) := by decide +kernel
theorem d_M_back_61 : decode b_M_back 61 = .ok (.iinc 3 1, 3) := by decide +kernel
theorem d_M_back_64 : decode b_M_back 64 = .ok (.goto (-37), 3) := by decide +kernel
theorem d_M_back_67 : decode b_M_back 67 = .ok (.aload_n 0, 1) := by decide +kernel
theorem d_M_back_68 : decode b_M_back 68 = .ok (.getfield 32, 3) := by decide +kernel
theorem d_M_back_71 : decode b_M_back 71 = .ok (.iload_n 1, 1) := by decide +kernel
theorem d_M_back_72 : decode b_M_back 72 = .ok (.iload_n 2, 1) := by decide +kernel
theorem d_M_back_73 : decode b_M_back 73 = .ok (.iastore, 1) := by decide +kernel
theorem d_M_back_74 : decode b_M_back 74 = .ok (.aload_n 0, 1) := by decide +kernel
theorem d_M_back_75 : decode b_M_back 75 = .ok (.getfield 38, 3) := by decide +kernel
theorem d_M_back_78 : decode b_M_back 78 = .ok (.bipush 8, 2) := by decide +kernel
theorem d_M_back_80 : decode b_M_back 80 = .ok (.iload_n 1, 1) := by decide +kernel
theorem d_M_back_81 : decode b_M_back 81 = .ok (.imul, 1) := by decide +kernel
theorem d_M_back_82 : decode b_M_back 82 = .ok (.iload_n 2, 1) := by decide +kernel
theorem d_M_back_83 : decode b_M_back 83 = .ok (.iadd, 1) := by decide +kernel
theorem d_M_back_84 : decode b_M_back 84 = .ok (.iconst 0, 1) := by decide +kernel
theorem d_M_back_85 : decode b_M_back 85 = .ok (.iastore, 1) := by decide +kernel
theorem d_M_back_86 : decode b_M_back 86 = .ok (.iconst 1, 1) := by decide +kernel
theorem d_M_back_87 : decode b_M_back 87 = .ok (.ireturn, 1) := by decide +kernel
theorem d_M_ends_0 : decode b_M_ends 0 = .ok (.iconst 0, 1) := by decide +kernel
theorem d_M_ends_1 : decode b_M_ends 1 = .ok (.istore_n 3, 1) := by decide +kernel
theorem d_M_ends_2 : decode b_M_ends 2 = .ok (.iconst 1, 1) := by decide +kernel
theorem d_M_ends_3 : decode b_M_ends 3 = .ok (.istore 4, 2) := by decide +kernel
theorem d_M_ends_5 : decode b_M_ends 5 = .ok (.iload 4, 2) := by decide +kernel
theorem d_M_ends_7 : decode b_M_ends 7 = .ok (.aload_n 0, 1) := by decide +kernel
theorem d_M_ends_8 : decode b_M_ends 8 = .ok (.getfield 41, 3) := by decide +kernel
theorem d_M_ends_11 : decode b_M_ends 11 = .ok (.if_icmp .gt 53, 3) := by decide +kernel
theorem d_M_ends_14 : decode b_M_ends 14 = .ok (.aload_n 0, 1) := by decide +kernel
theorem d_M_ends_15 : decode b_M_ends 15 = .ok (.iload 4, 2) := by decide +kernel
theorem d_M_ends_17 : decode b_M_ends 17 = .ok (.iload_n 1, 1) := by decide +kernel
theorem d_M_ends_18 : decode b_M_ends 18 = .ok (.iconst 0, 1) := by decide +kernel
theorem d_M_ends_19 : decode b_M_ends 19 = .ok (.invokevirtual 52, 3) := by decide +kernel
theorem d_M_ends_22 : decode b_M_ends 22 = .ok (.ifCond .eq 36, 3) := by decide +kernel
theorem d_M_ends_25 : decode b_M_ends 25 = .ok (.aload_n 0, 1) := by decide +kernel
theorem d_M_ends_26 : decode b_M_ends 26 = .ok (.getfield 7, 3) := by decide +kernel
theorem d_M_ends_29 : decode b_M_ends 29 = .ok (.iload 4, 2) := by decide +kernel
theorem d_M_ends_31 : decode b_M_ends 31 = .ok (.iload_n 2, 1) := by decide +kernel
theorem d_M_ends_32 : decode b_M_ends 32 = .ok (.iastore, 1) := by decide +kernel
theorem d_M_ends_33 : decode b_M_ends 33 = .ok (.aload_n 0, 1) := by decide +kernel
theorem d_M_ends_34 : decode b_M_ends 34 = .ok (.getfield 19, 3) := by decide +kernel
theorem d_M_ends_37 : decode b_M_ends 37 = .ok (.iload 4, 2) := by decide +kernel
theorem d_M_ends_39 : decode b_M_ends 39 = .ok (.iload_n 2, 1) := by decide +kernel
theorem d_M_ends_40 : decode b_M_ends 40 = .ok (.iconst 2, 1) := by decide +kernel
theorem d_M_ends_41 : decode b_M_ends 41 = .ok (.if_icmp .ne 12, 3) := by decide +kernel
theorem d_M_ends_44 : decode b_M_ends 44 = .ok (.aload_n 0, 1) := by decide +kernel
theorem d_M_ends_45 : decode b_M_ends 45 = .ok (.getfield 49, 3) := by decide +kernel
theorem d_M_ends_48 : decode b_M_ends 48 = .ok (.iconst 1, 1) := by decide +kernel
theorem d_M_ends_49 : decode b_M_ends 49 = .ok (.iadd, 1) := by decide +kernel
theorem d_M_ends_50 : decode b_M_ends 50 = .ok (.goto 4, 3) := by decide +kernel
theorem d_M_ends_53 : decode b_M_ends 53 = .ok (.iconst 0, 1) := by decide +kernel
theorem d_M_ends_54 : decode b_M_ends 54 = .ok (.iastore, 1) := by decide +kernel
theorem d_M_ends_55 : decode b_M_ends 55 = .ok (.iinc 3 1, 3) := by decide +kernel
theorem d_M_ends_58 : decode b_M_ends 58 = .ok (.iinc 4 1, 3) := by decide +kernel
theorem d_M_ends_61 : decode b_M_ends 61 = .ok (.goto (-56), 3) := by decide +kernel
theorem d_M_ends_64 : decode b_M_ends 64 = .ok (.aload_n 0, 1) := by decide +kernel
theorem d_M_ends_65 : decode b_M_ends 65 = .ok (.getfield 22, 3) := by decide +kernel
theorem d_M_ends_68 : decode b_M_ends 68 = .ok (.iload_n 1, 1) := by decide +kernel
theorem d_M_ends_69 : decode b_M_ends 69 = .ok (.iconst 0, 1) := by decide +kernel
theorem d_M_ends_70 : decode b_M_ends 70 = .ok (.bastore, 1) := by decide +kernel
theorem d_M_ends_71 : decode b_M_ends 71 = .ok (.iload_n 3, 1) := by decide +kernel
theorem d_M_ends_72 : decode b_M_ends 72 = .ok (.ireturn, 1) := by decide +kernel
theorem d_M_commit_0 : decode b_M_commit 0 = .ok (.aload_n 0, 1) := by decide +kernel
theorem d_M_commit_1 : decode b_M_commit 1 = .ok (.iload_n 1, 1) := by decide +kernel
theorem d_M_commit_2 : decode b_M_commit 2 = .ok (.invokevirtual 45, 3) := by decide +kernel
theorem d_M_commit_5 : decode b_M_commit 5 = .ok (.ifCond .ne 5, 3) := by decide +kernel
theorem d_M_commit_8 : decode b_M_commit 8 = .ok (.iconst (-1), 1) := by decide +kernel
theorem d_M_commit_9 : decode b_M_commit 9 = .ok (.ireturn, 1) := by decide +kernel
theorem d_M_commit_10 : decode b_M_commit 10 = .ok (.aload_n 0, 1) := by decide +kernel
theorem d_M_commit_11 : decode b_M_commit 11 = .ok (.iload_n 1, 1) := by decide +kernel
theorem d_M_commit_12 : decode b_M_commit 12 = .ok (.iconst 2, 1) := by decide +kernel
theorem d_M_commit_13 : decode b_M_commit 13 = .ok (.invokevirtual 56, 3) := by decide +kernel
theorem d_M_commit_16 : decode b_M_commit 16 = .ok (.istore_n 2, 1) := by decide +kernel
theorem d_M_commit_17 : decode b_M_commit 17 = .ok (.aload_n 0, 1) := by decide +kernel
theorem d_M_commit_18 : decode b_M_commit 18 = .ok (.iload_n 2, 1) := by decide +kernel
theorem d_M_commit_19 : decode b_M_commit 19 = .ok (.ifCond .le 12, 3) := by decide +kernel
theorem d_M_commit_22 : decode b_M_commit 22 = .ok (.aload_n 0, 1) := by decide +kernel
theorem d_M_commit_23 : decode b_M_commit 23 = .ok (.getfield 49, 3) := by decide +kernel
theorem d_M_commit_26 : decode b_M_commit 26 = .ok (.iconst 1, 1) := by decide +kernel
theorem d_M_commit_27 : decode b_M_commit 27 = .ok (.iadd, 1) := by decide +kernel
theorem d_M_commit_28 : decode b_M_commit 28 = .ok (.goto 7, 3) := by decide +kernel
theorem d_M_commit_31 : decode b_M_commit 31 = .ok (.aload_n 0, 1) := by decide +kernel
theorem d_M_commit_32 : decode b_M_commit 32 = .ok (.getfield 49, 3) := by decide +kernel
theorem d_M_commit_35 : decode b_M_commit 35 = .ok (.putfield 49, 3) := by decide +kernel
theorem d_M_commit_38 : decode b_M_commit 38 = .ok (.iload_n 2, 1) := by decide +kernel
theorem d_M_commit_39 : decode b_M_commit 39 = .ok (.ifCond .le 10, 3) := by decide +kernel
theorem d_M_commit_42 : decode b_M_commit 42 = .ok (.aload_n 0, 1) := by decide +kernel
theorem d_M_commit_43 : decode b_M_commit 43 = .ok (.getfield 49, 3) := by decide +kernel
theorem d_M_commit_46 : decode b_M_commit 46 = .ok (.goto 4, 3) := by decide +kernel
theorem d_M_commit_49 : decode b_M_commit 49 = .ok (.iconst 0, 1) := by decide +kernel
theorem d_M_commit_50 : decode b_M_commit 50 = .ok (.ireturn, 1) := by decide +kernel
theorem d_M_abort_0 : decode b_M_abort 0 = .ok (.aload_n 0, 1) := by decide +kernel
theorem d_M_abort_1 : decode b_M_abort 1 = .ok (.iload_n 1, 1) := by decide +kernel
theorem d_M_abort_2 : decode b_M_abort 2 = .ok (.invokevirtual 45, 3) := by decide +kernel
theorem d_M_abort_5 : decode b_M_abort 5 = .ok (.ifCond .ne 5, 3) := by decide +kernel
theorem d_M_abort_8 : decode b_M_abort 8 = .ok (.iconst 0, 1) := by decide +kernel
theorem d_M_abort_9 : decode b_M_abort 9 = .ok (.ireturn, 1) := by decide +kernel
theorem d_M_abort_10 : decode b_M_abort 10 = .ok (.aload_n 0, 1) := by decide +kernel
theorem d_M_abort_11 : decode b_M_abort 11 = .ok (.iload_n 1, 1) := by decide +kernel
theorem d_M_abort_12 : decode b_M_abort 12 = .ok (.iconst 3, 1) := by decide +kernel
theorem d_M_abort_13 : decode b_M_abort 13 = .ok (.invokevirtual 56, 3) := by decide +kernel
theorem d_M_abort_16 : decode b_M_abort 16 = .ok (.istore_n 2, 1) := by decide +kernel
theorem d_M_abort_17 : decode b_M_abort 17 = .ok (.iconst 1, 1) := by decide +kernel
theorem d_M_abort_18 : decode b_M_abort 18 = .ok (.ireturn, 1) := by decide +kernel
theorem d_M_crash_0 : decode b_M_crash 0 = .ok (.iconst 0, 1) := by decide +kernel
theorem d_M_crash_1 : decode b_M_crash 1 = .ok (.istore_n 1, 1) := by decide +kernel
theorem d_M_crash_2 : decode b_M_crash 2 = .ok (.iload_n 1, 1) := by decide +kernel
theorem d_M_crash_3 : decode b_M_crash 3 = .ok (.bipush 6, 2) := by decide +kernel
theorem d_M_crash_5 : decode b_M_crash 5 = .ok (.if_icmp .ge 15, 3) := by decide +kernel
theorem d_M_crash_8 : decode b_M_crash 8 = .ok (.aload_n 0, 1) := by decide +kernel
theorem d_M_crash_9 : decode b_M_crash 9 = .ok (.iload_n 1, 1) := by decide +kernel
theorem d_M_crash_10 : decode b_M_crash 10 = .ok (.invokevirtual 60, 3) := by decide +kernel
theorem d_M_crash_13 : decode b_M_crash 13 = .ok (.istore_n 2, 1) := by decide +kernel
theorem d_M_crash_14 : decode b_M_crash 14 = .ok (.iinc 1 1, 3) := by decide +kernel
theorem d_M_crash_17 : decode b_M_crash 17 = .ok (.goto (-15), 3) := by decide +kernel
theorem d_M_crash_20 : decode b_M_crash 20 = .ok (.return_, 1) := by decide +kernel
theorem d_M_state_0 : decode b_M_state 0 = .ok (.aload_n 0, 1) := by decide +kernel
theorem d_M_state_1 : decode b_M_state 1 = .ok (.iload_n 1, 1) := by decide +kernel
theorem d_M_state_2 : decode b_M_state 2 = .ok (.invokevirtual 63, 3) := by decide +kernel
theorem d_M_state_5 : decode b_M_state 5 = .ok (.ifCond .eq 12, 3) := by decide +kernel
theorem d_M_state_8 : decode b_M_state 8 = .ok (.aload_n 0, 1) := by decide +kernel
theorem d_M_state_9 : decode b_M_state 9 = .ok (.getfield 7, 3) := by decide +kernel
theorem d_M_state_12 : decode b_M_state 12 = .ok (.iload_n 1, 1) := by decide +kernel
theorem d_M_state_13 : decode b_M_state 13 = .ok (.iaload, 1) := by decide +kernel
theorem d_M_state_14 : decode b_M_state 14 = .ok (.goto 4, 3) := by decide +kernel
theorem d_M_state_17 : decode b_M_state 17 = .ok (.iconst 0, 1) := by decide +kernel
theorem d_M_state_18 : decode b_M_state 18 = .ok (.ireturn, 1) := by decide +kernel
theorem d_M_root_0 : decode b_M_root 0 = .ok (.aload_n 0, 1) := by decide +kernel
theorem d_M_root_1 : decode b_M_root 1 = .ok (.iload_n 1, 1) := by decide +kernel
theorem d_M_root_2 : decode b_M_root 2 = .ok (.invokevirtual 63, 3) := by decide +kernel
theorem d_M_root_5 : decode b_M_root 5 = .ok (.ifCond .eq 12, 3) := by decide +kernel
theorem d_M_root_8 : decode b_M_root 8 = .ok (.aload_n 0, 1) := by decide +kernel
theorem d_M_root_9 : decode b_M_root 9 = .ok (.getfield 16, 3) := by decide +kernel
theorem d_M_root_12 : decode b_M_root 12 = .ok (.iload_n 1, 1) := by decide +kernel
theorem d_M_root_13 : decode b_M_root 13 = .ok (.iaload, 1) := by decide +kernel
theorem d_M_root_14 : decode b_M_root 14 = .ok (.goto 4, 3) := by decide +kernel
theorem d_M_root_17 : decode b_M_root 17 = .ok (.iconst 0, 1) := by decide +kernel
theorem d_M_root_18 : decode b_M_root 18 = .ok (.ireturn, 1) := by decide +kernel
theorem d_M_place_0 : decode b_M_place 0 = .ok (.aload_n 0, 1) := by decide +kernel
theorem d_M_place_1 : decode b_M_place 1 = .ok (.iload_n 1, 1) := by decide +kernel
theorem d_M_place_2 : decode b_M_place 2 = .ok (.invokevirtual 63, 3) := by decide +kernel
theorem d_M_place_5 : decode b_M_place 5 = .ok (.ifCond .eq 12, 3) := by decide +kernel
theorem d_M_place_8 : decode b_M_place 8 = .ok (.aload_n 0, 1) := by decide +kernel
theorem d_M_place_9 : decode b_M_place 9 = .ok (.getfield 19, 3) := by decide +kernel
theorem d_M_place_12 : decode b_M_place 12 = .ok (.iload_n 1, 1) := by decide +kernel
theorem d_M_place_13 : decode b_M_place 13 = .ok (.iaload, 1) := by decide +kernel
theorem d_M_place_14 : decode b_M_place 14 = .ok (.goto 4, 3) := by decide +kernel
theorem d_M_place_17 : decode b_M_place 17 = .ok (.iconst 0, 1) := by decide +kernel
theorem d_M_place_18 : decode b_M_place 18 = .ok (.ireturn, 1) := by decide +kernel
theorem d_M_isSeen_0 : decode b_M_isSeen 0 = .ok (.aload_n 0, 1) := by decide +kernel
theorem d_M_isSeen_1 : decode b_M_isSeen 1 = .ok (.iload_n 2, 1) := by decide +kernel
theorem d_M_isSeen_2 : decode b_M_isSeen 2 = .ok (.invokevirtual 63, 3) := by decide +kernel
theorem d_M_isSeen_5 : decode b_M_isSeen 5 = .ok (.ifCond .eq 13, 3) := by decide +kernel
theorem d_M_isSeen_8 : decode b_M_isSeen 8 = .ok (.aload_n 0, 1) := by decide +kernel
theorem d_M_isSeen_9 : decode b_M_isSeen 9 = .ok (.getfield 7, 3) := by decide +kernel
theorem d_M_isSeen_12 : decode b_M_isSeen 12 = .ok (.iload_n 2, 1) := by decide +kernel
theorem d_M_isSeen_13 : decode b_M_isSeen 13 = .ok (.iaload, 1) := by decide +kernel
theorem d_M_isSeen_14 : decode b_M_isSeen 14 = .ok (.iconst 3, 1) := by decide +kernel
theorem d_M_isSeen_15 : decode b_M_isSeen 15 = .ok (.if_icmp .ne 5, 3) := by decide +kernel
theorem d_M_isSeen_18 : decode b_M_isSeen 18 = .ok (.iconst 0, 1) := by decide +kernel
theorem d_M_isSeen_19 : decode b_M_isSeen 19 = .ok (.ireturn, 1) := by decide +kernel
theorem d_M_isSeen_20 : decode b_M_isSeen 20 = .ok (.aload_n 0, 1) := by decide +kernel
theorem d_M_isSeen_21 : decode b_M_isSeen 21 = .ok (.getfield 7, 3) := by decide +kernel
theorem d_M_isSeen_24 : decode b_M_isSeen 24 = .ok (.iload_n 2, 1) := by decide +kernel
theorem d_M_isSeen_25 : decode b_M_isSeen 25 = .ok (.iaload, 1) := by decide +kernel
theorem d_M_isSeen_26 : decode b_M_isSeen 26 = .ok (.iconst 1, 1) := by decide +kernel
theorem d_M_isSeen_27 : decode b_M_isSeen 27 = .ok (.if_icmp .ne 34, 3) := by decide +kernel
theorem d_M_isSeen_30 : decode b_M_isSeen 30 = .ok (.aload_n 0, 1) := by decide +kernel
theorem d_M_isSeen_31 : decode b_M_isSeen 31 = .ok (.getfield 13, 3) := by decide +kernel
theorem d_M_isSeen_34 : decode b_M_isSeen 34 = .ok (.iload_n 2, 1) := by decide +kernel
theorem d_M_isSeen_35 : decode b_M_isSeen 35 = .ok (.iaload, 1) := by decide +kernel
theorem d_M_isSeen_36 : decode b_M_isSeen 36 = .ok (.bipush 8, 2) := by decide +kernel
theorem d_M_isSeen_38 : decode b_M_isSeen 38 = .ok (.idiv, 1) := by decide +kernel
theorem d_M_isSeen_39 : decode b_M_isSeen 39 = .ok (.iload_n 1, 1) := by decide +kernel
theorem d_M_isSeen_40 : decode b_M_isSeen 40 = .ok (.if_icmp .ne 17, 3) := by decide +kernel
theorem d_M_isSeen_43 : decode b_M_isSeen 43 = .ok (.iload_n 3, 1) := by decide +kernel
theorem d_M_isSeen_44 : decode b_M_isSeen 44 = .ok (.aload_n 0, 1) := by decide +kernel
theorem d_M_isSeen_45 : decode b_M_isSeen 45 = .ok (.getfield 29, 3) := by decide +kernel
theorem d_M_isSeen_48 : decode b_M_isSeen 48 = .ok (.iload_n 1, 1) := by decide +kernel
theorem d_M_isSeen_49 : decode b_M_isSeen 49 = .ok (.iaload, 1) := by decide +kernel
theorem d_M_isSeen_50 : decode b_M_isSeen 50 = .ok (.if_icmp .ge 7, 3) := by decide +kernel
theorem d_M_isSeen_53 : decode b_M_isSeen 53 = .ok (.iconst 1, 1) := by decide +kernel
theorem d_M_isSeen_54 : decode b_M_isSeen 54 = .ok (.goto 27, 3) := by decide +kernel
theorem d_M_isSeen_57 : decode b_M_isSeen 57 = .ok (.iconst 0, 1) := by decide +kernel
theorem d_M_isSeen_58 : decode b_M_isSeen 58 = .ok (.goto 23, 3) := by decide +kernel
theorem d_M_isSeen_61 : decode b_M_isSeen 61 = .ok (.aload_n 0, 1) := by decide +kernel
theorem d_M_isSeen_62 : decode b_M_isSeen 62 = .ok (.getfield 19, 3) := by decide +kernel
theorem d_M_isSeen_65 : decode b_M_isSeen 65 = .ok (.iload_n 2, 1) := by decide +kernel
theorem d_M_isSeen_66 : decode b_M_isSeen 66 = .ok (.iaload, 1) := by decide +kernel
theorem d_M_isSeen_67 : decode b_M_isSeen 67 = .ok (.aload_n 0, 1) := by decide +kernel
theorem d_M_isSeen_68 : decode b_M_isSeen 68 = .ok (.getfield 35, 3) := by decide +kernel
theorem d_M_isSeen_71 : decode b_M_isSeen 71 = .ok (.iload_n 1, 1) := by decide +kernel
theorem d_M_isSeen_72 : decode b_M_isSeen 72 = .ok (.iaload, 1) := by decide +kernel
theorem d_M_isSeen_73 : decode b_M_isSeen 73 = .ok (.if_icmp .gt 7, 3) := by decide +kernel
theorem d_M_isSeen_76 : decode b_M_isSeen 76 = .ok (.iconst 1, 1) := by decide +kernel
theorem d_M_isSeen_77 : decode b_M_isSeen 77 = .ok (.goto 4, 3) := by decide +kernel
theorem d_M_isSeen_80 : decode b_M_isSeen 80 = .ok (.iconst 0, 1) := by decide +kernel
theorem d_M_isSeen_81 : decode b_M_isSeen 81 = .ok (.ireturn, 1) := by decide +kernel
theorem d_M_sees_0 : decode b_M_sees 0 = .ok (.aload_n 0, 1) := by decide +kernel
theorem d_M_sees_1 : decode b_M_sees 1 = .ok (.iload_n 1, 1) := by decide +kernel
theorem d_M_sees_2 : decode b_M_sees 2 = .ok (.invokevirtual 45, 3) := by decide +kernel
theorem d_M_sees_5 : decode b_M_sees 5 = .ok (.ifCond .eq 38, 3) := by decide +kernel
theorem d_M_sees_8 : decode b_M_sees 8 = .ok (.aload_n 0, 1) := by decide +kernel
theorem d_M_sees_9 : decode b_M_sees 9 = .ok (.getfield 35, 3) := by decide +kernel
theorem d_M_sees_12 : decode b_M_sees 12 = .ok (.iload_n 1, 1) := by decide +kernel
theorem d_M_sees_13 : decode b_M_sees 13 = .ok (.iaload, 1) := by decide +kernel
theorem d_M_sees_14 : decode b_M_sees 14 = .ok (.ifCond .lt 29, 3) := by decide +kernel
theorem d_M_sees_17 : decode b_M_sees 17 = .ok (.aload_n 0, 1) := by decide +kernel
theorem d_M_sees_18 : decode b_M_sees 18 = .ok (.iload_n 1, 1) := by decide +kernel
theorem d_M_sees_19 : decode b_M_sees 19 = .ok (.iload_n 2, 1) := by decide +kernel
theorem d_M_sees_20 : decode b_M_sees 20 = .ok (.iload_n 3, 1) := by decide +kernel
theorem d_M_sees_21 : decode b_M_sees 21 = .ok (.invokevirtual 66, 3) := by decide +kernel
theorem d_M_sees_24 : decode b_M_sees 24 = .ok (.ifCond .eq 19, 3) := by decide +kernel
theorem d_M_sees_27 : decode b_M_sees 27 = .ok (.aload_n 0, 1) := by decide +kernel
theorem d_M_sees_28 : decode b_M_sees 28 = .ok (.iload_n 1, 1) := by decide +kernel
theorem d_M_sees_29 : decode b_M_sees 29 = .ok (.iload 4, 2) := by decide +kernel
theorem d_M_sees_31 : decode b_M_sees 31 = .ok (.iload 5, 2) := by decide +kernel
theorem d_M_sees_33 : decode b_M_sees 33 = .ok (.invokevirtual 66, 3) := by decide +kernel
theorem d_M_sees_36 : decode b_M_sees 36 = .ok (.ifCond .ne 7, 3) := by decide +kernel
theorem d_M_sees_39 : decode b_M_sees 39 = .ok (.iconst 1, 1) := by decide +kernel
theorem d_M_sees_40 : decode b_M_sees 40 = .ok (.goto 4, 3) := by decide +kernel
theorem d_M_sees_43 : decode b_M_sees 43 = .ok (.iconst 0, 1) := by decide +kernel
theorem d_M_sees_44 : decode b_M_sees 44 = .ok (.ireturn, 1) := by decide +kernel
theorem d_M_ending_0 : decode b_M_ending 0 = .ok (.aload_n 0, 1) := by decide +kernel
theorem d_M_ending_1 : decode b_M_ending 1 = .ok (.iload_n 1, 1) := by decide +kernel
theorem d_M_ending_2 : decode b_M_ending 2 = .ok (.invokevirtual 45, 3) := by decide +kernel
theorem d_M_ending_5 : decode b_M_ending 5 = .ok (.ifCond .eq 12, 3) := by decide +kernel
theorem d_M_ending_8 : decode b_M_ending 8 = .ok (.aload_n 0, 1) := by decide +kernel
theorem d_M_ending_9 : decode b_M_ending 9 = .ok (.getfield 35, 3) := by decide +kernel
theorem d_M_ending_12 : decode b_M_ending 12 = .ok (.iload_n 1, 1) := by decide +kernel
theorem d_M_ending_13 : decode b_M_ending 13 = .ok (.iaload, 1) := by decide +kernel
theorem d_M_ending_14 : decode b_M_ending 14 = .ok (.ifCond .ge 5, 3) := by decide +kernel
theorem d_M_ending_17 : decode b_M_ending 17 = .ok (.iconst (-1), 1) := by decide +kernel
theorem d_M_ending_18 : decode b_M_ending 18 = .ok (.ireturn, 1) := by decide +kernel
theorem d_M_ending_19 : decode b_M_ending 19 = .ok (.aload_n 0, 1) := by decide +kernel
theorem d_M_ending_20 : decode b_M_ending 20 = .ok (.iload_n 2, 1) := by decide +kernel
theorem d_M_ending_21 : decode b_M_ending 21 = .ok (.invokevirtual 63, 3) := by decide +kernel
theorem d_M_ending_24 : decode b_M_ending 24 = .ok (.ifCond .eq 13, 3) := by decide +kernel
theorem d_M_ending_27 : decode b_M_ending 27 = .ok (.aload_n 0, 1) := by decide +kernel
theorem d_M_ending_28 : decode b_M_ending 28 = .ok (.getfield 7, 3) := by decide +kernel
theorem d_M_ending_31 : decode b_M_ending 31 = .ok (.iload_n 2, 1) := by decide +kernel
theorem d_M_ending_32 : decode b_M_ending 32 = .ok (.iaload, 1) := by decide +kernel
theorem d_M_ending_33 : decode b_M_ending 33 = .ok (.iconst 3, 1) := by decide +kernel
theorem d_M_ending_34 : decode b_M_ending 34 = .ok (.if_icmp .ne 5, 3) := by decide +kernel
theorem d_M_ending_37 : decode b_M_ending 37 = .ok (.iconst 0, 1) := by decide +kernel
theorem d_M_ending_38 : decode b_M_ending 38 = .ok (.ireturn, 1) := by decide +kernel
theorem d_M_ending_39 : decode b_M_ending 39 = .ok (.aload_n 0, 1) := by decide +kernel
theorem d_M_ending_40 : decode b_M_ending 40 = .ok (.iload_n 1, 1) := by decide +kernel
theorem d_M_ending_41 : decode b_M_ending 41 = .ok (.iload_n 2, 1) := by decide +kernel
theorem d_M_ending_42 : decode b_M_ending 42 = .ok (.iload_n 3, 1) := by decide +kernel
theorem d_M_ending_43 : decode b_M_ending 43 = .ok (.invokevirtual 66, 3) := by decide +kernel
theorem d_M_ending_46 : decode b_M_ending 46 = .ok (.istore 4, 2) := by decide +kernel
theorem d_M_ending_48 : decode b_M_ending 48 = .ok (.aload_n 0, 1) := by decide +kernel
theorem d_M_ending_49 : decode b_M_ending 49 = .ok (.getfield 7, 3) := by decide +kernel
theorem d_M_ending_52 : decode b_M_ending 52 = .ok (.iload_n 2, 1) := by decide +kernel
theorem d_M_ending_53 : decode b_M_ending 53 = .ok (.iaload, 1) := by decide +kernel
theorem d_M_ending_54 : decode b_M_ending 54 = .ok (.iconst 1, 1) := by decide +kernel
theorem d_M_ending_55 : decode b_M_ending 55 = .ok (.if_icmp .ne 31, 3) := by decide +kernel
theorem d_M_ending_58 : decode b_M_ending 58 = .ok (.aload_n 0, 1) := by decide +kernel
theorem d_M_ending_59 : decode b_M_ending 59 = .ok (.getfield 13, 3) := by decide +kernel
theorem d_M_ending_62 : decode b_M_ending 62 = .ok (.iload_n 2, 1) := by decide +kernel
theorem d_M_ending_63 : decode b_M_ending 63 = .ok (.iaload, 1) := by decide +kernel
theorem d_M_ending_64 : decode b_M_ending 64 = .ok (.bipush 8, 2) := by decide +kernel
theorem d_M_ending_66 : decode b_M_ending 66 = .ok (.idiv, 1) := by decide +kernel
theorem d_M_ending_67 : decode b_M_ending 67 = .ok (.iload_n 1, 1) := by decide +kernel
theorem d_M_ending_68 : decode b_M_ending 68 = .ok (.if_icmp .eq 7, 3) := by decide +kernel
theorem d_M_ending_71 : decode b_M_ending 71 = .ok (.iconst 3, 1) := by decide +kernel
theorem d_M_ending_72 : decode b_M_ending 72 = .ok (.goto 13, 3) := by decide +kernel
theorem d_M_ending_75 : decode b_M_ending 75 = .ok (.iload 4, 2) := by decide +kernel
theorem d_M_ending_77 : decode b_M_ending 77 = .ok (.ifCond .eq 7, 3) := by decide +kernel
theorem d_M_ending_80 : decode b_M_ending 80 = .ok (.iconst 1, 1) := by decide +kernel
theorem d_M_ending_81 : decode b_M_ending 81 = .ok (.goto 4, 3) := by decide +kernel
theorem d_M_ending_84 : decode b_M_ending 84 = .ok (.iconst 2, 1) := by decide +kernel
theorem d_M_ending_85 : decode b_M_ending 85 = .ok (.ireturn, 1) := by decide +kernel
theorem d_M_ending_86 : decode b_M_ending 86 = .ok (.iload 4, 2) := by decide +kernel
theorem d_M_ending_88 : decode b_M_ending 88 = .ok (.ifCond .eq 7, 3) := by decide +kernel
theorem d_M_ending_91 : decode b_M_ending 91 = .ok (.iconst 4, 1) := by decide +kernel
theorem d_M_ending_92 : decode b_M_ending 92 = .ok (.goto 4, 3) := by decide +kernel
theorem d_M_ending_95 : decode b_M_ending 95 = .ok (.iconst 5, 1) := by decide +kernel
theorem d_M_ending_96 : decode b_M_ending 96 = .ok (.ireturn, 1) := by decide +kernel
theorem d_M_dead_0 : decode b_M_dead 0 = .ok (.aload_n 0, 1) := by decide +kernel
theorem d_M_dead_1 : decode b_M_dead 1 = .ok (.iload_n 1, 1) := by decide +kernel
theorem d_M_dead_2 : decode b_M_dead 2 = .ok (.invokevirtual 63, 3) := by decide +kernel
theorem d_M_dead_5 : decode b_M_dead 5 = .ok (.ifCond .ne 5, 3) := by decide +kernel
theorem d_M_dead_8 : decode b_M_dead 8 = .ok (.iconst 0, 1) := by decide +kernel
theorem d_M_dead_9 : decode b_M_dead 9 = .ok (.ireturn, 1) := by decide +kernel
theorem d_M_dead_10 : decode b_M_dead 10 = .ok (.aload_n 0, 1) := by decide +kernel
theorem d_M_dead_11 : decode b_M_dead 11 = .ok (.iload_n 2, 1) := by decide +kernel
theorem d_M_dead_12 : decode b_M_dead 12 = .ok (.invokevirtual 63, 3) := by decide +kernel
theorem d_M_dead_15 : decode b_M_dead 15 = .ok (.ifCond .eq 17, 3) := by decide +kernel
theorem d_M_dead_18 : decode b_M_dead 18 = .ok (.aload_n 0, 1) := by decide +kernel
theorem d_M_dead_19 : decode b_M_dead 19 = .ok (.getfield 7, 3) := by decide +kernel
theorem d_M_dead_22 : decode b_M_dead 22 = .ok (.iload_n 2, 1) := by decide +kernel
theorem d_M_dead_23 : decode b_M_dead 23 = .ok (.iaload, 1) := by decide +kernel
theorem d_M_dead_24 : decode b_M_dead 24 = .ok (.iconst 2, 1) := by decide +kernel
theorem d_M_dead_25 : decode b_M_dead 25 = .ok (.if_icmp .ne 7, 3) := by decide +kernel
theorem d_M_dead_28 : decode b_M_dead 28 = .ok (.iconst 1, 1) := by decide +kernel
theorem d_M_dead_29 : decode b_M_dead 29 = .ok (.goto 4, 3) := by decide +kernel
theorem d_M_dead_32 : decode b_M_dead 32 = .ok (.iconst 0, 1) := by decide +kernel
theorem d_M_dead_33 : decode b_M_dead 33 = .ok (.istore_n 3, 1) := by decide +kernel
theorem d_M_dead_34 : decode b_M_dead 34 = .ok (.iconst 0, 1) := by decide +kernel
theorem d_M_dead_35 : decode b_M_dead 35 = .ok (.istore 4, 2) := by decide +kernel
theorem d_M_dead_37 : decode b_M_dead 37 = .ok (.iload 4, 2) := by decide +kernel
theorem d_M_dead_39 : decode b_M_dead 39 = .ok (.bipush 6, 2) := by decide +kernel
theorem d_M_dead_41 : decode b_M_dead 41 = .ok (.if_icmp .ge 55, 3) := by decide +kernel
theorem d_M_dead_44 : decode b_M_dead 44 = .ok (.iload_n 3, 1) := by decide +kernel
theorem d_M_dead_45 : decode b_M_dead 45 = .ok (.ifCond .eq 43, 3) := by decide +kernel
theorem d_M_dead_48 : decode b_M_dead 48 = .ok (.aload_n 0, 1) := by decide +kernel
theorem d_M_dead_49 : decode b_M_dead 49 = .ok (.getfield 22, 3) := by decide +kernel
theorem d_M_dead_52 : decode b_M_dead 52 = .ok (.iload 4, 2) := by decide +kernel
theorem d_M_dead_54 : decode b_M_dead 54 = .ok (.baload, 1) := by decide +kernel
theorem d_M_dead_55 : decode b_M_dead 55 = .ok (.ifCond .eq 29, 3) := by decide +kernel
theorem d_M_dead_58 : decode b_M_dead 58 = .ok (.aload_n 0, 1) := by decide +kernel
theorem d_M_dead_59 : decode b_M_dead 59 = .ok (.getfield 35, 3) := by decide +kernel
theorem d_M_dead_62 : decode b_M_dead 62 = .ok (.iload 4, 2) := by decide +kernel
theorem d_M_dead_64 : decode b_M_dead 64 = .ok (.iaload, 1) := by decide +kernel
theorem d_M_dead_65 : decode b_M_dead 65 = .ok (.ifCond .lt 19, 3) := by decide +kernel
theorem d_M_dead_68 : decode b_M_dead 68 = .ok (.aload_n 0, 1) := by decide +kernel
theorem d_M_dead_69 : decode b_M_dead 69 = .ok (.getfield 19, 3) := by decide +kernel
theorem d_M_dead_72 : decode b_M_dead 72 = .ok (.iload_n 2, 1) := by decide +kernel
theorem d_M_dead_73 : decode b_M_dead 73 = .ok (.iaload, 1) := by decide +kernel
theorem d_M_dead_74 : decode b_M_dead 74 = .ok (.aload_n 0, 1) := by decide +kernel
theorem d_M_dead_75 : decode b_M_dead 75 = .ok (.getfield 35, 3) := by decide +kernel
theorem d_M_dead_78 : decode b_M_dead 78 = .ok (.iload 4, 2) := by decide +kernel
theorem d_M_dead_80 : decode b_M_dead 80 = .ok (.iaload, 1) := by decide +kernel
theorem d_M_dead_81 : decode b_M_dead 81 = .ok (.if_icmp .gt 7, 3) := by decide +kernel
theorem d_M_dead_84 : decode b_M_dead 84 = .ok (.iconst 1, 1) := by decide +kernel
theorem d_M_dead_85 : decode b_M_dead 85 = .ok (.goto 4, 3) := by decide +kernel
theorem d_M_dead_88 : decode b_M_dead 88 = .ok (.iconst 0, 1) := by decide +kernel
theorem d_M_dead_89 : decode b_M_dead 89 = .ok (.istore_n 3, 1) := by decide +kernel
theorem d_M_dead_90 : decode b_M_dead 90 = .ok (.iinc 4 1, 3) := by decide +kernel
theorem d_M_dead_93 : decode b_M_dead 93 = .ok (.goto (-56), 3) := by decide +kernel
theorem d_M_dead_96 : decode b_M_dead 96 = .ok (.aload_n 0, 1) := by decide +kernel
theorem d_M_dead_97 : decode b_M_dead 97 = .ok (.getfield 7, 3) := by decide +kernel
theorem d_M_dead_100 : decode b_M_dead 100 = .ok (.iload_n 1, 1) := by decide +kernel
theorem d_M_dead_101 : decode b_M_dead 101 = .ok (.iaload, 1) := by decide +kernel
theorem d_M_dead_102 : decode b_M_dead 102 = .ok (.iconst 3, 1) := by decide +kernel
theorem d_M_dead_103 : decode b_M_dead 103 = .ok (.if_icmp .eq 7, 3) := by decide +kernel
theorem d_M_dead_106 : decode b_M_dead 106 = .ok (.iload_n 3, 1) := by decide +kernel
theorem d_M_dead_107 : decode b_M_dead 107 = .ok (.ifCond .eq 7, 3) := by decide +kernel
theorem d_M_dead_110 : decode b_M_dead 110 = .ok (.iconst 1, 1) := by decide +kernel
theorem d_M_dead_111 : decode b_M_dead 111 = .ok (.goto 4, 3) := by decide +kernel
theorem d_M_dead_114 : decode b_M_dead 114 = .ok (.iconst 0, 1) := by decide +kernel
theorem d_M_dead_115 : decode b_M_dead 115 = .ok (.ireturn, 1) := by decide +kernel
theorem d_M_look_0 : decode b_M_look 0 = .ok (.iload_n 2, 1) := by decide +kernel
theorem d_M_look_1 : decode b_M_look 1 = .ok (.iconst 5, 1) := by decide +kernel
theorem d_M_look_2 : decode b_M_look 2 = .ok (.if_icmp .eq 9, 3) := by decide +kernel
theorem d_M_look_5 : decode b_M_look 5 = .ok (.iload_n 2, 1) := by decide +kernel
theorem d_M_look_6 : decode b_M_look 6 = .ok (.bipush 6, 2) := by decide +kernel
theorem d_M_look_8 : decode b_M_look 8 = .ok (.if_icmp .ne 20, 3) := by decide +kernel
theorem d_M_look_11 : decode b_M_look 11 = .ok (.iload_n 2, 1) := by decide +kernel
theorem d_M_look_12 : decode b_M_look 12 = .ok (.iconst 5, 1) := by decide +kernel
theorem d_M_look_13 : decode b_M_look 13 = .ok (.if_icmp .ne 10, 3) := by decide +kernel
theorem d_M_look_16 : decode b_M_look 16 = .ok (.aload_n 0, 1) := by decide +kernel
theorem d_M_look_17 : decode b_M_look 17 = .ok (.getfield 41, 3) := by decide +kernel
theorem d_M_look_20 : decode b_M_look 20 = .ok (.goto 7, 3) := by decide +kernel
theorem d_M_look_23 : decode b_M_look 23 = .ok (.aload_n 0, 1) := by decide +kernel
theorem d_M_look_24 : decode b_M_look 24 = .ok (.getfield 49, 3) := by decide +kernel
theorem d_M_look_27 : decode b_M_look 27 = .ok (.ireturn, 1) := by decide +kernel
theorem d_M_look_28 : decode b_M_look 28 = .ok (.aload_n 0, 1) := by decide +kernel
theorem d_M_look_29 : decode b_M_look 29 = .ok (.iload_n 1, 1) := by decide +kernel
theorem d_M_look_30 : decode b_M_look 30 = .ok (.invokevirtual 45, 3) := by decide +kernel
theorem d_M_look_33 : decode b_M_look 33 = .ok (.ifCond .eq 12, 3) := by decide +kernel
theorem d_M_look_36 : decode b_M_look 36 = .ok (.iload_n 2, 1) := by decide +kernel
theorem d_M_look_37 : decode b_M_look 37 = .ok (.ifCond .lt 8, 3) := by decide +kernel
theorem d_M_look_40 : decode b_M_look 40 = .ok (.iload_n 2, 1) := by decide +kernel
theorem d_M_look_41 : decode b_M_look 41 = .ok (.iconst 4, 1) := by decide +kernel
theorem d_M_look_42 : decode b_M_look 42 = .ok (.if_icmp .le 5, 3) := by decide +kernel
theorem d_M_look_45 : decode b_M_look 45 = .ok (.iconst (-1), 1) := by decide +kernel
theorem d_M_look_46 : decode b_M_look 46 = .ok (.ireturn, 1) := by decide +kernel
theorem d_M_look_47 : decode b_M_look 47 = .ok (.iload_n 2, 1) := by decide +kernel
theorem d_M_look_48 : decode b_M_look 48 = .ok (.ifCond .ne 12, 3) := by decide +kernel
theorem d_M_look_51 : decode b_M_look 51 = .ok (.aload_n 0, 1) := by decide +kernel
theorem d_M_look_52 : decode b_M_look 52 = .ok (.getfield 26, 3) := by decide +kernel
theorem d_M_look_55 : decode b_M_look 55 = .ok (.iload_n 1, 1) := by decide +kernel
theorem d_M_look_56 : decode b_M_look 56 = .ok (.iaload, 1) := by decide +kernel
theorem d_M_look_57 : decode b_M_look 57 = .ok (.goto 61, 3) := by decide +kernel
theorem d_M_look_60 : decode b_M_look 60 = .ok (.iload_n 2, 1) := by decide +kernel
theorem d_M_look_61 : decode b_M_look 61 = .ok (.iconst 1, 1) := by decide +kernel
theorem d_M_look_62 : decode b_M_look 62 = .ok (.if_icmp .ne 12, 3) := by decide +kernel
theorem d_M_look_65 : decode b_M_look 65 = .ok (.aload_n 0, 1) := by decide +kernel
theorem d_M_look_66 : decode b_M_look 66 = .ok (.getfield 29, 3) := by decide +kernel
theorem d_M_look_69 : decode b_M_look 69 = .ok (.iload_n 1, 1) := by decide +kernel
theorem d_M_look_70 : decode b_M_look 70 = .ok (.iaload, 1) := by decide +kernel
theorem d_M_look_71 : decode b_M_look 71 = .ok (.goto 47, 3) := by decide +kernel
theorem d_M_look_74 : decode b_M_look 74 = .ok (.iload_n 2, 1) := by decide +kernel
theorem d_M_look_75 : decode b_M_look 75 = .ok (.iconst 2, 1) := by decide +kernel
theorem d_M_look_76 : decode b_M_look 76 = .ok (.if_icmp .ne 12, 3) := by decide +kernel
theorem d_M_look_79 : decode b_M_look 79 = .ok (.aload_n 0, 1) := by decide +kernel
theorem d_M_look_80 : decode b_M_look 80 = .ok (.getfield 32, 3) := by decide +kernel
theorem d_M_look_83 : decode b_M_look 83 = .ok (.iload_n 1, 1) := by decide +kernel
theorem d_M_look_84 : decode b_M_look 84 = .ok (.iaload, 1) := by decide +kernel
theorem d_M_look_85 : decode b_M_look 85 = .ok (.goto 33, 3) := by decide +kernel
theorem d_M_look_88 : decode b_M_look 88 = .ok (.iload_n 2, 1) := by decide +kernel
theorem d_M_look_89 : decode b_M_look 89 = .ok (.iconst 3, 1) := by decide +kernel
theorem d_M_look_90 : decode b_M_look 90 = .ok (.if_icmp .ne 22, 3) := by decide +kernel
theorem d_M_look_93 : decode b_M_look 93 = .ok (.aload_n 0, 1) := by decide +kernel
theorem d_M_look_94 : decode b_M_look 94 = .ok (.getfield 38, 3) := by decide +kernel
theorem d_M_look_97 : decode b_M_look 97 = .ok (.bipush 8, 2) := by decide +kernel
theorem d_M_look_99 : decode b_M_look 99 = .ok (.iload_n 1, 1) := by decide +kernel
theorem d_M_look_100 : decode b_M_look 100 = .ok (.imul, 1) := by decide +kernel
theorem d_M_look_101 : decode b_M_look 101 = .ok (.aload_n 0, 1) := by decide +kernel
theorem d_M_look_102 : decode b_M_look 102 = .ok (.getfield 32, 3) := by decide +kernel
theorem d_M_look_105 : decode b_M_look 105 = .ok (.iload_n 1, 1) := by decide +kernel
theorem d_M_look_106 : decode b_M_look 106 = .ok (.iaload, 1) := by decide +kernel
theorem d_M_look_107 : decode b_M_look 107 = .ok (.iadd, 1) := by decide +kernel
theorem d_M_look_108 : decode b_M_look 108 = .ok (.iaload, 1) := by decide +kernel
theorem d_M_look_109 : decode b_M_look 109 = .ok (.goto 9, 3) := by decide +kernel
theorem d_M_look_112 : decode b_M_look 112 = .ok (.aload_n 0, 1) := by decide +kernel
theorem d_M_look_113 : decode b_M_look 113 = .ok (.getfield 35, 3) := by decide +kernel
theorem d_M_look_116 : decode b_M_look 116 = .ok (.iload_n 1, 1) := by decide +kernel
theorem d_M_look_117 : decode b_M_look 117 = .ok (.iaload, 1) := by decide +kernel
theorem d_M_look_118 : decode b_M_look 118 = .ok (.ireturn, 1) := by decide +kernel
end
section
theorem d_D_init_0 : decode b_D_init 0 = .ok (.aload_n 0, 1) := by decide +kernel
theorem d_D_init_1 : decode b_D_init 1 = .ok (.invokespecial 1, 3) := by decide +kernel
theorem d_D_init_4 : decode b_D_init 4 = .ok (.aload_n 0, 1) := by decide +kernel
theorem d_D_init_5 : decode b_D_init 5 = .ok (.bipush 6, 2) := by decide +kernel
theorem d_D_init_7 : decode b_D_init 7 = .ok (.anewarray 9, 3) := by decide +kernel
theorem d_D_init_10 : decode b_D_init 10 = .ok (.putfield 11, 3) := by decide +kernel
theorem d_D_init_13 : decode b_D_init 13 = .ok (.aload_n 0, 1) := by decide +kernel
theorem d_D_init_14 : decode b_D_init 14 = .ok (.new 15, 3) := by decide +kernel
theorem d_D_init_17 : decode b_D_init 17 = .ok (.dup, 1) := by decide +kernel
theorem d_D_init_18 : decode b_D_init 18 = .ok (.invokespecial 17, 3) := by decide +kernel
theorem d_D_init_21 : decode b_D_init 21 = .ok (.putfield 18, 3) := by decide +kernel
theorem d_D_init_24 : decode b_D_init 24 = .ok (.aload_n 0, 1) := by decide +kernel
theorem d_D_init_25 : decode b_D_init 25 = .ok (.iconst 0, 1) := by decide +kernel
theorem d_D_init_26 : decode b_D_init 26 = .ok (.putfield 22, 3) := by decide +kernel
theorem d_D_init_29 : decode b_D_init 29 = .ok (.return_, 1) := by decide +kernel
theorem d_D_begin_0 : decode b_D_begin 0 = .ok (.iload_n 1, 1) := by decide +kernel
theorem d_D_begin_1 : decode b_D_begin 1 = .ok (.invokestatic 26, 3) := by decide +kernel
theorem d_D_begin_4 : decode b_D_begin 4 = .ok (.ifCond .eq 21, 3) := by decide +kernel
theorem d_D_begin_7 : decode b_D_begin 7 = .ok (.iload_n 2, 1) := by decide +kernel
theorem d_D_begin_8 : decode b_D_begin 8 = .ok (.ifCond .lt 17, 3) := by decide +kernel
theorem d_D_begin_11 : decode b_D_begin 11 = .ok (.iload_n 2, 1) := by decide +kernel
theorem d_D_begin_12 : decode b_D_begin 12 = .ok (.iconst 2, 1) := by decide +kernel
theorem d_D_begin_13 : decode b_D_begin 13 = .ok (.if_icmp .ge 12, 3) := by decide +kernel
theorem d_D_begin_16 : decode b_D_begin 16 = .ok (.aload_n 0, 1) := by decide +kernel
theorem d_D_begin_17 : decode b_D_begin 17 = .ok (.getfield 11, 3) := by decide +kernel
theorem d_D_begin_20 : decode b_D_begin 20 = .ok (.iload_n 1, 1) := by decide +kernel
theorem d_D_begin_21 : decode b_D_begin 21 = .ok (.aaload, 1) := by decide +kernel
theorem d_D_begin_22 : decode b_D_begin 22 = .ok (.ifnull 5, 3) := by decide +kernel
theorem d_D_begin_25 : decode b_D_begin 25 = .ok (.iconst 0, 1) := by decide +kernel
theorem d_D_begin_26 : decode b_D_begin 26 = .ok (.ireturn, 1) := by decide +kernel
theorem d_D_begin_27 : decode b_D_begin 27 = .ok (.aload_n 0, 1) := by decide +kernel
theorem d_D_begin_28 : decode b_D_begin 28 = .ok (.getfield 11, 3) := by decide +kernel
theorem d_D_begin_31 : decode b_D_begin 31 = .ok (.iload_n 1, 1) := by decide +kernel
theorem d_D_begin_32 : decode b_D_begin 32 = .ok (.new 9, 3) := by decide +kernel
theorem d_D_begin_35 : decode b_D_begin 35 = .ok (.dup, 1) := by decide +kernel
theorem d_D_begin_36 : decode b_D_begin 36 = .ok (.iload_n 2, 1) := by decide +kernel
theorem d_D_begin_37 : decode b_D_begin 37 = .ok (.invokespecial 30, 3) := by decide +kernel
theorem d_D_begin_40 : decode b_D_begin 40 = .ok (.aastore, 1) := by decide +kernel
theorem d_D_begin_41 : decode b_D_begin 41 = .ok (.iconst 1, 1) := by decide +kernel
theorem d_D_begin_42 : decode b_D_begin 42 = .ok (.ireturn, 1) := by decide +kernel
theorem d_D_statement_0 : decode b_D_statement 0 = .ok (.aload_n 0, 1) := by decide +kernel
theorem d_D_statement_1 : decode b_D_statement 1 = .ok (.iload_n 1, 1) := by decide +kernel
theorem d_D_statement_2 : decode b_D_statement 2 = .ok (.invokevirtual 33, 3) := by decide +kernel
theorem d_D_statement_5 : decode b_D_statement 5 = .ok (.astore_n 2, 1) := by decide +kernel
theorem d_D_statement_6 : decode b_D_statement 6 = .ok (.aload_n 2, 1) := by decide +kernel
theorem d_D_statement_7 : decode b_D_statement 7 = .ok (.ifnonnull 5, 3) := by decide +kernel
theorem d_D_statement_10 : decode b_D_statement 10 = .ok (.iconst (-1), 1) := by decide +kernel
theorem d_D_statement_11 : decode b_D_statement 11 = .ok (.ireturn, 1) := by decide +kernel
theorem d_D_statement_12 : decode b_D_statement 12 = .ok (.aload_n 2, 1) := by decide +kernel
theorem d_D_statement_13 : decode b_D_statement 13 = .ok (.dup, 1) := by decide +kernel
theorem d_D_statement_14 : decode b_D_statement 14 = .ok (.getfield 37, 3) := by decide +kernel
theorem d_D_statement_17 : decode b_D_statement 17 = .ok (.iconst 1, 1) := by decide +kernel
theorem d_D_statement_18 : decode b_D_statement 18 = .ok (.iadd, 1) := by decide +kernel
theorem d_D_statement_19 : decode b_D_statement 19 = .ok (.putfield 37, 3) := by decide +kernel
theorem d_D_statement_22 : decode b_D_statement 22 = .ok (.aload_n 2, 1) := by decide +kernel
theorem d_D_statement_23 : decode b_D_statement 23 = .ok (.getfield 40, 3) := by decide +kernel
theorem d_D_statement_26 : decode b_D_statement 26 = .ok (.ifCond .eq 10, 3) := by decide +kernel
theorem d_D_statement_29 : decode b_D_statement 29 = .ok (.aload_n 2, 1) := by decide +kernel
theorem d_D_statement_30 : decode b_D_statement 30 = .ok (.invokevirtual 43, 3) := by decide +kernel
theorem d_D_statement_33 : decode b_D_statement 33 = .ok (.ifCond .ne 11, 3) := by decide +kernel
theorem d_D_statement_36 : decode b_D_statement 36 = .ok (.aload_n 2, 1) := by decide +kernel
theorem d_D_statement_37 : decode b_D_statement 37 = .ok (.aload_n 0, 1) := by decide +kernel
theorem d_D_statement_38 : decode b_D_statement 38 = .ok (.getfield 22, 3) := by decide +kernel
theorem d_D_statement_41 : decode b_D_statement 41 = .ok (.putfield 47, 3) := by decide +kernel
theorem d_D_statement_44 : decode b_D_statement 44 = .ok (.aload_n 2, 1) := by decide +kernel
theorem d_D_statement_45 : decode b_D_statement 45 = .ok (.getfield 37, 3) := by decide +kernel
theorem d_D_statement_48 : decode b_D_statement 48 = .ok (.ireturn, 1) := by decide +kernel
theorem d_D_number_0 : decode b_D_number 0 = .ok (.aload_n 0, 1) := by decide +kernel
theorem d_D_number_1 : decode b_D_number 1 = .ok (.iload_n 1, 1) := by decide +kernel
theorem d_D_number_2 : decode b_D_number 2 = .ok (.invokevirtual 33, 3) := by decide +kernel
theorem d_D_number_5 : decode b_D_number 5 = .ok (.astore_n 2, 1) := by decide +kernel
theorem d_D_number_6 : decode b_D_number 6 = .ok (.aload_n 2, 1) := by decide +kernel
theorem d_D_number_7 : decode b_D_number 7 = .ok (.ifnull 21, 3) := by decide +kernel
theorem d_D_number_10 : decode b_D_number 10 = .ok (.aload_n 2, 1) := by decide +kernel
theorem d_D_number_11 : decode b_D_number 11 = .ok (.invokestatic 50, 3) := by decide +kernel
theorem d_D_number_14 : decode b_D_number 14 = .ok (.sipush 4000, 3) := by decide +kernel
theorem d_D_number_17 : decode b_D_number 17 = .ok (.aload_n 0, 1) := by decide +kernel
theorem d_D_number_18 : decode b_D_number 18 = .ok (.getfield 18, 3) := by decide +kernel
theorem d_D_number_21 : decode b_D_number 21 = .ok (.invokevirtual 54, 3) := by decide +kernel
theorem d_D_number_24 : decode b_D_number 24 = .ok (.isub, 1) := by decide +kernel
theorem d_D_number_25 : decode b_D_number 25 = .ok (.if_icmp .le 5, 3) := by decide +kernel
theorem d_D_number_28 : decode b_D_number 28 = .ok (.iconst (-1), 1) := by decide +kernel
theorem d_D_number_29 : decode b_D_number 29 = .ok (.ireturn, 1) := by decide +kernel
theorem d_D_number_30 : decode b_D_number 30 = .ok (.aload_n 0, 1) := by decide +kernel
theorem d_D_number_31 : decode b_D_number 31 = .ok (.aload_n 2, 1) := by decide +kernel
theorem d_D_number_32 : decode b_D_number 32 = .ok (.invokevirtual 58, 3) := by decide +kernel
theorem d_D_number_35 : decode b_D_number 35 = .ok (.aload_n 2, 1) := by decide +kernel
theorem d_D_number_36 : decode b_D_number 36 = .ok (.getfield 62, 3) := by decide +kernel
theorem d_D_number_39 : decode b_D_number 39 = .ok (.aload_n 2, 1) := by decide +kernel
theorem d_D_number_40 : decode b_D_number 40 = .ok (.getfield 66, 3) := by decide +kernel
theorem d_D_number_43 : decode b_D_number 43 = .ok (.iaload, 1) := by decide +kernel
theorem d_D_number_44 : decode b_D_number 44 = .ok (.ireturn, 1) := by decide +kernel
theorem d_D_save_0 : decode b_D_save 0 = .ok (.aload_n 0, 1) := by decide +kernel
theorem d_D_save_1 : decode b_D_save 1 = .ok (.iload_n 1, 1) := by decide +kernel
theorem d_D_save_2 : decode b_D_save 2 = .ok (.invokevirtual 33, 3) := by decide +kernel
theorem d_D_save_5 : decode b_D_save 5 = .ok (.astore_n 2, 1) := by decide +kernel
theorem d_D_save_6 : decode b_D_save 6 = .ok (.aload_n 2, 1) := by decide +kernel
theorem d_D_save_7 : decode b_D_save 7 = .ok (.ifnull 12, 3) := by decide +kernel
theorem d_D_save_10 : decode b_D_save 10 = .ok (.aload_n 2, 1) := by decide +kernel
theorem d_D_save_11 : decode b_D_save 11 = .ok (.getfield 66, 3) := by decide +kernel
theorem d_D_save_14 : decode b_D_save 14 = .ok (.bipush 7, 2) := by decide +kernel
theorem d_D_save_16 : decode b_D_save 16 = .ok (.if_icmp .lt 5, 3) := by decide +kernel
theorem d_D_save_19 : decode b_D_save 19 = .ok (.iconst (-1), 1) := by decide +kernel
theorem d_D_save_20 : decode b_D_save 20 = .ok (.ireturn, 1) := by decide +kernel
theorem d_D_save_21 : decode b_D_save 21 = .ok (.aload_n 2, 1) := by decide +kernel
theorem d_D_save_22 : decode b_D_save 22 = .ok (.dup, 1) := by decide +kernel
theorem d_D_save_23 : decode b_D_save 23 = .ok (.getfield 66, 3) := by decide +kernel
theorem d_D_save_26 : decode b_D_save 26 = .ok (.iconst 1, 1) := by decide +kernel
theorem d_D_save_27 : decode b_D_save 27 = .ok (.iadd, 1) := by decide +kernel
theorem d_D_save_28 : decode b_D_save 28 = .ok (.putfield 66, 3) := by decide +kernel
theorem d_D_save_31 : decode b_D_save 31 = .ok (.aload_n 2, 1) := by decide +kernel
theorem d_D_save_32 : decode b_D_save 32 = .ok (.getfield 66, 3) := by decide +kernel
theorem d_D_save_35 : decode b_D_save 35 = .ok (.ireturn, 1) := by decide +kernel
theorem d_D_release_0 : decode b_D_release 0 = .ok (.aload_n 0, 1) := by decide +kernel
theorem d_D_release_1 : decode b_D_release 1 = .ok (.iload_n 1, 1) := by decide +kernel
theorem d_D_release_2 : decode b_D_release 2 = .ok (.invokevirtual 33, 3) := by decide +kernel
theorem d_D_release_5 : decode b_D_release 5 = .ok (.astore_n 3, 1) := by decide +kernel
theorem d_D_release_6 : decode b_D_release 6 = .ok (.aload_n 3, 1) := by decide +kernel
theorem d_D_release_7 : decode b_D_release 7 = .ok (.ifnull 11, 3) := by decide +kernel
theorem d_D_release_10 : decode b_D_release 10 = .ok (.aload_n 3, 1) := by decide +kernel
theorem d_D_release_11 : decode b_D_release 11 = .ok (.iload_n 2, 1) := by decide +kernel
theorem d_D_release_12 : decode b_D_release 12 = .ok (.invokevirtual 69, 3) := by decide +kernel
theorem d_D_release_15 : decode b_D_release 15 = .ok (.ifCond .ne 5, 3) := by decide +kernel
theorem d_D_release_18 : decode b_D_release 18 = .ok (.iconst 0, 1) := by decide +kernel
theorem d_D_release_19 : decode b_D_release 19 = .ok (.ireturn, 1) := by decide +kernel
theorem d_D_release_20 : decode b_D_release 20 = .ok (.iconst 0, 1) := by decide +kernel
theorem d_D_release_21 : decode b_D_release 21 = .ok (.istore 4, 2) := by decide +kernel
theorem d_D_release_23 : decode b_D_release 23 = .ok (.iload 4, 2) := by decide +kernel
theorem d_D_release_25 : decode b_D_release 25 = .ok (.aload_n 0, 1) := by decide +kernel
theorem d_D_release_26 : decode b_D_release 26 = .ok (.getfield 18, 3) := by decide +kernel
theorem d_D_release_29 : decode b_D_release 29 = .ok (.invokevirtual 54, 3) := by decide +kernel
theorem d_D_release_32 : decode b_D_release 32 = .ok (.if_icmp .ge 49, 3) := by decide +kernel
theorem d_D_release_35 : decode b_D_release 35 = .ok (.aload_n 0, 1) := by decide +kernel
theorem d_D_release_36 : decode b_D_release 36 = .ok (.getfield 18, 3) := by decide +kernel
theorem d_D_release_39 : decode b_D_release 39 = .ok (.iload 4, 2) := by decide +kernel
theorem d_D_release_41 : decode b_D_release 41 = .ok (.invokevirtual 72, 3) := by decide +kernel
theorem d_D_release_44 : decode b_D_release 44 = .ok (.checkcast 76, 3) := by decide +kernel
theorem d_D_release_47 : decode b_D_release 47 = .ok (.astore 5, 2) := by decide +kernel
theorem d_D_release_49 : decode b_D_release 49 = .ok (.aload_n 3, 1) := by decide +kernel
theorem d_D_release_50 : decode b_D_release 50 = .ok (.aload 5, 2) := by decide +kernel
theorem d_D_release_52 : decode b_D_release 52 = .ok (.invokevirtual 78, 3) := by decide +kernel
theorem d_D_release_55 : decode b_D_release 55 = .ok (.ifCond .eq 20, 3) := by decide +kernel
theorem d_D_release_58 : decode b_D_release 58 = .ok (.aload 5, 2) := by decide +kernel
theorem d_D_release_60 : decode b_D_release 60 = .ok (.getfield 82, 3) := by decide +kernel
theorem d_D_release_63 : decode b_D_release 63 = .ok (.iload_n 2, 1) := by decide +kernel
theorem d_D_release_64 : decode b_D_release 64 = .ok (.if_icmp .lt 11, 3) := by decide +kernel
theorem d_D_release_67 : decode b_D_release 67 = .ok (.aload 5, 2) := by decide +kernel
theorem d_D_release_69 : decode b_D_release 69 = .ok (.iload_n 2, 1) := by decide +kernel
theorem d_D_release_70 : decode b_D_release 70 = .ok (.iconst 1, 1) := by decide +kernel
theorem d_D_release_71 : decode b_D_release 71 = .ok (.isub, 1) := by decide +kernel
theorem d_D_release_72 : decode b_D_release 72 = .ok (.putfield 82, 3) := by decide +kernel
theorem d_D_release_75 : decode b_D_release 75 = .ok (.iinc 4 1, 3) := by decide +kernel
theorem d_D_release_78 : decode b_D_release 78 = .ok (.goto (-55), 3) := by decide +kernel
theorem d_D_release_81 : decode b_D_release 81 = .ok (.aload_n 3, 1) := by decide +kernel
theorem d_D_release_82 : decode b_D_release 82 = .ok (.iload_n 2, 1) := by decide +kernel
theorem d_D_release_83 : decode b_D_release 83 = .ok (.invokevirtual 85, 3) := by decide +kernel
theorem d_D_release_86 : decode b_D_release 86 = .ok (.aload_n 3, 1) := by decide +kernel
theorem d_D_release_87 : decode b_D_release 87 = .ok (.iload_n 2, 1) := by decide +kernel
theorem d_D_release_88 : decode b_D_release 88 = .ok (.iconst 1, 1) := by decide +kernel
theorem d_D_release_89 : decode b_D_release 89 = .ok (.isub, 1) := by decide +kernel
theorem d_D_release_90 : decode b_D_release 90 = .ok (.putfield 66, 3) := by decide +kernel
theorem d_D_release_93 : decode b_D_release 93 = .ok (.iconst 1, 1) := by decide +kernel
theorem d_D_release_94 : decode b_D_release 94 = .ok (.ireturn, 1) := by decide +kernel
theorem d_D_back_0 : decode b_D_back 0 = .ok (.aload_n 0, 1) := by decide +kernel
theorem d_D_back_1 : decode b_D_back 1 = .ok (.iload_n 1, 1) := by decide +kernel
theorem d_D_back_2 : decode b_D_back 2 = .ok (.invokevirtual 33, 3) := by decide +kernel
theorem d_D_back_5 : decode b_D_back 5 = .ok (.astore_n 3, 1) := by decide +kernel
theorem d_D_back_6 : decode b_D_back 6 = .ok (.aload_n 3, 1) := by decide +kernel
theorem d_D_back_7 : decode b_D_back 7 = .ok (.ifnull 11, 3) := by decide +kernel
theorem d_D_back_10 : decode b_D_back 10 = .ok (.aload_n 3, 1) := by decide +kernel
theorem d_D_back_11 : decode b_D_back 11 = .ok (.iload_n 2, 1) := by decide +kernel
theorem d_D_back_12 : decode b_D_back 12 = .ok (.invokevirtual 69, 3) := by decide +kernel
theorem d_D_back_15 : decode b_D_back 15 = .ok (.ifCond .ne 5, 3) := by decide +kernel
theorem d_D_back_18 : decode b_D_back 18 = .ok (.iconst 0, 1) := by decide +kernel
theorem d_D_back_19 : decode b_D_back 19 = .ok (.ireturn, 1) := by decide +kernel
theorem d_D_back_20 : decode b_D_back 20 = .ok (.aload_n 0, 1) := by decide +kernel
theorem d_D_back_21 : decode b_D_back 21 = .ok (.aload_n 3, 1) := by decide +kernel
theorem d_D_back_22 : decode b_D_back 22 = .ok (.iload_n 2, 1) := by decide +kernel
theorem d_D_back_23 : decode b_D_back 23 = .ok (.invokevirtual 88, 3) := by decide +kernel
theorem d_D_back_26 : decode b_D_back 26 = .ok (.aload_n 3, 1) := by decide +kernel
theorem d_D_back_27 : decode b_D_back 27 = .ok (.iload_n 2, 1) := by decide +kernel
theorem d_D_back_28 : decode b_D_back 28 = .ok (.invokevirtual 85, 3) := by decide +kernel
theorem d_D_back_31 : decode b_D_back 31 = .ok (.aload_n 3, 1) := by decide +kernel
theorem d_D_back_32 : decode b_D_back 32 = .ok (.iload_n 2, 1) := by decide +kernel
theorem d_D_back_33 : decode b_D_back 33 = .ok (.putfield 66, 3) := by decide +kernel
theorem d_D_back_36 : decode b_D_back 36 = .ok (.iconst 1, 1) := by decide +kernel
theorem d_D_back_37 : decode b_D_back 37 = .ok (.ireturn, 1) := by decide +kernel
theorem d_D_commit_0 : decode b_D_commit 0 = .ok (.aload_n 0, 1) := by decide +kernel
theorem d_D_commit_1 : decode b_D_commit 1 = .ok (.iload_n 1, 1) := by decide +kernel
theorem d_D_commit_2 : decode b_D_commit 2 = .ok (.invokevirtual 33, 3) := by decide +kernel
theorem d_D_commit_5 : decode b_D_commit 5 = .ok (.astore_n 2, 1) := by decide +kernel
theorem d_D_commit_6 : decode b_D_commit 6 = .ok (.aload_n 2, 1) := by decide +kernel
theorem d_D_commit_7 : decode b_D_commit 7 = .ok (.ifnonnull 5, 3) := by decide +kernel
theorem d_D_commit_10 : decode b_D_commit 10 = .ok (.iconst (-1), 1) := by decide +kernel
theorem d_D_commit_11 : decode b_D_commit 11 = .ok (.ireturn, 1) := by decide +kernel
theorem d_D_commit_12 : decode b_D_commit 12 = .ok (.aload_n 0, 1) := by decide +kernel
theorem d_D_commit_13 : decode b_D_commit 13 = .ok (.getfield 11, 3) := by decide +kernel
theorem d_D_commit_16 : decode b_D_commit 16 = .ok (.iload_n 1, 1) := by decide +kernel
theorem d_D_commit_17 : decode b_D_commit 17 = .ok (.aconst_null, 1) := by decide +kernel
theorem d_D_commit_18 : decode b_D_commit 18 = .ok (.aastore, 1) := by decide +kernel
theorem d_D_commit_19 : decode b_D_commit 19 = .ok (.aload_n 2, 1) := by decide +kernel
theorem d_D_commit_20 : decode b_D_commit 20 = .ok (.getfield 62, 3) := by decide +kernel
theorem d_D_commit_23 : decode b_D_commit 23 = .ok (.iconst 0, 1) := by decide +kernel
theorem d_D_commit_24 : decode b_D_commit 24 = .ok (.iaload, 1) := by decide +kernel
theorem d_D_commit_25 : decode b_D_commit 25 = .ok (.ifCond .ne 5, 3) := by decide +kernel
theorem d_D_commit_28 : decode b_D_commit 28 = .ok (.iconst 0, 1) := by decide +kernel
theorem d_D_commit_29 : decode b_D_commit 29 = .ok (.ireturn, 1) := by decide +kernel
theorem d_D_commit_30 : decode b_D_commit 30 = .ok (.aload_n 0, 1) := by decide +kernel
theorem d_D_commit_31 : decode b_D_commit 31 = .ok (.dup, 1) := by decide +kernel
theorem d_D_commit_32 : decode b_D_commit 32 = .ok (.getfield 22, 3) := by decide +kernel
theorem d_D_commit_35 : decode b_D_commit 35 = .ok (.iconst 1, 1) := by decide +kernel
theorem d_D_commit_36 : decode b_D_commit 36 = .ok (.iadd, 1) := by decide +kernel
theorem d_D_commit_37 : decode b_D_commit 37 = .ok (.putfield 22, 3) := by decide +kernel
theorem d_D_commit_40 : decode b_D_commit 40 = .ok (.aload_n 0, 1) := by decide +kernel
theorem d_D_commit_41 : decode b_D_commit 41 = .ok (.aload_n 2, 1) := by decide +kernel
theorem d_D_commit_42 : decode b_D_commit 42 = .ok (.invokevirtual 92, 3) := by decide +kernel
theorem d_D_commit_45 : decode b_D_commit 45 = .ok (.aload_n 0, 1) := by decide +kernel
theorem d_D_commit_46 : decode b_D_commit 46 = .ok (.getfield 22, 3) := by decide +kernel
theorem d_D_commit_49 : decode b_D_commit 49 = .ok (.ireturn, 1) := by decide +kernel
theorem d_D_abort_0 : decode b_D_abort 0 = .ok (.aload_n 0, 1) := by decide +kernel
theorem d_D_abort_1 : decode b_D_abort 1 = .ok (.iload_n 1, 1) := by decide +kernel
theorem d_D_abort_2 : decode b_D_abort 2 = .ok (.invokevirtual 33, 3) := by decide +kernel
theorem d_D_abort_5 : decode b_D_abort 5 = .ok (.astore_n 2, 1) := by decide +kernel
theorem d_D_abort_6 : decode b_D_abort 6 = .ok (.aload_n 2, 1) := by decide +kernel
theorem d_D_abort_7 : decode b_D_abort 7 = .ok (.ifnonnull 5, 3) := by decide +kernel
theorem d_D_abort_10 : decode b_D_abort 10 = .ok (.iconst 0, 1) := by decide +kernel
theorem d_D_abort_11 : decode b_D_abort 11 = .ok (.ireturn, 1) := by decide +kernel
theorem d_D_abort_12 : decode b_D_abort 12 = .ok (.aload_n 0, 1) := by decide +kernel
theorem d_D_abort_13 : decode b_D_abort 13 = .ok (.aload_n 2, 1) := by decide +kernel
theorem d_D_abort_14 : decode b_D_abort 14 = .ok (.iconst 0, 1) := by decide +kernel
theorem d_D_abort_15 : decode b_D_abort 15 = .ok (.invokevirtual 88, 3) := by decide +kernel
theorem d_D_abort_18 : decode b_D_abort 18 = .ok (.aload_n 0, 1) := by decide +kernel
theorem d_D_abort_19 : decode b_D_abort 19 = .ok (.getfield 11, 3) := by decide +kernel
theorem d_D_abort_22 : decode b_D_abort 22 = .ok (.iload_n 1, 1) := by decide +kernel
theorem d_D_abort_23 : decode b_D_abort 23 = .ok (.aconst_null, 1) := by decide +kernel
theorem d_D_abort_24 : decode b_D_abort 24 = .ok (.aastore, 1) := by decide +kernel
theorem d_D_abort_25 : decode b_D_abort 25 = .ok (.iconst 1, 1) := by decide +kernel
theorem d_D_abort_26 : decode b_D_abort 26 = .ok (.ireturn, 1) := by decide +kernel
theorem d_D_crash_0 : decode b_D_crash 0 = .ok (.iconst 0, 1) := by decide +kernel
theorem d_D_crash_1 : decode b_D_crash 1 = .ok (.istore_n 1, 1) := by decide +kernel
theorem d_D_crash_2 : decode b_D_crash 2 = .ok (.iload_n 1, 1) := by decide +kernel
theorem d_D_crash_3 : decode b_D_crash 3 = .ok (.bipush 6, 2) := by decide +kernel
theorem d_D_crash_5 : decode b_D_crash 5 = .ok (.if_icmp .ge 15, 3) := by decide +kernel
theorem d_D_crash_8 : decode b_D_crash 8 = .ok (.aload_n 0, 1) := by decide +kernel
theorem d_D_crash_9 : decode b_D_crash 9 = .ok (.iload_n 1, 1) := by decide +kernel
theorem d_D_crash_10 : decode b_D_crash 10 = .ok (.invokevirtual 95, 3) := by decide +kernel
theorem d_D_crash_13 : decode b_D_crash 13 = .ok (.pop, 1) := by decide +kernel
theorem d_D_crash_14 : decode b_D_crash 14 = .ok (.iinc 1 1, 3) := by decide +kernel
theorem d_D_crash_17 : decode b_D_crash 17 = .ok (.goto (-15), 3) := by decide +kernel
theorem d_D_crash_20 : decode b_D_crash 20 = .ok (.return_, 1) := by decide +kernel
theorem d_D_state_0 : decode b_D_state 0 = .ok (.aload_n 0, 1) := by decide +kernel
theorem d_D_state_1 : decode b_D_state 1 = .ok (.iload_n 1, 1) := by decide +kernel
theorem d_D_state_2 : decode b_D_state 2 = .ok (.invokevirtual 98, 3) := by decide +kernel
theorem d_D_state_5 : decode b_D_state 5 = .ok (.astore_n 2, 1) := by decide +kernel
theorem d_D_state_6 : decode b_D_state 6 = .ok (.aload_n 2, 1) := by decide +kernel
theorem d_D_state_7 : decode b_D_state 7 = .ok (.ifnonnull 7, 3) := by decide +kernel
theorem d_D_state_10 : decode b_D_state 10 = .ok (.iconst 0, 1) := by decide +kernel
theorem d_D_state_11 : decode b_D_state 11 = .ok (.goto 7, 3) := by decide +kernel
theorem d_D_state_14 : decode b_D_state 14 = .ok (.aload_n 2, 1) := by decide +kernel
theorem d_D_state_15 : decode b_D_state 15 = .ok (.getfield 102, 3) := by decide +kernel
theorem d_D_state_18 : decode b_D_state 18 = .ok (.ireturn, 1) := by decide +kernel
theorem d_D_root_0 : decode b_D_root 0 = .ok (.aload_n 0, 1) := by decide +kernel
theorem d_D_root_1 : decode b_D_root 1 = .ok (.iload_n 1, 1) := by decide +kernel
theorem d_D_root_2 : decode b_D_root 2 = .ok (.invokevirtual 98, 3) := by decide +kernel
theorem d_D_root_5 : decode b_D_root 5 = .ok (.astore_n 2, 1) := by decide +kernel
theorem d_D_root_6 : decode b_D_root 6 = .ok (.aload_n 2, 1) := by decide +kernel
theorem d_D_root_7 : decode b_D_root 7 = .ok (.ifnonnull 7, 3) := by decide +kernel
theorem d_D_root_10 : decode b_D_root 10 = .ok (.iconst 0, 1) := by decide +kernel
theorem d_D_root_11 : decode b_D_root 11 = .ok (.goto 7, 3) := by decide +kernel
theorem d_D_root_14 : decode b_D_root 14 = .ok (.aload_n 2, 1) := by decide +kernel
theorem d_D_root_15 : decode b_D_root 15 = .ok (.getfield 105, 3) := by decide +kernel
theorem d_D_root_18 : decode b_D_root 18 = .ok (.ireturn, 1) := by decide +kernel
theorem d_D_place_0 : decode b_D_place 0 = .ok (.aload_n 0, 1) := by decide +kernel
theorem d_D_place_1 : decode b_D_place 1 = .ok (.iload_n 1, 1) := by decide +kernel
theorem d_D_place_2 : decode b_D_place 2 = .ok (.invokevirtual 98, 3) := by decide +kernel
theorem d_D_place_5 : decode b_D_place 5 = .ok (.astore_n 2, 1) := by decide +kernel
theorem d_D_place_6 : decode b_D_place 6 = .ok (.aload_n 2, 1) := by decide +kernel
theorem d_D_place_7 : decode b_D_place 7 = .ok (.ifnonnull 7, 3) := by decide +kernel
theorem d_D_place_10 : decode b_D_place 10 = .ok (.iconst 0, 1) := by decide +kernel
theorem d_D_place_11 : decode b_D_place 11 = .ok (.goto 7, 3) := by decide +kernel
theorem d_D_place_14 : decode b_D_place 14 = .ok (.aload_n 2, 1) := by decide +kernel
theorem d_D_place_15 : decode b_D_place 15 = .ok (.getfield 108, 3) := by decide +kernel
theorem d_D_place_18 : decode b_D_place 18 = .ok (.ireturn, 1) := by decide +kernel
theorem d_D_sees_0 : decode b_D_sees 0 = .ok (.aload_n 0, 1) := by decide +kernel
theorem d_D_sees_1 : decode b_D_sees 1 = .ok (.iload_n 1, 1) := by decide +kernel
theorem d_D_sees_2 : decode b_D_sees 2 = .ok (.invokevirtual 33, 3) := by decide +kernel
theorem d_D_sees_5 : decode b_D_sees 5 = .ok (.astore 6, 2) := by decide +kernel
theorem d_D_sees_7 : decode b_D_sees 7 = .ok (.aload 6, 2) := by decide +kernel
theorem d_D_sees_9 : decode b_D_sees 9 = .ok (.ifnull 11, 3) := by decide +kernel
theorem d_D_sees_12 : decode b_D_sees 12 = .ok (.aload 6, 2) := by decide +kernel
theorem d_D_sees_14 : decode b_D_sees 14 = .ok (.invokevirtual 43, 3) := by decide +kernel
theorem d_D_sees_17 : decode b_D_sees 17 = .ok (.ifCond .ne 5, 3) := by decide +kernel
theorem d_D_sees_20 : decode b_D_sees 20 = .ok (.iconst 0, 1) := by decide +kernel
theorem d_D_sees_21 : decode b_D_sees 21 = .ok (.ireturn, 1) := by decide +kernel
theorem d_D_sees_22 : decode b_D_sees 22 = .ok (.aload 6, 2) := by decide +kernel
theorem d_D_sees_24 : decode b_D_sees 24 = .ok (.aload_n 0, 1) := by decide +kernel
theorem d_D_sees_25 : decode b_D_sees 25 = .ok (.iload_n 2, 1) := by decide +kernel
theorem d_D_sees_26 : decode b_D_sees 26 = .ok (.invokevirtual 98, 3) := by decide +kernel
theorem d_D_sees_29 : decode b_D_sees 29 = .ok (.iload_n 3, 1) := by decide +kernel
theorem d_D_sees_30 : decode b_D_sees 30 = .ok (.invokestatic 111, 3) := by decide +kernel
theorem d_D_sees_33 : decode b_D_sees 33 = .ok (.ifCond .eq 23, 3) := by decide +kernel
theorem d_D_sees_36 : decode b_D_sees 36 = .ok (.aload 6, 2) := by decide +kernel
theorem d_D_sees_38 : decode b_D_sees 38 = .ok (.aload_n 0, 1) := by decide +kernel
theorem d_D_sees_39 : decode b_D_sees 39 = .ok (.iload 4, 2) := by decide +kernel
theorem d_D_sees_41 : decode b_D_sees 41 = .ok (.invokevirtual 98, 3) := by decide +kernel
theorem d_D_sees_44 : decode b_D_sees 44 = .ok (.iload 5, 2) := by decide +kernel
theorem d_D_sees_46 : decode b_D_sees 46 = .ok (.invokestatic 111, 3) := by decide +kernel
theorem d_D_sees_49 : decode b_D_sees 49 = .ok (.ifCond .ne 7, 3) := by decide +kernel
theorem d_D_sees_52 : decode b_D_sees 52 = .ok (.iconst 1, 1) := by decide +kernel
theorem d_D_sees_53 : decode b_D_sees 53 = .ok (.goto 4, 3) := by decide +kernel
theorem d_D_sees_56 : decode b_D_sees 56 = .ok (.iconst 0, 1) := by decide +kernel
theorem d_D_sees_57 : decode b_D_sees 57 = .ok (.ireturn, 1) := by decide +kernel
theorem d_D_ending_0 : decode b_D_ending 0 = .ok (.aload_n 0, 1) := by decide +kernel
theorem d_D_ending_1 : decode b_D_ending 1 = .ok (.iload_n 1, 1) := by decide +kernel
theorem d_D_ending_2 : decode b_D_ending 2 = .ok (.invokevirtual 33, 3) := by decide +kernel
theorem d_D_ending_5 : decode b_D_ending 5 = .ok (.astore 4, 2) := by decide +kernel
theorem d_D_ending_7 : decode b_D_ending 7 = .ok (.aload 4, 2) := by decide +kernel
theorem d_D_ending_9 : decode b_D_ending 9 = .ok (.ifnull 11, 3) := by decide +kernel
theorem d_D_ending_12 : decode b_D_ending 12 = .ok (.aload 4, 2) := by decide +kernel
theorem d_D_ending_14 : decode b_D_ending 14 = .ok (.invokevirtual 43, 3) := by decide +kernel
theorem d_D_ending_17 : decode b_D_ending 17 = .ok (.ifCond .ne 5, 3) := by decide +kernel
theorem d_D_ending_20 : decode b_D_ending 20 = .ok (.iconst (-1), 1) := by decide +kernel
theorem d_D_ending_21 : decode b_D_ending 21 = .ok (.ireturn, 1) := by decide +kernel
theorem d_D_ending_22 : decode b_D_ending 22 = .ok (.aload_n 0, 1) := by decide +kernel
theorem d_D_ending_23 : decode b_D_ending 23 = .ok (.iload_n 2, 1) := by decide +kernel
theorem d_D_ending_24 : decode b_D_ending 24 = .ok (.invokevirtual 98, 3) := by decide +kernel
theorem d_D_ending_27 : decode b_D_ending 27 = .ok (.astore 5, 2) := by decide +kernel
theorem d_D_ending_29 : decode b_D_ending 29 = .ok (.aload 5, 2) := by decide +kernel
theorem d_D_ending_31 : decode b_D_ending 31 = .ok (.ifnull 12, 3) := by decide +kernel
theorem d_D_ending_34 : decode b_D_ending 34 = .ok (.aload 5, 2) := by decide +kernel
theorem d_D_ending_36 : decode b_D_ending 36 = .ok (.getfield 102, 3) := by decide +kernel
theorem d_D_ending_39 : decode b_D_ending 39 = .ok (.iconst 3, 1) := by decide +kernel
theorem d_D_ending_40 : decode b_D_ending 40 = .ok (.if_icmp .ne 5, 3) := by decide +kernel
theorem d_D_ending_43 : decode b_D_ending 43 = .ok (.iconst 0, 1) := by decide +kernel
theorem d_D_ending_44 : decode b_D_ending 44 = .ok (.ireturn, 1) := by decide +kernel
theorem d_D_ending_45 : decode b_D_ending 45 = .ok (.aload 4, 2) := by decide +kernel
theorem d_D_ending_47 : decode b_D_ending 47 = .ok (.aload 5, 2) := by decide +kernel
theorem d_D_ending_49 : decode b_D_ending 49 = .ok (.iload_n 3, 1) := by decide +kernel
theorem d_D_ending_50 : decode b_D_ending 50 = .ok (.invokestatic 111, 3) := by decide +kernel
theorem d_D_ending_53 : decode b_D_ending 53 = .ok (.istore 6, 2) := by decide +kernel
theorem d_D_ending_55 : decode b_D_ending 55 = .ok (.aload 4, 2) := by decide +kernel
theorem d_D_ending_57 : decode b_D_ending 57 = .ok (.aload 5, 2) := by decide +kernel
theorem d_D_ending_59 : decode b_D_ending 59 = .ok (.invokevirtual 78, 3) := by decide +kernel
theorem d_D_ending_62 : decode b_D_ending 62 = .ok (.ifCond .eq 14, 3) := by decide +kernel
theorem d_D_ending_65 : decode b_D_ending 65 = .ok (.iload 6, 2) := by decide +kernel
theorem d_D_ending_67 : decode b_D_ending 67 = .ok (.ifCond .eq 7, 3) := by decide +kernel
theorem d_D_ending_70 : decode b_D_ending 70 = .ok (.iconst 1, 1) := by decide +kernel
theorem d_D_ending_71 : decode b_D_ending 71 = .ok (.goto 4, 3) := by decide +kernel
theorem d_D_ending_74 : decode b_D_ending 74 = .ok (.iconst 2, 1) := by decide +kernel
theorem d_D_ending_75 : decode b_D_ending 75 = .ok (.ireturn, 1) := by decide +kernel
theorem d_D_ending_76 : decode b_D_ending 76 = .ok (.aload 5, 2) := by decide +kernel
theorem d_D_ending_78 : decode b_D_ending 78 = .ok (.getfield 102, 3) := by decide +kernel
theorem d_D_ending_81 : decode b_D_ending 81 = .ok (.iconst 1, 1) := by decide +kernel
theorem d_D_ending_82 : decode b_D_ending 82 = .ok (.if_icmp .ne 5, 3) := by decide +kernel
theorem d_D_ending_85 : decode b_D_ending 85 = .ok (.iconst 3, 1) := by decide +kernel
theorem d_D_ending_86 : decode b_D_ending 86 = .ok (.ireturn, 1) := by decide +kernel
theorem d_D_ending_87 : decode b_D_ending 87 = .ok (.iload 6, 2) := by decide +kernel
theorem d_D_ending_89 : decode b_D_ending 89 = .ok (.ifCond .eq 7, 3) := by decide +kernel
theorem d_D_ending_92 : decode b_D_ending 92 = .ok (.iconst 4, 1) := by decide +kernel
theorem d_D_ending_93 : decode b_D_ending 93 = .ok (.goto 4, 3) := by decide +kernel
theorem d_D_ending_96 : decode b_D_ending 96 = .ok (.iconst 5, 1) := by decide +kernel
theorem d_D_ending_97 : decode b_D_ending 97 = .ok (.ireturn, 1) := by decide +kernel
theorem d_D_dead_0 : decode b_D_dead 0 = .ok (.aload_n 0, 1) := by decide +kernel
theorem d_D_dead_1 : decode b_D_dead 1 = .ok (.iload_n 1, 1) := by decide +kernel
theorem d_D_dead_2 : decode b_D_dead 2 = .ok (.invokevirtual 98, 3) := by decide +kernel
theorem d_D_dead_5 : decode b_D_dead 5 = .ok (.astore_n 3, 1) := by decide +kernel
theorem d_D_dead_6 : decode b_D_dead 6 = .ok (.aload_n 3, 1) := by decide +kernel
theorem d_D_dead_7 : decode b_D_dead 7 = .ok (.ifnonnull 5, 3) := by decide +kernel
theorem d_D_dead_10 : decode b_D_dead 10 = .ok (.iconst 0, 1) := by decide +kernel
theorem d_D_dead_11 : decode b_D_dead 11 = .ok (.ireturn, 1) := by decide +kernel
theorem d_D_dead_12 : decode b_D_dead 12 = .ok (.aload_n 3, 1) := by decide +kernel
theorem d_D_dead_13 : decode b_D_dead 13 = .ok (.getfield 102, 3) := by decide +kernel
theorem d_D_dead_16 : decode b_D_dead 16 = .ok (.iconst 3, 1) := by decide +kernel
theorem d_D_dead_17 : decode b_D_dead 17 = .ok (.if_icmp .eq 15, 3) := by decide +kernel
theorem d_D_dead_20 : decode b_D_dead 20 = .ok (.aload_n 0, 1) := by decide +kernel
theorem d_D_dead_21 : decode b_D_dead 21 = .ok (.aload_n 0, 1) := by decide +kernel
theorem d_D_dead_22 : decode b_D_dead 22 = .ok (.iload_n 2, 1) := by decide +kernel
theorem d_D_dead_23 : decode b_D_dead 23 = .ok (.invokevirtual 98, 3) := by decide +kernel
theorem d_D_dead_26 : decode b_D_dead 26 = .ok (.invokevirtual 115, 3) := by decide +kernel
theorem d_D_dead_29 : decode b_D_dead 29 = .ok (.ifCond .eq 7, 3) := by decide +kernel
theorem d_D_dead_32 : decode b_D_dead 32 = .ok (.iconst 1, 1) := by decide +kernel
theorem d_D_dead_33 : decode b_D_dead 33 = .ok (.goto 4, 3) := by decide +kernel
theorem d_D_dead_36 : decode b_D_dead 36 = .ok (.iconst 0, 1) := by decide +kernel
theorem d_D_dead_37 : decode b_D_dead 37 = .ok (.ireturn, 1) := by decide +kernel
theorem d_D_look_0 : decode b_D_look 0 = .ok (.iload_n 2, 1) := by decide +kernel
theorem d_D_look_1 : decode b_D_look 1 = .ok (.iconst 5, 1) := by decide +kernel
theorem d_D_look_2 : decode b_D_look 2 = .ok (.if_icmp .ne 11, 3) := by decide +kernel
theorem d_D_look_5 : decode b_D_look 5 = .ok (.aload_n 0, 1) := by decide +kernel
theorem d_D_look_6 : decode b_D_look 6 = .ok (.getfield 18, 3) := by decide +kernel
theorem d_D_look_9 : decode b_D_look 9 = .ok (.invokevirtual 54, 3) := by decide +kernel
theorem d_D_look_12 : decode b_D_look 12 = .ok (.ireturn, 1) := by decide +kernel
theorem d_D_look_13 : decode b_D_look 13 = .ok (.iload_n 2, 1) := by decide +kernel
theorem d_D_look_14 : decode b_D_look 14 = .ok (.bipush 6, 2) := by decide +kernel
theorem d_D_look_16 : decode b_D_look 16 = .ok (.if_icmp .ne 8, 3) := by decide +kernel
theorem d_D_look_19 : decode b_D_look 19 = .ok (.aload_n 0, 1) := by decide +kernel
theorem d_D_look_20 : decode b_D_look 20 = .ok (.getfield 22, 3) := by decide +kernel
theorem d_D_look_23 : decode b_D_look 23 = .ok (.ireturn, 1) := by decide +kernel
theorem d_D_look_24 : decode b_D_look 24 = .ok (.aload_n 0, 1) := by decide +kernel
theorem d_D_look_25 : decode b_D_look 25 = .ok (.iload_n 1, 1) := by decide +kernel
theorem d_D_look_26 : decode b_D_look 26 = .ok (.invokevirtual 33, 3) := by decide +kernel
theorem d_D_look_29 : decode b_D_look 29 = .ok (.astore_n 3, 1) := by decide +kernel
theorem d_D_look_30 : decode b_D_look 30 = .ok (.aload_n 3, 1) := by decide +kernel
theorem d_D_look_31 : decode b_D_look 31 = .ok (.ifnonnull 7, 3) := by decide +kernel
theorem d_D_look_34 : decode b_D_look 34 = .ok (.iconst (-1), 1) := by decide +kernel
theorem d_D_look_35 : decode b_D_look 35 = .ok (.goto 8, 3) := by decide +kernel
theorem d_D_look_38 : decode b_D_look 38 = .ok (.aload_n 3, 1) := by decide +kernel
theorem d_D_look_39 : decode b_D_look 39 = .ok (.iload_n 2, 1) := by decide +kernel
theorem d_D_look_40 : decode b_D_look 40 = .ok (.invokestatic 118, 3) := by decide +kernel
theorem d_D_look_43 : decode b_D_look 43 = .ok (.ireturn, 1) := by decide +kernel
theorem d_D_lookAt_0 : decode b_D_lookAt 0 = .ok (.iload_n 1, 1) := by decide +kernel
theorem d_D_lookAt_1 : decode b_D_lookAt 1 = .ok (.tableswitch 65 0 4 #[35, 40, 45, 50, 60], 35) := by decide +kernel
theorem d_D_lookAt_36 : decode b_D_lookAt 36 = .ok (.aload_n 0, 1) := by decide +kernel
theorem d_D_lookAt_37 : decode b_D_lookAt 37 = .ok (.getfield 40, 3) := by decide +kernel
theorem d_D_lookAt_40 : decode b_D_lookAt 40 = .ok (.ireturn, 1) := by decide +kernel
theorem d_D_lookAt_41 : decode b_D_lookAt 41 = .ok (.aload_n 0, 1) := by decide +kernel
theorem d_D_lookAt_42 : decode b_D_lookAt 42 = .ok (.getfield 37, 3) := by decide +kernel
theorem d_D_lookAt_45 : decode b_D_lookAt 45 = .ok (.ireturn, 1) := by decide +kernel
theorem d_D_lookAt_46 : decode b_D_lookAt 46 = .ok (.aload_n 0, 1) := by decide +kernel
theorem d_D_lookAt_47 : decode b_D_lookAt 47 = .ok (.getfield 66, 3) := by decide +kernel
theorem d_D_lookAt_50 : decode b_D_lookAt 50 = .ok (.ireturn, 1) := by decide +kernel
theorem d_D_lookAt_51 : decode b_D_lookAt 51 = .ok (.aload_n 0, 1) := by decide +kernel
theorem d_D_lookAt_52 : decode b_D_lookAt 52 = .ok (.getfield 62, 3) := by decide +kernel
theorem d_D_lookAt_55 : decode b_D_lookAt 55 = .ok (.aload_n 0, 1) := by decide +kernel
theorem d_D_lookAt_56 : decode b_D_lookAt 56 = .ok (.getfield 66, 3) := by decide +kernel
theorem d_D_lookAt_59 : decode b_D_lookAt 59 = .ok (.iaload, 1) := by decide +kernel
theorem d_D_lookAt_60 : decode b_D_lookAt 60 = .ok (.ireturn, 1) := by decide +kernel
theorem d_D_lookAt_61 : decode b_D_lookAt 61 = .ok (.aload_n 0, 1) := by decide +kernel
theorem d_D_lookAt_62 : decode b_D_lookAt 62 = .ok (.getfield 47, 3) := by decide +kernel
theorem d_D_lookAt_65 : decode b_D_lookAt 65 = .ok (.ireturn, 1) := by decide +kernel
theorem d_D_lookAt_66 : decode b_D_lookAt 66 = .ok (.iconst (-1), 1) := by decide +kernel
theorem d_D_lookAt_67 : decode b_D_lookAt 67 = .ok (.ireturn, 1) := by decide +kernel
theorem d_D_isSession_0 : decode b_D_isSession 0 = .ok (.iload_n 0, 1) := by decide +kernel
theorem d_D_isSession_1 : decode b_D_isSession 1 = .ok (.ifCond .lt 13, 3) := by decide +kernel
theorem d_D_isSession_4 : decode b_D_isSession 4 = .ok (.iload_n 0, 1) := by decide +kernel
theorem d_D_isSession_5 : decode b_D_isSession 5 = .ok (.bipush 6, 2) := by decide +kernel
theorem d_D_isSession_7 : decode b_D_isSession 7 = .ok (.if_icmp .ge 7, 3) := by decide +kernel
theorem d_D_isSession_10 : decode b_D_isSession 10 = .ok (.iconst 1, 1) := by decide +kernel
theorem d_D_isSession_11 : decode b_D_isSession 11 = .ok (.goto 4, 3) := by decide +kernel
theorem d_D_isSession_14 : decode b_D_isSession 14 = .ok (.iconst 0, 1) := by decide +kernel
theorem d_D_isSession_15 : decode b_D_isSession 15 = .ok (.ireturn, 1) := by decide +kernel
theorem d_D_transactionOf_0 : decode b_D_transactionOf 0 = .ok (.iload_n 1, 1) := by decide +kernel
theorem d_D_transactionOf_1 : decode b_D_transactionOf 1 = .ok (.invokestatic 26, 3) := by decide +kernel
theorem d_D_transactionOf_4 : decode b_D_transactionOf 4 = .ok (.ifCond .eq 12, 3) := by decide +kernel
theorem d_D_transactionOf_7 : decode b_D_transactionOf 7 = .ok (.aload_n 0, 1) := by decide +kernel
theorem d_D_transactionOf_8 : decode b_D_transactionOf 8 = .ok (.getfield 11, 3) := by decide +kernel
theorem d_D_transactionOf_11 : decode b_D_transactionOf 11 = .ok (.iload_n 1, 1) := by decide +kernel
theorem d_D_transactionOf_12 : decode b_D_transactionOf 12 = .ok (.aaload, 1) := by decide +kernel
theorem d_D_transactionOf_13 : decode b_D_transactionOf 13 = .ok (.goto 4, 3) := by decide +kernel
theorem d_D_transactionOf_16 : decode b_D_transactionOf 16 = .ok (.aconst_null, 1) := by decide +kernel
theorem d_D_transactionOf_17 : decode b_D_transactionOf 17 = .ok (.areturn, 1) := by decide +kernel
theorem d_D_find_0 : decode b_D_find 0 = .ok (.iload_n 1, 1) := by decide +kernel
theorem d_D_find_1 : decode b_D_find 1 = .ok (.iconst 1, 1) := by decide +kernel
theorem d_D_find_2 : decode b_D_find 2 = .ok (.if_icmp .lt 30, 3) := by decide +kernel
theorem d_D_find_5 : decode b_D_find 5 = .ok (.iload_n 1, 1) := by decide +kernel
theorem d_D_find_6 : decode b_D_find 6 = .ok (.aload_n 0, 1) := by decide +kernel
theorem d_D_find_7 : decode b_D_find 7 = .ok (.getfield 18, 3) := by decide +kernel
theorem d_D_find_10 : decode b_D_find 10 = .ok (.invokevirtual 54, 3) := by decide +kernel
theorem d_D_find_13 : decode b_D_find 13 = .ok (.if_icmp .gt 19, 3) := by decide +kernel
theorem d_D_find_16 : decode b_D_find 16 = .ok (.aload_n 0, 1) := by decide +kernel
theorem d_D_find_17 : decode b_D_find 17 = .ok (.getfield 18, 3) := by decide +kernel
theorem d_D_find_20 : decode b_D_find 20 = .ok (.iload_n 1, 1) := by decide +kernel
theorem d_D_find_21 : decode b_D_find 21 = .ok (.iconst 1, 1) := by decide +kernel
theorem d_D_find_22 : decode b_D_find 22 = .ok (.isub, 1) := by decide +kernel
theorem d_D_find_23 : decode b_D_find 23 = .ok (.invokevirtual 72, 3) := by decide +kernel
theorem d_D_find_26 : decode b_D_find 26 = .ok (.checkcast 76, 3) := by decide +kernel
theorem d_D_find_29 : decode b_D_find 29 = .ok (.goto 4, 3) := by decide +kernel
theorem d_D_find_32 : decode b_D_find 32 = .ok (.aconst_null, 1) := by decide +kernel
theorem d_D_find_33 : decode b_D_find 33 = .ok (.areturn, 1) := by decide +kernel
theorem d_D_countLevelsWithoutNumber_0 : decode b_D_countLevelsWithoutNumber 0 = .ok (.iconst 0, 1) := by decide +kernel
theorem d_D_countLevelsWithoutNumber_1 : decode b_D_countLevelsWithoutNumber 1 = .ok (.istore_n 1, 1) := by decide +kernel
theorem d_D_countLevelsWithoutNumber_2 : decode b_D_countLevelsWithoutNumber 2 = .ok (.iconst 0, 1) := by decide +kernel
theorem d_D_countLevelsWithoutNumber_3 : decode b_D_countLevelsWithoutNumber 3 = .ok (.istore_n 2, 1) := by decide +kernel
theorem d_D_countLevelsWithoutNumber_4 : decode b_D_countLevelsWithoutNumber 4 = .ok (.iload_n 2, 1) := by decide +kernel
theorem d_D_countLevelsWithoutNumber_5 : decode b_D_countLevelsWithoutNumber 5 = .ok (.aload_n 0, 1) := by decide +kernel
theorem d_D_countLevelsWithoutNumber_6 : decode b_D_countLevelsWithoutNumber 6 = .ok (.getfield 66, 3) := by decide +kernel
theorem d_D_countLevelsWithoutNumber_9 : decode b_D_countLevelsWithoutNumber 9 = .ok (.if_icmp .gt 21, 3) := by decide +kernel
theorem d_D_countLevelsWithoutNumber_12 : decode b_D_countLevelsWithoutNumber 12 = .ok (.aload_n 0, 1) := by decide +kernel
theorem d_D_countLevelsWithoutNumber_13 : decode b_D_countLevelsWithoutNumber 13 = .ok (.getfield 62, 3) := by decide +kernel
theorem d_D_countLevelsWithoutNumber_16 : decode b_D_countLevelsWithoutNumber 16 = .ok (.iload_n 2, 1) := by decide +kernel
theorem d_D_countLevelsWithoutNumber_17 : decode b_D_countLevelsWithoutNumber 17 = .ok (.iaload, 1) := by decide +kernel
theorem d_D_countLevelsWithoutNumber_18 : decode b_D_countLevelsWithoutNumber 18 = .ok (.ifCond .ne 6, 3) := by decide +kernel
theorem d_D_countLevelsWithoutNumber_21 : decode b_D_countLevelsWithoutNumber 21 = .ok (.iinc 1 1, 3) := by decide +kernel
theorem d_D_countLevelsWithoutNumber_24 : decode b_D_countLevelsWithoutNumber 24 = .ok (.iinc 2 1, 3) := by decide +kernel
theorem d_D_countLevelsWithoutNumber_27 : decode b_D_countLevelsWithoutNumber 27 = .ok (.goto (-23), 3) := by decide +kernel
theorem d_D_countLevelsWithoutNumber_30 : decode b_D_countLevelsWithoutNumber 30 = .ok (.iload_n 1, 1) := by decide +kernel
theorem d_D_countLevelsWithoutNumber_31 : decode b_D_countLevelsWithoutNumber 31 = .ok (.ireturn, 1) := by decide +kernel
theorem d_D_giveMissingNumbers_0 : decode b_D_giveMissingNumbers 0 = .ok (.iconst 0, 1) := by decide +kernel
theorem d_D_giveMissingNumbers_1 : decode b_D_giveMissingNumbers 1 = .ok (.istore_n 2, 1) := by decide +kernel
theorem d_D_giveMissingNumbers_2 : decode b_D_giveMissingNumbers 2 = .ok (.iload_n 2, 1) := by decide +kernel
theorem d_D_giveMissingNumbers_3 : decode b_D_giveMissingNumbers 3 = .ok (.aload_n 1, 1) := by decide +kernel
theorem d_D_giveMissingNumbers_4 : decode b_D_giveMissingNumbers 4 = .ok (.getfield 66, 3) := by decide +kernel
theorem d_D_giveMissingNumbers_7 : decode b_D_giveMissingNumbers 7 = .ok (.if_icmp .gt 55, 3) := by decide +kernel
theorem d_D_giveMissingNumbers_10 : decode b_D_giveMissingNumbers 10 = .ok (.aload_n 1, 1) := by decide +kernel
theorem d_D_giveMissingNumbers_11 : decode b_D_giveMissingNumbers 11 = .ok (.getfield 62, 3) := by decide +kernel
theorem d_D_giveMissingNumbers_14 : decode b_D_giveMissingNumbers 14 = .ok (.iload_n 2, 1) := by decide +kernel
theorem d_D_giveMissingNumbers_15 : decode b_D_giveMissingNumbers 15 = .ok (.iaload, 1) := by decide +kernel
theorem d_D_giveMissingNumbers_16 : decode b_D_giveMissingNumbers 16 = .ok (.ifCond .ne 40, 3) := by decide +kernel
theorem d_D_giveMissingNumbers_19 : decode b_D_giveMissingNumbers 19 = .ok (.aload_n 1, 1) := by decide +kernel
theorem d_D_giveMissingNumbers_20 : decode b_D_giveMissingNumbers 20 = .ok (.getfield 62, 3) := by decide +kernel
theorem d_D_giveMissingNumbers_23 : decode b_D_giveMissingNumbers 23 = .ok (.iload_n 2, 1) := by decide +kernel
theorem d_D_giveMissingNumbers_24 : decode b_D_giveMissingNumbers 24 = .ok (.aload_n 0, 1) := by decide +kernel
theorem d_D_giveMissingNumbers_25 : decode b_D_giveMissingNumbers 25 = .ok (.getfield 18, 3) := by decide +kernel
theorem d_D_giveMissingNumbers_28 : decode b_D_giveMissingNumbers 28 = .ok (.invokevirtual 54, 3) := by decide +kernel
theorem d_D_giveMissingNumbers_31 : decode b_D_giveMissingNumbers 31 = .ok (.iconst 1, 1) := by decide +kernel
theorem d_D_giveMissingNumbers_32 : decode b_D_giveMissingNumbers 32 = .ok (.iadd, 1) := by decide +kernel
theorem d_D_giveMissingNumbers_33 : decode b_D_giveMissingNumbers 33 = .ok (.iastore, 1) := by decide +kernel
theorem d_D_giveMissingNumbers_34 : decode b_D_giveMissingNumbers 34 = .ok (.aload_n 0, 1) := by decide +kernel
theorem d_D_giveMissingNumbers_35 : decode b_D_giveMissingNumbers 35 = .ok (.getfield 18, 3) := by decide +kernel
theorem d_D_giveMissingNumbers_38 : decode b_D_giveMissingNumbers 38 = .ok (.new 76, 3) := by decide +kernel
theorem d_D_giveMissingNumbers_41 : decode b_D_giveMissingNumbers 41 = .ok (.dup, 1) := by decide +kernel
theorem d_D_giveMissingNumbers_42 : decode b_D_giveMissingNumbers 42 = .ok (.aload_n 1, 1) := by decide +kernel
theorem d_D_giveMissingNumbers_43 : decode b_D_giveMissingNumbers 43 = .ok (.getfield 62, 3) := by decide +kernel
theorem d_D_giveMissingNumbers_46 : decode b_D_giveMissingNumbers 46 = .ok (.iconst 0, 1) := by decide +kernel
theorem d_D_giveMissingNumbers_47 : decode b_D_giveMissingNumbers 47 = .ok (.iaload, 1) := by decide +kernel
theorem d_D_giveMissingNumbers_48 : decode b_D_giveMissingNumbers 48 = .ok (.iload_n 2, 1) := by decide +kernel
theorem d_D_giveMissingNumbers_49 : decode b_D_giveMissingNumbers 49 = .ok (.invokespecial 122, 3) := by decide +kernel
theorem d_D_giveMissingNumbers_52 : decode b_D_giveMissingNumbers 52 = .ok (.invokevirtual 125, 3) := by decide +kernel
theorem d_D_giveMissingNumbers_55 : decode b_D_giveMissingNumbers 55 = .ok (.pop, 1) := by decide +kernel
theorem d_D_giveMissingNumbers_56 : decode b_D_giveMissingNumbers 56 = .ok (.iinc 2 1, 3) := by decide +kernel
theorem d_D_giveMissingNumbers_59 : decode b_D_giveMissingNumbers 59 = .ok (.goto (-57), 3) := by decide +kernel
theorem d_D_giveMissingNumbers_62 : decode b_D_giveMissingNumbers 62 = .ok (.return_, 1) := by decide +kernel
theorem d_D_abortNumbersFrom_0 : decode b_D_abortNumbersFrom 0 = .ok (.iconst 0, 1) := by decide +kernel
theorem d_D_abortNumbersFrom_1 : decode b_D_abortNumbersFrom 1 = .ok (.istore_n 3, 1) := by decide +kernel
theorem d_D_abortNumbersFrom_2 : decode b_D_abortNumbersFrom 2 = .ok (.iload_n 3, 1) := by decide +kernel
theorem d_D_abortNumbersFrom_3 : decode b_D_abortNumbersFrom 3 = .ok (.aload_n 0, 1) := by decide +kernel
theorem d_D_abortNumbersFrom_4 : decode b_D_abortNumbersFrom 4 = .ok (.getfield 18, 3) := by decide +kernel
theorem d_D_abortNumbersFrom_7 : decode b_D_abortNumbersFrom 7 = .ok (.invokevirtual 54, 3) := by decide +kernel
theorem d_D_abortNumbersFrom_10 : decode b_D_abortNumbersFrom 10 = .ok (.if_icmp .ge 46, 3) := by decide +kernel
theorem d_D_abortNumbersFrom_13 : decode b_D_abortNumbersFrom 13 = .ok (.aload_n 0, 1) := by decide +kernel
theorem d_D_abortNumbersFrom_14 : decode b_D_abortNumbersFrom 14 = .ok (.getfield 18, 3) := by decide +kernel
theorem d_D_abortNumbersFrom_17 : decode b_D_abortNumbersFrom 17 = .ok (.iload_n 3, 1) := by decide +kernel
theorem d_D_abortNumbersFrom_18 : decode b_D_abortNumbersFrom 18 = .ok (.invokevirtual 72, 3) := by decide +kernel
theorem d_D_abortNumbersFrom_21 : decode b_D_abortNumbersFrom 21 = .ok (.checkcast 76, 3) := by decide +kernel
theorem d_D_abortNumbersFrom_24 : decode b_D_abortNumbersFrom 24 = .ok (.astore 4, 2) := by decide +kernel
theorem d_D_abortNumbersFrom_26 : decode b_D_abortNumbersFrom 26 = .ok (.aload_n 1, 1) := by decide +kernel
theorem d_D_abortNumbersFrom_27 : decode b_D_abortNumbersFrom 27 = .ok (.aload 4, 2) := by decide +kernel
theorem d_D_abortNumbersFrom_29 : decode b_D_abortNumbersFrom 29 = .ok (.invokevirtual 78, 3) := by decide +kernel
theorem d_D_abortNumbersFrom_32 : decode b_D_abortNumbersFrom 32 = .ok (.ifCond .eq 18, 3) := by decide +kernel
theorem d_D_abortNumbersFrom_35 : decode b_D_abortNumbersFrom 35 = .ok (.aload 4, 2) := by decide +kernel
theorem d_D_abortNumbersFrom_37 : decode b_D_abortNumbersFrom 37 = .ok (.getfield 82, 3) := by decide +kernel
theorem d_D_abortNumbersFrom_40 : decode b_D_abortNumbersFrom 40 = .ok (.iload_n 2, 1) := by decide +kernel
theorem d_D_abortNumbersFrom_41 : decode b_D_abortNumbersFrom 41 = .ok (.if_icmp .lt 9, 3) := by decide +kernel
theorem d_D_abortNumbersFrom_44 : decode b_D_abortNumbersFrom 44 = .ok (.aload 4, 2) := by decide +kernel
theorem d_D_abortNumbersFrom_46 : decode b_D_abortNumbersFrom 46 = .ok (.iconst 3, 1) := by decide +kernel
theorem d_D_abortNumbersFrom_47 : decode b_D_abortNumbersFrom 47 = .ok (.putfield 102, 3) := by decide +kernel
theorem d_D_abortNumbersFrom_50 : decode b_D_abortNumbersFrom 50 = .ok (.iinc 3 1, 3) := by decide +kernel
theorem d_D_abortNumbersFrom_53 : decode b_D_abortNumbersFrom 53 = .ok (.goto (-51), 3) := by decide +kernel
theorem d_D_abortNumbersFrom_56 : decode b_D_abortNumbersFrom 56 = .ok (.return_, 1) := by decide +kernel
theorem d_D_commitRunningNumbers_0 : decode b_D_commitRunningNumbers 0 = .ok (.iconst 0, 1) := by decide +kernel
theorem d_D_commitRunningNumbers_1 : decode b_D_commitRunningNumbers 1 = .ok (.istore_n 2, 1) := by decide +kernel
theorem d_D_commitRunningNumbers_2 : decode b_D_commitRunningNumbers 2 = .ok (.iload_n 2, 1) := by decide +kernel
theorem d_D_commitRunningNumbers_3 : decode b_D_commitRunningNumbers 3 = .ok (.aload_n 0, 1) := by decide +kernel
theorem d_D_commitRunningNumbers_4 : decode b_D_commitRunningNumbers 4 = .ok (.getfield 18, 3) := by decide +kernel
theorem d_D_commitRunningNumbers_7 : decode b_D_commitRunningNumbers 7 = .ok (.invokevirtual 54, 3) := by decide +kernel
theorem d_D_commitRunningNumbers_10 : decode b_D_commitRunningNumbers 10 = .ok (.if_icmp .ge 50, 3) := by decide +kernel
theorem d_D_commitRunningNumbers_13 : decode b_D_commitRunningNumbers 13 = .ok (.aload_n 0, 1) := by decide +kernel
theorem d_D_commitRunningNumbers_14 : decode b_D_commitRunningNumbers 14 = .ok (.getfield 18, 3) := by decide +kernel
theorem d_D_commitRunningNumbers_17 : decode b_D_commitRunningNumbers 17 = .ok (.iload_n 2, 1) := by decide +kernel
theorem d_D_commitRunningNumbers_18 : decode b_D_commitRunningNumbers 18 = .ok (.invokevirtual 72, 3) := by decide +kernel
theorem d_D_commitRunningNumbers_21 : decode b_D_commitRunningNumbers 21 = .ok (.checkcast 76, 3) := by decide +kernel
theorem d_D_commitRunningNumbers_24 : decode b_D_commitRunningNumbers 24 = .ok (.astore_n 3, 1) := by decide +kernel
theorem d_D_commitRunningNumbers_25 : decode b_D_commitRunningNumbers 25 = .ok (.aload_n 1, 1) := by decide +kernel
theorem d_D_commitRunningNumbers_26 : decode b_D_commitRunningNumbers 26 = .ok (.aload_n 3, 1) := by decide +kernel
theorem d_D_commitRunningNumbers_27 : decode b_D_commitRunningNumbers 27 = .ok (.invokevirtual 78, 3) := by decide +kernel
theorem d_D_commitRunningNumbers_30 : decode b_D_commitRunningNumbers 30 = .ok (.ifCond .eq 24, 3) := by decide +kernel
theorem d_D_commitRunningNumbers_33 : decode b_D_commitRunningNumbers 33 = .ok (.aload_n 3, 1) := by decide +kernel
theorem d_D_commitRunningNumbers_34 : decode b_D_commitRunningNumbers 34 = .ok (.getfield 102, 3) := by decide +kernel
theorem d_D_commitRunningNumbers_37 : decode b_D_commitRunningNumbers 37 = .ok (.iconst 1, 1) := by decide +kernel
theorem d_D_commitRunningNumbers_38 : decode b_D_commitRunningNumbers 38 = .ok (.if_icmp .ne 16, 3) := by decide +kernel
theorem d_D_commitRunningNumbers_41 : decode b_D_commitRunningNumbers 41 = .ok (.aload_n 3, 1) := by decide +kernel
theorem d_D_commitRunningNumbers_42 : decode b_D_commitRunningNumbers 42 = .ok (.iconst 2, 1) := by decide +kernel
theorem d_D_commitRunningNumbers_43 : decode b_D_commitRunningNumbers 43 = .ok (.putfield 102, 3) := by decide +kernel
theorem d_D_commitRunningNumbers_46 : decode b_D_commitRunningNumbers 46 = .ok (.aload_n 3, 1) := by decide +kernel
theorem d_D_commitRunningNumbers_47 : decode b_D_commitRunningNumbers 47 = .ok (.aload_n 0, 1) := by decide +kernel
theorem d_D_commitRunningNumbers_48 : decode b_D_commitRunningNumbers 48 = .ok (.getfield 22, 3) := by decide +kernel
theorem d_D_commitRunningNumbers_51 : decode b_D_commitRunningNumbers 51 = .ok (.putfield 108, 3) := by decide +kernel
theorem d_D_commitRunningNumbers_54 : decode b_D_commitRunningNumbers 54 = .ok (.iinc 2 1, 3) := by decide +kernel
theorem d_D_commitRunningNumbers_57 : decode b_D_commitRunningNumbers 57 = .ok (.goto (-55), 3) := by decide +kernel
theorem d_D_commitRunningNumbers_60 : decode b_D_commitRunningNumbers 60 = .ok (.return_, 1) := by decide +kernel
theorem d_D_seesDeed_0 : decode b_D_seesDeed 0 = .ok (.aload_n 1, 1) := by decide +kernel
theorem d_D_seesDeed_1 : decode b_D_seesDeed 1 = .ok (.ifnull 11, 3) := by decide +kernel
theorem d_D_seesDeed_4 : decode b_D_seesDeed 4 = .ok (.aload_n 1, 1) := by decide +kernel
theorem d_D_seesDeed_5 : decode b_D_seesDeed 5 = .ok (.getfield 102, 3) := by decide +kernel
theorem d_D_seesDeed_8 : decode b_D_seesDeed 8 = .ok (.iconst 3, 1) := by decide +kernel
theorem d_D_seesDeed_9 : decode b_D_seesDeed 9 = .ok (.if_icmp .ne 5, 3) := by decide +kernel
theorem d_D_seesDeed_12 : decode b_D_seesDeed 12 = .ok (.iconst 0, 1) := by decide +kernel
theorem d_D_seesDeed_13 : decode b_D_seesDeed 13 = .ok (.ireturn, 1) := by decide +kernel
theorem d_D_seesDeed_14 : decode b_D_seesDeed 14 = .ok (.aload_n 0, 1) := by decide +kernel
theorem d_D_seesDeed_15 : decode b_D_seesDeed 15 = .ok (.aload_n 1, 1) := by decide +kernel
theorem d_D_seesDeed_16 : decode b_D_seesDeed 16 = .ok (.invokevirtual 78, 3) := by decide +kernel
theorem d_D_seesDeed_19 : decode b_D_seesDeed 19 = .ok (.ifCond .eq 17, 3) := by decide +kernel
theorem d_D_seesDeed_22 : decode b_D_seesDeed 22 = .ok (.iload_n 2, 1) := by decide +kernel
theorem d_D_seesDeed_23 : decode b_D_seesDeed 23 = .ok (.aload_n 0, 1) := by decide +kernel
theorem d_D_seesDeed_24 : decode b_D_seesDeed 24 = .ok (.getfield 37, 3) := by decide +kernel
theorem d_D_seesDeed_27 : decode b_D_seesDeed 27 = .ok (.if_icmp .ge 7, 3) := by decide +kernel
theorem d_D_seesDeed_30 : decode b_D_seesDeed 30 = .ok (.iconst 1, 1) := by decide +kernel
theorem d_D_seesDeed_31 : decode b_D_seesDeed 31 = .ok (.goto 4, 3) := by decide +kernel
theorem d_D_seesDeed_34 : decode b_D_seesDeed 34 = .ok (.iconst 0, 1) := by decide +kernel
theorem d_D_seesDeed_35 : decode b_D_seesDeed 35 = .ok (.ireturn, 1) := by decide +kernel
theorem d_D_seesDeed_36 : decode b_D_seesDeed 36 = .ok (.aload_n 1, 1) := by decide +kernel
theorem d_D_seesDeed_37 : decode b_D_seesDeed 37 = .ok (.getfield 102, 3) := by decide +kernel
theorem d_D_seesDeed_40 : decode b_D_seesDeed 40 = .ok (.iconst 2, 1) := by decide +kernel
theorem d_D_seesDeed_41 : decode b_D_seesDeed 41 = .ok (.if_icmp .ne 18, 3) := by decide +kernel
theorem d_D_seesDeed_44 : decode b_D_seesDeed 44 = .ok (.aload_n 1, 1) := by decide +kernel
theorem d_D_seesDeed_45 : decode b_D_seesDeed 45 = .ok (.getfield 108, 3) := by decide +kernel
theorem d_D_seesDeed_48 : decode b_D_seesDeed 48 = .ok (.aload_n 0, 1) := by decide +kernel
theorem d_D_seesDeed_49 : decode b_D_seesDeed 49 = .ok (.getfield 47, 3) := by decide +kernel
theorem d_D_seesDeed_52 : decode b_D_seesDeed 52 = .ok (.if_icmp .gt 7, 3) := by decide +kernel
theorem d_D_seesDeed_55 : decode b_D_seesDeed 55 = .ok (.iconst 1, 1) := by decide +kernel
theorem d_D_seesDeed_56 : decode b_D_seesDeed 56 = .ok (.goto 4, 3) := by decide +kernel
theorem d_D_seesDeed_59 : decode b_D_seesDeed 59 = .ok (.iconst 0, 1) := by decide +kernel
theorem d_D_seesDeed_60 : decode b_D_seesDeed 60 = .ok (.ireturn, 1) := by decide +kernel
theorem d_D_isInEveryLiveSnapshot_0 : decode b_D_isInEveryLiveSnapshot 0 = .ok (.aload_n 1, 1) := by decide +kernel
theorem d_D_isInEveryLiveSnapshot_1 : decode b_D_isInEveryLiveSnapshot 1 = .ok (.ifnull 11, 3) := by decide +kernel
theorem d_D_isInEveryLiveSnapshot_4 : decode b_D_isInEveryLiveSnapshot 4 = .ok (.aload_n 1, 1) := by decide +kernel
theorem d_D_isInEveryLiveSnapshot_5 : decode b_D_isInEveryLiveSnapshot 5 = .ok (.getfield 102, 3) := by decide +kernel
theorem d_D_isInEveryLiveSnapshot_8 : decode b_D_isInEveryLiveSnapshot 8 = .ok (.iconst 2, 1) := by decide +kernel
theorem d_D_isInEveryLiveSnapshot_9 : decode b_D_isInEveryLiveSnapshot 9 = .ok (.if_icmp .eq 5, 3) := by decide +kernel
theorem d_D_isInEveryLiveSnapshot_12 : decode b_D_isInEveryLiveSnapshot 12 = .ok (.iconst 0, 1) := by decide +kernel
theorem d_D_isInEveryLiveSnapshot_13 : decode b_D_isInEveryLiveSnapshot 13 = .ok (.ireturn, 1) := by decide +kernel
theorem d_D_isInEveryLiveSnapshot_14 : decode b_D_isInEveryLiveSnapshot 14 = .ok (.iconst 0, 1) := by decide +kernel
theorem d_D_isInEveryLiveSnapshot_15 : decode b_D_isInEveryLiveSnapshot 15 = .ok (.istore_n 2, 1) := by decide +kernel
theorem d_D_isInEveryLiveSnapshot_16 : decode b_D_isInEveryLiveSnapshot 16 = .ok (.iload_n 2, 1) := by decide +kernel
theorem d_D_isInEveryLiveSnapshot_17 : decode b_D_isInEveryLiveSnapshot 17 = .ok (.bipush 6, 2) := by decide +kernel
theorem d_D_isInEveryLiveSnapshot_19 : decode b_D_isInEveryLiveSnapshot 19 = .ok (.if_icmp .ge 40, 3) := by decide +kernel
theorem d_D_isInEveryLiveSnapshot_22 : decode b_D_isInEveryLiveSnapshot 22 = .ok (.aload_n 0, 1) := by decide +kernel
theorem d_D_isInEveryLiveSnapshot_23 : decode b_D_isInEveryLiveSnapshot 23 = .ok (.getfield 11, 3) := by decide +kernel
theorem d_D_isInEveryLiveSnapshot_26 : decode b_D_isInEveryLiveSnapshot 26 = .ok (.iload_n 2, 1) := by decide +kernel
theorem d_D_isInEveryLiveSnapshot_27 : decode b_D_isInEveryLiveSnapshot 27 = .ok (.aaload, 1) := by decide +kernel
theorem d_D_isInEveryLiveSnapshot_28 : decode b_D_isInEveryLiveSnapshot 28 = .ok (.astore_n 3, 1) := by decide +kernel
theorem d_D_isInEveryLiveSnapshot_29 : decode b_D_isInEveryLiveSnapshot 29 = .ok (.aload_n 3, 1) := by decide +kernel
theorem d_D_isInEveryLiveSnapshot_30 : decode b_D_isInEveryLiveSnapshot 30 = .ok (.ifnull 23, 3) := by decide +kernel
theorem d_D_isInEveryLiveSnapshot_33 : decode b_D_isInEveryLiveSnapshot 33 = .ok (.aload_n 3, 1) := by decide +kernel
theorem d_D_isInEveryLiveSnapshot_34 : decode b_D_isInEveryLiveSnapshot 34 = .ok (.invokevirtual 43, 3) := by decide +kernel
theorem d_D_isInEveryLiveSnapshot_37 : decode b_D_isInEveryLiveSnapshot 37 = .ok (.ifCond .eq 16, 3) := by decide +kernel
theorem d_D_isInEveryLiveSnapshot_40 : decode b_D_isInEveryLiveSnapshot 40 = .ok (.aload_n 1, 1) := by decide +kernel
theorem d_D_isInEveryLiveSnapshot_41 : decode b_D_isInEveryLiveSnapshot 41 = .ok (.getfield 108, 3) := by decide +kernel
theorem d_D_isInEveryLiveSnapshot_44 : decode b_D_isInEveryLiveSnapshot 44 = .ok (.aload_n 3, 1) := by decide +kernel
theorem d_D_isInEveryLiveSnapshot_45 : decode b_D_isInEveryLiveSnapshot 45 = .ok (.getfield 47, 3) := by decide +kernel
theorem d_D_isInEveryLiveSnapshot_48 : decode b_D_isInEveryLiveSnapshot 48 = .ok (.if_icmp .le 5, 3) := by decide +kernel
theorem d_D_isInEveryLiveSnapshot_51 : decode b_D_isInEveryLiveSnapshot 51 = .ok (.iconst 0, 1) := by decide +kernel
theorem d_D_isInEveryLiveSnapshot_52 : decode b_D_isInEveryLiveSnapshot 52 = .ok (.ireturn, 1) := by decide +kernel
theorem d_D_isInEveryLiveSnapshot_53 : decode b_D_isInEveryLiveSnapshot 53 = .ok (.iinc 2 1, 3) := by decide +kernel
theorem d_D_isInEveryLiveSnapshot_56 : decode b_D_isInEveryLiveSnapshot 56 = .ok (.goto (-40), 3) := by decide +kernel
theorem d_D_isInEveryLiveSnapshot_59 : decode b_D_isInEveryLiveSnapshot 59 = .ok (.iconst 1, 1) := by decide +kernel
theorem d_D_isInEveryLiveSnapshot_60 : decode b_D_isInEveryLiveSnapshot 60 = .ok (.ireturn, 1) := by decide +kernel
theorem d_G_init_0 : decode b_G_init 0 = .ok (.aload_n 0, 1) := by decide +kernel
theorem d_G_init_1 : decode b_G_init 1 = .ok (.invokespecial 3, 3) := by decide +kernel
theorem d_G_init_4 : decode b_G_init 4 = .ok (.aload_n 0, 1) := by decide +kernel
theorem d_G_init_5 : decode b_G_init 5 = .ok (.iconst 1, 1) := by decide +kernel
theorem d_G_init_6 : decode b_G_init 6 = .ok (.putfield 9, 3) := by decide +kernel
theorem d_G_init_9 : decode b_G_init 9 = .ok (.aload_n 0, 1) := by decide +kernel
theorem d_G_init_10 : decode b_G_init 10 = .ok (.iconst 0, 1) := by decide +kernel
theorem d_G_init_11 : decode b_G_init 11 = .ok (.putfield 15, 3) := by decide +kernel
theorem d_G_init_14 : decode b_G_init 14 = .ok (.aload_n 0, 1) := by decide +kernel
theorem d_G_init_15 : decode b_G_init 15 = .ok (.iload_n 1, 1) := by decide +kernel
theorem d_G_init_16 : decode b_G_init 16 = .ok (.putfield 18, 3) := by decide +kernel
theorem d_G_init_19 : decode b_G_init 19 = .ok (.aload_n 0, 1) := by decide +kernel
theorem d_G_init_20 : decode b_G_init 20 = .ok (.iload_n 2, 1) := by decide +kernel
theorem d_G_init_21 : decode b_G_init 21 = .ok (.putfield 21, 3) := by decide +kernel
theorem d_G_init_24 : decode b_G_init 24 = .ok (.return_, 1) := by decide +kernel
theorem d_T_init_0 : decode b_T_init 0 = .ok (.aload_n 0, 1) := by decide +kernel
theorem d_T_init_1 : decode b_T_init 1 = .ok (.invokespecial 3, 3) := by decide +kernel
theorem d_T_init_4 : decode b_T_init 4 = .ok (.aload_n 0, 1) := by decide +kernel
theorem d_T_init_5 : decode b_T_init 5 = .ok (.bipush 8, 2) := by decide +kernel
theorem d_T_init_7 : decode b_T_init 7 = .ok (.newarray .int, 2) := by decide +kernel
theorem d_T_init_9 : decode b_T_init 9 = .ok (.putfield 9, 3) := by decide +kernel
theorem d_T_init_12 : decode b_T_init 12 = .ok (.aload_n 0, 1) := by decide +kernel
theorem d_T_init_13 : decode b_T_init 13 = .ok (.iconst 0, 1) := by decide +kernel
theorem d_T_init_14 : decode b_T_init 14 = .ok (.putfield 15, 3) := by decide +kernel
theorem d_T_init_17 : decode b_T_init 17 = .ok (.aload_n 0, 1) := by decide +kernel
theorem d_T_init_18 : decode b_T_init 18 = .ok (.iconst 0, 1) := by decide +kernel
theorem d_T_init_19 : decode b_T_init 19 = .ok (.putfield 19, 3) := by decide +kernel
theorem d_T_init_22 : decode b_T_init 22 = .ok (.aload_n 0, 1) := by decide +kernel
theorem d_T_init_23 : decode b_T_init 23 = .ok (.iconst (-1), 1) := by decide +kernel
theorem d_T_init_24 : decode b_T_init 24 = .ok (.putfield 22, 3) := by decide +kernel
theorem d_T_init_27 : decode b_T_init 27 = .ok (.aload_n 0, 1) := by decide +kernel
theorem d_T_init_28 : decode b_T_init 28 = .ok (.iload_n 1, 1) := by decide +kernel
theorem d_T_init_29 : decode b_T_init 29 = .ok (.putfield 25, 3) := by decide +kernel
theorem d_T_init_32 : decode b_T_init 32 = .ok (.return_, 1) := by decide +kernel
theorem d_T_hasSnapshot_0 : decode b_T_hasSnapshot 0 = .ok (.aload_n 0, 1) := by decide +kernel
theorem d_T_hasSnapshot_1 : decode b_T_hasSnapshot 1 = .ok (.getfield 22, 3) := by decide +kernel
theorem d_T_hasSnapshot_4 : decode b_T_hasSnapshot 4 = .ok (.iconst (-1), 1) := by decide +kernel
theorem d_T_hasSnapshot_5 : decode b_T_hasSnapshot 5 = .ok (.if_icmp .eq 7, 3) := by decide +kernel
theorem d_T_hasSnapshot_8 : decode b_T_hasSnapshot 8 = .ok (.iconst 1, 1) := by decide +kernel
theorem d_T_hasSnapshot_9 : decode b_T_hasSnapshot 9 = .ok (.goto 4, 3) := by decide +kernel
theorem d_T_hasSnapshot_12 : decode b_T_hasSnapshot 12 = .ok (.iconst 0, 1) := by decide +kernel
theorem d_T_hasSnapshot_13 : decode b_T_hasSnapshot 13 = .ok (.ireturn, 1) := by decide +kernel
theorem d_T_owns_0 : decode b_T_owns 0 = .ok (.aload_n 1, 1) := by decide +kernel
theorem d_T_owns_1 : decode b_T_owns 1 = .ok (.getfield 28, 3) := by decide +kernel
theorem d_T_owns_4 : decode b_T_owns 4 = .ok (.aload_n 0, 1) := by decide +kernel
theorem d_T_owns_5 : decode b_T_owns 5 = .ok (.getfield 9, 3) := by decide +kernel
theorem d_T_owns_8 : decode b_T_owns 8 = .ok (.iconst 0, 1) := by decide +kernel
theorem d_T_owns_9 : decode b_T_owns 9 = .ok (.iaload, 1) := by decide +kernel
theorem d_T_owns_10 : decode b_T_owns 10 = .ok (.if_icmp .ne 7, 3) := by decide +kernel
theorem d_T_owns_13 : decode b_T_owns 13 = .ok (.iconst 1, 1) := by decide +kernel
theorem d_T_owns_14 : decode b_T_owns 14 = .ok (.goto 4, 3) := by decide +kernel
theorem d_T_owns_17 : decode b_T_owns 17 = .ok (.iconst 0, 1) := by decide +kernel
theorem d_T_owns_18 : decode b_T_owns 18 = .ok (.ireturn, 1) := by decide +kernel
theorem d_T_canLeave_0 : decode b_T_canLeave 0 = .ok (.iload_n 1, 1) := by decide +kernel
theorem d_T_canLeave_1 : decode b_T_canLeave 1 = .ok (.iconst 1, 1) := by decide +kernel
theorem d_T_canLeave_2 : decode b_T_canLeave 2 = .ok (.if_icmp .lt 15, 3) := by decide +kernel
theorem d_T_canLeave_5 : decode b_T_canLeave 5 = .ok (.iload_n 1, 1) := by decide +kernel
theorem d_T_canLeave_6 : decode b_T_canLeave 6 = .ok (.aload_n 0, 1) := by decide +kernel
theorem d_T_canLeave_7 : decode b_T_canLeave 7 = .ok (.getfield 15, 3) := by decide +kernel
theorem d_T_canLeave_10 : decode b_T_canLeave 10 = .ok (.if_icmp .gt 7, 3) := by decide +kernel
theorem d_T_canLeave_13 : decode b_T_canLeave 13 = .ok (.iconst 1, 1) := by decide +kernel
theorem d_T_canLeave_14 : decode b_T_canLeave 14 = .ok (.goto 4, 3) := by decide +kernel
theorem d_T_canLeave_17 : decode b_T_canLeave 17 = .ok (.iconst 0, 1) := by decide +kernel
theorem d_T_canLeave_18 : decode b_T_canLeave 18 = .ok (.ireturn, 1) := by decide +kernel
theorem d_T_clearLevelsFrom_0 : decode b_T_clearLevelsFrom 0 = .ok (.iload_n 1, 1) := by decide +kernel
theorem d_T_clearLevelsFrom_1 : decode b_T_clearLevelsFrom 1 = .ok (.istore_n 2, 1) := by decide +kernel
theorem d_T_clearLevelsFrom_2 : decode b_T_clearLevelsFrom 2 = .ok (.iload_n 2, 1) := by decide +kernel
theorem d_T_clearLevelsFrom_3 : decode b_T_clearLevelsFrom 3 = .ok (.bipush 8, 2) := by decide +kernel
theorem d_T_clearLevelsFrom_5 : decode b_T_clearLevelsFrom 5 = .ok (.if_icmp .ge 16, 3) := by decide +kernel
theorem d_T_clearLevelsFrom_8 : decode b_T_clearLevelsFrom 8 = .ok (.aload_n 0, 1) := by decide +kernel
theorem d_T_clearLevelsFrom_9 : decode b_T_clearLevelsFrom 9 = .ok (.getfield 9, 3) := by decide +kernel
theorem d_T_clearLevelsFrom_12 : decode b_T_clearLevelsFrom 12 = .ok (.iload_n 2, 1) := by decide +kernel
theorem d_T_clearLevelsFrom_13 : decode b_T_clearLevelsFrom 13 = .ok (.iconst 0, 1) := by decide +kernel
theorem d_T_clearLevelsFrom_14 : decode b_T_clearLevelsFrom 14 = .ok (.iastore, 1) := by decide +kernel
theorem d_T_clearLevelsFrom_15 : decode b_T_clearLevelsFrom 15 = .ok (.iinc 2 1, 3) := by decide +kernel
theorem d_T_clearLevelsFrom_18 : decode b_T_clearLevelsFrom 18 = .ok (.goto (-16), 3) := by decide +kernel
theorem d_T_clearLevelsFrom_21 : decode b_T_clearLevelsFrom 21 = .ok (.return_, 1) := by decide +kernel
end
section
theorem d_AC_init_0 : decode b_AC_init 0 = .ok (.aload_n 0, 1) := by decide +kernel
theorem d_AC_init_1 : decode b_AC_init 1 = .ok (.invokespecial 1, 3) := by decide +kernel
theorem d_AC_init_4 : decode b_AC_init 4 = .ok (.return_, 1) := by decide +kernel
theorem d_AL_init_0 : decode b_AL_init 0 = .ok (.aload_n 0, 1) := by decide +kernel
theorem d_AL_init_1 : decode b_AL_init 1 = .ok (.invokespecial 1, 3) := by decide +kernel
theorem d_AL_init_4 : decode b_AL_init 4 = .ok (.aload_n 0, 1) := by decide +kernel
theorem d_AL_init_5 : decode b_AL_init 5 = .ok (.iconst 0, 1) := by decide +kernel
theorem d_AL_init_6 : decode b_AL_init 6 = .ok (.putfield 7, 3) := by decide +kernel
theorem d_AL_init_9 : decode b_AL_init 9 = .ok (.return_, 1) := by decide +kernel
theorem d_L_init_0 : decode b_L_init 0 = .ok (.aload_n 0, 1) := by decide +kernel
theorem d_L_init_1 : decode b_L_init 1 = .ok (.invokespecial 1, 3) := by decide +kernel
theorem d_L_init_4 : decode b_L_init 4 = .ok (.aload_n 0, 1) := by decide +kernel
theorem d_L_init_5 : decode b_L_init 5 = .ok (.getstatic 39, 3) := by decide +kernel
theorem d_L_init_8 : decode b_L_init 8 = .ok (.putfield 9, 3) := by decide +kernel
theorem d_L_init_11 : decode b_L_init 11 = .ok (.return_, 1) := by decide +kernel
theorem d_L_add_0 : decode b_L_add 0 = .ok (.aload_n 0, 1) := by decide +kernel
theorem d_L_add_1 : decode b_L_add 1 = .ok (.dup, 1) := by decide +kernel
theorem d_L_add_2 : decode b_L_add 2 = .ok (.getfield 63, 3) := by decide +kernel
theorem d_L_add_5 : decode b_L_add 5 = .ok (.iconst 1, 1) := by decide +kernel
theorem d_L_add_6 : decode b_L_add 6 = .ok (.iadd, 1) := by decide +kernel
theorem d_L_add_7 : decode b_L_add 7 = .ok (.putfield 63, 3) := by decide +kernel
theorem d_L_add_10 : decode b_L_add 10 = .ok (.aload_n 0, 1) := by decide +kernel
theorem d_L_add_11 : decode b_L_add 11 = .ok (.aload_n 1, 1) := by decide +kernel
theorem d_L_add_12 : decode b_L_add 12 = .ok (.aload_n 0, 1) := by decide +kernel
theorem d_L_add_13 : decode b_L_add 13 = .ok (.getfield 9, 3) := by decide +kernel
theorem d_L_add_16 : decode b_L_add 16 = .ok (.aload_n 0, 1) := by decide +kernel
theorem d_L_add_17 : decode b_L_add 17 = .ok (.getfield 48, 3) := by decide +kernel
theorem d_L_add_20 : decode b_L_add 20 = .ok (.invokevirtual 131, 3) := by decide +kernel
theorem d_L_add_23 : decode b_L_add 23 = .ok (.iconst 1, 1) := by decide +kernel
theorem d_L_add_24 : decode b_L_add 24 = .ok (.ireturn, 1) := by decide +kernel
theorem d_L_add3_0 : decode b_L_add3 0 = .ok (.iload_n 3, 1) := by decide +kernel
theorem d_L_add3_1 : decode b_L_add3 1 = .ok (.aload_n 2, 1) := by decide +kernel
theorem d_L_add3_2 : decode b_L_add3 2 = .ok (.arraylength, 1) := by decide +kernel
theorem d_L_add3_3 : decode b_L_add3 3 = .ok (.if_icmp .ne 8, 3) := by decide +kernel
theorem d_L_add3_6 : decode b_L_add3 6 = .ok (.aload_n 0, 1) := by decide +kernel
theorem d_L_add3_7 : decode b_L_add3 7 = .ok (.invokevirtual 129, 3) := by decide +kernel
theorem d_L_add3_10 : decode b_L_add3 10 = .ok (.astore_n 2, 1) := by decide +kernel
theorem d_L_add3_11 : decode b_L_add3 11 = .ok (.aload_n 2, 1) := by decide +kernel
theorem d_L_add3_12 : decode b_L_add3 12 = .ok (.iload_n 3, 1) := by decide +kernel
theorem d_L_add3_13 : decode b_L_add3 13 = .ok (.aload_n 1, 1) := by decide +kernel
theorem d_L_add3_14 : decode b_L_add3 14 = .ok (.aastore, 1) := by decide +kernel
theorem d_L_add3_15 : decode b_L_add3 15 = .ok (.aload_n 0, 1) := by decide +kernel
theorem d_L_add3_16 : decode b_L_add3 16 = .ok (.iload_n 3, 1) := by decide +kernel
theorem d_L_add3_17 : decode b_L_add3 17 = .ok (.iconst 1, 1) := by decide +kernel
theorem d_L_add3_18 : decode b_L_add3 18 = .ok (.iadd, 1) := by decide +kernel
theorem d_L_add3_19 : decode b_L_add3 19 = .ok (.putfield 48, 3) := by decide +kernel
theorem d_L_add3_22 : decode b_L_add3 22 = .ok (.return_, 1) := by decide +kernel
theorem d_L_elementData_0 : decode b_L_elementData 0 = .ok (.aload_n 0, 1) := by decide +kernel
theorem d_L_elementData_1 : decode b_L_elementData 1 = .ok (.getfield 9, 3) := by decide +kernel
theorem d_L_elementData_4 : decode b_L_elementData 4 = .ok (.iload_n 1, 1) := by decide +kernel
theorem d_L_elementData_5 : decode b_L_elementData 5 = .ok (.aaload, 1) := by decide +kernel
theorem d_L_elementData_6 : decode b_L_elementData 6 = .ok (.areturn, 1) := by decide +kernel
theorem d_L_get_0 : decode b_L_get 0 = .ok (.iload_n 1, 1) := by decide +kernel
theorem d_L_get_1 : decode b_L_get 1 = .ok (.aload_n 0, 1) := by decide +kernel
theorem d_L_get_2 : decode b_L_get 2 = .ok (.getfield 48, 3) := by decide +kernel
theorem d_L_get_5 : decode b_L_get 5 = .ok (.invokestatic 118, 3) := by decide +kernel
theorem d_L_get_8 : decode b_L_get 8 = .ok (.pop, 1) := by decide +kernel
theorem d_L_get_9 : decode b_L_get 9 = .ok (.aload_n 0, 1) := by decide +kernel
theorem d_L_get_10 : decode b_L_get 10 = .ok (.iload_n 1, 1) := by decide +kernel
theorem d_L_get_11 : decode b_L_get 11 = .ok (.invokevirtual 123, 3) := by decide +kernel
theorem d_L_get_14 : decode b_L_get 14 = .ok (.areturn, 1) := by decide +kernel
theorem d_L_grow_0 : decode b_L_grow 0 = .ok (.aload_n 0, 1) := by decide +kernel
theorem d_L_grow_1 : decode b_L_grow 1 = .ok (.aload_n 0, 1) := by decide +kernel
theorem d_L_grow_2 : decode b_L_grow 2 = .ok (.getfield 48, 3) := by decide +kernel
theorem d_L_grow_5 : decode b_L_grow 5 = .ok (.iconst 1, 1) := by decide +kernel
theorem d_L_grow_6 : decode b_L_grow 6 = .ok (.iadd, 1) := by decide +kernel
theorem d_L_grow_7 : decode b_L_grow 7 = .ok (.invokevirtual 69, 3) := by decide +kernel
theorem d_L_grow_10 : decode b_L_grow 10 = .ok (.areturn, 1) := by decide +kernel
theorem d_L_growI_0 : decode b_L_growI 0 = .ok (.aload_n 0, 1) := by decide +kernel
theorem d_L_growI_1 : decode b_L_growI 1 = .ok (.getfield 9, 3) := by decide +kernel
theorem d_L_growI_4 : decode b_L_growI 4 = .ok (.arraylength, 1) := by decide +kernel
theorem d_L_growI_5 : decode b_L_growI 5 = .ok (.istore_n 2, 1) := by decide +kernel
theorem d_L_growI_6 : decode b_L_growI 6 = .ok (.iload_n 2, 1) := by decide +kernel
theorem d_L_growI_7 : decode b_L_growI 7 = .ok (.ifCond .gt 13, 3) := by decide +kernel
theorem d_L_growI_10 : decode b_L_growI 10 = .ok (.aload_n 0, 1) := by decide +kernel
theorem d_L_growI_11 : decode b_L_growI 11 = .ok (.getfield 9, 3) := by decide +kernel
theorem d_L_growI_14 : decode b_L_growI 14 = .ok (.getstatic 39, 3) := by decide +kernel
theorem d_L_growI_17 : decode b_L_growI 17 = .ok (.if_acmp .eq 28, 3) := by decide +kernel
theorem d_L_growI_20 : decode b_L_growI 20 = .ok (.iload_n 2, 1) := by decide +kernel
theorem d_L_growI_21 : decode b_L_growI 21 = .ok (.iload_n 1, 1) := by decide +kernel
theorem d_L_growI_22 : decode b_L_growI 22 = .ok (.iload_n 2, 1) := by decide +kernel
theorem d_L_growI_23 : decode b_L_growI 23 = .ok (.isub, 1) := by decide +kernel
theorem d_L_growI_24 : decode b_L_growI 24 = .ok (.iload_n 2, 1) := by decide +kernel
theorem d_L_growI_25 : decode b_L_growI 25 = .ok (.iconst 1, 1) := by decide +kernel
theorem d_L_growI_26 : decode b_L_growI 26 = .ok (.ishr, 1) := by decide +kernel
theorem d_L_growI_27 : decode b_L_growI 27 = .ok (.invokestatic 73, 3) := by decide +kernel
theorem d_L_growI_30 : decode b_L_growI 30 = .ok (.istore_n 3, 1) := by decide +kernel
theorem d_L_growI_31 : decode b_L_growI 31 = .ok (.aload_n 0, 1) := by decide +kernel
theorem d_L_growI_32 : decode b_L_growI 32 = .ok (.aload_n 0, 1) := by decide +kernel
theorem d_L_growI_33 : decode b_L_growI 33 = .ok (.getfield 9, 3) := by decide +kernel
theorem d_L_growI_36 : decode b_L_growI 36 = .ok (.iload_n 3, 1) := by decide +kernel
theorem d_L_growI_37 : decode b_L_growI 37 = .ok (.invokestatic 66, 3) := by decide +kernel
theorem d_L_growI_40 : decode b_L_growI 40 = .ok (.dup_x1, 1) := by decide +kernel
theorem d_L_growI_41 : decode b_L_growI 41 = .ok (.putfield 9, 3) := by decide +kernel
theorem d_L_growI_44 : decode b_L_growI 44 = .ok (.areturn, 1) := by decide +kernel
theorem d_L_growI_45 : decode b_L_growI 45 = .ok (.aload_n 0, 1) := by decide +kernel
theorem d_L_growI_46 : decode b_L_growI 46 = .ok (.bipush 10, 2) := by decide +kernel
theorem d_L_growI_48 : decode b_L_growI 48 = .ok (.iload_n 1, 1) := by decide +kernel
theorem d_L_growI_49 : decode b_L_growI 49 = .ok (.invokestatic 79, 3) := by decide +kernel
theorem d_L_growI_52 : decode b_L_growI 52 = .ok (.anewarray 7, 3) := by decide +kernel
theorem d_L_growI_55 : decode b_L_growI 55 = .ok (.dup_x1, 1) := by decide +kernel
theorem d_L_growI_56 : decode b_L_growI 56 = .ok (.putfield 9, 3) := by decide +kernel
theorem d_L_growI_59 : decode b_L_growI 59 = .ok (.areturn, 1) := by decide +kernel
theorem d_L_size_0 : decode b_L_size 0 = .ok (.aload_n 0, 1) := by decide +kernel
theorem d_L_size_1 : decode b_L_size 1 = .ok (.getfield 48, 3) := by decide +kernel
theorem d_L_size_4 : decode b_L_size 4 = .ok (.ireturn, 1) := by decide +kernel
theorem d_AR_copyOf_0 : decode b_AR_copyOf 0 = .ok (.aload_n 0, 1) := by decide +kernel
theorem d_AR_copyOf_1 : decode b_AR_copyOf 1 = .ok (.iload_n 1, 1) := by decide +kernel
theorem d_AR_copyOf_2 : decode b_AR_copyOf 2 = .ok (.aload_n 0, 1) := by decide +kernel
theorem d_AR_copyOf_3 : decode b_AR_copyOf 3 = .ok (.invokevirtual 86, 3) := by decide +kernel
theorem d_AR_copyOf_6 : decode b_AR_copyOf 6 = .ok (.invokestatic 300, 3) := by decide +kernel
theorem d_AR_copyOf_9 : decode b_AR_copyOf 9 = .ok (.areturn, 1) := by decide +kernel
theorem d_AR_copyOf3_0 : decode b_AR_copyOf3 0 = .ok (.aload_n 2, 1) := by decide +kernel
theorem d_AR_copyOf3_1 : decode b_AR_copyOf3 1 = .ok (.ldc 110, 2) := by decide +kernel
theorem d_AR_copyOf3_3 : decode b_AR_copyOf3 3 = .ok (.if_acmp .ne 10, 3) := by decide +kernel
theorem d_AR_copyOf3_6 : decode b_AR_copyOf3 6 = .ok (.iload_n 1, 1) := by decide +kernel
theorem d_AR_copyOf3_7 : decode b_AR_copyOf3 7 = .ok (.anewarray 2, 3) := by decide +kernel
theorem d_AR_copyOf3_10 : decode b_AR_copyOf3 10 = .ok (.goto 14, 3) := by decide +kernel
theorem d_AR_copyOf3_13 : decode b_AR_copyOf3 13 = .ok (.aload_n 2, 1) := by decide +kernel
theorem d_AR_copyOf3_14 : decode b_AR_copyOf3 14 = .ok (.invokevirtual 90, 3) := by decide +kernel
theorem d_AR_copyOf3_17 : decode b_AR_copyOf3 17 = .ok (.iload_n 1, 1) := by decide +kernel
theorem d_AR_copyOf3_18 : decode b_AR_copyOf3 18 = .ok (.invokestatic 95, 3) := by decide +kernel
theorem d_AR_copyOf3_21 : decode b_AR_copyOf3 21 = .ok (.checkcast 110, 3) := by decide +kernel
theorem d_AR_copyOf3_24 : decode b_AR_copyOf3 24 = .ok (.astore_n 3, 1) := by decide +kernel
theorem d_AR_copyOf3_25 : decode b_AR_copyOf3 25 = .ok (.aload_n 0, 1) := by decide +kernel
theorem d_AR_copyOf3_26 : decode b_AR_copyOf3 26 = .ok (.iconst 0, 1) := by decide +kernel
theorem d_AR_copyOf3_27 : decode b_AR_copyOf3 27 = .ok (.aload_n 3, 1) := by decide +kernel
theorem d_AR_copyOf3_28 : decode b_AR_copyOf3 28 = .ok (.iconst 0, 1) := by decide +kernel
theorem d_AR_copyOf3_29 : decode b_AR_copyOf3 29 = .ok (.aload_n 0, 1) := by decide +kernel
theorem d_AR_copyOf3_30 : decode b_AR_copyOf3 30 = .ok (.arraylength, 1) := by decide +kernel
theorem d_AR_copyOf3_31 : decode b_AR_copyOf3 31 = .ok (.iload_n 1, 1) := by decide +kernel
theorem d_AR_copyOf3_32 : decode b_AR_copyOf3 32 = .ok (.invokestatic 304, 3) := by decide +kernel
theorem d_AR_copyOf3_35 : decode b_AR_copyOf3 35 = .ok (.invokestatic 150, 3) := by decide +kernel
theorem d_AR_copyOf3_38 : decode b_AR_copyOf3 38 = .ok (.aload_n 3, 1) := by decide +kernel
theorem d_AR_copyOf3_39 : decode b_AR_copyOf3 39 = .ok (.areturn, 1) := by decide +kernel
theorem d_O_checkIndex_0 : decode b_O_checkIndex 0 = .ok (.iload_n 0, 1) := by decide +kernel
theorem d_O_checkIndex_1 : decode b_O_checkIndex 1 = .ok (.iload_n 1, 1) := by decide +kernel
theorem d_O_checkIndex_2 : decode b_O_checkIndex 2 = .ok (.aconst_null, 1) := by decide +kernel
theorem d_O_checkIndex_3 : decode b_O_checkIndex 3 = .ok (.invokestatic 105, 3) := by decide +kernel
theorem d_O_checkIndex_6 : decode b_O_checkIndex 6 = .ok (.ireturn, 1) := by decide +kernel
theorem d_AS_newLength_0 : decode b_AS_newLength 0 = .ok (.iload_n 0, 1) := by decide +kernel
theorem d_AS_newLength_1 : decode b_AS_newLength 1 = .ok (.iload_n 1, 1) := by decide +kernel
theorem d_AS_newLength_2 : decode b_AS_newLength 2 = .ok (.iload_n 2, 1) := by decide +kernel
theorem d_AS_newLength_3 : decode b_AS_newLength 3 = .ok (.invokestatic 194, 3) := by decide +kernel
theorem d_AS_newLength_6 : decode b_AS_newLength 6 = .ok (.iadd, 1) := by decide +kernel
theorem d_AS_newLength_7 : decode b_AS_newLength 7 = .ok (.istore_n 3, 1) := by decide +kernel
theorem d_AS_newLength_8 : decode b_AS_newLength 8 = .ok (.iconst 0, 1) := by decide +kernel
theorem d_AS_newLength_9 : decode b_AS_newLength 9 = .ok (.iload_n 3, 1) := by decide +kernel
theorem d_AS_newLength_10 : decode b_AS_newLength 10 = .ok (.if_icmp .ge 11, 3) := by decide +kernel
theorem d_AS_newLength_13 : decode b_AS_newLength 13 = .ok (.iload_n 3, 1) := by decide +kernel
theorem d_AS_newLength_14 : decode b_AS_newLength 14 = .ok (.ldc 200, 2) := by decide +kernel
theorem d_AS_newLength_16 : decode b_AS_newLength 16 = .ok (.if_icmp .gt 5, 3) := by decide +kernel
theorem d_AS_newLength_19 : decode b_AS_newLength 19 = .ok (.iload_n 3, 1) := by decide +kernel
theorem d_AS_newLength_20 : decode b_AS_newLength 20 = .ok (.ireturn, 1) := by decide +kernel
theorem d_AS_newLength_21 : decode b_AS_newLength 21 = .ok (.iload_n 0, 1) := by decide +kernel
theorem d_AS_newLength_22 : decode b_AS_newLength 22 = .ok (.iload_n 1, 1) := by decide +kernel
theorem d_AS_newLength_23 : decode b_AS_newLength 23 = .ok (.invokestatic 201, 3) := by decide +kernel
theorem d_AS_newLength_26 : decode b_AS_newLength 26 = .ok (.ireturn, 1) := by decide +kernel
theorem d_P_checkIndex_0 : decode b_P_checkIndex 0 = .ok (.iload_n 0, 1) := by decide +kernel
theorem d_P_checkIndex_1 : decode b_P_checkIndex 1 = .ok (.ifCond .lt 8, 3) := by decide +kernel
theorem d_P_checkIndex_4 : decode b_P_checkIndex 4 = .ok (.iload_n 0, 1) := by decide +kernel
theorem d_P_checkIndex_5 : decode b_P_checkIndex 5 = .ok (.iload_n 1, 1) := by decide +kernel
theorem d_P_checkIndex_6 : decode b_P_checkIndex 6 = .ok (.if_icmp .lt 10, 3) := by decide +kernel
theorem d_P_checkIndex_9 : decode b_P_checkIndex 9 = .ok (.aload_n 2, 1) := by decide +kernel
theorem d_P_checkIndex_10 : decode b_P_checkIndex 10 = .ok (.iload_n 0, 1) := by decide +kernel
theorem d_P_checkIndex_11 : decode b_P_checkIndex 11 = .ok (.iload_n 1, 1) := by decide +kernel
theorem d_P_checkIndex_12 : decode b_P_checkIndex 12 = .ok (.invokestatic 95, 3) := by decide +kernel
theorem d_P_checkIndex_15 : decode b_P_checkIndex 15 = .ok (.athrow, 1) := by decide +kernel
theorem d_P_checkIndex_16 : decode b_P_checkIndex 16 = .ok (.iload_n 0, 1) := by decide +kernel
theorem d_P_checkIndex_17 : decode b_P_checkIndex 17 = .ok (.ireturn, 1) := by decide +kernel
end
section
theorem d_law_0 : decode code 0 = .ok (.new 7, 3) := by decide +kernel
theorem d_law_3 : decode code 3 = .ok (.dup, 1) := by decide +kernel
theorem d_law_4 : decode code 4 = .ok (.invokespecial 9, 3) := by decide +kernel
theorem d_law_7 : decode code 7 = .ok (.astore_n 1, 1) := by decide +kernel
theorem d_law_8 : decode code 8 = .ok (.new 10, 3) := by decide +kernel
theorem d_law_11 : decode code 11 = .ok (.dup, 1) := by decide +kernel
theorem d_law_12 : decode code 12 = .ok (.invokespecial 12, 3) := by decide +kernel
theorem d_law_15 : decode code 15 = .ok (.astore_n 2, 1) := by decide +kernel
theorem d_law_16 : decode code 16 = .ok (.iconst 0, 1) := by decide +kernel
theorem d_law_17 : decode code 17 = .ok (.istore_n 3, 1) := by decide +kernel
theorem d_law_18 : decode code 18 = .ok (.iload_n 3, 1) := by decide +kernel
theorem d_law_19 : decode code 19 = .ok (.aload_n 0, 1) := by decide +kernel
theorem d_law_20 : decode code 20 = .ok (.arraylength, 1) := by decide +kernel
theorem d_law_21 : decode code 21 = .ok (.bipush 6, 2) := by decide +kernel
theorem d_law_23 : decode code 23 = .ok (.isub, 1) := by decide +kernel
theorem d_law_24 : decode code 24 = .ok (.if_icmp .gt 560, 3) := by decide +kernel
theorem d_law_27 : decode code 27 = .ok (.aload_n 0, 1) := by decide +kernel
theorem d_law_28 : decode code 28 = .ok (.iload_n 3, 1) := by decide +kernel
theorem d_law_29 : decode code 29 = .ok (.iaload, 1) := by decide +kernel
theorem d_law_30 : decode code 30 = .ok (.bipush 15, 2) := by decide +kernel
theorem d_law_32 : decode code 32 = .ok (.iand, 1) := by decide +kernel
theorem d_law_33 : decode code 33 = .ok (.tableswitch 545 0 15 #[79, 112, 135, 158, 181, 214, 247, 270, 293, 304, 327, 350, 373, 436, 479, 512], 79) := by decide +kernel
theorem d_law_112 : decode code 112 = .ok (.aload_n 1, 1) := by decide +kernel
theorem d_law_113 : decode code 113 = .ok (.aload_n 0, 1) := by decide +kernel
theorem d_law_114 : decode code 114 = .ok (.iload_n 3, 1) := by decide +kernel
theorem d_law_115 : decode code 115 = .ok (.iconst 1, 1) := by decide +kernel
theorem d_law_116 : decode code 116 = .ok (.iadd, 1) := by decide +kernel
theorem d_law_117 : decode code 117 = .ok (.iaload, 1) := by decide +kernel
theorem d_law_118 : decode code 118 = .ok (.aload_n 0, 1) := by decide +kernel
theorem d_law_119 : decode code 119 = .ok (.iload_n 3, 1) := by decide +kernel
theorem d_law_120 : decode code 120 = .ok (.iconst 2, 1) := by decide +kernel
theorem d_law_121 : decode code 121 = .ok (.iadd, 1) := by decide +kernel
theorem d_law_122 : decode code 122 = .ok (.iaload, 1) := by decide +kernel
theorem d_law_123 : decode code 123 = .ok (.invokevirtual 13, 3) := by decide +kernel
theorem d_law_126 : decode code 126 = .ok (.aload_n 2, 1) := by decide +kernel
theorem d_law_127 : decode code 127 = .ok (.aload_n 0, 1) := by decide +kernel
theorem d_law_128 : decode code 128 = .ok (.iload_n 3, 1) := by decide +kernel
theorem d_law_129 : decode code 129 = .ok (.iconst 1, 1) := by decide +kernel
theorem d_law_130 : decode code 130 = .ok (.iadd, 1) := by decide +kernel
theorem d_law_131 : decode code 131 = .ok (.iaload, 1) := by decide +kernel
theorem d_law_132 : decode code 132 = .ok (.aload_n 0, 1) := by decide +kernel
theorem d_law_133 : decode code 133 = .ok (.iload_n 3, 1) := by decide +kernel
theorem d_law_134 : decode code 134 = .ok (.iconst 2, 1) := by decide +kernel
theorem d_law_135 : decode code 135 = .ok (.iadd, 1) := by decide +kernel
theorem d_law_136 : decode code 136 = .ok (.iaload, 1) := by decide +kernel
theorem d_law_137 : decode code 137 = .ok (.invokevirtual 17, 3) := by decide +kernel
theorem d_law_140 : decode code 140 = .ok (.if_icmp .eq 438, 3) := by decide +kernel
theorem d_law_143 : decode code 143 = .ok (.iconst 0, 1) := by decide +kernel
theorem d_law_144 : decode code 144 = .ok (.ireturn, 1) := by decide +kernel
theorem d_law_145 : decode code 145 = .ok (.aload_n 1, 1) := by decide +kernel
theorem d_law_146 : decode code 146 = .ok (.aload_n 0, 1) := by decide +kernel
theorem d_law_147 : decode code 147 = .ok (.iload_n 3, 1) := by decide +kernel
theorem d_law_148 : decode code 148 = .ok (.iconst 1, 1) := by decide +kernel
theorem d_law_149 : decode code 149 = .ok (.iadd, 1) := by decide +kernel
theorem d_law_150 : decode code 150 = .ok (.iaload, 1) := by decide +kernel
theorem d_law_151 : decode code 151 = .ok (.invokevirtual 18, 3) := by decide +kernel
theorem d_law_154 : decode code 154 = .ok (.aload_n 2, 1) := by decide +kernel
theorem d_law_155 : decode code 155 = .ok (.aload_n 0, 1) := by decide +kernel
theorem d_law_156 : decode code 156 = .ok (.iload_n 3, 1) := by decide +kernel
theorem d_law_157 : decode code 157 = .ok (.iconst 1, 1) := by decide +kernel
theorem d_law_158 : decode code 158 = .ok (.iadd, 1) := by decide +kernel
theorem d_law_159 : decode code 159 = .ok (.iaload, 1) := by decide +kernel
theorem d_law_160 : decode code 160 = .ok (.invokevirtual 22, 3) := by decide +kernel
theorem d_law_163 : decode code 163 = .ok (.if_icmp .eq 415, 3) := by decide +kernel
theorem d_law_166 : decode code 166 = .ok (.iconst 0, 1) := by decide +kernel
theorem d_law_167 : decode code 167 = .ok (.ireturn, 1) := by decide +kernel
theorem d_law_168 : decode code 168 = .ok (.aload_n 1, 1) := by decide +kernel
theorem d_law_169 : decode code 169 = .ok (.aload_n 0, 1) := by decide +kernel
theorem d_law_170 : decode code 170 = .ok (.iload_n 3, 1) := by decide +kernel
theorem d_law_171 : decode code 171 = .ok (.iconst 1, 1) := by decide +kernel
theorem d_law_172 : decode code 172 = .ok (.iadd, 1) := by decide +kernel
theorem d_law_173 : decode code 173 = .ok (.iaload, 1) := by decide +kernel
theorem d_law_174 : decode code 174 = .ok (.invokevirtual 23, 3) := by decide +kernel
theorem d_law_177 : decode code 177 = .ok (.aload_n 2, 1) := by decide +kernel
theorem d_law_178 : decode code 178 = .ok (.aload_n 0, 1) := by decide +kernel
theorem d_law_179 : decode code 179 = .ok (.iload_n 3, 1) := by decide +kernel
theorem d_law_180 : decode code 180 = .ok (.iconst 1, 1) := by decide +kernel
theorem d_law_181 : decode code 181 = .ok (.iadd, 1) := by decide +kernel
theorem d_law_182 : decode code 182 = .ok (.iaload, 1) := by decide +kernel
theorem d_law_183 : decode code 183 = .ok (.invokevirtual 26, 3) := by decide +kernel
theorem d_law_186 : decode code 186 = .ok (.if_icmp .eq 392, 3) := by decide +kernel
theorem d_law_189 : decode code 189 = .ok (.iconst 0, 1) := by decide +kernel
theorem d_law_190 : decode code 190 = .ok (.ireturn, 1) := by decide +kernel
theorem d_law_191 : decode code 191 = .ok (.aload_n 1, 1) := by decide +kernel
theorem d_law_192 : decode code 192 = .ok (.aload_n 0, 1) := by decide +kernel
theorem d_law_193 : decode code 193 = .ok (.iload_n 3, 1) := by decide +kernel
theorem d_law_194 : decode code 194 = .ok (.iconst 1, 1) := by decide +kernel
theorem d_law_195 : decode code 195 = .ok (.iadd, 1) := by decide +kernel
theorem d_law_196 : decode code 196 = .ok (.iaload, 1) := by decide +kernel
theorem d_law_197 : decode code 197 = .ok (.invokevirtual 27, 3) := by decide +kernel
theorem d_law_200 : decode code 200 = .ok (.aload_n 2, 1) := by decide +kernel
theorem d_law_201 : decode code 201 = .ok (.aload_n 0, 1) := by decide +kernel
theorem d_law_202 : decode code 202 = .ok (.iload_n 3, 1) := by decide +kernel
theorem d_law_203 : decode code 203 = .ok (.iconst 1, 1) := by decide +kernel
theorem d_law_204 : decode code 204 = .ok (.iadd, 1) := by decide +kernel
theorem d_law_205 : decode code 205 = .ok (.iaload, 1) := by decide +kernel
theorem d_law_206 : decode code 206 = .ok (.invokevirtual 30, 3) := by decide +kernel
theorem d_law_209 : decode code 209 = .ok (.if_icmp .eq 369, 3) := by decide +kernel
theorem d_law_212 : decode code 212 = .ok (.iconst 0, 1) := by decide +kernel
theorem d_law_213 : decode code 213 = .ok (.ireturn, 1) := by decide +kernel
theorem d_law_214 : decode code 214 = .ok (.aload_n 1, 1) := by decide +kernel
theorem d_law_215 : decode code 215 = .ok (.aload_n 0, 1) := by decide +kernel
theorem d_law_216 : decode code 216 = .ok (.iload_n 3, 1) := by decide +kernel
theorem d_law_217 : decode code 217 = .ok (.iconst 1, 1) := by decide +kernel
theorem d_law_218 : decode code 218 = .ok (.iadd, 1) := by decide +kernel
theorem d_law_219 : decode code 219 = .ok (.iaload, 1) := by decide +kernel
theorem d_law_220 : decode code 220 = .ok (.aload_n 0, 1) := by decide +kernel
theorem d_law_221 : decode code 221 = .ok (.iload_n 3, 1) := by decide +kernel
theorem d_law_222 : decode code 222 = .ok (.iconst 2, 1) := by decide +kernel
theorem d_law_223 : decode code 223 = .ok (.iadd, 1) := by decide +kernel
theorem d_law_224 : decode code 224 = .ok (.iaload, 1) := by decide +kernel
theorem d_law_225 : decode code 225 = .ok (.invokevirtual 31, 3) := by decide +kernel
theorem d_law_228 : decode code 228 = .ok (.aload_n 2, 1) := by decide +kernel
theorem d_law_229 : decode code 229 = .ok (.aload_n 0, 1) := by decide +kernel
theorem d_law_230 : decode code 230 = .ok (.iload_n 3, 1) := by decide +kernel
theorem d_law_231 : decode code 231 = .ok (.iconst 1, 1) := by decide +kernel
theorem d_law_232 : decode code 232 = .ok (.iadd, 1) := by decide +kernel
theorem d_law_233 : decode code 233 = .ok (.iaload, 1) := by decide +kernel
theorem d_law_234 : decode code 234 = .ok (.aload_n 0, 1) := by decide +kernel
theorem d_law_235 : decode code 235 = .ok (.iload_n 3, 1) := by decide +kernel
theorem d_law_236 : decode code 236 = .ok (.iconst 2, 1) := by decide +kernel
theorem d_law_237 : decode code 237 = .ok (.iadd, 1) := by decide +kernel
theorem d_law_238 : decode code 238 = .ok (.iaload, 1) := by decide +kernel
theorem d_law_239 : decode code 239 = .ok (.invokevirtual 34, 3) := by decide +kernel
theorem d_law_242 : decode code 242 = .ok (.if_icmp .eq 336, 3) := by decide +kernel
theorem d_law_245 : decode code 245 = .ok (.iconst 0, 1) := by decide +kernel
theorem d_law_246 : decode code 246 = .ok (.ireturn, 1) := by decide +kernel
theorem d_law_247 : decode code 247 = .ok (.aload_n 1, 1) := by decide +kernel
theorem d_law_248 : decode code 248 = .ok (.aload_n 0, 1) := by decide +kernel
theorem d_law_249 : decode code 249 = .ok (.iload_n 3, 1) := by decide +kernel
theorem d_law_250 : decode code 250 = .ok (.iconst 1, 1) := by decide +kernel
theorem d_law_251 : decode code 251 = .ok (.iadd, 1) := by decide +kernel
theorem d_law_252 : decode code 252 = .ok (.iaload, 1) := by decide +kernel
theorem d_law_253 : decode code 253 = .ok (.aload_n 0, 1) := by decide +kernel
theorem d_law_254 : decode code 254 = .ok (.iload_n 3, 1) := by decide +kernel
theorem d_law_255 : decode code 255 = .ok (.iconst 2, 1) := by decide +kernel
theorem d_law_256 : decode code 256 = .ok (.iadd, 1) := by decide +kernel
theorem d_law_257 : decode code 257 = .ok (.iaload, 1) := by decide +kernel
theorem d_law_258 : decode code 258 = .ok (.invokevirtual 35, 3) := by decide +kernel
theorem d_law_261 : decode code 261 = .ok (.aload_n 2, 1) := by decide +kernel
theorem d_law_262 : decode code 262 = .ok (.aload_n 0, 1) := by decide +kernel
theorem d_law_263 : decode code 263 = .ok (.iload_n 3, 1) := by decide +kernel
theorem d_law_264 : decode code 264 = .ok (.iconst 1, 1) := by decide +kernel
theorem d_law_265 : decode code 265 = .ok (.iadd, 1) := by decide +kernel
theorem d_law_266 : decode code 266 = .ok (.iaload, 1) := by decide +kernel
theorem d_law_267 : decode code 267 = .ok (.aload_n 0, 1) := by decide +kernel
theorem d_law_268 : decode code 268 = .ok (.iload_n 3, 1) := by decide +kernel
theorem d_law_269 : decode code 269 = .ok (.iconst 2, 1) := by decide +kernel
theorem d_law_270 : decode code 270 = .ok (.iadd, 1) := by decide +kernel
theorem d_law_271 : decode code 271 = .ok (.iaload, 1) := by decide +kernel
theorem d_law_272 : decode code 272 = .ok (.invokevirtual 38, 3) := by decide +kernel
theorem d_law_275 : decode code 275 = .ok (.if_icmp .eq 303, 3) := by decide +kernel
theorem d_law_278 : decode code 278 = .ok (.iconst 0, 1) := by decide +kernel
theorem d_law_279 : decode code 279 = .ok (.ireturn, 1) := by decide +kernel
theorem d_law_280 : decode code 280 = .ok (.aload_n 1, 1) := by decide +kernel
theorem d_law_281 : decode code 281 = .ok (.aload_n 0, 1) := by decide +kernel
theorem d_law_282 : decode code 282 = .ok (.iload_n 3, 1) := by decide +kernel
theorem d_law_283 : decode code 283 = .ok (.iconst 1, 1) := by decide +kernel
theorem d_law_284 : decode code 284 = .ok (.iadd, 1) := by decide +kernel
theorem d_law_285 : decode code 285 = .ok (.iaload, 1) := by decide +kernel
theorem d_law_286 : decode code 286 = .ok (.invokevirtual 39, 3) := by decide +kernel
theorem d_law_289 : decode code 289 = .ok (.aload_n 2, 1) := by decide +kernel
theorem d_law_290 : decode code 290 = .ok (.aload_n 0, 1) := by decide +kernel
theorem d_law_291 : decode code 291 = .ok (.iload_n 3, 1) := by decide +kernel
theorem d_law_292 : decode code 292 = .ok (.iconst 1, 1) := by decide +kernel
theorem d_law_293 : decode code 293 = .ok (.iadd, 1) := by decide +kernel
theorem d_law_294 : decode code 294 = .ok (.iaload, 1) := by decide +kernel
theorem d_law_295 : decode code 295 = .ok (.invokevirtual 42, 3) := by decide +kernel
theorem d_law_298 : decode code 298 = .ok (.if_icmp .eq 280, 3) := by decide +kernel
theorem d_law_301 : decode code 301 = .ok (.iconst 0, 1) := by decide +kernel
theorem d_law_302 : decode code 302 = .ok (.ireturn, 1) := by decide +kernel
theorem d_law_303 : decode code 303 = .ok (.aload_n 1, 1) := by decide +kernel
theorem d_law_304 : decode code 304 = .ok (.aload_n 0, 1) := by decide +kernel
theorem d_law_305 : decode code 305 = .ok (.iload_n 3, 1) := by decide +kernel
theorem d_law_306 : decode code 306 = .ok (.iconst 1, 1) := by decide +kernel
theorem d_law_307 : decode code 307 = .ok (.iadd, 1) := by decide +kernel
theorem d_law_308 : decode code 308 = .ok (.iaload, 1) := by decide +kernel
theorem d_law_309 : decode code 309 = .ok (.invokevirtual 43, 3) := by decide +kernel
theorem d_law_312 : decode code 312 = .ok (.aload_n 2, 1) := by decide +kernel
theorem d_law_313 : decode code 313 = .ok (.aload_n 0, 1) := by decide +kernel
theorem d_law_314 : decode code 314 = .ok (.iload_n 3, 1) := by decide +kernel
theorem d_law_315 : decode code 315 = .ok (.iconst 1, 1) := by decide +kernel
theorem d_law_316 : decode code 316 = .ok (.iadd, 1) := by decide +kernel
theorem d_law_317 : decode code 317 = .ok (.iaload, 1) := by decide +kernel
theorem d_law_318 : decode code 318 = .ok (.invokevirtual 47, 3) := by decide +kernel
theorem d_law_321 : decode code 321 = .ok (.if_icmp .eq 257, 3) := by decide +kernel
theorem d_law_324 : decode code 324 = .ok (.iconst 0, 1) := by decide +kernel
theorem d_law_325 : decode code 325 = .ok (.ireturn, 1) := by decide +kernel
theorem d_law_326 : decode code 326 = .ok (.aload_n 1, 1) := by decide +kernel
theorem d_law_327 : decode code 327 = .ok (.invokevirtual 48, 3) := by decide +kernel
theorem d_law_330 : decode code 330 = .ok (.aload_n 2, 1) := by decide +kernel
theorem d_law_331 : decode code 331 = .ok (.invokevirtual 51, 3) := by decide +kernel
theorem d_law_334 : decode code 334 = .ok (.goto 244, 3) := by decide +kernel
theorem d_law_337 : decode code 337 = .ok (.aload_n 1, 1) := by decide +kernel
theorem d_law_338 : decode code 338 = .ok (.aload_n 0, 1) := by decide +kernel
theorem d_law_339 : decode code 339 = .ok (.iload_n 3, 1) := by decide +kernel
theorem d_law_340 : decode code 340 = .ok (.iconst 1, 1) := by decide +kernel
theorem d_law_341 : decode code 341 = .ok (.iadd, 1) := by decide +kernel
theorem d_law_342 : decode code 342 = .ok (.iaload, 1) := by decide +kernel
theorem d_law_343 : decode code 343 = .ok (.invokevirtual 52, 3) := by decide +kernel
theorem d_law_346 : decode code 346 = .ok (.aload_n 2, 1) := by decide +kernel
theorem d_law_347 : decode code 347 = .ok (.aload_n 0, 1) := by decide +kernel
theorem d_law_348 : decode code 348 = .ok (.iload_n 3, 1) := by decide +kernel
theorem d_law_349 : decode code 349 = .ok (.iconst 1, 1) := by decide +kernel
theorem d_law_350 : decode code 350 = .ok (.iadd, 1) := by decide +kernel
theorem d_law_351 : decode code 351 = .ok (.iaload, 1) := by decide +kernel
theorem d_law_352 : decode code 352 = .ok (.invokevirtual 55, 3) := by decide +kernel
theorem d_law_355 : decode code 355 = .ok (.if_icmp .eq 223, 3) := by decide +kernel
theorem d_law_358 : decode code 358 = .ok (.iconst 0, 1) := by decide +kernel
theorem d_law_359 : decode code 359 = .ok (.ireturn, 1) := by decide +kernel
theorem d_law_360 : decode code 360 = .ok (.aload_n 1, 1) := by decide +kernel
theorem d_law_361 : decode code 361 = .ok (.aload_n 0, 1) := by decide +kernel
theorem d_law_362 : decode code 362 = .ok (.iload_n 3, 1) := by decide +kernel
theorem d_law_363 : decode code 363 = .ok (.iconst 1, 1) := by decide +kernel
theorem d_law_364 : decode code 364 = .ok (.iadd, 1) := by decide +kernel
theorem d_law_365 : decode code 365 = .ok (.iaload, 1) := by decide +kernel
theorem d_law_366 : decode code 366 = .ok (.invokevirtual 56, 3) := by decide +kernel
theorem d_law_369 : decode code 369 = .ok (.aload_n 2, 1) := by decide +kernel
theorem d_law_370 : decode code 370 = .ok (.aload_n 0, 1) := by decide +kernel
theorem d_law_371 : decode code 371 = .ok (.iload_n 3, 1) := by decide +kernel
theorem d_law_372 : decode code 372 = .ok (.iconst 1, 1) := by decide +kernel
theorem d_law_373 : decode code 373 = .ok (.iadd, 1) := by decide +kernel
theorem d_law_374 : decode code 374 = .ok (.iaload, 1) := by decide +kernel
theorem d_law_375 : decode code 375 = .ok (.invokevirtual 59, 3) := by decide +kernel
theorem d_law_378 : decode code 378 = .ok (.if_icmp .eq 200, 3) := by decide +kernel
theorem d_law_381 : decode code 381 = .ok (.iconst 0, 1) := by decide +kernel
theorem d_law_382 : decode code 382 = .ok (.ireturn, 1) := by decide +kernel
theorem d_law_383 : decode code 383 = .ok (.aload_n 1, 1) := by decide +kernel
theorem d_law_384 : decode code 384 = .ok (.aload_n 0, 1) := by decide +kernel
theorem d_law_385 : decode code 385 = .ok (.iload_n 3, 1) := by decide +kernel
theorem d_law_386 : decode code 386 = .ok (.iconst 1, 1) := by decide +kernel
theorem d_law_387 : decode code 387 = .ok (.iadd, 1) := by decide +kernel
theorem d_law_388 : decode code 388 = .ok (.iaload, 1) := by decide +kernel
theorem d_law_389 : decode code 389 = .ok (.invokevirtual 60, 3) := by decide +kernel
theorem d_law_392 : decode code 392 = .ok (.aload_n 2, 1) := by decide +kernel
theorem d_law_393 : decode code 393 = .ok (.aload_n 0, 1) := by decide +kernel
theorem d_law_394 : decode code 394 = .ok (.iload_n 3, 1) := by decide +kernel
theorem d_law_395 : decode code 395 = .ok (.iconst 1, 1) := by decide +kernel
theorem d_law_396 : decode code 396 = .ok (.iadd, 1) := by decide +kernel
theorem d_law_397 : decode code 397 = .ok (.iaload, 1) := by decide +kernel
theorem d_law_398 : decode code 398 = .ok (.invokevirtual 63, 3) := by decide +kernel
theorem d_law_401 : decode code 401 = .ok (.if_icmp .eq 177, 3) := by decide +kernel
theorem d_law_404 : decode code 404 = .ok (.iconst 0, 1) := by decide +kernel
theorem d_law_405 : decode code 405 = .ok (.ireturn, 1) := by decide +kernel
theorem d_law_406 : decode code 406 = .ok (.aload_n 1, 1) := by decide +kernel
theorem d_law_407 : decode code 407 = .ok (.aload_n 0, 1) := by decide +kernel
theorem d_law_408 : decode code 408 = .ok (.iload_n 3, 1) := by decide +kernel
theorem d_law_409 : decode code 409 = .ok (.iconst 1, 1) := by decide +kernel
theorem d_law_410 : decode code 410 = .ok (.iadd, 1) := by decide +kernel
theorem d_law_411 : decode code 411 = .ok (.iaload, 1) := by decide +kernel
theorem d_law_412 : decode code 412 = .ok (.aload_n 0, 1) := by decide +kernel
theorem d_law_413 : decode code 413 = .ok (.iload_n 3, 1) := by decide +kernel
theorem d_law_414 : decode code 414 = .ok (.iconst 2, 1) := by decide +kernel
theorem d_law_415 : decode code 415 = .ok (.iadd, 1) := by decide +kernel
theorem d_law_416 : decode code 416 = .ok (.iaload, 1) := by decide +kernel
theorem d_law_417 : decode code 417 = .ok (.aload_n 0, 1) := by decide +kernel
theorem d_law_418 : decode code 418 = .ok (.iload_n 3, 1) := by decide +kernel
theorem d_law_419 : decode code 419 = .ok (.iconst 3, 1) := by decide +kernel
theorem d_law_420 : decode code 420 = .ok (.iadd, 1) := by decide +kernel
theorem d_law_421 : decode code 421 = .ok (.iaload, 1) := by decide +kernel
theorem d_law_422 : decode code 422 = .ok (.aload_n 0, 1) := by decide +kernel
theorem d_law_423 : decode code 423 = .ok (.iload_n 3, 1) := by decide +kernel
theorem d_law_424 : decode code 424 = .ok (.iconst 4, 1) := by decide +kernel
theorem d_law_425 : decode code 425 = .ok (.iadd, 1) := by decide +kernel
theorem d_law_426 : decode code 426 = .ok (.iaload, 1) := by decide +kernel
theorem d_law_427 : decode code 427 = .ok (.aload_n 0, 1) := by decide +kernel
theorem d_law_428 : decode code 428 = .ok (.iload_n 3, 1) := by decide +kernel
theorem d_law_429 : decode code 429 = .ok (.iconst 5, 1) := by decide +kernel
theorem d_law_430 : decode code 430 = .ok (.iadd, 1) := by decide +kernel
theorem d_law_431 : decode code 431 = .ok (.iaload, 1) := by decide +kernel
theorem d_law_432 : decode code 432 = .ok (.invokevirtual 64, 3) := by decide +kernel
theorem d_law_435 : decode code 435 = .ok (.aload_n 2, 1) := by decide +kernel
theorem d_law_436 : decode code 436 = .ok (.aload_n 0, 1) := by decide +kernel
theorem d_law_437 : decode code 437 = .ok (.iload_n 3, 1) := by decide +kernel
theorem d_law_438 : decode code 438 = .ok (.iconst 1, 1) := by decide +kernel
theorem d_law_439 : decode code 439 = .ok (.iadd, 1) := by decide +kernel
theorem d_law_440 : decode code 440 = .ok (.iaload, 1) := by decide +kernel
theorem d_law_441 : decode code 441 = .ok (.aload_n 0, 1) := by decide +kernel
theorem d_law_442 : decode code 442 = .ok (.iload_n 3, 1) := by decide +kernel
theorem d_law_443 : decode code 443 = .ok (.iconst 2, 1) := by decide +kernel
theorem d_law_444 : decode code 444 = .ok (.iadd, 1) := by decide +kernel
theorem d_law_445 : decode code 445 = .ok (.iaload, 1) := by decide +kernel
theorem d_law_446 : decode code 446 = .ok (.aload_n 0, 1) := by decide +kernel
theorem d_law_447 : decode code 447 = .ok (.iload_n 3, 1) := by decide +kernel
theorem d_law_448 : decode code 448 = .ok (.iconst 3, 1) := by decide +kernel
theorem d_law_449 : decode code 449 = .ok (.iadd, 1) := by decide +kernel
theorem d_law_450 : decode code 450 = .ok (.iaload, 1) := by decide +kernel
theorem d_law_451 : decode code 451 = .ok (.aload_n 0, 1) := by decide +kernel
theorem d_law_452 : decode code 452 = .ok (.iload_n 3, 1) := by decide +kernel
theorem d_law_453 : decode code 453 = .ok (.iconst 4, 1) := by decide +kernel
theorem d_law_454 : decode code 454 = .ok (.iadd, 1) := by decide +kernel
theorem d_law_455 : decode code 455 = .ok (.iaload, 1) := by decide +kernel
theorem d_law_456 : decode code 456 = .ok (.aload_n 0, 1) := by decide +kernel
theorem d_law_457 : decode code 457 = .ok (.iload_n 3, 1) := by decide +kernel
theorem d_law_458 : decode code 458 = .ok (.iconst 5, 1) := by decide +kernel
theorem d_law_459 : decode code 459 = .ok (.iadd, 1) := by decide +kernel
theorem d_law_460 : decode code 460 = .ok (.iaload, 1) := by decide +kernel
theorem d_law_461 : decode code 461 = .ok (.invokevirtual 68, 3) := by decide +kernel
theorem d_law_464 : decode code 464 = .ok (.if_icmp .eq 114, 3) := by decide +kernel
theorem d_law_467 : decode code 467 = .ok (.iconst 0, 1) := by decide +kernel
theorem d_law_468 : decode code 468 = .ok (.ireturn, 1) := by decide +kernel
theorem d_law_469 : decode code 469 = .ok (.aload_n 1, 1) := by decide +kernel
theorem d_law_470 : decode code 470 = .ok (.aload_n 0, 1) := by decide +kernel
theorem d_law_471 : decode code 471 = .ok (.iload_n 3, 1) := by decide +kernel
theorem d_law_472 : decode code 472 = .ok (.iconst 1, 1) := by decide +kernel
theorem d_law_473 : decode code 473 = .ok (.iadd, 1) := by decide +kernel
theorem d_law_474 : decode code 474 = .ok (.iaload, 1) := by decide +kernel
theorem d_law_475 : decode code 475 = .ok (.aload_n 0, 1) := by decide +kernel
theorem d_law_476 : decode code 476 = .ok (.iload_n 3, 1) := by decide +kernel
theorem d_law_477 : decode code 477 = .ok (.iconst 2, 1) := by decide +kernel
theorem d_law_478 : decode code 478 = .ok (.iadd, 1) := by decide +kernel
theorem d_law_479 : decode code 479 = .ok (.iaload, 1) := by decide +kernel
theorem d_law_480 : decode code 480 = .ok (.aload_n 0, 1) := by decide +kernel
theorem d_law_481 : decode code 481 = .ok (.iload_n 3, 1) := by decide +kernel
theorem d_law_482 : decode code 482 = .ok (.iconst 3, 1) := by decide +kernel
theorem d_law_483 : decode code 483 = .ok (.iadd, 1) := by decide +kernel
theorem d_law_484 : decode code 484 = .ok (.iaload, 1) := by decide +kernel
theorem d_law_485 : decode code 485 = .ok (.invokevirtual 69, 3) := by decide +kernel
theorem d_law_488 : decode code 488 = .ok (.aload_n 2, 1) := by decide +kernel
theorem d_law_489 : decode code 489 = .ok (.aload_n 0, 1) := by decide +kernel
theorem d_law_490 : decode code 490 = .ok (.iload_n 3, 1) := by decide +kernel
theorem d_law_491 : decode code 491 = .ok (.iconst 1, 1) := by decide +kernel
theorem d_law_492 : decode code 492 = .ok (.iadd, 1) := by decide +kernel
theorem d_law_493 : decode code 493 = .ok (.iaload, 1) := by decide +kernel
theorem d_law_494 : decode code 494 = .ok (.aload_n 0, 1) := by decide +kernel
theorem d_law_495 : decode code 495 = .ok (.iload_n 3, 1) := by decide +kernel
theorem d_law_496 : decode code 496 = .ok (.iconst 2, 1) := by decide +kernel
theorem d_law_497 : decode code 497 = .ok (.iadd, 1) := by decide +kernel
theorem d_law_498 : decode code 498 = .ok (.iaload, 1) := by decide +kernel
theorem d_law_499 : decode code 499 = .ok (.aload_n 0, 1) := by decide +kernel
theorem d_law_500 : decode code 500 = .ok (.iload_n 3, 1) := by decide +kernel
theorem d_law_501 : decode code 501 = .ok (.iconst 3, 1) := by decide +kernel
theorem d_law_502 : decode code 502 = .ok (.iadd, 1) := by decide +kernel
theorem d_law_503 : decode code 503 = .ok (.iaload, 1) := by decide +kernel
theorem d_law_504 : decode code 504 = .ok (.invokevirtual 73, 3) := by decide +kernel
theorem d_law_507 : decode code 507 = .ok (.if_icmp .eq 71, 3) := by decide +kernel
theorem d_law_510 : decode code 510 = .ok (.iconst 0, 1) := by decide +kernel
theorem d_law_511 : decode code 511 = .ok (.ireturn, 1) := by decide +kernel
theorem d_law_512 : decode code 512 = .ok (.aload_n 1, 1) := by decide +kernel
theorem d_law_513 : decode code 513 = .ok (.aload_n 0, 1) := by decide +kernel
theorem d_law_514 : decode code 514 = .ok (.iload_n 3, 1) := by decide +kernel
theorem d_law_515 : decode code 515 = .ok (.iconst 1, 1) := by decide +kernel
theorem d_law_516 : decode code 516 = .ok (.iadd, 1) := by decide +kernel
theorem d_law_517 : decode code 517 = .ok (.iaload, 1) := by decide +kernel
theorem d_law_518 : decode code 518 = .ok (.aload_n 0, 1) := by decide +kernel
theorem d_law_519 : decode code 519 = .ok (.iload_n 3, 1) := by decide +kernel
theorem d_law_520 : decode code 520 = .ok (.iconst 2, 1) := by decide +kernel
theorem d_law_521 : decode code 521 = .ok (.iadd, 1) := by decide +kernel
theorem d_law_522 : decode code 522 = .ok (.iaload, 1) := by decide +kernel
theorem d_law_523 : decode code 523 = .ok (.invokevirtual 74, 3) := by decide +kernel
theorem d_law_526 : decode code 526 = .ok (.aload_n 2, 1) := by decide +kernel
theorem d_law_527 : decode code 527 = .ok (.aload_n 0, 1) := by decide +kernel
theorem d_law_528 : decode code 528 = .ok (.iload_n 3, 1) := by decide +kernel
theorem d_law_529 : decode code 529 = .ok (.iconst 1, 1) := by decide +kernel
theorem d_law_530 : decode code 530 = .ok (.iadd, 1) := by decide +kernel
theorem d_law_531 : decode code 531 = .ok (.iaload, 1) := by decide +kernel
theorem d_law_532 : decode code 532 = .ok (.aload_n 0, 1) := by decide +kernel
theorem d_law_533 : decode code 533 = .ok (.iload_n 3, 1) := by decide +kernel
theorem d_law_534 : decode code 534 = .ok (.iconst 2, 1) := by decide +kernel
theorem d_law_535 : decode code 535 = .ok (.iadd, 1) := by decide +kernel
theorem d_law_536 : decode code 536 = .ok (.iaload, 1) := by decide +kernel
theorem d_law_537 : decode code 537 = .ok (.invokevirtual 77, 3) := by decide +kernel
theorem d_law_540 : decode code 540 = .ok (.if_icmp .eq 38, 3) := by decide +kernel
theorem d_law_543 : decode code 543 = .ok (.iconst 0, 1) := by decide +kernel
theorem d_law_544 : decode code 544 = .ok (.ireturn, 1) := by decide +kernel
theorem d_law_545 : decode code 545 = .ok (.aload_n 1, 1) := by decide +kernel
theorem d_law_546 : decode code 546 = .ok (.aload_n 0, 1) := by decide +kernel
theorem d_law_547 : decode code 547 = .ok (.iload_n 3, 1) := by decide +kernel
theorem d_law_548 : decode code 548 = .ok (.iconst 1, 1) := by decide +kernel
theorem d_law_549 : decode code 549 = .ok (.iadd, 1) := by decide +kernel
theorem d_law_550 : decode code 550 = .ok (.iaload, 1) := by decide +kernel
theorem d_law_551 : decode code 551 = .ok (.aload_n 0, 1) := by decide +kernel
theorem d_law_552 : decode code 552 = .ok (.iload_n 3, 1) := by decide +kernel
theorem d_law_553 : decode code 553 = .ok (.iconst 2, 1) := by decide +kernel
theorem d_law_554 : decode code 554 = .ok (.iadd, 1) := by decide +kernel
theorem d_law_555 : decode code 555 = .ok (.iaload, 1) := by decide +kernel
theorem d_law_556 : decode code 556 = .ok (.invokevirtual 78, 3) := by decide +kernel
theorem d_law_559 : decode code 559 = .ok (.aload_n 2, 1) := by decide +kernel
theorem d_law_560 : decode code 560 = .ok (.aload_n 0, 1) := by decide +kernel
theorem d_law_561 : decode code 561 = .ok (.iload_n 3, 1) := by decide +kernel
theorem d_law_562 : decode code 562 = .ok (.iconst 1, 1) := by decide +kernel
theorem d_law_563 : decode code 563 = .ok (.iadd, 1) := by decide +kernel
theorem d_law_564 : decode code 564 = .ok (.iaload, 1) := by decide +kernel
theorem d_law_565 : decode code 565 = .ok (.aload_n 0, 1) := by decide +kernel
theorem d_law_566 : decode code 566 = .ok (.iload_n 3, 1) := by decide +kernel
theorem d_law_567 : decode code 567 = .ok (.iconst 2, 1) := by decide +kernel
theorem d_law_568 : decode code 568 = .ok (.iadd, 1) := by decide +kernel
theorem d_law_569 : decode code 569 = .ok (.iaload, 1) := by decide +kernel
theorem d_law_570 : decode code 570 = .ok (.invokevirtual 82, 3) := by decide +kernel
theorem d_law_573 : decode code 573 = .ok (.if_icmp .eq 5, 3) := by decide +kernel
theorem d_law_576 : decode code 576 = .ok (.iconst 0, 1) := by decide +kernel
theorem d_law_577 : decode code 577 = .ok (.ireturn, 1) := by decide +kernel
theorem d_law_578 : decode code 578 = .ok (.iinc 3 6, 3) := by decide +kernel
theorem d_law_581 : decode code 581 = .ok (.goto (-563), 3) := by decide +kernel
theorem d_law_584 : decode code 584 = .ok (.iconst 1, 1) := by decide +kernel
theorem d_law_585 : decode code 585 = .ok (.ireturn, 1) := by decide +kernel
end
section
abbrev m_from (st be : Nat → Int32) (i : Nat) (s k : Int32) : Prop := st i = nI 1 ∧ be i / nI 8 = s ∧ ¬ (be i - be i / nI 8 * nI 8) < k
section MA
variable {l : Launch} {D : va_G} {κ : Nat → ClassId} {z : Nat × Nat} {a : Nat → Nat} {g cm : Int32} {st be ro pl ha mo co to sn le : Nat → Int32}
set_option maxHeartbeats 4000000 in
set_option maxRecDepth 100000 in
theorem c_M_runsT {j : Nat} (hj : j < 6) (hh : ¬ ha j = 0) : Ct l y_M_runs b_M_runs 2 (some .boolean) 0 0 0 D (gk κ, z) (mw κ a g cm st be ro pl ha mo co to sn le) [.ref (a 0), .int (nI j)] (rt (.int 1) (mw κ a g cm st be ro pl ha mo co to sn le)) := by
  refine Ct.of (by decide) (Nat.le_of_ble_eq_true rfl) ?_
  intro p e s0 m below meth c A hC hr hn
  refine u_iload_n hC d_M_runs_0 rfl ?_
  refine u_if_lt hC 23 d_M_runs_1 (by decide) (fun h_1 => absurd h_1 (nI_pos (by omega))) (fun h_1 => ?_)
  refine u_iload_n hC d_M_runs_4 rfl ?_
  refine u_bipush hC (nI 6) d_M_runs_5 (by decide) ?_
  refine u_icmp_ge hC 23 d_M_runs_7 (by decide) (fun h_7 => absurd h_7 (nI_ge hj (by decide))) (fun h_7 => ?_)
  refine u_aload_n hC d_M_runs_10 rfl ?_
  refine u_get hC f_M_22 0 rfl rfl d_M_runs_11 ?_
  refine u_iload_n hC d_M_runs_14 rfl ?_
  refine p_zald hC 5 1 rfl rfl j rfl hj (by decide) d_M_runs_15 ?_
  refine u_if_eq hC 23 d_M_runs_16 (by decide) (fun h_16 => absurd h_16 hh) (fun h_16 => ?_)
  refine u_iconst hC (nI 1) d_M_runs_19 (by decide) ?_
  refine u_goto hC 24 d_M_runs_20 (by decide) ?_
  exact u_zret hC hr rfl d_M_runs_24 (Nat.le_of_ble_eq_true rfl) (Nat.le_of_ble_eq_true rfl) ⟨rfl, rfl⟩
set_option maxHeartbeats 4000000 in
set_option maxRecDepth 100000 in
theorem c_M_runsF {s : Int32} (hb : ¬ ∃ j : Nat, j < 6 ∧ s = nI j ∧ ¬ ha j = 0) : Ct l y_M_runs b_M_runs 2 (some .boolean) 0 0 0 D (gk κ, z) (mw κ a g cm st be ro pl ha mo co to sn le) [.ref (a 0), .int s] (rt (.int 0) (mw κ a g cm st be ro pl ha mo co to sn le)) := by
  refine Ct.of (by decide) (Nat.le_of_ble_eq_true rfl) ?_
  intro p e s0 m below meth c A hC hr hn
  refine u_iload_n hC d_M_runs_0 rfl ?_
  refine u_if_lt hC 23 d_M_runs_1 (by decide) (fun h_1 => ?_) (fun h_1 => ?_)
  · refine u_iconst hC (nI 0) d_M_runs_23 (by decide) ?_
    exact u_zret hC hr rfl d_M_runs_24 (Nat.le_of_ble_eq_true rfl) (Nat.le_of_ble_eq_true rfl) ⟨rfl, rfl⟩
  · refine u_iload_n hC d_M_runs_4 rfl ?_
    refine u_bipush hC (nI 6) d_M_runs_5 (by decide) ?_
    refine u_icmp_ge hC 23 d_M_runs_7 (by decide) (fun h_7 => ?_) (fun h_7 => ?_)
    · refine u_iconst hC (nI 0) d_M_runs_23 (by decide) ?_
      exact u_zret hC hr rfl d_M_runs_24 (Nat.le_of_ble_eq_true rfl) (Nat.le_of_ble_eq_true rfl) ⟨rfl, rfl⟩
    · obtain ⟨j, hj, rfl⟩ := n_rng0 (by decide) h_1 h_7
      refine u_aload_n hC d_M_runs_10 rfl ?_
      refine u_get hC f_M_22 0 rfl rfl d_M_runs_11 ?_
      refine u_iload_n hC d_M_runs_14 rfl ?_
      refine p_zald hC 5 1 rfl rfl j rfl hj (by decide) d_M_runs_15 ?_
      refine u_if_eq hC 23 d_M_runs_16 (by decide) (fun h_16 => ?_) (fun h_16 => ?_)
      · refine u_iconst hC (nI 0) d_M_runs_23 (by decide) ?_
        exact u_zret hC hr rfl d_M_runs_24 (Nat.le_of_ble_eq_true rfl) (Nat.le_of_ble_eq_true rfl) ⟨rfl, rfl⟩
      · exact absurd ⟨j, hj, rfl, h_16⟩ hb
set_option maxHeartbeats 4000000 in
set_option maxRecDepth 100000 in
theorem c_M_givenT {i G0 : Nat} (hg : g = nI G0) (hG : G0 ≤ 4000) (h1 : 1 ≤ i) (h2 : i ≤ G0) : Ct l y_M_isGiven b_M_isGiven 2 (some .boolean) 0 0 0 D (gk κ, z) (mw κ a g cm st be ro pl ha mo co to sn le) [.ref (a 0), .int (nI i)] (rt (.int 1) (mw κ a g cm st be ro pl ha mo co to sn le)) := by
  refine Ct.of (by decide) (Nat.le_of_ble_eq_true rfl) ?_
  intro p e s0 m below meth c A hC hr hn
  refine u_iload_n hC d_M_isGiven_0 rfl ?_
  refine u_iconst hC (nI 1) d_M_isGiven_1 (by decide) ?_
  refine u_icmp_lt hC 17 d_M_isGiven_2 (by decide) (fun h_2 => absurd h_2 (nI_nlt h1 (by omega))) (fun h_2 => ?_)
  refine u_iload_n hC d_M_isGiven_5 rfl ?_
  refine u_aload_n hC d_M_isGiven_6 rfl ?_
  refine u_get hC f_M_41 0 rfl rfl d_M_isGiven_7 ?_
  refine u_icmp_gt hC 17 d_M_isGiven_10 (by decide) (fun h_10 => absurd h_10 (by rw [hg]; exact nI_nlt h2 (by omega))) (fun h_10 => ?_)
  refine u_iconst hC (nI 1) d_M_isGiven_13 (by decide) ?_
  refine u_goto hC 18 d_M_isGiven_14 (by decide) ?_
  exact u_zret hC hr rfl d_M_isGiven_18 (Nat.le_of_ble_eq_true rfl) (Nat.le_of_ble_eq_true rfl) ⟨rfl, rfl⟩
set_option maxHeartbeats 4000000 in
set_option maxRecDepth 100000 in
theorem c_M_givenF {x : Int32} {G0 : Nat} (hg : g = nI G0) (hG : G0 ≤ 4000) (hb : ¬ ∃ i : Nat, 1 ≤ i ∧ i ≤ G0 ∧ x = nI i) : Ct l y_M_isGiven b_M_isGiven 2 (some .boolean) 0 0 0 D (gk κ, z) (mw κ a g cm st be ro pl ha mo co to sn le) [.ref (a 0), .int x] (rt (.int 0) (mw κ a g cm st be ro pl ha mo co to sn le)) := by
  refine Ct.of (by decide) (Nat.le_of_ble_eq_true rfl) ?_
  intro p e s0 m below meth c A hC hr hn
  refine u_iload_n hC d_M_isGiven_0 rfl ?_
  refine u_iconst hC (nI 1) d_M_isGiven_1 (by decide) ?_
  refine u_icmp_lt hC 17 d_M_isGiven_2 (by decide) (fun h_2 => ?_) (fun h_2 => ?_)
  · refine u_iconst hC (nI 0) d_M_isGiven_17 (by decide) ?_
    exact u_zret hC hr rfl d_M_isGiven_18 (Nat.le_of_ble_eq_true rfl) (Nat.le_of_ble_eq_true rfl) ⟨rfl, rfl⟩
  · refine u_iload_n hC d_M_isGiven_5 rfl ?_
    refine u_aload_n hC d_M_isGiven_6 rfl ?_
    refine u_get hC f_M_41 0 rfl rfl d_M_isGiven_7 ?_
    refine u_icmp_gt hC 17 d_M_isGiven_10 (by decide) (fun h_10 => ?_) (fun h_10 => ?_)
    · refine u_iconst hC (nI 0) d_M_isGiven_17 (by decide) ?_
      exact u_zret hC hr rfl d_M_isGiven_18 (Nat.le_of_ble_eq_true rfl) (Nat.le_of_ble_eq_true rfl) ⟨rfl, rfl⟩
    · exact absurd (n_rng (by omega) (by decide) h_2 (by rw [← hg]; exact h_10)) hb
set_option maxHeartbeats 4000000 in
set_option maxRecDepth 100000 in
theorem c_M_beginT {j : Nat} {md : Int32} (hj : j < 6) (hh : ha j = 0) (hm0 : ¬ md < 0) (hm1 : ¬ nI 1 < md) : Ct l y_M_begin b_M_begin 3 (some .boolean) 0 0 0 D (gk κ, z) (mw κ a g cm st be ro pl ha mo co to sn le) [.ref (a 0), .int (nI j), .int md] (rt (.int 1) (mw κ a g cm st be ro pl (upd ha j 1) (upd mo j md) (upd co j 0) (upd to j 0) (upd sn j (-1)) (upd le (8 * j) 0))) := by
  refine Ct.of (by decide) (Nat.le_of_ble_eq_true rfl) ?_
  intro p e s0 m below meth c A hC hr hn
  refine u_iload_n hC d_M_begin_0 rfl ?_
  refine u_if_lt hC 28 d_M_begin_1 (by decide) (fun h_1 => absurd h_1 (nI_pos (by omega))) (fun h_1 => ?_)
  refine u_iload_n hC d_M_begin_4 rfl ?_
  refine u_bipush hC (nI 6) d_M_begin_5 (by decide) ?_
  refine u_icmp_ge hC 28 d_M_begin_7 (by decide) (fun h_7 => absurd h_7 (nI_ge hj (by decide))) (fun h_7 => ?_)
  refine u_iload_n hC d_M_begin_10 rfl ?_
  refine u_if_lt hC 28 d_M_begin_11 (by decide) (fun h_11 => absurd h_11 hm0) (fun h_11 => ?_)
  refine u_iload_n hC d_M_begin_14 rfl ?_
  refine u_iconst hC (nI 1) d_M_begin_15 (by decide) ?_
  refine u_icmp_gt hC 28 d_M_begin_16 (by decide) (fun h_16 => absurd h_16 hm1) (fun h_16 => ?_)
  refine u_aload_n hC d_M_begin_19 rfl ?_
  refine u_get hC f_M_22 0 rfl rfl d_M_begin_20 ?_
  refine u_iload_n hC d_M_begin_23 rfl ?_
  refine p_zald hC 5 1 rfl rfl j rfl hj (by decide) d_M_begin_24 ?_
  refine u_if_eq hC 30 d_M_begin_25 (by decide) (fun h_25 => ?_) (fun h_25 => absurd hh h_25)
  refine u_aload_n hC d_M_begin_30 rfl ?_
  refine u_get hC f_M_22 0 rfl rfl d_M_begin_31 ?_
  refine u_iload_n hC d_M_begin_34 rfl ?_
  refine u_iconst hC (nI 1) d_M_begin_35 (by decide) ?_
  refine p_zast hC 5 1 rfl rfl j rfl hj (by decide) rfl d_M_begin_36 ?_
  refine u_aload_n hC d_M_begin_37 rfl ?_
  refine u_get hC f_M_26 0 rfl rfl d_M_begin_38 ?_
  refine u_iload_n hC d_M_begin_41 rfl ?_
  refine u_iload_n hC d_M_begin_42 rfl ?_
  refine p_iast hC 6 0 rfl rfl j rfl hj (by decide) rfl d_M_begin_43 ?_
  refine u_aload_n hC d_M_begin_44 rfl ?_
  refine u_get hC f_M_29 0 rfl rfl d_M_begin_45 ?_
  refine u_iload_n hC d_M_begin_48 rfl ?_
  refine u_iconst hC (nI 0) d_M_begin_49 (by decide) ?_
  refine p_iast hC 7 0 rfl rfl j rfl hj (by decide) rfl d_M_begin_50 ?_
  refine u_aload_n hC d_M_begin_51 rfl ?_
  refine u_get hC f_M_32 0 rfl rfl d_M_begin_52 ?_
  refine u_iload_n hC d_M_begin_55 rfl ?_
  refine u_iconst hC (nI 0) d_M_begin_56 (by decide) ?_
  refine p_iast hC 8 0 rfl rfl j rfl hj (by decide) rfl d_M_begin_57 ?_
  refine u_aload_n hC d_M_begin_58 rfl ?_
  refine u_get hC f_M_35 0 rfl rfl d_M_begin_59 ?_
  refine u_iload_n hC d_M_begin_62 rfl ?_
  refine u_iconst hC (-1) d_M_begin_63 (by decide) ?_
  refine p_iast hC 9 0 rfl rfl j rfl hj (by decide) rfl d_M_begin_64 ?_
  refine u_aload_n hC d_M_begin_65 rfl ?_
  refine u_get hC f_M_38 0 rfl rfl d_M_begin_66 ?_
  refine u_bipush hC (nI 8) d_M_begin_69 (by decide) ?_
  refine u_iload_n hC d_M_begin_71 rfl ?_
  refine u_imul hC d_M_begin_72 ?_
  refine u_iconst hC (nI 0) d_M_begin_73 (by decide) ?_
  refine p_iast hC 10 0 rfl rfl (8 * j) (n_8a j) (by omega) (by decide) rfl d_M_begin_74 ?_
  refine u_iconst hC (nI 1) d_M_begin_75 (by decide) ?_
  exact u_zret hC hr rfl d_M_begin_76 (Nat.le_of_ble_eq_true rfl) (Nat.le_of_ble_eq_true rfl) ⟨rfl, rfl⟩
set_option maxHeartbeats 4000000 in
set_option maxRecDepth 100000 in
theorem c_M_beginF {s md : Int32} (hb : ¬ ((∃ j : Nat, j < 6 ∧ s = nI j ∧ ha j = 0) ∧ ¬ md < 0 ∧ ¬ nI 1 < md)) : Ct l y_M_begin b_M_begin 3 (some .boolean) 0 0 0 D (gk κ, z) (mw κ a g cm st be ro pl ha mo co to sn le) [.ref (a 0), .int s, .int md] (rt (.int 0) (mw κ a g cm st be ro pl ha mo co to sn le)) := by
  refine Ct.of (by decide) (Nat.le_of_ble_eq_true rfl) ?_
  intro p e s0 m below meth c A hC hr hn
  refine u_iload_n hC d_M_begin_0 rfl ?_
  refine u_if_lt hC 28 d_M_begin_1 (by decide) (fun h_1 => ?_) (fun h_1 => ?_)
  · refine u_iconst hC (nI 0) d_M_begin_28 (by decide) ?_
    exact u_zret hC hr rfl d_M_begin_29 (Nat.le_of_ble_eq_true rfl) (Nat.le_of_ble_eq_true rfl) ⟨rfl, rfl⟩
  · refine u_iload_n hC d_M_begin_4 rfl ?_
    refine u_bipush hC (nI 6) d_M_begin_5 (by decide) ?_
    refine u_icmp_ge hC 28 d_M_begin_7 (by decide) (fun h_7 => ?_) (fun h_7 => ?_)
    · refine u_iconst hC (nI 0) d_M_begin_28 (by decide) ?_
      exact u_zret hC hr rfl d_M_begin_29 (Nat.le_of_ble_eq_true rfl) (Nat.le_of_ble_eq_true rfl) ⟨rfl, rfl⟩
    · refine u_iload_n hC d_M_begin_10 rfl ?_
      refine u_if_lt hC 28 d_M_begin_11 (by decide) (fun h_11 => ?_) (fun h_11 => ?_)
      · refine u_iconst hC (nI 0) d_M_begin_28 (by decide) ?_
        exact u_zret hC hr rfl d_M_begin_29 (Nat.le_of_ble_eq_true rfl) (Nat.le_of_ble_eq_true rfl) ⟨rfl, rfl⟩
      · refine u_iload_n hC d_M_begin_14 rfl ?_
        refine u_iconst hC (nI 1) d_M_begin_15 (by decide) ?_
        refine u_icmp_gt hC 28 d_M_begin_16 (by decide) (fun h_16 => ?_) (fun h_16 => ?_)
        · refine u_iconst hC (nI 0) d_M_begin_28 (by decide) ?_
          exact u_zret hC hr rfl d_M_begin_29 (Nat.le_of_ble_eq_true rfl) (Nat.le_of_ble_eq_true rfl) ⟨rfl, rfl⟩
        · obtain ⟨j, hj, rfl⟩ := n_rng0 (by decide) h_1 h_7
          refine u_aload_n hC d_M_begin_19 rfl ?_
          refine u_get hC f_M_22 0 rfl rfl d_M_begin_20 ?_
          refine u_iload_n hC d_M_begin_23 rfl ?_
          refine p_zald hC 5 1 rfl rfl j rfl hj (by decide) d_M_begin_24 ?_
          refine u_if_eq hC 30 d_M_begin_25 (by decide) (fun h_25 => ?_) (fun h_25 => ?_)
          · exact absurd ⟨⟨j, hj, rfl, h_25⟩, h_11, h_16⟩ hb
          · refine u_iconst hC (nI 0) d_M_begin_28 (by decide) ?_
            exact u_zret hC hr rfl d_M_begin_29 (Nat.le_of_ble_eq_true rfl) (Nat.le_of_ble_eq_true rfl) ⟨rfl, rfl⟩
set_option maxHeartbeats 4000000 in
set_option maxRecDepth 100000 in
theorem c_M_statementF {s : Int32} (hb : ¬ ∃ j : Nat, j < 6 ∧ s = nI j ∧ ¬ ha j = 0) : Ct l y_M_statement b_M_statement 2 (some .int) 1 0 0 D (gk κ, z) (mw κ a g cm st be ro pl ha mo co to sn le) [.ref (a 0), .int s] (rt (.int (-1)) (mw κ a g cm st be ro pl ha mo co to sn le)) := by
  refine Ct.of (by decide) (Nat.le_of_ble_eq_true rfl) ?_
  intro p e s0 m below meth c A hC hr hn
  refine u_aload_n hC d_M_statement_0 rfl ?_
  refine u_iload_n hC d_M_statement_1 rfl ?_
  refine u_callVr hC (c_M_runsF hb) k_M_45 i_M_runs (q0 := 0) rfl rfl ⟨(Nat.le_of_ble_eq_true rfl), (Nat.le_of_ble_eq_true rfl)⟩ ⟨(Nat.le_of_ble_eq_true rfl), (Nat.le_of_ble_eq_true rfl)⟩ rfl rfl (Nat.le_of_ble_eq_true rfl) d_M_statement_2 ?_
  refine u_if_ne hC 10 d_M_statement_5 (by decide) (fun h_5 => absurd rfl h_5) (fun h_5 => ?_)
  refine u_iconst hC (-1) d_M_statement_8 (by decide) ?_
  exact u_iret hC hr d_M_statement_9 (Nat.le_of_ble_eq_true rfl) (Nat.le_of_ble_eq_true rfl) ⟨rfl, rfl⟩
set_option maxHeartbeats 4000000 in
set_option maxRecDepth 100000 in
theorem c_M_statementT {j : Nat} (hj : j < 6) (hh : ¬ ha j = 0) : Ct l y_M_statement b_M_statement 2 (some .int) 1 0 0 D (gk κ, z) (mw κ a g cm st be ro pl ha mo co to sn le) [.ref (a 0), .int (nI j)] (rt (.int (co j + 1)) (mw κ a g cm st be ro pl ha mo (upd co j (co j + 1)) to (upd sn j (if mo j = 0 ∨ sn j < 0 then cm else sn j)) le)) := by
  refine Ct.of (by decide) (Nat.le_of_ble_eq_true rfl) ?_
  intro p e s0 m below meth c A hC hr hn
  refine u_aload_n hC d_M_statement_0 rfl ?_
  refine u_iload_n hC d_M_statement_1 rfl ?_
  refine u_callVr hC (c_M_runsT hj hh) k_M_45 i_M_runs (q0 := 0) rfl rfl ⟨(Nat.le_of_ble_eq_true rfl), (Nat.le_of_ble_eq_true rfl)⟩ ⟨(Nat.le_of_ble_eq_true rfl), (Nat.le_of_ble_eq_true rfl)⟩ rfl rfl (Nat.le_of_ble_eq_true rfl) d_M_statement_2 ?_
  refine u_if_ne hC 10 d_M_statement_5 (by decide) (fun h_5 => ?_) (fun h_5 => absurd h_5 (by decide))
  refine u_aload_n hC d_M_statement_10 rfl ?_
  refine u_get hC f_M_29 0 rfl rfl d_M_statement_11 ?_
  refine u_iload_n hC d_M_statement_14 rfl ?_
  refine u_dup2 hC d_M_statement_15 rfl rfl ?_
  refine p_iald hC 7 0 rfl rfl j rfl hj (by decide) d_M_statement_16 ?_
  refine u_iconst hC (nI 1) d_M_statement_17 (by decide) ?_
  refine u_iadd hC d_M_statement_18 ?_
  refine p_iast hC 7 0 rfl rfl j rfl hj (by decide) rfl d_M_statement_19 ?_
  refine u_aload_n hC d_M_statement_20 rfl ?_
  refine u_get hC f_M_35 0 rfl rfl d_M_statement_21 ?_
  refine u_iload_n hC d_M_statement_24 rfl ?_
  refine u_aload_n hC d_M_statement_25 rfl ?_
  refine u_get hC f_M_26 0 rfl rfl d_M_statement_26 ?_
  refine u_iload_n hC d_M_statement_29 rfl ?_
  refine p_iald hC 6 0 rfl rfl j rfl hj (by decide) d_M_statement_30 ?_
  refine u_if_eq hC 43 d_M_statement_31 (by decide) (fun h_31 => ?_) (fun h_31 => ?_)
  · refine u_aload_n hC d_M_statement_43 rfl ?_
    refine u_get hC f_M_49 0 rfl rfl d_M_statement_44 ?_
    refine u_goto hC 56 d_M_statement_47 (by decide) ?_
    refine p_iast hC 9 0 rfl rfl j rfl hj (by decide) rfl d_M_statement_56 ?_
    refine u_aload_n hC d_M_statement_57 rfl ?_
    refine u_get hC f_M_29 0 rfl rfl d_M_statement_58 ?_
    refine u_iload_n hC d_M_statement_61 rfl ?_
    refine p_iald hC 7 0 rfl rfl j rfl hj (by decide) d_M_statement_62 ?_
    exact u_iret hC hr d_M_statement_63 (Nat.le_of_ble_eq_true rfl) (Nat.le_of_ble_eq_true rfl) ⟨by rw [pk_us]; rfl, by first | (rw [if_pos (Or.inl h_31)]; rfl) | (rw [if_pos (Or.inr (Int32.not_le.mp h_40))]; rfl) | (rw [if_neg (fun q => q.elim h_31 (fun w => Int32.not_lt.mpr h_40 w))]; rfl)⟩
  · refine u_aload_n hC d_M_statement_34 rfl ?_
    refine u_get hC f_M_35 0 rfl rfl d_M_statement_35 ?_
    refine u_iload_n hC d_M_statement_38 rfl ?_
    refine p_iald hC 9 0 rfl rfl j rfl hj (by decide) d_M_statement_39 ?_
    refine u_if_ge hC 50 d_M_statement_40 (by decide) (fun h_40 => ?_) (fun h_40 => ?_)
    · refine u_aload_n hC d_M_statement_50 rfl ?_
      refine u_get hC f_M_35 0 rfl rfl d_M_statement_51 ?_
      refine u_iload_n hC d_M_statement_54 rfl ?_
      refine p_iald hC 9 0 rfl rfl j rfl hj (by decide) d_M_statement_55 ?_
      refine p_iast hC 9 0 rfl rfl j rfl hj (by decide) rfl d_M_statement_56 ?_
      refine u_aload_n hC d_M_statement_57 rfl ?_
      refine u_get hC f_M_29 0 rfl rfl d_M_statement_58 ?_
      refine u_iload_n hC d_M_statement_61 rfl ?_
      refine p_iald hC 7 0 rfl rfl j rfl hj (by decide) d_M_statement_62 ?_
      exact u_iret hC hr d_M_statement_63 (Nat.le_of_ble_eq_true rfl) (Nat.le_of_ble_eq_true rfl) ⟨by rw [pk_us]; rfl, by first | (rw [if_pos (Or.inl h_31)]; rfl) | (rw [if_pos (Or.inr (Int32.not_le.mp h_40))]; rfl) | (rw [if_neg (fun q => q.elim h_31 (fun w => Int32.not_lt.mpr h_40 w))]; rfl)⟩
    · refine u_aload_n hC d_M_statement_43 rfl ?_
      refine u_get hC f_M_49 0 rfl rfl d_M_statement_44 ?_
      refine u_goto hC 56 d_M_statement_47 (by decide) ?_
      refine p_iast hC 9 0 rfl rfl j rfl hj (by decide) rfl d_M_statement_56 ?_
      refine u_aload_n hC d_M_statement_57 rfl ?_
      refine u_get hC f_M_29 0 rfl rfl d_M_statement_58 ?_
      refine u_iload_n hC d_M_statement_61 rfl ?_
      refine p_iald hC 7 0 rfl rfl j rfl hj (by decide) d_M_statement_62 ?_
      exact u_iret hC hr d_M_statement_63 (Nat.le_of_ble_eq_true rfl) (Nat.le_of_ble_eq_true rfl) ⟨by rw [pk_us]; rfl, by first | (rw [if_pos (Or.inl h_31)]; rfl) | (rw [if_pos (Or.inr (Int32.not_le.mp h_40))]; rfl) | (rw [if_neg (fun q => q.elim h_31 (fun w => Int32.not_lt.mpr h_40 w))]; rfl)⟩
set_option maxHeartbeats 4000000 in
set_option maxRecDepth 100000 in
theorem c_M_saveF {s : Int32} (hb : ¬ ∃ j : Nat, j < 6 ∧ s = nI j ∧ ¬ ha j = 0) : Ct l y_M_save b_M_save 2 (some .int) 1 0 0 D (gk κ, z) (mw κ a g cm st be ro pl ha mo co to sn le) [.ref (a 0), .int s] (rt (.int (-1)) (mw κ a g cm st be ro pl ha mo co to sn le)) := by
  refine Ct.of (by decide) (Nat.le_of_ble_eq_true rfl) ?_
  intro p e s0 m below meth c A hC hr hn
  refine u_aload_n hC d_M_save_0 rfl ?_
  refine u_iload_n hC d_M_save_1 rfl ?_
  refine u_callVr hC (c_M_runsF hb) k_M_45 i_M_runs (q0 := 0) rfl rfl ⟨(Nat.le_of_ble_eq_true rfl), (Nat.le_of_ble_eq_true rfl)⟩ ⟨(Nat.le_of_ble_eq_true rfl), (Nat.le_of_ble_eq_true rfl)⟩ rfl rfl (Nat.le_of_ble_eq_true rfl) d_M_save_2 ?_
  refine u_if_eq hC 19 d_M_save_5 (by decide) (fun h_5 => ?_) (fun h_5 => absurd rfl h_5)
  refine u_iconst hC (-1) d_M_save_19 (by decide) ?_
  exact u_iret hC hr d_M_save_20 (Nat.le_of_ble_eq_true rfl) (Nat.le_of_ble_eq_true rfl) ⟨rfl, rfl⟩
set_option maxHeartbeats 4000000 in
set_option maxRecDepth 100000 in
theorem c_M_saveN {j : Nat} (hj : j < 6) (hh : ¬ ha j = 0) (ht : to j = nI 7) : Ct l y_M_save b_M_save 2 (some .int) 1 0 0 D (gk κ, z) (mw κ a g cm st be ro pl ha mo co to sn le) [.ref (a 0), .int (nI j)] (rt (.int (-1)) (mw κ a g cm st be ro pl ha mo co to sn le)) := by
  refine Ct.of (by decide) (Nat.le_of_ble_eq_true rfl) ?_
  intro p e s0 m below meth c A hC hr hn
  refine u_aload_n hC d_M_save_0 rfl ?_
  refine u_iload_n hC d_M_save_1 rfl ?_
  refine u_callVr hC (c_M_runsT hj hh) k_M_45 i_M_runs (q0 := 0) rfl rfl ⟨(Nat.le_of_ble_eq_true rfl), (Nat.le_of_ble_eq_true rfl)⟩ ⟨(Nat.le_of_ble_eq_true rfl), (Nat.le_of_ble_eq_true rfl)⟩ rfl rfl (Nat.le_of_ble_eq_true rfl) d_M_save_2 ?_
  refine u_if_eq hC 19 d_M_save_5 (by decide) (fun h_5 => absurd h_5 (by decide)) (fun h_5 => ?_)
  refine u_aload_n hC d_M_save_8 rfl ?_
  refine u_get hC f_M_32 0 rfl rfl d_M_save_9 ?_
  refine u_iload_n hC d_M_save_12 rfl ?_
  refine p_iald hC 8 0 rfl rfl j rfl hj (by decide) d_M_save_13 ?_
  refine u_bipush hC (nI 7) d_M_save_14 (by decide) ?_
  refine u_icmp_ne hC 21 d_M_save_16 (by decide) (fun h_16 => absurd ht h_16) (fun h_16 => ?_)
  refine u_iconst hC (-1) d_M_save_19 (by decide) ?_
  exact u_iret hC hr d_M_save_20 (Nat.le_of_ble_eq_true rfl) (Nat.le_of_ble_eq_true rfl) ⟨rfl, rfl⟩
set_option maxHeartbeats 4000000 in
set_option maxRecDepth 100000 in
theorem c_M_saveT {j t : Nat} (hj : j < 6) (hh : ¬ ha j = 0) (ht : to j = nI t) (ht7 : t < 7) : Ct l y_M_save b_M_save 2 (some .int) 1 0 0 D (gk κ, z) (mw κ a g cm st be ro pl ha mo co to sn le) [.ref (a 0), .int (nI j)] (rt (.int (nI (t + 1))) (mw κ a g cm st be ro pl ha mo co (upd to j (nI (t + 1))) sn (upd le (8 * j + (t + 1)) 0))) := by
  refine Ct.of (by decide) (Nat.le_of_ble_eq_true rfl) ?_
  intro p e s0 m below meth c A hC hr hn
  refine u_aload_n hC d_M_save_0 rfl ?_
  refine u_iload_n hC d_M_save_1 rfl ?_
  refine u_callVr hC (c_M_runsT hj hh) k_M_45 i_M_runs (q0 := 0) rfl rfl ⟨(Nat.le_of_ble_eq_true rfl), (Nat.le_of_ble_eq_true rfl)⟩ ⟨(Nat.le_of_ble_eq_true rfl), (Nat.le_of_ble_eq_true rfl)⟩ rfl rfl (Nat.le_of_ble_eq_true rfl) d_M_save_2 ?_
  refine u_if_eq hC 19 d_M_save_5 (by decide) (fun h_5 => absurd h_5 (by decide)) (fun h_5 => ?_)
  refine u_aload_n hC d_M_save_8 rfl ?_
  refine u_get hC f_M_32 0 rfl rfl d_M_save_9 ?_
  refine u_iload_n hC d_M_save_12 rfl ?_
  refine p_iald hC 8 0 rfl rfl j rfl hj (by decide) d_M_save_13 ?_
  refine u_bipush hC (nI 7) d_M_save_14 (by decide) ?_
  refine u_icmp_ne hC 21 d_M_save_16 (by decide) (fun h_16 => ?_) (fun h_16 => absurd h_16 (by rw [ht, nI_eq (by omega) (by decide)]; omega))
  refine u_aload_n hC d_M_save_21 rfl ?_
  refine u_get hC f_M_32 0 rfl rfl d_M_save_22 ?_
  refine u_iload_n hC d_M_save_25 rfl ?_
  refine u_dup2 hC d_M_save_26 rfl rfl ?_
  refine p_iald hC 8 0 rfl rfl j rfl hj (by decide) d_M_save_27 ?_
  refine u_iconst hC (nI 1) d_M_save_28 (by decide) ?_
  refine u_iadd hC d_M_save_29 ?_
  refine p_iast hC 8 0 rfl rfl j rfl hj (by decide) rfl d_M_save_30 ?_
  refine u_aload_n hC d_M_save_31 rfl ?_
  refine u_get hC f_M_38 0 rfl rfl d_M_save_32 ?_
  refine u_bipush hC (nI 8) d_M_save_35 (by decide) ?_
  refine u_iload_n hC d_M_save_37 rfl ?_
  refine u_imul hC d_M_save_38 ?_
  refine u_aload_n hC d_M_save_39 rfl ?_
  refine u_get hC f_M_32 0 rfl rfl d_M_save_40 ?_
  refine u_iload_n hC d_M_save_43 rfl ?_
  refine p_iald hC 8 0 rfl rfl j rfl hj (by decide) d_M_save_44 ?_
  refine u_iadd hC d_M_save_45 ?_
  refine u_iconst hC (nI 0) d_M_save_46 (by decide) ?_
  refine p_iast hC 10 0 rfl rfl (8 * j + (t + 1)) (by rw [pk_us, ht, nI_add, n_8]) (by omega) (by decide) rfl d_M_save_47 ?_
  refine u_aload_n hC d_M_save_48 rfl ?_
  refine u_get hC f_M_32 0 rfl rfl d_M_save_49 ?_
  refine u_iload_n hC d_M_save_52 rfl ?_
  refine p_iald hC 8 0 rfl rfl j rfl hj (by decide) d_M_save_53 ?_
  exact u_iret hC hr d_M_save_54 (Nat.le_of_ble_eq_true rfl) (Nat.le_of_ble_eq_true rfl) ⟨by rw [pk_us, ht, nI_add], by rw [ht, nI_add]; first | done | rfl⟩
set_option maxHeartbeats 4000000 in
set_option maxRecDepth 100000 in
theorem c_M_isFromT {i : Nat} {s k : Int32} (hi : i ≤ 4000) (hf : m_from st be i s k) : Ct l y_M_isFrom b_M_isFrom 4 (some .boolean) 0 0 0 D (gk κ, z) (mw κ a g cm st be ro pl ha mo co to sn le) [.ref (a 0), .int (nI i), .int s, .int k] (rt (.int 1) (mw κ a g cm st be ro pl ha mo co to sn le)) := by
  refine Ct.of (by decide) (Nat.le_of_ble_eq_true rfl) ?_
  intro p e s0 m below meth c A hC hr hn
  refine u_aload_n hC d_M_isFrom_0 rfl ?_
  refine u_get hC f_M_7 0 rfl rfl d_M_isFrom_1 ?_
  refine u_iload_n hC d_M_isFrom_4 rfl ?_
  refine p_iald hC 1 0 rfl rfl i rfl (by omega) (by decide) d_M_isFrom_5 ?_
  refine u_iconst hC (nI 1) d_M_isFrom_6 (by decide) ?_
  refine u_icmp_ne hC 40 d_M_isFrom_7 (by decide) (fun h_7 => absurd hf.1 h_7) (fun h_7 => ?_)
  refine u_aload_n hC d_M_isFrom_10 rfl ?_
  refine u_get hC f_M_13 0 rfl rfl d_M_isFrom_11 ?_
  refine u_iload_n hC d_M_isFrom_14 rfl ?_
  refine p_iald hC 2 0 rfl rfl i rfl (by omega) (by decide) d_M_isFrom_15 ?_
  refine u_bipush hC (nI 8) d_M_isFrom_16 (by decide) ?_
  refine u_idiv hC d_M_isFrom_18 (by decide) ?_
  refine u_iload_n hC d_M_isFrom_19 rfl ?_
  refine u_icmp_ne hC 40 d_M_isFrom_20 (by decide) (fun h_20 => absurd hf.2.1 h_20) (fun h_20 => ?_)
  refine u_aload_n hC d_M_isFrom_23 rfl ?_
  refine u_get hC f_M_13 0 rfl rfl d_M_isFrom_24 ?_
  refine u_iload_n hC d_M_isFrom_27 rfl ?_
  refine p_iald hC 2 0 rfl rfl i rfl (by omega) (by decide) d_M_isFrom_28 ?_
  refine u_bipush hC (nI 8) d_M_isFrom_29 (by decide) ?_
  refine u_irem hC d_M_isFrom_31 (by decide) ?_
  refine u_iload_n hC d_M_isFrom_32 rfl ?_
  refine u_icmp_lt hC 40 d_M_isFrom_33 (by decide) (fun h_33 => absurd h_33 hf.2.2) (fun h_33 => ?_)
  refine u_iconst hC (nI 1) d_M_isFrom_36 (by decide) ?_
  refine u_goto hC 41 d_M_isFrom_37 (by decide) ?_
  exact u_zret hC hr rfl d_M_isFrom_41 (Nat.le_of_ble_eq_true rfl) (Nat.le_of_ble_eq_true rfl) ⟨rfl, rfl⟩
set_option maxHeartbeats 4000000 in
set_option maxRecDepth 100000 in
theorem c_M_isFromF {i : Nat} {s k : Int32} (hi : i ≤ 4000) (hf : ¬ m_from st be i s k) : Ct l y_M_isFrom b_M_isFrom 4 (some .boolean) 0 0 0 D (gk κ, z) (mw κ a g cm st be ro pl ha mo co to sn le) [.ref (a 0), .int (nI i), .int s, .int k] (rt (.int 0) (mw κ a g cm st be ro pl ha mo co to sn le)) := by
  refine Ct.of (by decide) (Nat.le_of_ble_eq_true rfl) ?_
  intro p e s0 m below meth c A hC hr hn
  refine u_aload_n hC d_M_isFrom_0 rfl ?_
  refine u_get hC f_M_7 0 rfl rfl d_M_isFrom_1 ?_
  refine u_iload_n hC d_M_isFrom_4 rfl ?_
  refine p_iald hC 1 0 rfl rfl i rfl (by omega) (by decide) d_M_isFrom_5 ?_
  refine u_iconst hC (nI 1) d_M_isFrom_6 (by decide) ?_
  refine u_icmp_ne hC 40 d_M_isFrom_7 (by decide) (fun h_7 => ?_) (fun h_7 => ?_)
  · refine u_iconst hC (nI 0) d_M_isFrom_40 (by decide) ?_
    exact u_zret hC hr rfl d_M_isFrom_41 (Nat.le_of_ble_eq_true rfl) (Nat.le_of_ble_eq_true rfl) ⟨rfl, rfl⟩
  · refine u_aload_n hC d_M_isFrom_10 rfl ?_
    refine u_get hC f_M_13 0 rfl rfl d_M_isFrom_11 ?_
    refine u_iload_n hC d_M_isFrom_14 rfl ?_
    refine p_iald hC 2 0 rfl rfl i rfl (by omega) (by decide) d_M_isFrom_15 ?_
    refine u_bipush hC (nI 8) d_M_isFrom_16 (by decide) ?_
    refine u_idiv hC d_M_isFrom_18 (by decide) ?_
    refine u_iload_n hC d_M_isFrom_19 rfl ?_
    refine u_icmp_ne hC 40 d_M_isFrom_20 (by decide) (fun h_20 => ?_) (fun h_20 => ?_)
    · refine u_iconst hC (nI 0) d_M_isFrom_40 (by decide) ?_
      exact u_zret hC hr rfl d_M_isFrom_41 (Nat.le_of_ble_eq_true rfl) (Nat.le_of_ble_eq_true rfl) ⟨rfl, rfl⟩
    · refine u_aload_n hC d_M_isFrom_23 rfl ?_
      refine u_get hC f_M_13 0 rfl rfl d_M_isFrom_24 ?_
      refine u_iload_n hC d_M_isFrom_27 rfl ?_
      refine p_iald hC 2 0 rfl rfl i rfl (by omega) (by decide) d_M_isFrom_28 ?_
      refine u_bipush hC (nI 8) d_M_isFrom_29 (by decide) ?_
      refine u_irem hC d_M_isFrom_31 (by decide) ?_
      refine u_iload_n hC d_M_isFrom_32 rfl ?_
      refine u_icmp_lt hC 40 d_M_isFrom_33 (by decide) (fun h_33 => ?_) (fun h_33 => ?_)
      · refine u_iconst hC (nI 0) d_M_isFrom_40 (by decide) ?_
        exact u_zret hC hr rfl d_M_isFrom_41 (Nat.le_of_ble_eq_true rfl) (Nat.le_of_ble_eq_true rfl) ⟨rfl, rfl⟩
      · exact absurd ⟨h_7, h_20, h_33⟩ hf
set_option maxHeartbeats 4000000 in
set_option maxRecDepth 100000 in
theorem c_M_stateT {i G0 : Nat} (hg : g = nI G0) (hG : G0 ≤ 4000) (h1 : 1 ≤ i) (h2 : i ≤ G0) : Ct l y_M_state b_M_state 2 (some .int) 1 0 0 D (gk κ, z) (mw κ a g cm st be ro pl ha mo co to sn le) [.ref (a 0), .int (nI i)] (rt (.int (st i)) (mw κ a g cm st be ro pl ha mo co to sn le)) := by
  refine Ct.of (by decide) (Nat.le_of_ble_eq_true rfl) ?_
  intro p e s0 m below meth c A hC hr hn
  refine u_aload_n hC d_M_state_0 rfl ?_
  refine u_iload_n hC d_M_state_1 rfl ?_
  refine u_callVr hC (c_M_givenT hg hG h1 h2) k_M_63 i_M_isGiven (q0 := 0) rfl rfl ⟨(Nat.le_of_ble_eq_true rfl), (Nat.le_of_ble_eq_true rfl)⟩ ⟨(Nat.le_of_ble_eq_true rfl), (Nat.le_of_ble_eq_true rfl)⟩ rfl rfl (Nat.le_of_ble_eq_true rfl) d_M_state_2 ?_
  refine u_if_eq hC 17 d_M_state_5 (by decide) (fun h_5 => absurd h_5 (by decide)) (fun h_5 => ?_)
  refine u_aload_n hC d_M_state_8 rfl ?_
  refine u_get hC f_M_7 0 rfl rfl d_M_state_9 ?_
  refine u_iload_n hC d_M_state_12 rfl ?_
  refine p_iald hC 1 0 rfl rfl i rfl (by omega) (by decide) d_M_state_13 ?_
  refine u_goto hC 18 d_M_state_14 (by decide) ?_
  exact u_iret hC hr d_M_state_18 (Nat.le_of_ble_eq_true rfl) (Nat.le_of_ble_eq_true rfl) ⟨rfl, rfl⟩
set_option maxHeartbeats 4000000 in
set_option maxRecDepth 100000 in
theorem c_M_stateF {x : Int32} {G0 : Nat} (hg : g = nI G0) (hG : G0 ≤ 4000) (hb : ¬ ∃ i : Nat, 1 ≤ i ∧ i ≤ G0 ∧ x = nI i) : Ct l y_M_state b_M_state 2 (some .int) 1 0 0 D (gk κ, z) (mw κ a g cm st be ro pl ha mo co to sn le) [.ref (a 0), .int x] (rt (.int 0) (mw κ a g cm st be ro pl ha mo co to sn le)) := by
  refine Ct.of (by decide) (Nat.le_of_ble_eq_true rfl) ?_
  intro p e s0 m below meth c A hC hr hn
  refine u_aload_n hC d_M_state_0 rfl ?_
  refine u_iload_n hC d_M_state_1 rfl ?_
  refine u_callVr hC (c_M_givenF hg hG hb) k_M_63 i_M_isGiven (q0 := 0) rfl rfl ⟨(Nat.le_of_ble_eq_true rfl), (Nat.le_of_ble_eq_true rfl)⟩ ⟨(Nat.le_of_ble_eq_true rfl), (Nat.le_of_ble_eq_true rfl)⟩ rfl rfl (Nat.le_of_ble_eq_true rfl) d_M_state_2 ?_
  refine u_if_eq hC 17 d_M_state_5 (by decide) (fun h_5 => ?_) (fun h_5 => absurd rfl h_5)
  refine u_iconst hC (nI 0) d_M_state_17 (by decide) ?_
  exact u_iret hC hr d_M_state_18 (Nat.le_of_ble_eq_true rfl) (Nat.le_of_ble_eq_true rfl) ⟨rfl, rfl⟩
set_option maxHeartbeats 4000000 in
set_option maxRecDepth 100000 in
theorem c_M_rootT {i G0 : Nat} (hg : g = nI G0) (hG : G0 ≤ 4000) (h1 : 1 ≤ i) (h2 : i ≤ G0) : Ct l y_M_root b_M_root 2 (some .int) 1 0 0 D (gk κ, z) (mw κ a g cm st be ro pl ha mo co to sn le) [.ref (a 0), .int (nI i)] (rt (.int (ro i)) (mw κ a g cm st be ro pl ha mo co to sn le)) := by
  refine Ct.of (by decide) (Nat.le_of_ble_eq_true rfl) ?_
  intro p e s0 m below meth c A hC hr hn
  refine u_aload_n hC d_M_root_0 rfl ?_
  refine u_iload_n hC d_M_root_1 rfl ?_
  refine u_callVr hC (c_M_givenT hg hG h1 h2) k_M_63 i_M_isGiven (q0 := 0) rfl rfl ⟨(Nat.le_of_ble_eq_true rfl), (Nat.le_of_ble_eq_true rfl)⟩ ⟨(Nat.le_of_ble_eq_true rfl), (Nat.le_of_ble_eq_true rfl)⟩ rfl rfl (Nat.le_of_ble_eq_true rfl) d_M_root_2 ?_
  refine u_if_eq hC 17 d_M_root_5 (by decide) (fun h_5 => absurd h_5 (by decide)) (fun h_5 => ?_)
  refine u_aload_n hC d_M_root_8 rfl ?_
  refine u_get hC f_M_16 0 rfl rfl d_M_root_9 ?_
  refine u_iload_n hC d_M_root_12 rfl ?_
  refine p_iald hC 3 0 rfl rfl i rfl (by omega) (by decide) d_M_root_13 ?_
  refine u_goto hC 18 d_M_root_14 (by decide) ?_
  exact u_iret hC hr d_M_root_18 (Nat.le_of_ble_eq_true rfl) (Nat.le_of_ble_eq_true rfl) ⟨rfl, rfl⟩
set_option maxHeartbeats 4000000 in
set_option maxRecDepth 100000 in
theorem c_M_rootF {x : Int32} {G0 : Nat} (hg : g = nI G0) (hG : G0 ≤ 4000) (hb : ¬ ∃ i : Nat, 1 ≤ i ∧ i ≤ G0 ∧ x = nI i) : Ct l y_M_root b_M_root 2 (some .int) 1 0 0 D (gk κ, z) (mw κ a g cm st be ro pl ha mo co to sn le) [.ref (a 0), .int x] (rt (.int 0) (mw κ a g cm st be ro pl ha mo co to sn le)) := by
  refine Ct.of (by decide) (Nat.le_of_ble_eq_true rfl) ?_
  intro p e s0 m below meth c A hC hr hn
  refine u_aload_n hC d_M_root_0 rfl ?_
  refine u_iload_n hC d_M_root_1 rfl ?_
  refine u_callVr hC (c_M_givenF hg hG hb) k_M_63 i_M_isGiven (q0 := 0) rfl rfl ⟨(Nat.le_of_ble_eq_true rfl), (Nat.le_of_ble_eq_true rfl)⟩ ⟨(Nat.le_of_ble_eq_true rfl), (Nat.le_of_ble_eq_true rfl)⟩ rfl rfl (Nat.le_of_ble_eq_true rfl) d_M_root_2 ?_
  refine u_if_eq hC 17 d_M_root_5 (by decide) (fun h_5 => ?_) (fun h_5 => absurd rfl h_5)
  refine u_iconst hC (nI 0) d_M_root_17 (by decide) ?_
  exact u_iret hC hr d_M_root_18 (Nat.le_of_ble_eq_true rfl) (Nat.le_of_ble_eq_true rfl) ⟨rfl, rfl⟩
set_option maxHeartbeats 4000000 in
set_option maxRecDepth 100000 in
theorem c_M_placeT {i G0 : Nat} (hg : g = nI G0) (hG : G0 ≤ 4000) (h1 : 1 ≤ i) (h2 : i ≤ G0) : Ct l y_M_place b_M_place 2 (some .int) 1 0 0 D (gk κ, z) (mw κ a g cm st be ro pl ha mo co to sn le) [.ref (a 0), .int (nI i)] (rt (.int (pl i)) (mw κ a g cm st be ro pl ha mo co to sn le)) := by
  refine Ct.of (by decide) (Nat.le_of_ble_eq_true rfl) ?_
  intro p e s0 m below meth c A hC hr hn
  refine u_aload_n hC d_M_place_0 rfl ?_
  refine u_iload_n hC d_M_place_1 rfl ?_
  refine u_callVr hC (c_M_givenT hg hG h1 h2) k_M_63 i_M_isGiven (q0 := 0) rfl rfl ⟨(Nat.le_of_ble_eq_true rfl), (Nat.le_of_ble_eq_true rfl)⟩ ⟨(Nat.le_of_ble_eq_true rfl), (Nat.le_of_ble_eq_true rfl)⟩ rfl rfl (Nat.le_of_ble_eq_true rfl) d_M_place_2 ?_
  refine u_if_eq hC 17 d_M_place_5 (by decide) (fun h_5 => absurd h_5 (by decide)) (fun h_5 => ?_)
  refine u_aload_n hC d_M_place_8 rfl ?_
  refine u_get hC f_M_19 0 rfl rfl d_M_place_9 ?_
  refine u_iload_n hC d_M_place_12 rfl ?_
  refine p_iald hC 4 0 rfl rfl i rfl (by omega) (by decide) d_M_place_13 ?_
  refine u_goto hC 18 d_M_place_14 (by decide) ?_
  exact u_iret hC hr d_M_place_18 (Nat.le_of_ble_eq_true rfl) (Nat.le_of_ble_eq_true rfl) ⟨rfl, rfl⟩
set_option maxHeartbeats 4000000 in
set_option maxRecDepth 100000 in
theorem c_M_placeF {x : Int32} {G0 : Nat} (hg : g = nI G0) (hG : G0 ≤ 4000) (hb : ¬ ∃ i : Nat, 1 ≤ i ∧ i ≤ G0 ∧ x = nI i) : Ct l y_M_place b_M_place 2 (some .int) 1 0 0 D (gk κ, z) (mw κ a g cm st be ro pl ha mo co to sn le) [.ref (a 0), .int x] (rt (.int 0) (mw κ a g cm st be ro pl ha mo co to sn le)) := by
  refine Ct.of (by decide) (Nat.le_of_ble_eq_true rfl) ?_
  intro p e s0 m below meth c A hC hr hn
  refine u_aload_n hC d_M_place_0 rfl ?_
  refine u_iload_n hC d_M_place_1 rfl ?_
  refine u_callVr hC (c_M_givenF hg hG hb) k_M_63 i_M_isGiven (q0 := 0) rfl rfl ⟨(Nat.le_of_ble_eq_true rfl), (Nat.le_of_ble_eq_true rfl)⟩ ⟨(Nat.le_of_ble_eq_true rfl), (Nat.le_of_ble_eq_true rfl)⟩ rfl rfl (Nat.le_of_ble_eq_true rfl) d_M_place_2 ?_
  refine u_if_eq hC 17 d_M_place_5 (by decide) (fun h_5 => ?_) (fun h_5 => absurd rfl h_5)
  refine u_iconst hC (nI 0) d_M_place_17 (by decide) ?_
  exact u_iret hC hr d_M_place_18 (Nat.le_of_ble_eq_true rfl) (Nat.le_of_ble_eq_true rfl) ⟨rfl, rfl⟩
end MA
end
section
/-! What the reference does, as functions. -/
/-- behind the numbers below n: those that are from session s at level k on hold x in place of what they held -/
def m_set (st be f : Nat → Int32) (s k x : Int32) (n : Nat) : Nat → Int32 := fun i => if 1 ≤ i ∧ i < n ∧ m_from st be i s k then x else f i
theorem m_set_1 {st be f : Nat → Int32} {s k x : Int32} : m_set st be f s k x 1 = f := by
  funext i
  exact if_neg (fun h => by omega)
theorem m_set_T {st be f : Nat → Int32} {s k x : Int32} {n : Nat} (h1 : 1 ≤ n) (h : m_from st be n s k) : upd (m_set st be f s k x n) n x = m_set st be f s k x (n + 1) := by
  funext i
  unfold upd m_set
  by_cases c : i = n
  · subst c
    rw [if_pos rfl, if_pos ⟨h1, by omega, h⟩]
  · rw [if_neg c]
    by_cases c2 : 1 ≤ i ∧ i < n ∧ m_from st be i s k
    · rw [if_pos c2, if_pos ⟨c2.1, by omega, c2.2.2⟩]
    · rw [if_neg c2, if_neg (fun q => c2 ⟨q.1, by omega, q.2.2⟩)]
theorem m_set_F {st be f : Nat → Int32} {s k x : Int32} {n : Nat} (h : ¬ m_from st be n s k) : m_set st be f s k x n = m_set st be f s k x (n + 1) := by
  funext i
  unfold m_set
  by_cases c2 : 1 ≤ i ∧ i < n ∧ m_from st be i s k
  · rw [if_pos c2, if_pos ⟨c2.1, by omega, c2.2.2⟩]
  · rw [if_neg c2, if_neg (fun q => c2 ⟨q.1, by
      rcases Nat.lt_or_ge i n with w | w
      · exact w
      · have e : i = n := by omega
        rw [e] at q
        exact absurd q.2.2 h, q.2.2⟩)]
theorem m_set_at {st be f : Nat → Int32} {s k x : Int32} {n i : Nat} (h : n ≤ i) : m_set st be f s k x n i = f i := if_neg (fun q => by omega)
def m_cnt (st be : Nat → Int32) (s k : Int32) : Nat → Nat
  | 0 => 0
  | n + 1 => m_cnt st be s k n + if 1 ≤ n ∧ m_from st be n s k then 1 else 0
theorem m_cnt_T {st be : Nat → Int32} {s k : Int32} {n : Nat} (h1 : 1 ≤ n) (h : m_from st be n s k) : m_cnt st be s k (n + 1) = m_cnt st be s k n + 1 := by
  show m_cnt st be s k n + (if 1 ≤ n ∧ m_from st be n s k then 1 else 0) = _
  rw [if_pos ⟨h1, h⟩]
theorem m_cnt_F {st be : Nat → Int32} {s k : Int32} {n : Nat} (h : ¬ m_from st be n s k) : m_cnt st be s k (n + 1) = m_cnt st be s k n := by
  show m_cnt st be s k n + (if 1 ≤ n ∧ m_from st be n s k then 1 else 0) = _
  rw [if_neg (fun q => h q.2), Nat.add_zero]
theorem m_cnt_le (st be : Nat → Int32) (s k : Int32) : ∀ n : Nat, m_cnt st be s k n ≤ n
  | 0 => Nat.le_refl _
  | n + 1 => by
    have := m_cnt_le st be s k n
    unfold m_cnt
    split <;> omega
theorem m_upd_id {f : Nat → Int32} {n : Nat} : upd f n (f n) = f := by
  funext i
  unfold upd
  by_cases c : i = n
  · rw [if_pos c, c]
  · rw [if_neg c]
section ML
variable {l : Launch} {D : va_G} {κ : Nat → ClassId} {z : Nat × Nat} {a : Nat → Nat} {g cm : Int32} {st be ro pl ha mo co to sn le : Nat → Int32}
variable {p : Program} {e : Env} {R : Room} {s0 : State} {m : MethodId} {args : Array Value} {below : List Frame} {meth : Method} {c : Code} {A : Nat → Prop} {Q : State → Prop}
set_option maxHeartbeats 4000000 in
set_option maxRecDepth 100000 in
theorem l_M_release {j k G0 : Nat} (hC : vx p s0 m args meth c b_M_release 4 R_M D (gk κ, z) A) (hR : 0 + 1 ≤ R.frames ∧ 8 + (4 + 11) + 40 * 0 ≤ R.locals) (hg : g = nI G0) (hG : G0 ≤ 4000) (hk : 1 ≤ k) (exit : U p l e R s0 m args below meth c 4 D A (mw κ a g cm st (m_set st be be (nI j) (nI k) (nI (8 * j + k - 1)) (G0 + 1)) ro pl ha mo co to sn le) 0 0 Q 74 [(3, .int (nI (G0 + 1))), (0, .ref (a 0)), (1, .int (nI j)), (2, .int (nI k))] []) :
    ∀ r i : Nat, i + r = G0 + 1 → 1 ≤ i → U p l e R s0 m args below meth c 4 D A (mw κ a g cm st (m_set st be be (nI j) (nI k) (nI (8 * j + k - 1)) i) ro pl ha mo co to sn le) 0 0 Q 27 [(3, .int (nI i)), (0, .ref (a 0)), (1, .int (nI j)), (2, .int (nI k))] [] := by
  intro r
  induction r with
  | zero =>
    intro i hi h1
    have hi2 : i = G0 + 1 := by omega
    subst hi2
    refine u_iload_n hC d_M_release_27 rfl ?_
    refine u_aload_n hC d_M_release_28 rfl ?_
    refine u_get hC f_M_41 0 rfl rfl d_M_release_29 ?_
    refine u_icmp_gt hC 74 d_M_release_32 (by decide) (fun h_32 => ?_) (fun h_32 => absurd (by rw [hg]; exact nI_lt (by omega) (by omega)) h_32)
    exact exit
  | succ r ih =>
    intro i hi h1
    by_cases hf : m_from st be i (nI j) (nI k)
    · refine u_iload_n hC d_M_release_27 rfl ?_
      refine u_aload_n hC d_M_release_28 rfl ?_
      refine u_get hC f_M_41 0 rfl rfl d_M_release_29 ?_
      refine u_icmp_gt hC 74 d_M_release_32 (by decide) (fun h_32 => absurd h_32 (by rw [hg]; exact nI_nlt (by omega) (by omega))) (fun h_32 => ?_)
      refine u_aload_n hC d_M_release_35 rfl ?_
      refine u_get hC f_M_13 0 rfl rfl d_M_release_36 ?_
      refine u_iload_n hC d_M_release_39 rfl ?_
      refine u_aload_n hC d_M_release_40 rfl ?_
      refine u_iload_n hC d_M_release_41 rfl ?_
      refine u_iload_n hC d_M_release_42 rfl ?_
      refine u_iload_n hC d_M_release_43 rfl ?_
      refine u_callVr hC (c_M_isFromT (by omega) (by unfold m_from at hf ⊢; rw [m_set_at (Nat.le_refl _)]; exact hf)) k_M_52 i_M_isFrom (q0 := 0) rfl rfl hR ⟨Nat.zero_le _, Nat.zero_le _⟩ rfl rfl (Nat.le_of_ble_eq_true rfl) d_M_release_44 ?_
      refine u_if_eq hC 61 d_M_release_47 (by decide) (fun h_47 => absurd h_47 (by decide)) (fun h_47 => ?_)
      refine u_bipush hC (nI 8) d_M_release_50 (by decide) ?_
      refine u_iload_n hC d_M_release_52 rfl ?_
      refine u_imul hC d_M_release_53 ?_
      refine u_iload_n hC d_M_release_54 rfl ?_
      refine u_iadd hC d_M_release_55 ?_
      refine u_iconst hC (nI 1) d_M_release_56 (by decide) ?_
      refine u_isub hC d_M_release_57 ?_
      refine u_val (x' := nI (8 * j + k - 1)) (by rw [n_8, pk_sub (by omega)]) ?_
      refine u_goto hC 67 d_M_release_58 (by decide) ?_
      refine p_iast hC 2 0 rfl rfl i rfl (by omega) (by decide) rfl d_M_release_67 ?_
      refine u_iinc hC (nI (i + 1)) (j := 0) d_M_release_68 rfl (nI_1 i) (by decide) ?_
      refine u_eqw (ws' := (mw κ a g cm st (m_set st be be (nI j) (nI k) (nI (8 * j + k - 1)) (i + 1)) ro pl ha mo co to sn le)) (congrArg (fun f => (mw κ a g cm st f ro pl ha mo co to sn le)) (m_set_T h1 hf)) ?_
      refine u_goto hC 27 d_M_release_71 (by decide) ?_
      exact ih (i + 1) (by omega) (by omega)
    · refine u_iload_n hC d_M_release_27 rfl ?_
      refine u_aload_n hC d_M_release_28 rfl ?_
      refine u_get hC f_M_41 0 rfl rfl d_M_release_29 ?_
      refine u_icmp_gt hC 74 d_M_release_32 (by decide) (fun h_32 => absurd h_32 (by rw [hg]; exact nI_nlt (by omega) (by omega))) (fun h_32 => ?_)
      refine u_aload_n hC d_M_release_35 rfl ?_
      refine u_get hC f_M_13 0 rfl rfl d_M_release_36 ?_
      refine u_iload_n hC d_M_release_39 rfl ?_
      refine u_aload_n hC d_M_release_40 rfl ?_
      refine u_iload_n hC d_M_release_41 rfl ?_
      refine u_iload_n hC d_M_release_42 rfl ?_
      refine u_iload_n hC d_M_release_43 rfl ?_
      refine u_callVr hC (c_M_isFromF (by omega) (by unfold m_from at hf ⊢; rw [m_set_at (Nat.le_refl _)]; exact hf)) k_M_52 i_M_isFrom (q0 := 0) rfl rfl hR ⟨Nat.zero_le _, Nat.zero_le _⟩ rfl rfl (Nat.le_of_ble_eq_true rfl) d_M_release_44 ?_
      refine u_if_eq hC 61 d_M_release_47 (by decide) (fun h_47 => ?_) (fun h_47 => absurd rfl h_47)
      refine u_aload_n hC d_M_release_61 rfl ?_
      refine u_get hC f_M_13 0 rfl rfl d_M_release_62 ?_
      refine u_iload_n hC d_M_release_65 rfl ?_
      refine p_iald hC 2 0 rfl rfl i rfl (by omega) (by decide) d_M_release_66 ?_
      refine p_iast hC 2 0 rfl rfl i rfl (by omega) (by decide) rfl d_M_release_67 ?_
      refine u_iinc hC (nI (i + 1)) (j := 0) d_M_release_68 rfl (nI_1 i) (by decide) ?_
      refine u_eqw (ws' := (mw κ a g cm st (m_set st be be (nI j) (nI k) (nI (8 * j + k - 1)) (i + 1)) ro pl ha mo co to sn le)) (congrArg (fun f => (mw κ a g cm st f ro pl ha mo co to sn le)) (m_upd_id.trans (m_set_F hf))) ?_
      refine u_goto hC 27 d_M_release_71 (by decide) ?_
      exact ih (i + 1) (by omega) (by omega)
set_option maxHeartbeats 4000000 in
set_option maxRecDepth 100000 in
theorem l_M_back {j k G0 : Nat} (hC : vx p s0 m args meth c b_M_back 4 R_M D (gk κ, z) A) (hR : 0 + 1 ≤ R.frames ∧ 8 + (4 + 11) + 40 * 0 ≤ R.locals) (hg : g = nI G0) (hG : G0 ≤ 4000) (hk : 1 ≤ k) (exit : U p l e R s0 m args below meth c 4 D A (mw κ a g cm (m_set st be st (nI j) (nI k) (nI 3) (G0 + 1)) be ro pl ha mo co to sn le) 0 0 Q 67 [(3, .int (nI (G0 + 1))), (0, .ref (a 0)), (1, .int (nI j)), (2, .int (nI k))] []) :
    ∀ r i : Nat, i + r = G0 + 1 → 1 ≤ i → U p l e R s0 m args below meth c 4 D A (mw κ a g cm (m_set st be st (nI j) (nI k) (nI 3) i) be ro pl ha mo co to sn le) 0 0 Q 27 [(3, .int (nI i)), (0, .ref (a 0)), (1, .int (nI j)), (2, .int (nI k))] [] := by
  intro r
  induction r with
  | zero =>
    intro i hi h1
    have hi2 : i = G0 + 1 := by omega
    subst hi2
    refine u_iload_n hC d_M_back_27 rfl ?_
    refine u_aload_n hC d_M_back_28 rfl ?_
    refine u_get hC f_M_41 0 rfl rfl d_M_back_29 ?_
    refine u_icmp_gt hC 67 d_M_back_32 (by decide) (fun h_32 => ?_) (fun h_32 => absurd (by rw [hg]; exact nI_lt (by omega) (by omega)) h_32)
    exact exit
  | succ r ih =>
    intro i hi h1
    by_cases hf : m_from st be i (nI j) (nI k)
    · refine u_iload_n hC d_M_back_27 rfl ?_
      refine u_aload_n hC d_M_back_28 rfl ?_
      refine u_get hC f_M_41 0 rfl rfl d_M_back_29 ?_
      refine u_icmp_gt hC 67 d_M_back_32 (by decide) (fun h_32 => absurd h_32 (by rw [hg]; exact nI_nlt (by omega) (by omega))) (fun h_32 => ?_)
      refine u_aload_n hC d_M_back_35 rfl ?_
      refine u_get hC f_M_7 0 rfl rfl d_M_back_36 ?_
      refine u_iload_n hC d_M_back_39 rfl ?_
      refine u_aload_n hC d_M_back_40 rfl ?_
      refine u_iload_n hC d_M_back_41 rfl ?_
      refine u_iload_n hC d_M_back_42 rfl ?_
      refine u_iload_n hC d_M_back_43 rfl ?_
      refine u_callVr hC (c_M_isFromT (by omega) (by unfold m_from at hf ⊢; rw [m_set_at (Nat.le_refl _)]; exact hf)) k_M_52 i_M_isFrom (q0 := 0) rfl rfl hR ⟨Nat.zero_le _, Nat.zero_le _⟩ rfl rfl (Nat.le_of_ble_eq_true rfl) d_M_back_44 ?_
      refine u_if_eq hC 54 d_M_back_47 (by decide) (fun h_47 => absurd h_47 (by decide)) (fun h_47 => ?_)
      refine u_iconst hC (nI 3) d_M_back_50 (by decide) ?_
      refine u_goto hC 60 d_M_back_51 (by decide) ?_
      refine p_iast hC 1 0 rfl rfl i rfl (by omega) (by decide) rfl d_M_back_60 ?_
      refine u_iinc hC (nI (i + 1)) (j := 0) d_M_back_61 rfl (nI_1 i) (by decide) ?_
      refine u_eqw (ws' := (mw κ a g cm (m_set st be st (nI j) (nI k) (nI 3) (i + 1)) be ro pl ha mo co to sn le)) (congrArg (fun f => (mw κ a g cm f be ro pl ha mo co to sn le)) (m_set_T h1 hf)) ?_
      refine u_goto hC 27 d_M_back_64 (by decide) ?_
      exact ih (i + 1) (by omega) (by omega)
    · refine u_iload_n hC d_M_back_27 rfl ?_
      refine u_aload_n hC d_M_back_28 rfl ?_
      refine u_get hC f_M_41 0 rfl rfl d_M_back_29 ?_
      refine u_icmp_gt hC 67 d_M_back_32 (by decide) (fun h_32 => absurd h_32 (by rw [hg]; exact nI_nlt (by omega) (by omega))) (fun h_32 => ?_)
      refine u_aload_n hC d_M_back_35 rfl ?_
      refine u_get hC f_M_7 0 rfl rfl d_M_back_36 ?_
      refine u_iload_n hC d_M_back_39 rfl ?_
      refine u_aload_n hC d_M_back_40 rfl ?_
      refine u_iload_n hC d_M_back_41 rfl ?_
      refine u_iload_n hC d_M_back_42 rfl ?_
      refine u_iload_n hC d_M_back_43 rfl ?_
      refine u_callVr hC (c_M_isFromF (by omega) (by unfold m_from at hf ⊢; rw [m_set_at (Nat.le_refl _)]; exact hf)) k_M_52 i_M_isFrom (q0 := 0) rfl rfl hR ⟨Nat.zero_le _, Nat.zero_le _⟩ rfl rfl (Nat.le_of_ble_eq_true rfl) d_M_back_44 ?_
      refine u_if_eq hC 54 d_M_back_47 (by decide) (fun h_47 => ?_) (fun h_47 => absurd rfl h_47)
      refine u_aload_n hC d_M_back_54 rfl ?_
      refine u_get hC f_M_7 0 rfl rfl d_M_back_55 ?_
      refine u_iload_n hC d_M_back_58 rfl ?_
      refine p_iald hC 1 0 rfl rfl i rfl (by omega) (by decide) d_M_back_59 ?_
      refine p_iast hC 1 0 rfl rfl i rfl (by omega) (by decide) rfl d_M_back_60 ?_
      refine u_iinc hC (nI (i + 1)) (j := 0) d_M_back_61 rfl (nI_1 i) (by decide) ?_
      refine u_eqw (ws' := (mw κ a g cm (m_set st be st (nI j) (nI k) (nI 3) (i + 1)) be ro pl ha mo co to sn le)) (congrArg (fun f => (mw κ a g cm f be ro pl ha mo co to sn le)) (m_upd_id.trans (m_set_F hf))) ?_
      refine u_goto hC 27 d_M_back_64 (by decide) ?_
      exact ih (i + 1) (by omega) (by omega)
set_option maxHeartbeats 4000000 in
set_option maxRecDepth 100000 in
theorem l_M_ends2 {j G0 : Nat} (hC : vx p s0 m args meth c b_M_ends 5 R_M D (gk κ, z) A) (hR : 0 + 1 ≤ R.frames ∧ 8 + (4 + 11) + 40 * 0 ≤ R.locals) (hg : g = nI G0) (hG : G0 ≤ 4000) (exit : U p l e R s0 m args below meth c 5 D A (mw κ a g cm (m_set st be st (nI j) (nI 0) (nI 2) (G0 + 1)) be ro (m_set st be pl (nI j) (nI 0) (cm + nI 1) (G0 + 1)) ha mo co to sn le) 0 0 Q 64 [(4, .int (nI (G0 + 1))), (3, .int (nI (m_cnt st be (nI j) (nI 0) (G0 + 1)))), (0, .ref (a 0)), (1, .int (nI j)), (2, .int (nI 2))] []) :
    ∀ r i : Nat, i + r = G0 + 1 → 1 ≤ i → U p l e R s0 m args below meth c 5 D A (mw κ a g cm (m_set st be st (nI j) (nI 0) (nI 2) i) be ro (m_set st be pl (nI j) (nI 0) (cm + nI 1) i) ha mo co to sn le) 0 0 Q 5 [(4, .int (nI i)), (3, .int (nI (m_cnt st be (nI j) (nI 0) i))), (0, .ref (a 0)), (1, .int (nI j)), (2, .int (nI 2))] [] := by
  intro r
  induction r with
  | zero =>
    intro i hi h1
    have hi2 : i = G0 + 1 := by omega
    subst hi2
    refine u_iload hC d_M_ends_5 rfl ?_
    refine u_aload_n hC d_M_ends_7 rfl ?_
    refine u_get hC f_M_41 0 rfl rfl d_M_ends_8 ?_
    refine u_icmp_gt hC 64 d_M_ends_11 (by decide) (fun h_11 => ?_) (fun h_11 => absurd (by rw [hg]; exact nI_lt (by omega) (by omega)) h_11)
    exact exit
  | succ r ih =>
    intro i hi h1
    by_cases hf : m_from st be i (nI j) (nI 0)
    · refine u_iload hC d_M_ends_5 rfl ?_
      refine u_aload_n hC d_M_ends_7 rfl ?_
      refine u_get hC f_M_41 0 rfl rfl d_M_ends_8 ?_
      refine u_icmp_gt hC 64 d_M_ends_11 (by decide) (fun h_11 => absurd h_11 (by rw [hg]; exact nI_nlt (by omega) (by omega))) (fun h_11 => ?_)
      refine u_aload_n hC d_M_ends_14 rfl ?_
      refine u_iload hC d_M_ends_15 rfl ?_
      refine u_iload_n hC d_M_ends_17 rfl ?_
      refine u_iconst hC (nI 0) d_M_ends_18 (by decide) ?_
      refine u_callVr hC (c_M_isFromT (by omega) (by unfold m_from at hf ⊢; rw [m_set_at (Nat.le_refl _)]; exact hf)) k_M_52 i_M_isFrom (q0 := 0) rfl rfl hR ⟨Nat.zero_le _, Nat.zero_le _⟩ rfl rfl (Nat.le_of_ble_eq_true rfl) d_M_ends_19 ?_
      refine u_if_eq hC 58 d_M_ends_22 (by decide) (fun h_22 => absurd h_22 (by decide)) (fun h_22 => ?_)
      refine u_aload_n hC d_M_ends_25 rfl ?_
      refine u_get hC f_M_7 0 rfl rfl d_M_ends_26 ?_
      refine u_iload hC d_M_ends_29 rfl ?_
      refine u_iload_n hC d_M_ends_31 rfl ?_
      refine p_iast hC 1 0 rfl rfl i rfl (by omega) (by decide) rfl d_M_ends_32 ?_
      refine u_aload_n hC d_M_ends_33 rfl ?_
      refine u_get hC f_M_19 0 rfl rfl d_M_ends_34 ?_
      refine u_iload hC d_M_ends_37 rfl ?_
      refine u_iload_n hC d_M_ends_39 rfl ?_
      refine u_iconst hC (nI 2) d_M_ends_40 (by decide) ?_
      refine u_icmp_ne hC 53 d_M_ends_41 (by decide) (fun h_41 => absurd rfl h_41) (fun h_41 => ?_)
      refine u_aload_n hC d_M_ends_44 rfl ?_
      refine u_get hC f_M_49 0 rfl rfl d_M_ends_45 ?_
      refine u_iconst hC (nI 1) d_M_ends_48 (by decide) ?_
      refine u_iadd hC d_M_ends_49 ?_
      refine u_goto hC 54 d_M_ends_50 (by decide) ?_
      refine p_iast hC 4 0 rfl rfl i rfl (by omega) (by decide) rfl d_M_ends_54 ?_
      refine u_iinc hC (nI (m_cnt st be (nI j) (nI 0) (i + 1))) (j := 1) d_M_ends_55 rfl (by rw [m_cnt_T h1 hf]; exact nI_1 _) (by decide) ?_
      refine u_iinc hC (nI (i + 1)) (j := 1) d_M_ends_58 rfl (nI_1 i) (by decide) ?_
      refine u_goto hC 5 d_M_ends_61 (by decide) ?_
      refine u_pick [0, 1, 2, 3, 4] rfl ?_
      refine u_eqw (ws' := (mw κ a g cm (m_set st be st (nI j) (nI 0) (nI 2) (i + 1)) be ro (m_set st be pl (nI j) (nI 0) (cm + nI 1) (i + 1)) ha mo co to sn le)) (by rw [← m_set_T h1 hf (f := st), ← m_set_T h1 hf (f := pl)]; rfl) ?_
      exact ih (i + 1) (by omega) (by omega)
    · refine u_iload hC d_M_ends_5 rfl ?_
      refine u_aload_n hC d_M_ends_7 rfl ?_
      refine u_get hC f_M_41 0 rfl rfl d_M_ends_8 ?_
      refine u_icmp_gt hC 64 d_M_ends_11 (by decide) (fun h_11 => absurd h_11 (by rw [hg]; exact nI_nlt (by omega) (by omega))) (fun h_11 => ?_)
      refine u_aload_n hC d_M_ends_14 rfl ?_
      refine u_iload hC d_M_ends_15 rfl ?_
      refine u_iload_n hC d_M_ends_17 rfl ?_
      refine u_iconst hC (nI 0) d_M_ends_18 (by decide) ?_
      refine u_callVr hC (c_M_isFromF (by omega) (by unfold m_from at hf ⊢; rw [m_set_at (Nat.le_refl _)]; exact hf)) k_M_52 i_M_isFrom (q0 := 0) rfl rfl hR ⟨Nat.zero_le _, Nat.zero_le _⟩ rfl rfl (Nat.le_of_ble_eq_true rfl) d_M_ends_19 ?_
      refine u_if_eq hC 58 d_M_ends_22 (by decide) (fun h_22 => ?_) (fun h_22 => absurd rfl h_22)
      refine u_iinc hC (nI (i + 1)) (j := 0) d_M_ends_58 rfl (nI_1 i) (by decide) ?_
      refine u_goto hC 5 d_M_ends_61 (by decide) ?_
      rw [← m_cnt_F hf]
      refine u_pick [0, 1, 2, 3, 4] rfl ?_
      refine u_eqw (ws' := (mw κ a g cm (m_set st be st (nI j) (nI 0) (nI 2) (i + 1)) be ro (m_set st be pl (nI j) (nI 0) (cm + nI 1) (i + 1)) ha mo co to sn le)) (by rw [← m_set_F hf (f := st), ← m_set_F hf (f := pl)]) ?_
      exact ih (i + 1) (by omega) (by omega)
set_option maxHeartbeats 4000000 in
set_option maxRecDepth 100000 in
theorem l_M_ends3 {j G0 : Nat} (hC : vx p s0 m args meth c b_M_ends 5 R_M D (gk κ, z) A) (hR : 0 + 1 ≤ R.frames ∧ 8 + (4 + 11) + 40 * 0 ≤ R.locals) (hg : g = nI G0) (hG : G0 ≤ 4000) (exit : U p l e R s0 m args below meth c 5 D A (mw κ a g cm (m_set st be st (nI j) (nI 0) (nI 3) (G0 + 1)) be ro (m_set st be pl (nI j) (nI 0) (nI 0) (G0 + 1)) ha mo co to sn le) 0 0 Q 64 [(4, .int (nI (G0 + 1))), (3, .int (nI (m_cnt st be (nI j) (nI 0) (G0 + 1)))), (0, .ref (a 0)), (1, .int (nI j)), (2, .int (nI 3))] []) :
    ∀ r i : Nat, i + r = G0 + 1 → 1 ≤ i → U p l e R s0 m args below meth c 5 D A (mw κ a g cm (m_set st be st (nI j) (nI 0) (nI 3) i) be ro (m_set st be pl (nI j) (nI 0) (nI 0) i) ha mo co to sn le) 0 0 Q 5 [(4, .int (nI i)), (3, .int (nI (m_cnt st be (nI j) (nI 0) i))), (0, .ref (a 0)), (1, .int (nI j)), (2, .int (nI 3))] [] := by
  intro r
  induction r with
  | zero =>
    intro i hi h1
    have hi2 : i = G0 + 1 := by omega
    subst hi2
    refine u_iload hC d_M_ends_5 rfl ?_
    refine u_aload_n hC d_M_ends_7 rfl ?_
    refine u_get hC f_M_41 0 rfl rfl d_M_ends_8 ?_
    refine u_icmp_gt hC 64 d_M_ends_11 (by decide) (fun h_11 => ?_) (fun h_11 => absurd (by rw [hg]; exact nI_lt (by omega) (by omega)) h_11)
    exact exit
  | succ r ih =>
    intro i hi h1
    by_cases hf : m_from st be i (nI j) (nI 0)
    · refine u_iload hC d_M_ends_5 rfl ?_
      refine u_aload_n hC d_M_ends_7 rfl ?_
      refine u_get hC f_M_41 0 rfl rfl d_M_ends_8 ?_
      refine u_icmp_gt hC 64 d_M_ends_11 (by decide) (fun h_11 => absurd h_11 (by rw [hg]; exact nI_nlt (by omega) (by omega))) (fun h_11 => ?_)
      refine u_aload_n hC d_M_ends_14 rfl ?_
      refine u_iload hC d_M_ends_15 rfl ?_
      refine u_iload_n hC d_M_ends_17 rfl ?_
      refine u_iconst hC (nI 0) d_M_ends_18 (by decide) ?_
      refine u_callVr hC (c_M_isFromT (by omega) (by unfold m_from at hf ⊢; rw [m_set_at (Nat.le_refl _)]; exact hf)) k_M_52 i_M_isFrom (q0 := 0) rfl rfl hR ⟨Nat.zero_le _, Nat.zero_le _⟩ rfl rfl (Nat.le_of_ble_eq_true rfl) d_M_ends_19 ?_
      refine u_if_eq hC 58 d_M_ends_22 (by decide) (fun h_22 => absurd h_22 (by decide)) (fun h_22 => ?_)
      refine u_aload_n hC d_M_ends_25 rfl ?_
      refine u_get hC f_M_7 0 rfl rfl d_M_ends_26 ?_
      refine u_iload hC d_M_ends_29 rfl ?_
      refine u_iload_n hC d_M_ends_31 rfl ?_
      refine p_iast hC 1 0 rfl rfl i rfl (by omega) (by decide) rfl d_M_ends_32 ?_
      refine u_aload_n hC d_M_ends_33 rfl ?_
      refine u_get hC f_M_19 0 rfl rfl d_M_ends_34 ?_
      refine u_iload hC d_M_ends_37 rfl ?_
      refine u_iload_n hC d_M_ends_39 rfl ?_
      refine u_iconst hC (nI 2) d_M_ends_40 (by decide) ?_
      refine u_icmp_ne hC 53 d_M_ends_41 (by decide) (fun h_41 => ?_) (fun h_41 => absurd h_41 (by decide))
      refine u_iconst hC (nI 0) d_M_ends_53 (by decide) ?_
      refine p_iast hC 4 0 rfl rfl i rfl (by omega) (by decide) rfl d_M_ends_54 ?_
      refine u_iinc hC (nI (m_cnt st be (nI j) (nI 0) (i + 1))) (j := 1) d_M_ends_55 rfl (by rw [m_cnt_T h1 hf]; exact nI_1 _) (by decide) ?_
      refine u_iinc hC (nI (i + 1)) (j := 1) d_M_ends_58 rfl (nI_1 i) (by decide) ?_
      refine u_goto hC 5 d_M_ends_61 (by decide) ?_
      refine u_pick [0, 1, 2, 3, 4] rfl ?_
      refine u_eqw (ws' := (mw κ a g cm (m_set st be st (nI j) (nI 0) (nI 3) (i + 1)) be ro (m_set st be pl (nI j) (nI 0) (nI 0) (i + 1)) ha mo co to sn le)) (by rw [← m_set_T h1 hf (f := st), ← m_set_T h1 hf (f := pl)]; rfl) ?_
      exact ih (i + 1) (by omega) (by omega)
    · refine u_iload hC d_M_ends_5 rfl ?_
      refine u_aload_n hC d_M_ends_7 rfl ?_
      refine u_get hC f_M_41 0 rfl rfl d_M_ends_8 ?_
      refine u_icmp_gt hC 64 d_M_ends_11 (by decide) (fun h_11 => absurd h_11 (by rw [hg]; exact nI_nlt (by omega) (by omega))) (fun h_11 => ?_)
      refine u_aload_n hC d_M_ends_14 rfl ?_
      refine u_iload hC d_M_ends_15 rfl ?_
      refine u_iload_n hC d_M_ends_17 rfl ?_
      refine u_iconst hC (nI 0) d_M_ends_18 (by decide) ?_
      refine u_callVr hC (c_M_isFromF (by omega) (by unfold m_from at hf ⊢; rw [m_set_at (Nat.le_refl _)]; exact hf)) k_M_52 i_M_isFrom (q0 := 0) rfl rfl hR ⟨Nat.zero_le _, Nat.zero_le _⟩ rfl rfl (Nat.le_of_ble_eq_true rfl) d_M_ends_19 ?_
      refine u_if_eq hC 58 d_M_ends_22 (by decide) (fun h_22 => ?_) (fun h_22 => absurd rfl h_22)
      refine u_iinc hC (nI (i + 1)) (j := 0) d_M_ends_58 rfl (nI_1 i) (by decide) ?_
      refine u_goto hC 5 d_M_ends_61 (by decide) ?_
      rw [← m_cnt_F hf]
      refine u_pick [0, 1, 2, 3, 4] rfl ?_
      refine u_eqw (ws' := (mw κ a g cm (m_set st be st (nI j) (nI 0) (nI 3) (i + 1)) be ro (m_set st be pl (nI j) (nI 0) (nI 0) (i + 1)) ha mo co to sn le)) (by rw [← m_set_F hf (f := st), ← m_set_F hf (f := pl)]) ?_
      exact ih (i + 1) (by omega) (by omega)
end ML
end
section
section MM
variable {l : Launch} {D : va_G} {κ : Nat → ClassId} {z : Nat × Nat} {a : Nat → Nat} {g cm : Int32} {st be ro pl ha mo co to sn le : Nat → Int32}
set_option maxHeartbeats 4000000 in
set_option maxRecDepth 100000 in
theorem c_M_releaseF0 {s x : Int32} (hb : ¬ ∃ j : Nat, j < 6 ∧ s = nI j ∧ ¬ ha j = 0) : Ct l y_M_release b_M_release 4 (some .boolean) 1 0 0 D (gk κ, z) (mw κ a g cm st be ro pl ha mo co to sn le) [.ref (a 0), .int s, .int x] (rt (.int 0) (mw κ a g cm st be ro pl ha mo co to sn le)) := by
  refine Ct.of (by decide) (Nat.le_of_ble_eq_true rfl) ?_
  intro p e s0 m below meth c A hC hr hn
  refine u_aload_n hC d_M_release_0 rfl ?_
  refine u_iload_n hC d_M_release_1 rfl ?_
  refine u_callVr hC (c_M_runsF hb) k_M_45 i_M_runs (q0 := 0) rfl rfl ⟨(Nat.le_of_ble_eq_true rfl), (Nat.le_of_ble_eq_true rfl)⟩ ⟨(Nat.le_of_ble_eq_true rfl), (Nat.le_of_ble_eq_true rfl)⟩ rfl rfl (Nat.le_of_ble_eq_true rfl) d_M_release_2 ?_
  refine u_if_eq hC 23 d_M_release_5 (by decide) (fun h_5 => ?_) (fun h_5 => absurd rfl h_5)
  refine u_iconst hC (nI 0) d_M_release_23 (by decide) ?_
  exact u_zret hC hr rfl d_M_release_24 (Nat.le_of_ble_eq_true rfl) (Nat.le_of_ble_eq_true rfl) ⟨rfl, rfl⟩
set_option maxHeartbeats 4000000 in
set_option maxRecDepth 100000 in
theorem c_M_releaseF1 {j t : Nat} {x : Int32} (hj : j < 6) (hh : ¬ ha j = 0) (ht : to j = nI t) (ht7 : t ≤ 7) (hk : ¬ ∃ k : Nat, 1 ≤ k ∧ k ≤ t ∧ x = nI k) : Ct l y_M_release b_M_release 4 (some .boolean) 1 0 0 D (gk κ, z) (mw κ a g cm st be ro pl ha mo co to sn le) [.ref (a 0), .int (nI j), .int x] (rt (.int 0) (mw κ a g cm st be ro pl ha mo co to sn le)) := by
  refine Ct.of (by decide) (Nat.le_of_ble_eq_true rfl) ?_
  intro p e s0 m below meth c A hC hr hn
  refine u_aload_n hC d_M_release_0 rfl ?_
  refine u_iload_n hC d_M_release_1 rfl ?_
  refine u_callVr hC (c_M_runsT hj hh) k_M_45 i_M_runs (q0 := 0) rfl rfl ⟨(Nat.le_of_ble_eq_true rfl), (Nat.le_of_ble_eq_true rfl)⟩ ⟨(Nat.le_of_ble_eq_true rfl), (Nat.le_of_ble_eq_true rfl)⟩ rfl rfl (Nat.le_of_ble_eq_true rfl) d_M_release_2 ?_
  refine u_if_eq hC 23 d_M_release_5 (by decide) (fun h_5 => absurd h_5 (by decide)) (fun h_5 => ?_)
  refine u_iload_n hC d_M_release_8 rfl ?_
  refine u_iconst hC (nI 1) d_M_release_9 (by decide) ?_
  refine u_icmp_lt hC 23 d_M_release_10 (by decide) (fun h_10 => ?_) (fun h_10 => ?_)
  · refine u_iconst hC (nI 0) d_M_release_23 (by decide) ?_
    exact u_zret hC hr rfl d_M_release_24 (Nat.le_of_ble_eq_true rfl) (Nat.le_of_ble_eq_true rfl) ⟨rfl, rfl⟩
  · refine u_iload_n hC d_M_release_13 rfl ?_
    refine u_aload_n hC d_M_release_14 rfl ?_
    refine u_get hC f_M_32 0 rfl rfl d_M_release_15 ?_
    refine u_iload_n hC d_M_release_18 rfl ?_
    refine p_iald hC 8 0 rfl rfl j rfl hj (by decide) d_M_release_19 ?_
    refine u_icmp_le hC 25 d_M_release_20 (by decide) (fun h_20 => ?_) (fun h_20 => ?_)
    · exact absurd (n_rng (by omega) (by decide) h_10 (by rw [ht] at h_20; exact Int32.not_lt.mpr h_20)) hk
    · refine u_iconst hC (nI 0) d_M_release_23 (by decide) ?_
      exact u_zret hC hr rfl d_M_release_24 (Nat.le_of_ble_eq_true rfl) (Nat.le_of_ble_eq_true rfl) ⟨rfl, rfl⟩
set_option maxHeartbeats 4000000 in
set_option maxRecDepth 100000 in
theorem c_M_releaseT {j t k G0 : Nat} (hj : j < 6) (hh : ¬ ha j = 0) (ht : to j = nI t) (ht7 : t ≤ 7) (hg : g = nI G0) (hG : G0 ≤ 4000) (hk : 1 ≤ k) (hk2 : k ≤ t) : Ct l y_M_release b_M_release 4 (some .boolean) 1 0 0 D (gk κ, z) (mw κ a g cm st be ro pl ha mo co to sn le) [.ref (a 0), .int (nI j), .int (nI k)] (rt (.int 1) (mw κ a g cm st (m_set st be be (nI j) (nI k) (nI (8 * j + k - 1)) (G0 + 1)) ro pl ha mo co (upd to j (nI (k - 1))) sn le)) := by
  refine Ct.of (by decide) (Nat.le_of_ble_eq_true rfl) ?_
  intro p e s0 m below meth c A hC hr hn
  refine u_aload_n hC d_M_release_0 rfl ?_
  refine u_iload_n hC d_M_release_1 rfl ?_
  refine u_callVr hC (c_M_runsT hj hh) k_M_45 i_M_runs (q0 := 0) rfl rfl ⟨(Nat.le_of_ble_eq_true rfl), (Nat.le_of_ble_eq_true rfl)⟩ ⟨(Nat.le_of_ble_eq_true rfl), (Nat.le_of_ble_eq_true rfl)⟩ rfl rfl (Nat.le_of_ble_eq_true rfl) d_M_release_2 ?_
  refine u_if_eq hC 23 d_M_release_5 (by decide) (fun h_5 => absurd h_5 (by decide)) (fun h_5 => ?_)
  refine u_iload_n hC d_M_release_8 rfl ?_
  refine u_iconst hC (nI 1) d_M_release_9 (by decide) ?_
  refine u_icmp_lt hC 23 d_M_release_10 (by decide) (fun h_10 => absurd h_10 (nI_nlt hk (by omega))) (fun h_10 => ?_)
  refine u_iload_n hC d_M_release_13 rfl ?_
  refine u_aload_n hC d_M_release_14 rfl ?_
  refine u_get hC f_M_32 0 rfl rfl d_M_release_15 ?_
  refine u_iload_n hC d_M_release_18 rfl ?_
  refine p_iald hC 8 0 rfl rfl j rfl hj (by decide) d_M_release_19 ?_
  refine u_icmp_le hC 25 d_M_release_20 (by decide) (fun h_20 => ?_) (fun h_20 => absurd (by rw [ht]; exact nI_le hk2 (by omega)) h_20)
  refine u_iconst hC (nI 1) d_M_release_25 (by decide) ?_
  refine u_istore_n hC d_M_release_26 (by decide) ?_
  refine u_eqw (ws' := (mw κ a g cm st (m_set st be be (nI j) (nI k) (nI (8 * j + k - 1)) 1) ro pl ha mo co to sn le)) (congrArg (fun f => (mw κ a g cm st f ro pl ha mo co to sn le)) m_set_1.symm) ?_
  refine l_M_release hC ⟨(Nat.le_of_ble_eq_true rfl), (Nat.le_of_ble_eq_true rfl)⟩ hg hG hk ?_ G0 1 (by omega) (by omega)
  refine u_aload_n hC d_M_release_74 rfl ?_
  refine u_get hC f_M_32 0 rfl rfl d_M_release_75 ?_
  refine u_iload_n hC d_M_release_78 rfl ?_
  refine u_iload_n hC d_M_release_79 rfl ?_
  refine u_iconst hC (nI 1) d_M_release_80 (by decide) ?_
  refine u_isub hC d_M_release_81 ?_
  refine u_val (n_pred hk) ?_
  refine p_iast hC 8 0 rfl rfl j rfl hj (by decide) rfl d_M_release_82 ?_
  refine u_iconst hC (nI 1) d_M_release_83 (by decide) ?_
  exact u_zret hC hr rfl d_M_release_84 (Nat.le_of_ble_eq_true rfl) (Nat.le_of_ble_eq_true rfl) ⟨rfl, rfl⟩
set_option maxHeartbeats 4000000 in
set_option maxRecDepth 100000 in
theorem c_M_backF0 {s x : Int32} (hb : ¬ ∃ j : Nat, j < 6 ∧ s = nI j ∧ ¬ ha j = 0) : Ct l y_M_back b_M_back 4 (some .boolean) 1 0 0 D (gk κ, z) (mw κ a g cm st be ro pl ha mo co to sn le) [.ref (a 0), .int s, .int x] (rt (.int 0) (mw κ a g cm st be ro pl ha mo co to sn le)) := by
  refine Ct.of (by decide) (Nat.le_of_ble_eq_true rfl) ?_
  intro p e s0 m below meth c A hC hr hn
  refine u_aload_n hC d_M_back_0 rfl ?_
  refine u_iload_n hC d_M_back_1 rfl ?_
  refine u_callVr hC (c_M_runsF hb) k_M_45 i_M_runs (q0 := 0) rfl rfl ⟨(Nat.le_of_ble_eq_true rfl), (Nat.le_of_ble_eq_true rfl)⟩ ⟨(Nat.le_of_ble_eq_true rfl), (Nat.le_of_ble_eq_true rfl)⟩ rfl rfl (Nat.le_of_ble_eq_true rfl) d_M_back_2 ?_
  refine u_if_eq hC 23 d_M_back_5 (by decide) (fun h_5 => ?_) (fun h_5 => absurd rfl h_5)
  refine u_iconst hC (nI 0) d_M_back_23 (by decide) ?_
  exact u_zret hC hr rfl d_M_back_24 (Nat.le_of_ble_eq_true rfl) (Nat.le_of_ble_eq_true rfl) ⟨rfl, rfl⟩
set_option maxHeartbeats 4000000 in
set_option maxRecDepth 100000 in
theorem c_M_backF1 {j t : Nat} {x : Int32} (hj : j < 6) (hh : ¬ ha j = 0) (ht : to j = nI t) (ht7 : t ≤ 7) (hk : ¬ ∃ k : Nat, 1 ≤ k ∧ k ≤ t ∧ x = nI k) : Ct l y_M_back b_M_back 4 (some .boolean) 1 0 0 D (gk κ, z) (mw κ a g cm st be ro pl ha mo co to sn le) [.ref (a 0), .int (nI j), .int x] (rt (.int 0) (mw κ a g cm st be ro pl ha mo co to sn le)) := by
  refine Ct.of (by decide) (Nat.le_of_ble_eq_true rfl) ?_
  intro p e s0 m below meth c A hC hr hn
  refine u_aload_n hC d_M_back_0 rfl ?_
  refine u_iload_n hC d_M_back_1 rfl ?_
  refine u_callVr hC (c_M_runsT hj hh) k_M_45 i_M_runs (q0 := 0) rfl rfl ⟨(Nat.le_of_ble_eq_true rfl), (Nat.le_of_ble_eq_true rfl)⟩ ⟨(Nat.le_of_ble_eq_true rfl), (Nat.le_of_ble_eq_true rfl)⟩ rfl rfl (Nat.le_of_ble_eq_true rfl) d_M_back_2 ?_
  refine u_if_eq hC 23 d_M_back_5 (by decide) (fun h_5 => absurd h_5 (by decide)) (fun h_5 => ?_)
  refine u_iload_n hC d_M_back_8 rfl ?_
  refine u_iconst hC (nI 1) d_M_back_9 (by decide) ?_
  refine u_icmp_lt hC 23 d_M_back_10 (by decide) (fun h_10 => ?_) (fun h_10 => ?_)
  · refine u_iconst hC (nI 0) d_M_back_23 (by decide) ?_
    exact u_zret hC hr rfl d_M_back_24 (Nat.le_of_ble_eq_true rfl) (Nat.le_of_ble_eq_true rfl) ⟨rfl, rfl⟩
  · refine u_iload_n hC d_M_back_13 rfl ?_
    refine u_aload_n hC d_M_back_14 rfl ?_
    refine u_get hC f_M_32 0 rfl rfl d_M_back_15 ?_
    refine u_iload_n hC d_M_back_18 rfl ?_
    refine p_iald hC 8 0 rfl rfl j rfl hj (by decide) d_M_back_19 ?_
    refine u_icmp_le hC 25 d_M_back_20 (by decide) (fun h_20 => ?_) (fun h_20 => ?_)
    · exact absurd (n_rng (by omega) (by decide) h_10 (by rw [ht] at h_20; exact Int32.not_lt.mpr h_20)) hk
    · refine u_iconst hC (nI 0) d_M_back_23 (by decide) ?_
      exact u_zret hC hr rfl d_M_back_24 (Nat.le_of_ble_eq_true rfl) (Nat.le_of_ble_eq_true rfl) ⟨rfl, rfl⟩
set_option maxHeartbeats 4000000 in
set_option maxRecDepth 100000 in
theorem c_M_backT {j t k G0 : Nat} (hj : j < 6) (hh : ¬ ha j = 0) (ht : to j = nI t) (ht7 : t ≤ 7) (hg : g = nI G0) (hG : G0 ≤ 4000) (hk : 1 ≤ k) (hk2 : k ≤ t) : Ct l y_M_back b_M_back 4 (some .boolean) 1 0 0 D (gk κ, z) (mw κ a g cm st be ro pl ha mo co to sn le) [.ref (a 0), .int (nI j), .int (nI k)] (rt (.int 1) (mw κ a g cm (m_set st be st (nI j) (nI k) (nI 3) (G0 + 1)) be ro pl ha mo co (upd to j (nI k)) sn (upd le (8 * j + k) 0))) := by
  refine Ct.of (by decide) (Nat.le_of_ble_eq_true rfl) ?_
  intro p e s0 m below meth c A hC hr hn
  refine u_aload_n hC d_M_back_0 rfl ?_
  refine u_iload_n hC d_M_back_1 rfl ?_
  refine u_callVr hC (c_M_runsT hj hh) k_M_45 i_M_runs (q0 := 0) rfl rfl ⟨(Nat.le_of_ble_eq_true rfl), (Nat.le_of_ble_eq_true rfl)⟩ ⟨(Nat.le_of_ble_eq_true rfl), (Nat.le_of_ble_eq_true rfl)⟩ rfl rfl (Nat.le_of_ble_eq_true rfl) d_M_back_2 ?_
  refine u_if_eq hC 23 d_M_back_5 (by decide) (fun h_5 => absurd h_5 (by decide)) (fun h_5 => ?_)
  refine u_iload_n hC d_M_back_8 rfl ?_
  refine u_iconst hC (nI 1) d_M_back_9 (by decide) ?_
  refine u_icmp_lt hC 23 d_M_back_10 (by decide) (fun h_10 => absurd h_10 (nI_nlt hk (by omega))) (fun h_10 => ?_)
  refine u_iload_n hC d_M_back_13 rfl ?_
  refine u_aload_n hC d_M_back_14 rfl ?_
  refine u_get hC f_M_32 0 rfl rfl d_M_back_15 ?_
  refine u_iload_n hC d_M_back_18 rfl ?_
  refine p_iald hC 8 0 rfl rfl j rfl hj (by decide) d_M_back_19 ?_
  refine u_icmp_le hC 25 d_M_back_20 (by decide) (fun h_20 => ?_) (fun h_20 => absurd (by rw [ht]; exact nI_le hk2 (by omega)) h_20)
  refine u_iconst hC (nI 1) d_M_back_25 (by decide) ?_
  refine u_istore_n hC d_M_back_26 (by decide) ?_
  refine u_eqw (ws' := (mw κ a g cm (m_set st be st (nI j) (nI k) (nI 3) 1) be ro pl ha mo co to sn le)) (congrArg (fun f => (mw κ a g cm f be ro pl ha mo co to sn le)) m_set_1.symm) ?_
  refine l_M_back hC ⟨(Nat.le_of_ble_eq_true rfl), (Nat.le_of_ble_eq_true rfl)⟩ hg hG hk ?_ G0 1 (by omega) (by omega)
  refine u_aload_n hC d_M_back_67 rfl ?_
  refine u_get hC f_M_32 0 rfl rfl d_M_back_68 ?_
  refine u_iload_n hC d_M_back_71 rfl ?_
  refine u_iload_n hC d_M_back_72 rfl ?_
  refine p_iast hC 8 0 rfl rfl j rfl hj (by decide) rfl d_M_back_73 ?_
  refine u_aload_n hC d_M_back_74 rfl ?_
  refine u_get hC f_M_38 0 rfl rfl d_M_back_75 ?_
  refine u_bipush hC (nI 8) d_M_back_78 (by decide) ?_
  refine u_iload_n hC d_M_back_80 rfl ?_
  refine u_imul hC d_M_back_81 ?_
  refine u_iload_n hC d_M_back_82 rfl ?_
  refine u_iadd hC d_M_back_83 ?_
  refine u_iconst hC (nI 0) d_M_back_84 (by decide) ?_
  refine p_iast hC 10 0 rfl rfl (8 * j + k) (n_8 j k) (by omega) (by decide) rfl d_M_back_85 ?_
  refine u_iconst hC (nI 1) d_M_back_86 (by decide) ?_
  exact u_zret hC hr rfl d_M_back_87 (Nat.le_of_ble_eq_true rfl) (Nat.le_of_ble_eq_true rfl) ⟨rfl, rfl⟩
set_option maxHeartbeats 4000000 in
set_option maxRecDepth 100000 in
theorem c_M_ends2 {j G0 : Nat} (hj : j < 6) (hg : g = nI G0) (hG : G0 ≤ 4000) : Ct l y_M_ends b_M_ends 5 (some .int) 1 0 0 D (gk κ, z) (mw κ a g cm st be ro pl ha mo co to sn le) [.ref (a 0), .int (nI j), .int (nI 2)] (rt (.int (nI (m_cnt st be (nI j) (nI 0) (G0 + 1)))) (mw κ a g cm (m_set st be st (nI j) (nI 0) (nI 2) (G0 + 1)) be ro (m_set st be pl (nI j) (nI 0) (cm + nI 1) (G0 + 1)) (upd ha j 0) mo co to sn le)) := by
  refine Ct.of (by decide) (Nat.le_of_ble_eq_true rfl) ?_
  intro p e s0 m below meth c A hC hr hn
  refine u_iconst hC (nI 0) d_M_ends_0 (by decide) ?_
  refine u_istore_n hC d_M_ends_1 (by decide) ?_
  refine u_iconst hC (nI 1) d_M_ends_2 (by decide) ?_
  refine u_istore hC d_M_ends_3 (by decide) ?_
  refine u_eqw (ws' := (mw κ a g cm (m_set st be st (nI j) (nI 0) (nI 2) 1) be ro (m_set st be pl (nI j) (nI 0) (cm + nI 1) 1) ha mo co to sn le)) (by rw [m_set_1, m_set_1]) ?_
  refine l_M_ends2 hC ⟨(Nat.le_of_ble_eq_true rfl), (Nat.le_of_ble_eq_true rfl)⟩ hg hG ?_ G0 1 (by omega) (by omega)
  refine u_aload_n hC d_M_ends_64 rfl ?_
  refine u_get hC f_M_22 0 rfl rfl d_M_ends_65 ?_
  refine u_iload_n hC d_M_ends_68 rfl ?_
  refine u_iconst hC (nI 0) d_M_ends_69 (by decide) ?_
  refine p_zast hC 5 1 rfl rfl j rfl hj (by decide) rfl d_M_ends_70 ?_
  refine u_iload_n hC d_M_ends_71 rfl ?_
  exact u_iret hC hr d_M_ends_72 (Nat.le_of_ble_eq_true rfl) (Nat.le_of_ble_eq_true rfl) ⟨rfl, rfl⟩
set_option maxHeartbeats 4000000 in
set_option maxRecDepth 100000 in
theorem c_M_ends3 {j G0 : Nat} (hj : j < 6) (hg : g = nI G0) (hG : G0 ≤ 4000) : Ct l y_M_ends b_M_ends 5 (some .int) 1 0 0 D (gk κ, z) (mw κ a g cm st be ro pl ha mo co to sn le) [.ref (a 0), .int (nI j), .int (nI 3)] (rt (.int (nI (m_cnt st be (nI j) (nI 0) (G0 + 1)))) (mw κ a g cm (m_set st be st (nI j) (nI 0) (nI 3) (G0 + 1)) be ro (m_set st be pl (nI j) (nI 0) (nI 0) (G0 + 1)) (upd ha j 0) mo co to sn le)) := by
  refine Ct.of (by decide) (Nat.le_of_ble_eq_true rfl) ?_
  intro p e s0 m below meth c A hC hr hn
  refine u_iconst hC (nI 0) d_M_ends_0 (by decide) ?_
  refine u_istore_n hC d_M_ends_1 (by decide) ?_
  refine u_iconst hC (nI 1) d_M_ends_2 (by decide) ?_
  refine u_istore hC d_M_ends_3 (by decide) ?_
  refine u_eqw (ws' := (mw κ a g cm (m_set st be st (nI j) (nI 0) (nI 3) 1) be ro (m_set st be pl (nI j) (nI 0) (nI 0) 1) ha mo co to sn le)) (by rw [m_set_1, m_set_1]) ?_
  refine l_M_ends3 hC ⟨(Nat.le_of_ble_eq_true rfl), (Nat.le_of_ble_eq_true rfl)⟩ hg hG ?_ G0 1 (by omega) (by omega)
  refine u_aload_n hC d_M_ends_64 rfl ?_
  refine u_get hC f_M_22 0 rfl rfl d_M_ends_65 ?_
  refine u_iload_n hC d_M_ends_68 rfl ?_
  refine u_iconst hC (nI 0) d_M_ends_69 (by decide) ?_
  refine p_zast hC 5 1 rfl rfl j rfl hj (by decide) rfl d_M_ends_70 ?_
  refine u_iload_n hC d_M_ends_71 rfl ?_
  exact u_iret hC hr d_M_ends_72 (Nat.le_of_ble_eq_true rfl) (Nat.le_of_ble_eq_true rfl) ⟨rfl, rfl⟩
set_option maxHeartbeats 4000000 in
set_option maxRecDepth 100000 in
theorem c_M_commitF {s : Int32} (hb : ¬ ∃ j : Nat, j < 6 ∧ s = nI j ∧ ¬ ha j = 0) : Ct l y_M_commit b_M_commit 3 (some .int) 2 0 0 D (gk κ, z) (mw κ a g cm st be ro pl ha mo co to sn le) [.ref (a 0), .int s] (rt (.int (-1)) (mw κ a g cm st be ro pl ha mo co to sn le)) := by
  refine Ct.of (by decide) (Nat.le_of_ble_eq_true rfl) ?_
  intro p e s0 m below meth c A hC hr hn
  refine u_aload_n hC d_M_commit_0 rfl ?_
  refine u_iload_n hC d_M_commit_1 rfl ?_
  refine u_callVr hC (c_M_runsF hb) k_M_45 i_M_runs (q0 := 0) rfl rfl ⟨(Nat.le_of_ble_eq_true rfl), (Nat.le_of_ble_eq_true rfl)⟩ ⟨(Nat.le_of_ble_eq_true rfl), (Nat.le_of_ble_eq_true rfl)⟩ rfl rfl (Nat.le_of_ble_eq_true rfl) d_M_commit_2 ?_
  refine u_if_ne hC 10 d_M_commit_5 (by decide) (fun h_5 => absurd rfl h_5) (fun h_5 => ?_)
  refine u_iconst hC (-1) d_M_commit_8 (by decide) ?_
  exact u_iret hC hr d_M_commit_9 (Nat.le_of_ble_eq_true rfl) (Nat.le_of_ble_eq_true rfl) ⟨rfl, rfl⟩
set_option maxHeartbeats 4000000 in
set_option maxRecDepth 100000 in
theorem c_M_commitT {j G0 : Nat} (hj : j < 6) (hh : ¬ ha j = 0) (hg : g = nI G0) (hG : G0 ≤ 4000) (hc : 0 < (m_cnt st be (nI j) (nI 0) (G0 + 1))) : Ct l y_M_commit b_M_commit 3 (some .int) 2 0 0 D (gk κ, z) (mw κ a g cm st be ro pl ha mo co to sn le) [.ref (a 0), .int (nI j)] (rt (.int (cm + nI 1)) (mw κ a g (cm + nI 1) (m_set st be st (nI j) (nI 0) (nI 2) (G0 + 1)) be ro (m_set st be pl (nI j) (nI 0) (cm + nI 1) (G0 + 1)) (upd ha j 0) mo co to sn le)) := by
  refine Ct.of (by decide) (Nat.le_of_ble_eq_true rfl) ?_
  intro p e s0 m below meth c A hC hr hn
  refine u_aload_n hC d_M_commit_0 rfl ?_
  refine u_iload_n hC d_M_commit_1 rfl ?_
  refine u_callVr hC (c_M_runsT hj hh) k_M_45 i_M_runs (q0 := 0) rfl rfl ⟨(Nat.le_of_ble_eq_true rfl), (Nat.le_of_ble_eq_true rfl)⟩ ⟨(Nat.le_of_ble_eq_true rfl), (Nat.le_of_ble_eq_true rfl)⟩ rfl rfl (Nat.le_of_ble_eq_true rfl) d_M_commit_2 ?_
  refine u_if_ne hC 10 d_M_commit_5 (by decide) (fun h_5 => ?_) (fun h_5 => absurd h_5 (by decide))
  refine u_aload_n hC d_M_commit_10 rfl ?_
  refine u_iload_n hC d_M_commit_11 rfl ?_
  refine u_iconst hC (nI 2) d_M_commit_12 (by decide) ?_
  refine u_callVr hC (c_M_ends2 hj hg hG) k_M_56 i_M_ends (q0 := 0) rfl rfl ⟨(Nat.le_of_ble_eq_true rfl), (Nat.le_of_ble_eq_true rfl)⟩ ⟨(Nat.le_of_ble_eq_true rfl), (Nat.le_of_ble_eq_true rfl)⟩ rfl rfl (Nat.le_of_ble_eq_true rfl) d_M_commit_13 ?_
  refine u_istore_n hC d_M_commit_16 (by decide) ?_
  refine u_aload_n hC d_M_commit_17 rfl ?_
  refine u_iload_n hC d_M_commit_18 rfl ?_
  refine u_if_le hC 31 d_M_commit_19 (by decide) (fun h_19 => absurd h_19 (nI_nle hc (Nat.lt_of_le_of_lt (m_cnt_le _ _ _ _ _) (by omega)))) (fun h_19 => ?_)
  refine u_aload_n hC d_M_commit_22 rfl ?_
  refine u_get hC f_M_49 0 rfl rfl d_M_commit_23 ?_
  refine u_iconst hC (nI 1) d_M_commit_26 (by decide) ?_
  refine u_iadd hC d_M_commit_27 ?_
  refine u_goto hC 35 d_M_commit_28 (by decide) ?_
  refine u_put hC f_M_49 (tt_M 1 (by decide)) rfl 0 rfl rfl rfl (Nat.le_of_ble_eq_true rfl) rfl d_M_commit_35 ?_
  refine u_iload_n hC d_M_commit_38 rfl ?_
  refine u_if_le hC 49 d_M_commit_39 (by decide) (fun h_39 => absurd h_39 (nI_nle hc (Nat.lt_of_le_of_lt (m_cnt_le _ _ _ _ _) (by omega)))) (fun h_39 => ?_)
  refine u_aload_n hC d_M_commit_42 rfl ?_
  refine u_get hC f_M_49 0 rfl rfl d_M_commit_43 ?_
  refine u_goto hC 50 d_M_commit_46 (by decide) ?_
  exact u_iret hC hr d_M_commit_50 (Nat.le_of_ble_eq_true rfl) (Nat.le_of_ble_eq_true rfl) ⟨rfl, rfl⟩
set_option maxHeartbeats 4000000 in
set_option maxRecDepth 100000 in
theorem c_M_commitZ {j G0 : Nat} (hj : j < 6) (hh : ¬ ha j = 0) (hg : g = nI G0) (hG : G0 ≤ 4000) (hc : (m_cnt st be (nI j) (nI 0) (G0 + 1)) = 0) : Ct l y_M_commit b_M_commit 3 (some .int) 2 0 0 D (gk κ, z) (mw κ a g cm st be ro pl ha mo co to sn le) [.ref (a 0), .int (nI j)] (rt (.int 0) (mw κ a g cm (m_set st be st (nI j) (nI 0) (nI 2) (G0 + 1)) be ro (m_set st be pl (nI j) (nI 0) (cm + nI 1) (G0 + 1)) (upd ha j 0) mo co to sn le)) := by
  refine Ct.of (by decide) (Nat.le_of_ble_eq_true rfl) ?_
  intro p e s0 m below meth c A hC hr hn
  refine u_aload_n hC d_M_commit_0 rfl ?_
  refine u_iload_n hC d_M_commit_1 rfl ?_
  refine u_callVr hC (c_M_runsT hj hh) k_M_45 i_M_runs (q0 := 0) rfl rfl ⟨(Nat.le_of_ble_eq_true rfl), (Nat.le_of_ble_eq_true rfl)⟩ ⟨(Nat.le_of_ble_eq_true rfl), (Nat.le_of_ble_eq_true rfl)⟩ rfl rfl (Nat.le_of_ble_eq_true rfl) d_M_commit_2 ?_
  refine u_if_ne hC 10 d_M_commit_5 (by decide) (fun h_5 => ?_) (fun h_5 => absurd h_5 (by decide))
  refine u_aload_n hC d_M_commit_10 rfl ?_
  refine u_iload_n hC d_M_commit_11 rfl ?_
  refine u_iconst hC (nI 2) d_M_commit_12 (by decide) ?_
  refine u_callVr hC (c_M_ends2 hj hg hG) k_M_56 i_M_ends (q0 := 0) rfl rfl ⟨(Nat.le_of_ble_eq_true rfl), (Nat.le_of_ble_eq_true rfl)⟩ ⟨(Nat.le_of_ble_eq_true rfl), (Nat.le_of_ble_eq_true rfl)⟩ rfl rfl (Nat.le_of_ble_eq_true rfl) d_M_commit_13 ?_
  rw [hc]
  refine u_istore_n hC d_M_commit_16 (by decide) ?_
  refine u_aload_n hC d_M_commit_17 rfl ?_
  refine u_iload_n hC d_M_commit_18 rfl ?_
  refine u_if_le hC 31 d_M_commit_19 (by decide) (fun h_19 => ?_) (fun h_19 => absurd (by decide) h_19)
  refine u_aload_n hC d_M_commit_31 rfl ?_
  refine u_get hC f_M_49 0 rfl rfl d_M_commit_32 ?_
  refine u_put hC f_M_49 (tt_M 1 (by decide)) rfl 0 rfl rfl rfl (Nat.le_of_ble_eq_true rfl) rfl d_M_commit_35 ?_
  refine u_iload_n hC d_M_commit_38 rfl ?_
  refine u_if_le hC 49 d_M_commit_39 (by decide) (fun h_39 => ?_) (fun h_39 => absurd (by decide) h_39)
  refine u_iconst hC (nI 0) d_M_commit_49 (by decide) ?_
  exact u_iret hC hr d_M_commit_50 (Nat.le_of_ble_eq_true rfl) (Nat.le_of_ble_eq_true rfl) ⟨rfl, rfl⟩
set_option maxHeartbeats 4000000 in
set_option maxRecDepth 100000 in
theorem c_M_abortF {s : Int32} (hb : ¬ ∃ j : Nat, j < 6 ∧ s = nI j ∧ ¬ ha j = 0) : Ct l y_M_abort b_M_abort 3 (some .boolean) 2 0 0 D (gk κ, z) (mw κ a g cm st be ro pl ha mo co to sn le) [.ref (a 0), .int s] (rt (.int 0) (mw κ a g cm st be ro pl ha mo co to sn le)) := by
  refine Ct.of (by decide) (Nat.le_of_ble_eq_true rfl) ?_
  intro p e s0 m below meth c A hC hr hn
  refine u_aload_n hC d_M_abort_0 rfl ?_
  refine u_iload_n hC d_M_abort_1 rfl ?_
  refine u_callVr hC (c_M_runsF hb) k_M_45 i_M_runs (q0 := 0) rfl rfl ⟨(Nat.le_of_ble_eq_true rfl), (Nat.le_of_ble_eq_true rfl)⟩ ⟨(Nat.le_of_ble_eq_true rfl), (Nat.le_of_ble_eq_true rfl)⟩ rfl rfl (Nat.le_of_ble_eq_true rfl) d_M_abort_2 ?_
  refine u_if_ne hC 10 d_M_abort_5 (by decide) (fun h_5 => absurd rfl h_5) (fun h_5 => ?_)
  refine u_iconst hC (nI 0) d_M_abort_8 (by decide) ?_
  exact u_zret hC hr rfl d_M_abort_9 (Nat.le_of_ble_eq_true rfl) (Nat.le_of_ble_eq_true rfl) ⟨rfl, rfl⟩
set_option maxHeartbeats 4000000 in
set_option maxRecDepth 100000 in
theorem c_M_abortT {j G0 : Nat} (hj : j < 6) (hh : ¬ ha j = 0) (hg : g = nI G0) (hG : G0 ≤ 4000) : Ct l y_M_abort b_M_abort 3 (some .boolean) 2 0 0 D (gk κ, z) (mw κ a g cm st be ro pl ha mo co to sn le) [.ref (a 0), .int (nI j)] (rt (.int 1) (mw κ a g cm (m_set st be st (nI j) (nI 0) (nI 3) (G0 + 1)) be ro (m_set st be pl (nI j) (nI 0) (nI 0) (G0 + 1)) (upd ha j 0) mo co to sn le)) := by
  refine Ct.of (by decide) (Nat.le_of_ble_eq_true rfl) ?_
  intro p e s0 m below meth c A hC hr hn
  refine u_aload_n hC d_M_abort_0 rfl ?_
  refine u_iload_n hC d_M_abort_1 rfl ?_
  refine u_callVr hC (c_M_runsT hj hh) k_M_45 i_M_runs (q0 := 0) rfl rfl ⟨(Nat.le_of_ble_eq_true rfl), (Nat.le_of_ble_eq_true rfl)⟩ ⟨(Nat.le_of_ble_eq_true rfl), (Nat.le_of_ble_eq_true rfl)⟩ rfl rfl (Nat.le_of_ble_eq_true rfl) d_M_abort_2 ?_
  refine u_if_ne hC 10 d_M_abort_5 (by decide) (fun h_5 => ?_) (fun h_5 => absurd h_5 (by decide))
  refine u_aload_n hC d_M_abort_10 rfl ?_
  refine u_iload_n hC d_M_abort_11 rfl ?_
  refine u_iconst hC (nI 3) d_M_abort_12 (by decide) ?_
  refine u_callVr hC (c_M_ends3 hj hg hG) k_M_56 i_M_ends (q0 := 0) rfl rfl ⟨(Nat.le_of_ble_eq_true rfl), (Nat.le_of_ble_eq_true rfl)⟩ ⟨(Nat.le_of_ble_eq_true rfl), (Nat.le_of_ble_eq_true rfl)⟩ rfl rfl (Nat.le_of_ble_eq_true rfl) d_M_abort_13 ?_
  refine u_istore_n hC d_M_abort_16 (by decide) ?_
  refine u_iconst hC (nI 1) d_M_abort_17 (by decide) ?_
  exact u_zret hC hr rfl d_M_abort_18 (Nat.le_of_ble_eq_true rfl) (Nat.le_of_ble_eq_true rfl) ⟨rfl, rfl⟩
set_option maxHeartbeats 4000000 in
set_option maxRecDepth 100000 in
theorem c_M_isSeenF0 {j G0 : Nat} {x cd : Int32} (hg : g = nI G0) (hG : G0 ≤ 4000) (hb : ¬ ∃ i : Nat, 1 ≤ i ∧ i ≤ G0 ∧ x = nI i) : Ct l y_M_isSeen b_M_isSeen 4 (some .boolean) 1 0 0 D (gk κ, z) (mw κ a g cm st be ro pl ha mo co to sn le) [.ref (a 0), .int (nI j), .int x, .int cd] (rt (.int 0) (mw κ a g cm st be ro pl ha mo co to sn le)) := by
  refine Ct.of (by decide) (Nat.le_of_ble_eq_true rfl) ?_
  intro p e s0 m below meth c A hC hr hn
  refine u_aload_n hC d_M_isSeen_0 rfl ?_
  refine u_iload_n hC d_M_isSeen_1 rfl ?_
  refine u_callVr hC (c_M_givenF hg hG hb) k_M_63 i_M_isGiven (q0 := 0) rfl rfl ⟨(Nat.le_of_ble_eq_true rfl), (Nat.le_of_ble_eq_true rfl)⟩ ⟨(Nat.le_of_ble_eq_true rfl), (Nat.le_of_ble_eq_true rfl)⟩ rfl rfl (Nat.le_of_ble_eq_true rfl) d_M_isSeen_2 ?_
  refine u_if_eq hC 18 d_M_isSeen_5 (by decide) (fun h_5 => ?_) (fun h_5 => absurd rfl h_5)
  refine u_iconst hC (nI 0) d_M_isSeen_18 (by decide) ?_
  exact u_zret hC hr rfl d_M_isSeen_19 (Nat.le_of_ble_eq_true rfl) (Nat.le_of_ble_eq_true rfl) ⟨rfl, rfl⟩
set_option maxHeartbeats 4000000 in
set_option maxRecDepth 100000 in
theorem c_M_isSeenF3 {j i G0 : Nat} {cd : Int32} (hj : j < 6) (hg : g = nI G0) (hG : G0 ≤ 4000) (h1 : 1 ≤ i) (h2 : i ≤ G0) (h3 : st i = nI 3) : Ct l y_M_isSeen b_M_isSeen 4 (some .boolean) 1 0 0 D (gk κ, z) (mw κ a g cm st be ro pl ha mo co to sn le) [.ref (a 0), .int (nI j), .int (nI i), .int cd] (rt (.int 0) (mw κ a g cm st be ro pl ha mo co to sn le)) := by
  refine Ct.of (by decide) (Nat.le_of_ble_eq_true rfl) ?_
  intro p e s0 m below meth c A hC hr hn
  refine u_aload_n hC d_M_isSeen_0 rfl ?_
  refine u_iload_n hC d_M_isSeen_1 rfl ?_
  refine u_callVr hC (c_M_givenT hg hG h1 h2) k_M_63 i_M_isGiven (q0 := 0) rfl rfl ⟨(Nat.le_of_ble_eq_true rfl), (Nat.le_of_ble_eq_true rfl)⟩ ⟨(Nat.le_of_ble_eq_true rfl), (Nat.le_of_ble_eq_true rfl)⟩ rfl rfl (Nat.le_of_ble_eq_true rfl) d_M_isSeen_2 ?_
  refine u_if_eq hC 18 d_M_isSeen_5 (by decide) (fun h_5 => absurd h_5 (by decide)) (fun h_5 => ?_)
  refine u_aload_n hC d_M_isSeen_8 rfl ?_
  refine u_get hC f_M_7 0 rfl rfl d_M_isSeen_9 ?_
  refine u_iload_n hC d_M_isSeen_12 rfl ?_
  refine p_iald hC 1 0 rfl rfl i rfl (by omega) (by decide) d_M_isSeen_13 ?_
  refine u_iconst hC (nI 3) d_M_isSeen_14 (by decide) ?_
  refine u_icmp_ne hC 20 d_M_isSeen_15 (by decide) (fun h_15 => absurd h3 h_15) (fun h_15 => ?_)
  refine u_iconst hC (nI 0) d_M_isSeen_18 (by decide) ?_
  exact u_zret hC hr rfl d_M_isSeen_19 (Nat.le_of_ble_eq_true rfl) (Nat.le_of_ble_eq_true rfl) ⟨rfl, rfl⟩
set_option maxHeartbeats 4000000 in
set_option maxRecDepth 100000 in
theorem c_M_isSeenR {j i G0 : Nat} {cd : Int32} (hj : j < 6) (hg : g = nI G0) (hG : G0 ≤ 4000) (h1 : 1 ≤ i) (h2 : i ≤ G0) (h3 : st i = nI 1) : Ct l y_M_isSeen b_M_isSeen 4 (some .boolean) 1 0 0 D (gk κ, z) (mw κ a g cm st be ro pl ha mo co to sn le) [.ref (a 0), .int (nI j), .int (nI i), .int cd] (rt (.int (if be i / nI 8 = nI j ∧ cd < co j then 1 else 0)) (mw κ a g cm st be ro pl ha mo co to sn le)) := by
  refine Ct.of (by decide) (Nat.le_of_ble_eq_true rfl) ?_
  intro p e s0 m below meth c A hC hr hn
  refine u_aload_n hC d_M_isSeen_0 rfl ?_
  refine u_iload_n hC d_M_isSeen_1 rfl ?_
  refine u_callVr hC (c_M_givenT hg hG h1 h2) k_M_63 i_M_isGiven (q0 := 0) rfl rfl ⟨(Nat.le_of_ble_eq_true rfl), (Nat.le_of_ble_eq_true rfl)⟩ ⟨(Nat.le_of_ble_eq_true rfl), (Nat.le_of_ble_eq_true rfl)⟩ rfl rfl (Nat.le_of_ble_eq_true rfl) d_M_isSeen_2 ?_
  refine u_if_eq hC 18 d_M_isSeen_5 (by decide) (fun h_5 => absurd h_5 (by decide)) (fun h_5 => ?_)
  refine u_aload_n hC d_M_isSeen_8 rfl ?_
  refine u_get hC f_M_7 0 rfl rfl d_M_isSeen_9 ?_
  refine u_iload_n hC d_M_isSeen_12 rfl ?_
  refine p_iald hC 1 0 rfl rfl i rfl (by omega) (by decide) d_M_isSeen_13 ?_
  refine u_iconst hC (nI 3) d_M_isSeen_14 (by decide) ?_
  refine u_icmp_ne hC 20 d_M_isSeen_15 (by decide) (fun h_15 => ?_) (fun h_15 => absurd h_15 (by rw [h3]; decide))
  refine u_aload_n hC d_M_isSeen_20 rfl ?_
  refine u_get hC f_M_7 0 rfl rfl d_M_isSeen_21 ?_
  refine u_iload_n hC d_M_isSeen_24 rfl ?_
  refine p_iald hC 1 0 rfl rfl i rfl (by omega) (by decide) d_M_isSeen_25 ?_
  refine u_iconst hC (nI 1) d_M_isSeen_26 (by decide) ?_
  refine u_icmp_ne hC 61 d_M_isSeen_27 (by decide) (fun h_27 => absurd h3 h_27) (fun h_27 => ?_)
  refine u_aload_n hC d_M_isSeen_30 rfl ?_
  refine u_get hC f_M_13 0 rfl rfl d_M_isSeen_31 ?_
  refine u_iload_n hC d_M_isSeen_34 rfl ?_
  refine p_iald hC 2 0 rfl rfl i rfl (by omega) (by decide) d_M_isSeen_35 ?_
  refine u_bipush hC (nI 8) d_M_isSeen_36 (by decide) ?_
  refine u_idiv hC d_M_isSeen_38 (by decide) ?_
  refine u_iload_n hC d_M_isSeen_39 rfl ?_
  refine u_icmp_ne hC 57 d_M_isSeen_40 (by decide) (fun h_40 => ?_) (fun h_40 => ?_)
  · refine u_iconst hC (nI 0) d_M_isSeen_57 (by decide) ?_
    refine u_goto hC 81 d_M_isSeen_58 (by decide) ?_
    exact u_zret hC hr rfl d_M_isSeen_81 (Nat.le_of_ble_eq_true rfl) (Nat.le_of_ble_eq_true rfl) ⟨by simp_all [nI], rfl⟩
  · refine u_iload_n hC d_M_isSeen_43 rfl ?_
    refine u_aload_n hC d_M_isSeen_44 rfl ?_
    refine u_get hC f_M_29 0 rfl rfl d_M_isSeen_45 ?_
    refine u_iload_n hC d_M_isSeen_48 rfl ?_
    refine p_iald hC 7 0 rfl rfl j rfl hj (by decide) d_M_isSeen_49 ?_
    refine u_icmp_ge hC 57 d_M_isSeen_50 (by decide) (fun h_50 => ?_) (fun h_50 => ?_)
    · refine u_iconst hC (nI 0) d_M_isSeen_57 (by decide) ?_
      refine u_goto hC 81 d_M_isSeen_58 (by decide) ?_
      exact u_zret hC hr rfl d_M_isSeen_81 (Nat.le_of_ble_eq_true rfl) (Nat.le_of_ble_eq_true rfl) ⟨by simp_all [nI], rfl⟩
    · refine u_iconst hC (nI 1) d_M_isSeen_53 (by decide) ?_
      refine u_goto hC 81 d_M_isSeen_54 (by decide) ?_
      exact u_zret hC hr rfl d_M_isSeen_81 (Nat.le_of_ble_eq_true rfl) (Nat.le_of_ble_eq_true rfl) ⟨by simp_all [nI], rfl⟩
set_option maxHeartbeats 4000000 in
set_option maxRecDepth 100000 in
theorem c_M_isSeenC {j i G0 : Nat} {cd : Int32} (hj : j < 6) (hg : g = nI G0) (hG : G0 ≤ 4000) (h1 : 1 ≤ i) (h2 : i ≤ G0) (h3 : ¬ st i = nI 3) (h4 : ¬ st i = nI 1) : Ct l y_M_isSeen b_M_isSeen 4 (some .boolean) 1 0 0 D (gk κ, z) (mw κ a g cm st be ro pl ha mo co to sn le) [.ref (a 0), .int (nI j), .int (nI i), .int cd] (rt (.int (if sn j < pl i then 0 else 1)) (mw κ a g cm st be ro pl ha mo co to sn le)) := by
  refine Ct.of (by decide) (Nat.le_of_ble_eq_true rfl) ?_
  intro p e s0 m below meth c A hC hr hn
  refine u_aload_n hC d_M_isSeen_0 rfl ?_
  refine u_iload_n hC d_M_isSeen_1 rfl ?_
  refine u_callVr hC (c_M_givenT hg hG h1 h2) k_M_63 i_M_isGiven (q0 := 0) rfl rfl ⟨(Nat.le_of_ble_eq_true rfl), (Nat.le_of_ble_eq_true rfl)⟩ ⟨(Nat.le_of_ble_eq_true rfl), (Nat.le_of_ble_eq_true rfl)⟩ rfl rfl (Nat.le_of_ble_eq_true rfl) d_M_isSeen_2 ?_
  refine u_if_eq hC 18 d_M_isSeen_5 (by decide) (fun h_5 => absurd h_5 (by decide)) (fun h_5 => ?_)
  refine u_aload_n hC d_M_isSeen_8 rfl ?_
  refine u_get hC f_M_7 0 rfl rfl d_M_isSeen_9 ?_
  refine u_iload_n hC d_M_isSeen_12 rfl ?_
  refine p_iald hC 1 0 rfl rfl i rfl (by omega) (by decide) d_M_isSeen_13 ?_
  refine u_iconst hC (nI 3) d_M_isSeen_14 (by decide) ?_
  refine u_icmp_ne hC 20 d_M_isSeen_15 (by decide) (fun h_15 => ?_) (fun h_15 => absurd h_15 h3)
  refine u_aload_n hC d_M_isSeen_20 rfl ?_
  refine u_get hC f_M_7 0 rfl rfl d_M_isSeen_21 ?_
  refine u_iload_n hC d_M_isSeen_24 rfl ?_
  refine p_iald hC 1 0 rfl rfl i rfl (by omega) (by decide) d_M_isSeen_25 ?_
  refine u_iconst hC (nI 1) d_M_isSeen_26 (by decide) ?_
  refine u_icmp_ne hC 61 d_M_isSeen_27 (by decide) (fun h_27 => ?_) (fun h_27 => absurd h_27 h4)
  refine u_aload_n hC d_M_isSeen_61 rfl ?_
  refine u_get hC f_M_19 0 rfl rfl d_M_isSeen_62 ?_
  refine u_iload_n hC d_M_isSeen_65 rfl ?_
  refine p_iald hC 4 0 rfl rfl i rfl (by omega) (by decide) d_M_isSeen_66 ?_
  refine u_aload_n hC d_M_isSeen_67 rfl ?_
  refine u_get hC f_M_35 0 rfl rfl d_M_isSeen_68 ?_
  refine u_iload_n hC d_M_isSeen_71 rfl ?_
  refine p_iald hC 9 0 rfl rfl j rfl hj (by decide) d_M_isSeen_72 ?_
  refine u_icmp_gt hC 80 d_M_isSeen_73 (by decide) (fun h_73 => ?_) (fun h_73 => ?_)
  · refine u_iconst hC (nI 0) d_M_isSeen_80 (by decide) ?_
    exact u_zret hC hr rfl d_M_isSeen_81 (Nat.le_of_ble_eq_true rfl) (Nat.le_of_ble_eq_true rfl) ⟨by simp_all [nI], rfl⟩
  · refine u_iconst hC (nI 1) d_M_isSeen_76 (by decide) ?_
    refine u_goto hC 81 d_M_isSeen_77 (by decide) ?_
    exact u_zret hC hr rfl d_M_isSeen_81 (Nat.le_of_ble_eq_true rfl) (Nat.le_of_ble_eq_true rfl) ⟨by simp_all [nI], rfl⟩
end MM
end
section
section MR
variable {l : Launch} {D : va_G} {κ : Nat → ClassId} {z : Nat × Nat} {a : Nat → Nat} {g cm : Int32} {st be ro pl ha mo co to sn le : Nat → Int32}
set_option maxHeartbeats 4000000 in
set_option maxRecDepth 100000 in
theorem c_M_seesF0 {s x1 c1 x2 c2 : Int32} (hb : ¬ ∃ j : Nat, j < 6 ∧ s = nI j ∧ ¬ ha j = 0) : Ct l y_M_sees b_M_sees 6 (some .boolean) 2 0 0 D (gk κ, z) (mw κ a g cm st be ro pl ha mo co to sn le) [.ref (a 0), .int s, .int x1, .int c1, .int x2, .int c2] (rt (.int 0) (mw κ a g cm st be ro pl ha mo co to sn le)) := by
  refine Ct.of (by decide) (Nat.le_of_ble_eq_true rfl) ?_
  intro p e s0 m below meth c A hC hr hn
  refine u_aload_n hC d_M_sees_0 rfl ?_
  refine u_iload_n hC d_M_sees_1 rfl ?_
  refine u_callVr hC (c_M_runsF hb) k_M_45 i_M_runs (q0 := 0) rfl rfl ⟨(Nat.le_of_ble_eq_true rfl), (Nat.le_of_ble_eq_true rfl)⟩ ⟨(Nat.le_of_ble_eq_true rfl), (Nat.le_of_ble_eq_true rfl)⟩ rfl rfl (Nat.le_of_ble_eq_true rfl) d_M_sees_2 ?_
  refine u_if_eq hC 43 d_M_sees_5 (by decide) (fun h_5 => ?_) (fun h_5 => absurd rfl h_5)
  refine u_iconst hC (nI 0) d_M_sees_43 (by decide) ?_
  exact u_zret hC hr rfl d_M_sees_44 (Nat.le_of_ble_eq_true rfl) (Nat.le_of_ble_eq_true rfl) ⟨rfl, rfl⟩
set_option maxHeartbeats 4000000 in
set_option maxRecDepth 100000 in
theorem c_M_seesF1 {j : Nat} {x1 c1 x2 c2 : Int32} (hj : j < 6) (hh : ¬ ha j = 0) (hs : sn j < 0) : Ct l y_M_sees b_M_sees 6 (some .boolean) 2 0 0 D (gk κ, z) (mw κ a g cm st be ro pl ha mo co to sn le) [.ref (a 0), .int (nI j), .int x1, .int c1, .int x2, .int c2] (rt (.int 0) (mw κ a g cm st be ro pl ha mo co to sn le)) := by
  refine Ct.of (by decide) (Nat.le_of_ble_eq_true rfl) ?_
  intro p e s0 m below meth c A hC hr hn
  refine u_aload_n hC d_M_sees_0 rfl ?_
  refine u_iload_n hC d_M_sees_1 rfl ?_
  refine u_callVr hC (c_M_runsT hj hh) k_M_45 i_M_runs (q0 := 0) rfl rfl ⟨(Nat.le_of_ble_eq_true rfl), (Nat.le_of_ble_eq_true rfl)⟩ ⟨(Nat.le_of_ble_eq_true rfl), (Nat.le_of_ble_eq_true rfl)⟩ rfl rfl (Nat.le_of_ble_eq_true rfl) d_M_sees_2 ?_
  refine u_if_eq hC 43 d_M_sees_5 (by decide) (fun h_5 => absurd h_5 (by decide)) (fun h_5 => ?_)
  refine u_aload_n hC d_M_sees_8 rfl ?_
  refine u_get hC f_M_35 0 rfl rfl d_M_sees_9 ?_
  refine u_iload_n hC d_M_sees_12 rfl ?_
  refine p_iald hC 9 0 rfl rfl j rfl hj (by decide) d_M_sees_13 ?_
  refine u_if_lt hC 43 d_M_sees_14 (by decide) (fun h_14 => ?_) (fun h_14 => absurd hs h_14)
  refine u_iconst hC (nI 0) d_M_sees_43 (by decide) ?_
  exact u_zret hC hr rfl d_M_sees_44 (Nat.le_of_ble_eq_true rfl) (Nat.le_of_ble_eq_true rfl) ⟨rfl, rfl⟩
set_option maxHeartbeats 4000000 in
set_option maxRecDepth 100000 in
theorem c_M_seesT {j : Nat} {x1 c1 x2 c2 v1 v2 : Int32} (hj : j < 6) (hh : ¬ ha j = 0) (hs : ¬ sn j < 0) (C1 : Ct l y_M_isSeen b_M_isSeen 4 (some .boolean) 1 0 0 D (gk κ, z) (mw κ a g cm st be ro pl ha mo co to sn le) [.ref (a 0), .int (nI j), .int x1, .int c1] (rt (.int v1) (mw κ a g cm st be ro pl ha mo co to sn le))) (C2 : Ct l y_M_isSeen b_M_isSeen 4 (some .boolean) 1 0 0 D (gk κ, z) (mw κ a g cm st be ro pl ha mo co to sn le) [.ref (a 0), .int (nI j), .int x2, .int c2] (rt (.int v2) (mw κ a g cm st be ro pl ha mo co to sn le))) : Ct l y_M_sees b_M_sees 6 (some .boolean) 2 0 0 D (gk κ, z) (mw κ a g cm st be ro pl ha mo co to sn le) [.ref (a 0), .int (nI j), .int x1, .int c1, .int x2, .int c2] (rt (.int (if v1 = 0 then 0 else if v2 = 0 then 1 else 0)) (mw κ a g cm st be ro pl ha mo co to sn le)) := by
  refine Ct.of (by decide) (Nat.le_of_ble_eq_true rfl) ?_
  intro p e s0 m below meth c A hC hr hn
  refine u_aload_n hC d_M_sees_0 rfl ?_
  refine u_iload_n hC d_M_sees_1 rfl ?_
  refine u_callVr hC (c_M_runsT hj hh) k_M_45 i_M_runs (q0 := 0) rfl rfl ⟨(Nat.le_of_ble_eq_true rfl), (Nat.le_of_ble_eq_true rfl)⟩ ⟨(Nat.le_of_ble_eq_true rfl), (Nat.le_of_ble_eq_true rfl)⟩ rfl rfl (Nat.le_of_ble_eq_true rfl) d_M_sees_2 ?_
  refine u_if_eq hC 43 d_M_sees_5 (by decide) (fun h_5 => absurd h_5 (by decide)) (fun h_5 => ?_)
  refine u_aload_n hC d_M_sees_8 rfl ?_
  refine u_get hC f_M_35 0 rfl rfl d_M_sees_9 ?_
  refine u_iload_n hC d_M_sees_12 rfl ?_
  refine p_iald hC 9 0 rfl rfl j rfl hj (by decide) d_M_sees_13 ?_
  refine u_if_lt hC 43 d_M_sees_14 (by decide) (fun h_14 => absurd h_14 hs) (fun h_14 => ?_)
  refine u_aload_n hC d_M_sees_17 rfl ?_
  refine u_iload_n hC d_M_sees_18 rfl ?_
  refine u_iload_n hC d_M_sees_19 rfl ?_
  refine u_iload_n hC d_M_sees_20 rfl ?_
  refine u_callVr hC (C1) k_M_66 i_M_isSeen (q0 := 0) rfl rfl ⟨(Nat.le_of_ble_eq_true rfl), (Nat.le_of_ble_eq_true rfl)⟩ ⟨(Nat.le_of_ble_eq_true rfl), (Nat.le_of_ble_eq_true rfl)⟩ rfl rfl (Nat.le_of_ble_eq_true rfl) d_M_sees_21 ?_
  refine u_if_eq hC 43 d_M_sees_24 (by decide) (fun h_24 => ?_) (fun h_24 => ?_)
  · refine u_iconst hC (nI 0) d_M_sees_43 (by decide) ?_
    exact u_zret hC hr rfl d_M_sees_44 (Nat.le_of_ble_eq_true rfl) (Nat.le_of_ble_eq_true rfl) ⟨by simp [*, nI], rfl⟩
  · refine u_aload_n hC d_M_sees_27 rfl ?_
    refine u_iload_n hC d_M_sees_28 rfl ?_
    refine u_iload hC d_M_sees_29 rfl ?_
    refine u_iload hC d_M_sees_31 rfl ?_
    refine u_callVr hC (C2) k_M_66 i_M_isSeen (q0 := 0) rfl rfl ⟨(Nat.le_of_ble_eq_true rfl), (Nat.le_of_ble_eq_true rfl)⟩ ⟨(Nat.le_of_ble_eq_true rfl), (Nat.le_of_ble_eq_true rfl)⟩ rfl rfl (Nat.le_of_ble_eq_true rfl) d_M_sees_33 ?_
    refine u_if_ne hC 43 d_M_sees_36 (by decide) (fun h_36 => ?_) (fun h_36 => ?_)
    · refine u_iconst hC (nI 0) d_M_sees_43 (by decide) ?_
      exact u_zret hC hr rfl d_M_sees_44 (Nat.le_of_ble_eq_true rfl) (Nat.le_of_ble_eq_true rfl) ⟨by simp [*, nI], rfl⟩
    · refine u_iconst hC (nI 1) d_M_sees_39 (by decide) ?_
      refine u_goto hC 44 d_M_sees_40 (by decide) ?_
      exact u_zret hC hr rfl d_M_sees_44 (Nat.le_of_ble_eq_true rfl) (Nat.le_of_ble_eq_true rfl) ⟨by simp [*, nI], rfl⟩
set_option maxHeartbeats 4000000 in
set_option maxRecDepth 100000 in
theorem c_M_endingF0 {s x cd : Int32} (hb : ¬ ∃ j : Nat, j < 6 ∧ s = nI j ∧ ¬ ha j = 0) : Ct l y_M_ending b_M_ending 5 (some .int) 2 0 0 D (gk κ, z) (mw κ a g cm st be ro pl ha mo co to sn le) [.ref (a 0), .int s, .int x, .int cd] (rt (.int (-1)) (mw κ a g cm st be ro pl ha mo co to sn le)) := by
  refine Ct.of (by decide) (Nat.le_of_ble_eq_true rfl) ?_
  intro p e s0 m below meth c A hC hr hn
  refine u_aload_n hC d_M_ending_0 rfl ?_
  refine u_iload_n hC d_M_ending_1 rfl ?_
  refine u_callVr hC (c_M_runsF hb) k_M_45 i_M_runs (q0 := 0) rfl rfl ⟨(Nat.le_of_ble_eq_true rfl), (Nat.le_of_ble_eq_true rfl)⟩ ⟨(Nat.le_of_ble_eq_true rfl), (Nat.le_of_ble_eq_true rfl)⟩ rfl rfl (Nat.le_of_ble_eq_true rfl) d_M_ending_2 ?_
  refine u_if_eq hC 17 d_M_ending_5 (by decide) (fun h_5 => ?_) (fun h_5 => absurd rfl h_5)
  refine u_iconst hC (-1) d_M_ending_17 (by decide) ?_
  exact u_iret hC hr d_M_ending_18 (Nat.le_of_ble_eq_true rfl) (Nat.le_of_ble_eq_true rfl) ⟨rfl, rfl⟩
set_option maxHeartbeats 4000000 in
set_option maxRecDepth 100000 in
theorem c_M_endingF1 {j : Nat} {x cd : Int32} (hj : j < 6) (hh : ¬ ha j = 0) (hs : sn j < 0) : Ct l y_M_ending b_M_ending 5 (some .int) 2 0 0 D (gk κ, z) (mw κ a g cm st be ro pl ha mo co to sn le) [.ref (a 0), .int (nI j), .int x, .int cd] (rt (.int (-1)) (mw κ a g cm st be ro pl ha mo co to sn le)) := by
  refine Ct.of (by decide) (Nat.le_of_ble_eq_true rfl) ?_
  intro p e s0 m below meth c A hC hr hn
  refine u_aload_n hC d_M_ending_0 rfl ?_
  refine u_iload_n hC d_M_ending_1 rfl ?_
  refine u_callVr hC (c_M_runsT hj hh) k_M_45 i_M_runs (q0 := 0) rfl rfl ⟨(Nat.le_of_ble_eq_true rfl), (Nat.le_of_ble_eq_true rfl)⟩ ⟨(Nat.le_of_ble_eq_true rfl), (Nat.le_of_ble_eq_true rfl)⟩ rfl rfl (Nat.le_of_ble_eq_true rfl) d_M_ending_2 ?_
  refine u_if_eq hC 17 d_M_ending_5 (by decide) (fun h_5 => absurd h_5 (by decide)) (fun h_5 => ?_)
  refine u_aload_n hC d_M_ending_8 rfl ?_
  refine u_get hC f_M_35 0 rfl rfl d_M_ending_9 ?_
  refine u_iload_n hC d_M_ending_12 rfl ?_
  refine p_iald hC 9 0 rfl rfl j rfl hj (by decide) d_M_ending_13 ?_
  refine u_if_ge hC 19 d_M_ending_14 (by decide) (fun h_14 => absurd h_14 (Int32.not_le.mpr hs)) (fun h_14 => ?_)
  refine u_iconst hC (-1) d_M_ending_17 (by decide) ?_
  exact u_iret hC hr d_M_ending_18 (Nat.le_of_ble_eq_true rfl) (Nat.le_of_ble_eq_true rfl) ⟨rfl, rfl⟩
set_option maxHeartbeats 4000000 in
set_option maxRecDepth 100000 in
theorem c_M_endingN {j G0 : Nat} {x cd : Int32} (hj : j < 6) (hh : ¬ ha j = 0) (hs : ¬ sn j < 0) (hg : g = nI G0) (hG : G0 ≤ 4000) (hx : ¬ ∃ i : Nat, 1 ≤ i ∧ i ≤ G0 ∧ x = nI i) : Ct l y_M_ending b_M_ending 5 (some .int) 2 0 0 D (gk κ, z) (mw κ a g cm st be ro pl ha mo co to sn le) [.ref (a 0), .int (nI j), .int x, .int cd] (rt (.int 0) (mw κ a g cm st be ro pl ha mo co to sn le)) := by
  refine Ct.of (by decide) (Nat.le_of_ble_eq_true rfl) ?_
  intro p e s0 m below meth c A hC hr hn
  refine u_aload_n hC d_M_ending_0 rfl ?_
  refine u_iload_n hC d_M_ending_1 rfl ?_
  refine u_callVr hC (c_M_runsT hj hh) k_M_45 i_M_runs (q0 := 0) rfl rfl ⟨(Nat.le_of_ble_eq_true rfl), (Nat.le_of_ble_eq_true rfl)⟩ ⟨(Nat.le_of_ble_eq_true rfl), (Nat.le_of_ble_eq_true rfl)⟩ rfl rfl (Nat.le_of_ble_eq_true rfl) d_M_ending_2 ?_
  refine u_if_eq hC 17 d_M_ending_5 (by decide) (fun h_5 => absurd h_5 (by decide)) (fun h_5 => ?_)
  refine u_aload_n hC d_M_ending_8 rfl ?_
  refine u_get hC f_M_35 0 rfl rfl d_M_ending_9 ?_
  refine u_iload_n hC d_M_ending_12 rfl ?_
  refine p_iald hC 9 0 rfl rfl j rfl hj (by decide) d_M_ending_13 ?_
  refine u_if_ge hC 19 d_M_ending_14 (by decide) (fun h_14 => ?_) (fun h_14 => absurd (Int32.not_lt.mp hs) h_14)
  refine u_aload_n hC d_M_ending_19 rfl ?_
  refine u_iload_n hC d_M_ending_20 rfl ?_
  refine u_callVr hC (c_M_givenF hg hG hx) k_M_63 i_M_isGiven (q0 := 0) rfl rfl ⟨(Nat.le_of_ble_eq_true rfl), (Nat.le_of_ble_eq_true rfl)⟩ ⟨(Nat.le_of_ble_eq_true rfl), (Nat.le_of_ble_eq_true rfl)⟩ rfl rfl (Nat.le_of_ble_eq_true rfl) d_M_ending_21 ?_
  refine u_if_eq hC 37 d_M_ending_24 (by decide) (fun h_24 => ?_) (fun h_24 => absurd rfl h_24)
  refine u_iconst hC (nI 0) d_M_ending_37 (by decide) ?_
  exact u_iret hC hr d_M_ending_38 (Nat.le_of_ble_eq_true rfl) (Nat.le_of_ble_eq_true rfl) ⟨rfl, rfl⟩
set_option maxHeartbeats 4000000 in
set_option maxRecDepth 100000 in
theorem c_M_endingA {j i G0 : Nat} {cd : Int32} (hj : j < 6) (hh : ¬ ha j = 0) (hs : ¬ sn j < 0) (hg : g = nI G0) (hG : G0 ≤ 4000) (h1 : 1 ≤ i) (h2 : i ≤ G0) (h3 : st i = nI 3) : Ct l y_M_ending b_M_ending 5 (some .int) 2 0 0 D (gk κ, z) (mw κ a g cm st be ro pl ha mo co to sn le) [.ref (a 0), .int (nI j), .int (nI i), .int cd] (rt (.int 0) (mw κ a g cm st be ro pl ha mo co to sn le)) := by
  refine Ct.of (by decide) (Nat.le_of_ble_eq_true rfl) ?_
  intro p e s0 m below meth c A hC hr hn
  refine u_aload_n hC d_M_ending_0 rfl ?_
  refine u_iload_n hC d_M_ending_1 rfl ?_
  refine u_callVr hC (c_M_runsT hj hh) k_M_45 i_M_runs (q0 := 0) rfl rfl ⟨(Nat.le_of_ble_eq_true rfl), (Nat.le_of_ble_eq_true rfl)⟩ ⟨(Nat.le_of_ble_eq_true rfl), (Nat.le_of_ble_eq_true rfl)⟩ rfl rfl (Nat.le_of_ble_eq_true rfl) d_M_ending_2 ?_
  refine u_if_eq hC 17 d_M_ending_5 (by decide) (fun h_5 => absurd h_5 (by decide)) (fun h_5 => ?_)
  refine u_aload_n hC d_M_ending_8 rfl ?_
  refine u_get hC f_M_35 0 rfl rfl d_M_ending_9 ?_
  refine u_iload_n hC d_M_ending_12 rfl ?_
  refine p_iald hC 9 0 rfl rfl j rfl hj (by decide) d_M_ending_13 ?_
  refine u_if_ge hC 19 d_M_ending_14 (by decide) (fun h_14 => ?_) (fun h_14 => absurd (Int32.not_lt.mp hs) h_14)
  refine u_aload_n hC d_M_ending_19 rfl ?_
  refine u_iload_n hC d_M_ending_20 rfl ?_
  refine u_callVr hC (c_M_givenT hg hG h1 h2) k_M_63 i_M_isGiven (q0 := 0) rfl rfl ⟨(Nat.le_of_ble_eq_true rfl), (Nat.le_of_ble_eq_true rfl)⟩ ⟨(Nat.le_of_ble_eq_true rfl), (Nat.le_of_ble_eq_true rfl)⟩ rfl rfl (Nat.le_of_ble_eq_true rfl) d_M_ending_21 ?_
  refine u_if_eq hC 37 d_M_ending_24 (by decide) (fun h_24 => absurd h_24 (by decide)) (fun h_24 => ?_)
  refine u_aload_n hC d_M_ending_27 rfl ?_
  refine u_get hC f_M_7 0 rfl rfl d_M_ending_28 ?_
  refine u_iload_n hC d_M_ending_31 rfl ?_
  refine p_iald hC 1 0 rfl rfl i rfl (by omega) (by decide) d_M_ending_32 ?_
  refine u_iconst hC (nI 3) d_M_ending_33 (by decide) ?_
  refine u_icmp_ne hC 39 d_M_ending_34 (by decide) (fun h_34 => absurd h3 h_34) (fun h_34 => ?_)
  refine u_iconst hC (nI 0) d_M_ending_37 (by decide) ?_
  exact u_iret hC hr d_M_ending_38 (Nat.le_of_ble_eq_true rfl) (Nat.le_of_ble_eq_true rfl) ⟨rfl, rfl⟩
set_option maxHeartbeats 4000000 in
set_option maxRecDepth 100000 in
theorem c_M_endingR {j i G0 : Nat} {cd v : Int32} (hj : j < 6) (hh : ¬ ha j = 0) (hs : ¬ sn j < 0) (hg : g = nI G0) (hG : G0 ≤ 4000) (h1 : 1 ≤ i) (h2 : i ≤ G0) (h3 : st i = nI 1) (C1 : Ct l y_M_isSeen b_M_isSeen 4 (some .boolean) 1 0 0 D (gk κ, z) (mw κ a g cm st be ro pl ha mo co to sn le) [.ref (a 0), .int (nI j), .int (nI i), .int cd] (rt (.int v) (mw κ a g cm st be ro pl ha mo co to sn le))) : Ct l y_M_ending b_M_ending 5 (some .int) 2 0 0 D (gk κ, z) (mw κ a g cm st be ro pl ha mo co to sn le) [.ref (a 0), .int (nI j), .int (nI i), .int cd] (rt (.int (if be i / nI 8 = nI j then (if v = 0 then 2 else 1) else 3)) (mw κ a g cm st be ro pl ha mo co to sn le)) := by
  refine Ct.of (by decide) (Nat.le_of_ble_eq_true rfl) ?_
  intro p e s0 m below meth c A hC hr hn
  refine u_aload_n hC d_M_ending_0 rfl ?_
  refine u_iload_n hC d_M_ending_1 rfl ?_
  refine u_callVr hC (c_M_runsT hj hh) k_M_45 i_M_runs (q0 := 0) rfl rfl ⟨(Nat.le_of_ble_eq_true rfl), (Nat.le_of_ble_eq_true rfl)⟩ ⟨(Nat.le_of_ble_eq_true rfl), (Nat.le_of_ble_eq_true rfl)⟩ rfl rfl (Nat.le_of_ble_eq_true rfl) d_M_ending_2 ?_
  refine u_if_eq hC 17 d_M_ending_5 (by decide) (fun h_5 => absurd h_5 (by decide)) (fun h_5 => ?_)
  refine u_aload_n hC d_M_ending_8 rfl ?_
  refine u_get hC f_M_35 0 rfl rfl d_M_ending_9 ?_
  refine u_iload_n hC d_M_ending_12 rfl ?_
  refine p_iald hC 9 0 rfl rfl j rfl hj (by decide) d_M_ending_13 ?_
  refine u_if_ge hC 19 d_M_ending_14 (by decide) (fun h_14 => ?_) (fun h_14 => absurd (Int32.not_lt.mp hs) h_14)
  refine u_aload_n hC d_M_ending_19 rfl ?_
  refine u_iload_n hC d_M_ending_20 rfl ?_
  refine u_callVr hC (c_M_givenT hg hG h1 h2) k_M_63 i_M_isGiven (q0 := 0) rfl rfl ⟨(Nat.le_of_ble_eq_true rfl), (Nat.le_of_ble_eq_true rfl)⟩ ⟨(Nat.le_of_ble_eq_true rfl), (Nat.le_of_ble_eq_true rfl)⟩ rfl rfl (Nat.le_of_ble_eq_true rfl) d_M_ending_21 ?_
  refine u_if_eq hC 37 d_M_ending_24 (by decide) (fun h_24 => absurd h_24 (by decide)) (fun h_24 => ?_)
  refine u_aload_n hC d_M_ending_27 rfl ?_
  refine u_get hC f_M_7 0 rfl rfl d_M_ending_28 ?_
  refine u_iload_n hC d_M_ending_31 rfl ?_
  refine p_iald hC 1 0 rfl rfl i rfl (by omega) (by decide) d_M_ending_32 ?_
  refine u_iconst hC (nI 3) d_M_ending_33 (by decide) ?_
  refine u_icmp_ne hC 39 d_M_ending_34 (by decide) (fun h_34 => ?_) (fun h_34 => absurd h_34 (by rw [h3]; decide))
  refine u_aload_n hC d_M_ending_39 rfl ?_
  refine u_iload_n hC d_M_ending_40 rfl ?_
  refine u_iload_n hC d_M_ending_41 rfl ?_
  refine u_iload_n hC d_M_ending_42 rfl ?_
  refine u_callVr hC (C1) k_M_66 i_M_isSeen (q0 := 0) rfl rfl ⟨(Nat.le_of_ble_eq_true rfl), (Nat.le_of_ble_eq_true rfl)⟩ ⟨(Nat.le_of_ble_eq_true rfl), (Nat.le_of_ble_eq_true rfl)⟩ rfl rfl (Nat.le_of_ble_eq_true rfl) d_M_ending_43 ?_
  refine u_istore hC d_M_ending_46 (by decide) ?_
  refine u_aload_n hC d_M_ending_48 rfl ?_
  refine u_get hC f_M_7 0 rfl rfl d_M_ending_49 ?_
  refine u_iload_n hC d_M_ending_52 rfl ?_
  refine p_iald hC 1 0 rfl rfl i rfl (by omega) (by decide) d_M_ending_53 ?_
  refine u_iconst hC (nI 1) d_M_ending_54 (by decide) ?_
  refine u_icmp_ne hC 86 d_M_ending_55 (by decide) (fun h_55 => absurd h3 h_55) (fun h_55 => ?_)
  refine u_aload_n hC d_M_ending_58 rfl ?_
  refine u_get hC f_M_13 0 rfl rfl d_M_ending_59 ?_
  refine u_iload_n hC d_M_ending_62 rfl ?_
  refine p_iald hC 2 0 rfl rfl i rfl (by omega) (by decide) d_M_ending_63 ?_
  refine u_bipush hC (nI 8) d_M_ending_64 (by decide) ?_
  refine u_idiv hC d_M_ending_66 (by decide) ?_
  refine u_iload_n hC d_M_ending_67 rfl ?_
  refine u_icmp_eq hC 75 d_M_ending_68 (by decide) (fun h_68 => ?_) (fun h_68 => ?_)
  · refine u_iload hC d_M_ending_75 rfl ?_
    refine u_if_eq hC 84 d_M_ending_77 (by decide) (fun h_77 => ?_) (fun h_77 => ?_)
    · refine u_iconst hC (nI 2) d_M_ending_84 (by decide) ?_
      exact u_iret hC hr d_M_ending_85 (Nat.le_of_ble_eq_true rfl) (Nat.le_of_ble_eq_true rfl) ⟨by first | (rw [if_pos h_68, if_pos h_77]; rfl) | (rw [if_pos h_68, if_neg h_77]; rfl) | (rw [if_neg h_68]; rfl), rfl⟩
    · refine u_iconst hC (nI 1) d_M_ending_80 (by decide) ?_
      refine u_goto hC 85 d_M_ending_81 (by decide) ?_
      exact u_iret hC hr d_M_ending_85 (Nat.le_of_ble_eq_true rfl) (Nat.le_of_ble_eq_true rfl) ⟨by first | (rw [if_pos h_68, if_pos h_77]; rfl) | (rw [if_pos h_68, if_neg h_77]; rfl) | (rw [if_neg h_68]; rfl), rfl⟩
  · refine u_iconst hC (nI 3) d_M_ending_71 (by decide) ?_
    refine u_goto hC 85 d_M_ending_72 (by decide) ?_
    exact u_iret hC hr d_M_ending_85 (Nat.le_of_ble_eq_true rfl) (Nat.le_of_ble_eq_true rfl) ⟨by first | (rw [if_pos h_68, if_pos h_77]; rfl) | (rw [if_pos h_68, if_neg h_77]; rfl) | (rw [if_neg h_68]; rfl), rfl⟩
set_option maxHeartbeats 4000000 in
set_option maxRecDepth 100000 in
theorem c_M_endingC {j i G0 : Nat} {cd v : Int32} (hj : j < 6) (hh : ¬ ha j = 0) (hs : ¬ sn j < 0) (hg : g = nI G0) (hG : G0 ≤ 4000) (h1 : 1 ≤ i) (h2 : i ≤ G0) (h3 : ¬ st i = nI 3) (h4 : ¬ st i = nI 1) (C1 : Ct l y_M_isSeen b_M_isSeen 4 (some .boolean) 1 0 0 D (gk κ, z) (mw κ a g cm st be ro pl ha mo co to sn le) [.ref (a 0), .int (nI j), .int (nI i), .int cd] (rt (.int v) (mw κ a g cm st be ro pl ha mo co to sn le))) : Ct l y_M_ending b_M_ending 5 (some .int) 2 0 0 D (gk κ, z) (mw κ a g cm st be ro pl ha mo co to sn le) [.ref (a 0), .int (nI j), .int (nI i), .int cd] (rt (.int (if v = 0 then 5 else 4)) (mw κ a g cm st be ro pl ha mo co to sn le)) := by
  refine Ct.of (by decide) (Nat.le_of_ble_eq_true rfl) ?_
  intro p e s0 m below meth c A hC hr hn
  refine u_aload_n hC d_M_ending_0 rfl ?_
  refine u_iload_n hC d_M_ending_1 rfl ?_
  refine u_callVr hC (c_M_runsT hj hh) k_M_45 i_M_runs (q0 := 0) rfl rfl ⟨(Nat.le_of_ble_eq_true rfl), (Nat.le_of_ble_eq_true rfl)⟩ ⟨(Nat.le_of_ble_eq_true rfl), (Nat.le_of_ble_eq_true rfl)⟩ rfl rfl (Nat.le_of_ble_eq_true rfl) d_M_ending_2 ?_
  refine u_if_eq hC 17 d_M_ending_5 (by decide) (fun h_5 => absurd h_5 (by decide)) (fun h_5 => ?_)
  refine u_aload_n hC d_M_ending_8 rfl ?_
  refine u_get hC f_M_35 0 rfl rfl d_M_ending_9 ?_
  refine u_iload_n hC d_M_ending_12 rfl ?_
  refine p_iald hC 9 0 rfl rfl j rfl hj (by decide) d_M_ending_13 ?_
  refine u_if_ge hC 19 d_M_ending_14 (by decide) (fun h_14 => ?_) (fun h_14 => absurd (Int32.not_lt.mp hs) h_14)
  refine u_aload_n hC d_M_ending_19 rfl ?_
  refine u_iload_n hC d_M_ending_20 rfl ?_
  refine u_callVr hC (c_M_givenT hg hG h1 h2) k_M_63 i_M_isGiven (q0 := 0) rfl rfl ⟨(Nat.le_of_ble_eq_true rfl), (Nat.le_of_ble_eq_true rfl)⟩ ⟨(Nat.le_of_ble_eq_true rfl), (Nat.le_of_ble_eq_true rfl)⟩ rfl rfl (Nat.le_of_ble_eq_true rfl) d_M_ending_21 ?_
  refine u_if_eq hC 37 d_M_ending_24 (by decide) (fun h_24 => absurd h_24 (by decide)) (fun h_24 => ?_)
  refine u_aload_n hC d_M_ending_27 rfl ?_
  refine u_get hC f_M_7 0 rfl rfl d_M_ending_28 ?_
  refine u_iload_n hC d_M_ending_31 rfl ?_
  refine p_iald hC 1 0 rfl rfl i rfl (by omega) (by decide) d_M_ending_32 ?_
  refine u_iconst hC (nI 3) d_M_ending_33 (by decide) ?_
  refine u_icmp_ne hC 39 d_M_ending_34 (by decide) (fun h_34 => ?_) (fun h_34 => absurd h_34 h3)
  refine u_aload_n hC d_M_ending_39 rfl ?_
  refine u_iload_n hC d_M_ending_40 rfl ?_
  refine u_iload_n hC d_M_ending_41 rfl ?_
  refine u_iload_n hC d_M_ending_42 rfl ?_
  refine u_callVr hC (C1) k_M_66 i_M_isSeen (q0 := 0) rfl rfl ⟨(Nat.le_of_ble_eq_true rfl), (Nat.le_of_ble_eq_true rfl)⟩ ⟨(Nat.le_of_ble_eq_true rfl), (Nat.le_of_ble_eq_true rfl)⟩ rfl rfl (Nat.le_of_ble_eq_true rfl) d_M_ending_43 ?_
  refine u_istore hC d_M_ending_46 (by decide) ?_
  refine u_aload_n hC d_M_ending_48 rfl ?_
  refine u_get hC f_M_7 0 rfl rfl d_M_ending_49 ?_
  refine u_iload_n hC d_M_ending_52 rfl ?_
  refine p_iald hC 1 0 rfl rfl i rfl (by omega) (by decide) d_M_ending_53 ?_
  refine u_iconst hC (nI 1) d_M_ending_54 (by decide) ?_
  refine u_icmp_ne hC 86 d_M_ending_55 (by decide) (fun h_55 => ?_) (fun h_55 => absurd h_55 h4)
  refine u_iload hC d_M_ending_86 rfl ?_
  refine u_if_eq hC 95 d_M_ending_88 (by decide) (fun h_88 => ?_) (fun h_88 => ?_)
  · refine u_iconst hC (nI 5) d_M_ending_95 (by decide) ?_
    exact u_iret hC hr d_M_ending_96 (Nat.le_of_ble_eq_true rfl) (Nat.le_of_ble_eq_true rfl) ⟨by simp [*, nI], rfl⟩
  · refine u_iconst hC (nI 4) d_M_ending_91 (by decide) ?_
    refine u_goto hC 96 d_M_ending_92 (by decide) ?_
    exact u_iret hC hr d_M_ending_96 (Nat.le_of_ble_eq_true rfl) (Nat.le_of_ble_eq_true rfl) ⟨by simp [*, nI], rfl⟩
set_option maxHeartbeats 4000000 in
set_option maxRecDepth 100000 in
theorem c_M_look5 {s : Int32} : Ct l y_M_look b_M_look 3 (some .int) 1 0 0 D (gk κ, z) (mw κ a g cm st be ro pl ha mo co to sn le) [.ref (a 0), .int s, .int (nI 5)] (rt (.int g) (mw κ a g cm st be ro pl ha mo co to sn le)) := by
  refine Ct.of (by decide) (Nat.le_of_ble_eq_true rfl) ?_
  intro p e s0 m below meth c A hC hr hn
  refine u_iload_n hC d_M_look_0 rfl ?_
  refine u_iconst hC (nI 5) d_M_look_1 (by decide) ?_
  refine u_icmp_eq hC 11 d_M_look_2 (by decide) (fun h_2 => ?_) (fun h_2 => absurd rfl h_2)
  refine u_iload_n hC d_M_look_11 rfl ?_
  refine u_iconst hC (nI 5) d_M_look_12 (by decide) ?_
  refine u_icmp_ne hC 23 d_M_look_13 (by decide) (fun h_13 => absurd rfl h_13) (fun h_13 => ?_)
  refine u_aload_n hC d_M_look_16 rfl ?_
  refine u_get hC f_M_41 0 rfl rfl d_M_look_17 ?_
  refine u_goto hC 27 d_M_look_20 (by decide) ?_
  exact u_iret hC hr d_M_look_27 (Nat.le_of_ble_eq_true rfl) (Nat.le_of_ble_eq_true rfl) ⟨rfl, rfl⟩
set_option maxHeartbeats 4000000 in
set_option maxRecDepth 100000 in
theorem c_M_look6 {s : Int32} : Ct l y_M_look b_M_look 3 (some .int) 1 0 0 D (gk κ, z) (mw κ a g cm st be ro pl ha mo co to sn le) [.ref (a 0), .int s, .int (nI 6)] (rt (.int cm) (mw κ a g cm st be ro pl ha mo co to sn le)) := by
  refine Ct.of (by decide) (Nat.le_of_ble_eq_true rfl) ?_
  intro p e s0 m below meth c A hC hr hn
  refine u_iload_n hC d_M_look_0 rfl ?_
  refine u_iconst hC (nI 5) d_M_look_1 (by decide) ?_
  refine u_icmp_eq hC 11 d_M_look_2 (by decide) (fun h_2 => absurd h_2 (by decide)) (fun h_2 => ?_)
  refine u_iload_n hC d_M_look_5 rfl ?_
  refine u_bipush hC (nI 6) d_M_look_6 (by decide) ?_
  refine u_icmp_ne hC 28 d_M_look_8 (by decide) (fun h_8 => absurd rfl h_8) (fun h_8 => ?_)
  refine u_iload_n hC d_M_look_11 rfl ?_
  refine u_iconst hC (nI 5) d_M_look_12 (by decide) ?_
  refine u_icmp_ne hC 23 d_M_look_13 (by decide) (fun h_13 => ?_) (fun h_13 => absurd h_13 (by decide))
  refine u_aload_n hC d_M_look_23 rfl ?_
  refine u_get hC f_M_49 0 rfl rfl d_M_look_24 ?_
  exact u_iret hC hr d_M_look_27 (Nat.le_of_ble_eq_true rfl) (Nat.le_of_ble_eq_true rfl) ⟨rfl, rfl⟩
set_option maxHeartbeats 4000000 in
set_option maxRecDepth 100000 in
theorem c_M_lookF0 {s x : Int32} (hb : ¬ ∃ j : Nat, j < 6 ∧ s = nI j ∧ ¬ ha j = 0) (h5 : ¬ x = nI 5) (h6 : ¬ x = nI 6) : Ct l y_M_look b_M_look 3 (some .int) 1 0 0 D (gk κ, z) (mw κ a g cm st be ro pl ha mo co to sn le) [.ref (a 0), .int s, .int x] (rt (.int (-1)) (mw κ a g cm st be ro pl ha mo co to sn le)) := by
  refine Ct.of (by decide) (Nat.le_of_ble_eq_true rfl) ?_
  intro p e s0 m below meth c A hC hr hn
  refine u_iload_n hC d_M_look_0 rfl ?_
  refine u_iconst hC (nI 5) d_M_look_1 (by decide) ?_
  refine u_icmp_eq hC 11 d_M_look_2 (by decide) (fun h_2 => absurd h_2 h5) (fun h_2 => ?_)
  refine u_iload_n hC d_M_look_5 rfl ?_
  refine u_bipush hC (nI 6) d_M_look_6 (by decide) ?_
  refine u_icmp_ne hC 28 d_M_look_8 (by decide) (fun h_8 => ?_) (fun h_8 => absurd h_8 h6)
  refine u_aload_n hC d_M_look_28 rfl ?_
  refine u_iload_n hC d_M_look_29 rfl ?_
  refine u_callVr hC (c_M_runsF hb) k_M_45 i_M_runs (q0 := 0) rfl rfl ⟨(Nat.le_of_ble_eq_true rfl), (Nat.le_of_ble_eq_true rfl)⟩ ⟨(Nat.le_of_ble_eq_true rfl), (Nat.le_of_ble_eq_true rfl)⟩ rfl rfl (Nat.le_of_ble_eq_true rfl) d_M_look_30 ?_
  refine u_if_eq hC 45 d_M_look_33 (by decide) (fun h_33 => ?_) (fun h_33 => absurd rfl h_33)
  refine u_iconst hC (-1) d_M_look_45 (by decide) ?_
  exact u_iret hC hr d_M_look_46 (Nat.le_of_ble_eq_true rfl) (Nat.le_of_ble_eq_true rfl) ⟨rfl, rfl⟩
set_option maxHeartbeats 4000000 in
set_option maxRecDepth 100000 in
theorem c_M_lookF1 {j : Nat} {x : Int32} (hj : j < 6) (hh : ¬ ha j = 0) (h5 : ¬ x = nI 5) (h6 : ¬ x = nI 6) (hx : ¬ ∃ i : Nat, i ≤ 4 ∧ x = nI i) : Ct l y_M_look b_M_look 3 (some .int) 1 0 0 D (gk κ, z) (mw κ a g cm st be ro pl ha mo co to sn le) [.ref (a 0), .int (nI j), .int x] (rt (.int (-1)) (mw κ a g cm st be ro pl ha mo co to sn le)) := by
  refine Ct.of (by decide) (Nat.le_of_ble_eq_true rfl) ?_
  intro p e s0 m below meth c A hC hr hn
  refine u_iload_n hC d_M_look_0 rfl ?_
  refine u_iconst hC (nI 5) d_M_look_1 (by decide) ?_
  refine u_icmp_eq hC 11 d_M_look_2 (by decide) (fun h_2 => absurd h_2 h5) (fun h_2 => ?_)
  refine u_iload_n hC d_M_look_5 rfl ?_
  refine u_bipush hC (nI 6) d_M_look_6 (by decide) ?_
  refine u_icmp_ne hC 28 d_M_look_8 (by decide) (fun h_8 => ?_) (fun h_8 => absurd h_8 h6)
  refine u_aload_n hC d_M_look_28 rfl ?_
  refine u_iload_n hC d_M_look_29 rfl ?_
  refine u_callVr hC (c_M_runsT hj hh) k_M_45 i_M_runs (q0 := 0) rfl rfl ⟨(Nat.le_of_ble_eq_true rfl), (Nat.le_of_ble_eq_true rfl)⟩ ⟨(Nat.le_of_ble_eq_true rfl), (Nat.le_of_ble_eq_true rfl)⟩ rfl rfl (Nat.le_of_ble_eq_true rfl) d_M_look_30 ?_
  refine u_if_eq hC 45 d_M_look_33 (by decide) (fun h_33 => absurd h_33 (by decide)) (fun h_33 => ?_)
  refine u_iload_n hC d_M_look_36 rfl ?_
  refine u_if_lt hC 45 d_M_look_37 (by decide) (fun h_37 => ?_) (fun h_37 => ?_)
  · refine u_iconst hC (-1) d_M_look_45 (by decide) ?_
    exact u_iret hC hr d_M_look_46 (Nat.le_of_ble_eq_true rfl) (Nat.le_of_ble_eq_true rfl) ⟨rfl, rfl⟩
  · refine u_iload_n hC d_M_look_40 rfl ?_
    refine u_iconst hC (nI 4) d_M_look_41 (by decide) ?_
    refine u_icmp_le hC 47 d_M_look_42 (by decide) (fun h_42 => ?_) (fun h_42 => ?_)
    · exact absurd (n_rngl (by decide) h_37 h_42) hx
    · refine u_iconst hC (-1) d_M_look_45 (by decide) ?_
      exact u_iret hC hr d_M_look_46 (Nat.le_of_ble_eq_true rfl) (Nat.le_of_ble_eq_true rfl) ⟨rfl, rfl⟩
set_option maxHeartbeats 4000000 in
set_option maxRecDepth 100000 in
theorem c_M_look0 {j t : Nat} (hj : j < 6) (hh : ¬ ha j = 0) (ht : to j = nI t) (ht7 : t ≤ 7) : Ct l y_M_look b_M_look 3 (some .int) 1 0 0 D (gk κ, z) (mw κ a g cm st be ro pl ha mo co to sn le) [.ref (a 0), .int (nI j), .int (nI 0)] (rt (.int (mo j)) (mw κ a g cm st be ro pl ha mo co to sn le)) := by
  refine Ct.of (by decide) (Nat.le_of_ble_eq_true rfl) ?_
  intro p e s0 m below meth c A hC hr hn
  refine u_iload_n hC d_M_look_0 rfl ?_
  refine u_iconst hC (nI 5) d_M_look_1 (by decide) ?_
  refine u_icmp_eq hC 11 d_M_look_2 (by decide) (fun h_2 => absurd h_2 (by decide)) (fun h_2 => ?_)
  refine u_iload_n hC d_M_look_5 rfl ?_
  refine u_bipush hC (nI 6) d_M_look_6 (by decide) ?_
  refine u_icmp_ne hC 28 d_M_look_8 (by decide) (fun h_8 => ?_) (fun h_8 => absurd h_8 (by decide))
  refine u_aload_n hC d_M_look_28 rfl ?_
  refine u_iload_n hC d_M_look_29 rfl ?_
  refine u_callVr hC (c_M_runsT hj hh) k_M_45 i_M_runs (q0 := 0) rfl rfl ⟨(Nat.le_of_ble_eq_true rfl), (Nat.le_of_ble_eq_true rfl)⟩ ⟨(Nat.le_of_ble_eq_true rfl), (Nat.le_of_ble_eq_true rfl)⟩ rfl rfl (Nat.le_of_ble_eq_true rfl) d_M_look_30 ?_
  refine u_if_eq hC 45 d_M_look_33 (by decide) (fun h_33 => absurd h_33 (by decide)) (fun h_33 => ?_)
  refine u_iload_n hC d_M_look_36 rfl ?_
  refine u_if_lt hC 45 d_M_look_37 (by decide) (fun h_37 => absurd h_37 (by decide)) (fun h_37 => ?_)
  refine u_iload_n hC d_M_look_40 rfl ?_
  refine u_iconst hC (nI 4) d_M_look_41 (by decide) ?_
  refine u_icmp_le hC 47 d_M_look_42 (by decide) (fun h_42 => ?_) (fun h_42 => absurd (by decide) h_42)
  refine u_iload_n hC d_M_look_47 rfl ?_
  refine u_if_ne hC 60 d_M_look_48 (by decide) (fun h_48 => absurd rfl h_48) (fun h_48 => ?_)
  refine u_aload_n hC d_M_look_51 rfl ?_
  refine u_get hC f_M_26 0 rfl rfl d_M_look_52 ?_
  refine u_iload_n hC d_M_look_55 rfl ?_
  refine p_iald hC 6 0 rfl rfl j rfl hj (by decide) d_M_look_56 ?_
  refine u_goto hC 118 d_M_look_57 (by decide) ?_
  exact u_iret hC hr d_M_look_118 (Nat.le_of_ble_eq_true rfl) (Nat.le_of_ble_eq_true rfl) ⟨rfl, rfl⟩
set_option maxHeartbeats 4000000 in
set_option maxRecDepth 100000 in
theorem c_M_look1 {j t : Nat} (hj : j < 6) (hh : ¬ ha j = 0) (ht : to j = nI t) (ht7 : t ≤ 7) : Ct l y_M_look b_M_look 3 (some .int) 1 0 0 D (gk κ, z) (mw κ a g cm st be ro pl ha mo co to sn le) [.ref (a 0), .int (nI j), .int (nI 1)] (rt (.int (co j)) (mw κ a g cm st be ro pl ha mo co to sn le)) := by
  refine Ct.of (by decide) (Nat.le_of_ble_eq_true rfl) ?_
  intro p e s0 m below meth c A hC hr hn
  refine u_iload_n hC d_M_look_0 rfl ?_
  refine u_iconst hC (nI 5) d_M_look_1 (by decide) ?_
  refine u_icmp_eq hC 11 d_M_look_2 (by decide) (fun h_2 => absurd h_2 (by decide)) (fun h_2 => ?_)
  refine u_iload_n hC d_M_look_5 rfl ?_
  refine u_bipush hC (nI 6) d_M_look_6 (by decide) ?_
  refine u_icmp_ne hC 28 d_M_look_8 (by decide) (fun h_8 => ?_) (fun h_8 => absurd h_8 (by decide))
  refine u_aload_n hC d_M_look_28 rfl ?_
  refine u_iload_n hC d_M_look_29 rfl ?_
  refine u_callVr hC (c_M_runsT hj hh) k_M_45 i_M_runs (q0 := 0) rfl rfl ⟨(Nat.le_of_ble_eq_true rfl), (Nat.le_of_ble_eq_true rfl)⟩ ⟨(Nat.le_of_ble_eq_true rfl), (Nat.le_of_ble_eq_true rfl)⟩ rfl rfl (Nat.le_of_ble_eq_true rfl) d_M_look_30 ?_
  refine u_if_eq hC 45 d_M_look_33 (by decide) (fun h_33 => absurd h_33 (by decide)) (fun h_33 => ?_)
  refine u_iload_n hC d_M_look_36 rfl ?_
  refine u_if_lt hC 45 d_M_look_37 (by decide) (fun h_37 => absurd h_37 (by decide)) (fun h_37 => ?_)
  refine u_iload_n hC d_M_look_40 rfl ?_
  refine u_iconst hC (nI 4) d_M_look_41 (by decide) ?_
  refine u_icmp_le hC 47 d_M_look_42 (by decide) (fun h_42 => ?_) (fun h_42 => absurd (by decide) h_42)
  refine u_iload_n hC d_M_look_47 rfl ?_
  refine u_if_ne hC 60 d_M_look_48 (by decide) (fun h_48 => ?_) (fun h_48 => absurd h_48 (by decide))
  refine u_iload_n hC d_M_look_60 rfl ?_
  refine u_iconst hC (nI 1) d_M_look_61 (by decide) ?_
  refine u_icmp_ne hC 74 d_M_look_62 (by decide) (fun h_62 => absurd rfl h_62) (fun h_62 => ?_)
  refine u_aload_n hC d_M_look_65 rfl ?_
  refine u_get hC f_M_29 0 rfl rfl d_M_look_66 ?_
  refine u_iload_n hC d_M_look_69 rfl ?_
  refine p_iald hC 7 0 rfl rfl j rfl hj (by decide) d_M_look_70 ?_
  refine u_goto hC 118 d_M_look_71 (by decide) ?_
  exact u_iret hC hr d_M_look_118 (Nat.le_of_ble_eq_true rfl) (Nat.le_of_ble_eq_true rfl) ⟨rfl, rfl⟩
set_option maxHeartbeats 4000000 in
set_option maxRecDepth 100000 in
theorem c_M_look2 {j t : Nat} (hj : j < 6) (hh : ¬ ha j = 0) (ht : to j = nI t) (ht7 : t ≤ 7) : Ct l y_M_look b_M_look 3 (some .int) 1 0 0 D (gk κ, z) (mw κ a g cm st be ro pl ha mo co to sn le) [.ref (a 0), .int (nI j), .int (nI 2)] (rt (.int (to j)) (mw κ a g cm st be ro pl ha mo co to sn le)) := by
  refine Ct.of (by decide) (Nat.le_of_ble_eq_true rfl) ?_
  intro p e s0 m below meth c A hC hr hn
  refine u_iload_n hC d_M_look_0 rfl ?_
  refine u_iconst hC (nI 5) d_M_look_1 (by decide) ?_
  refine u_icmp_eq hC 11 d_M_look_2 (by decide) (fun h_2 => absurd h_2 (by decide)) (fun h_2 => ?_)
  refine u_iload_n hC d_M_look_5 rfl ?_
  refine u_bipush hC (nI 6) d_M_look_6 (by decide) ?_
  refine u_icmp_ne hC 28 d_M_look_8 (by decide) (fun h_8 => ?_) (fun h_8 => absurd h_8 (by decide))
  refine u_aload_n hC d_M_look_28 rfl ?_
  refine u_iload_n hC d_M_look_29 rfl ?_
  refine u_callVr hC (c_M_runsT hj hh) k_M_45 i_M_runs (q0 := 0) rfl rfl ⟨(Nat.le_of_ble_eq_true rfl), (Nat.le_of_ble_eq_true rfl)⟩ ⟨(Nat.le_of_ble_eq_true rfl), (Nat.le_of_ble_eq_true rfl)⟩ rfl rfl (Nat.le_of_ble_eq_true rfl) d_M_look_30 ?_
  refine u_if_eq hC 45 d_M_look_33 (by decide) (fun h_33 => absurd h_33 (by decide)) (fun h_33 => ?_)
  refine u_iload_n hC d_M_look_36 rfl ?_
  refine u_if_lt hC 45 d_M_look_37 (by decide) (fun h_37 => absurd h_37 (by decide)) (fun h_37 => ?_)
  refine u_iload_n hC d_M_look_40 rfl ?_
  refine u_iconst hC (nI 4) d_M_look_41 (by decide) ?_
  refine u_icmp_le hC 47 d_M_look_42 (by decide) (fun h_42 => ?_) (fun h_42 => absurd (by decide) h_42)
  refine u_iload_n hC d_M_look_47 rfl ?_
  refine u_if_ne hC 60 d_M_look_48 (by decide) (fun h_48 => ?_) (fun h_48 => absurd h_48 (by decide))
  refine u_iload_n hC d_M_look_60 rfl ?_
  refine u_iconst hC (nI 1) d_M_look_61 (by decide) ?_
  refine u_icmp_ne hC 74 d_M_look_62 (by decide) (fun h_62 => ?_) (fun h_62 => absurd h_62 (by decide))
  refine u_iload_n hC d_M_look_74 rfl ?_
  refine u_iconst hC (nI 2) d_M_look_75 (by decide) ?_
  refine u_icmp_ne hC 88 d_M_look_76 (by decide) (fun h_76 => absurd rfl h_76) (fun h_76 => ?_)
  refine u_aload_n hC d_M_look_79 rfl ?_
  refine u_get hC f_M_32 0 rfl rfl d_M_look_80 ?_
  refine u_iload_n hC d_M_look_83 rfl ?_
  refine p_iald hC 8 0 rfl rfl j rfl hj (by decide) d_M_look_84 ?_
  refine u_goto hC 118 d_M_look_85 (by decide) ?_
  exact u_iret hC hr d_M_look_118 (Nat.le_of_ble_eq_true rfl) (Nat.le_of_ble_eq_true rfl) ⟨rfl, rfl⟩
set_option maxHeartbeats 4000000 in
set_option maxRecDepth 100000 in
theorem c_M_look3 {j t : Nat} (hj : j < 6) (hh : ¬ ha j = 0) (ht : to j = nI t) (ht7 : t ≤ 7) : Ct l y_M_look b_M_look 3 (some .int) 1 0 0 D (gk κ, z) (mw κ a g cm st be ro pl ha mo co to sn le) [.ref (a 0), .int (nI j), .int (nI 3)] (rt (.int (le (8 * j + t))) (mw κ a g cm st be ro pl ha mo co to sn le)) := by
  refine Ct.of (by decide) (Nat.le_of_ble_eq_true rfl) ?_
  intro p e s0 m below meth c A hC hr hn
  refine u_iload_n hC d_M_look_0 rfl ?_
  refine u_iconst hC (nI 5) d_M_look_1 (by decide) ?_
  refine u_icmp_eq hC 11 d_M_look_2 (by decide) (fun h_2 => absurd h_2 (by decide)) (fun h_2 => ?_)
  refine u_iload_n hC d_M_look_5 rfl ?_
  refine u_bipush hC (nI 6) d_M_look_6 (by decide) ?_
  refine u_icmp_ne hC 28 d_M_look_8 (by decide) (fun h_8 => ?_) (fun h_8 => absurd h_8 (by decide))
  refine u_aload_n hC d_M_look_28 rfl ?_
  refine u_iload_n hC d_M_look_29 rfl ?_
  refine u_callVr hC (c_M_runsT hj hh) k_M_45 i_M_runs (q0 := 0) rfl rfl ⟨(Nat.le_of_ble_eq_true rfl), (Nat.le_of_ble_eq_true rfl)⟩ ⟨(Nat.le_of_ble_eq_true rfl), (Nat.le_of_ble_eq_true rfl)⟩ rfl rfl (Nat.le_of_ble_eq_true rfl) d_M_look_30 ?_
  refine u_if_eq hC 45 d_M_look_33 (by decide) (fun h_33 => absurd h_33 (by decide)) (fun h_33 => ?_)
  refine u_iload_n hC d_M_look_36 rfl ?_
  refine u_if_lt hC 45 d_M_look_37 (by decide) (fun h_37 => absurd h_37 (by decide)) (fun h_37 => ?_)
  refine u_iload_n hC d_M_look_40 rfl ?_
  refine u_iconst hC (nI 4) d_M_look_41 (by decide) ?_
  refine u_icmp_le hC 47 d_M_look_42 (by decide) (fun h_42 => ?_) (fun h_42 => absurd (by decide) h_42)
  refine u_iload_n hC d_M_look_47 rfl ?_
  refine u_if_ne hC 60 d_M_look_48 (by decide) (fun h_48 => ?_) (fun h_48 => absurd h_48 (by decide))
  refine u_iload_n hC d_M_look_60 rfl ?_
  refine u_iconst hC (nI 1) d_M_look_61 (by decide) ?_
  refine u_icmp_ne hC 74 d_M_look_62 (by decide) (fun h_62 => ?_) (fun h_62 => absurd h_62 (by decide))
  refine u_iload_n hC d_M_look_74 rfl ?_
  refine u_iconst hC (nI 2) d_M_look_75 (by decide) ?_
  refine u_icmp_ne hC 88 d_M_look_76 (by decide) (fun h_76 => ?_) (fun h_76 => absurd h_76 (by decide))
  refine u_iload_n hC d_M_look_88 rfl ?_
  refine u_iconst hC (nI 3) d_M_look_89 (by decide) ?_
  refine u_icmp_ne hC 112 d_M_look_90 (by decide) (fun h_90 => absurd rfl h_90) (fun h_90 => ?_)
  refine u_aload_n hC d_M_look_93 rfl ?_
  refine u_get hC f_M_38 0 rfl rfl d_M_look_94 ?_
  refine u_bipush hC (nI 8) d_M_look_97 (by decide) ?_
  refine u_iload_n hC d_M_look_99 rfl ?_
  refine u_imul hC d_M_look_100 ?_
  refine u_aload_n hC d_M_look_101 rfl ?_
  refine u_get hC f_M_32 0 rfl rfl d_M_look_102 ?_
  refine u_iload_n hC d_M_look_105 rfl ?_
  refine p_iald hC 8 0 rfl rfl j rfl hj (by decide) d_M_look_106 ?_
  refine u_iadd hC d_M_look_107 ?_
  refine p_iald hC 10 0 rfl rfl (8 * j + t) (by rw [ht, n_8]) (by omega) (by decide) d_M_look_108 ?_
  refine u_goto hC 118 d_M_look_109 (by decide) ?_
  exact u_iret hC hr d_M_look_118 (Nat.le_of_ble_eq_true rfl) (Nat.le_of_ble_eq_true rfl) ⟨rfl, rfl⟩
set_option maxHeartbeats 4000000 in
set_option maxRecDepth 100000 in
theorem c_M_look4 {j t : Nat} (hj : j < 6) (hh : ¬ ha j = 0) (ht : to j = nI t) (ht7 : t ≤ 7) : Ct l y_M_look b_M_look 3 (some .int) 1 0 0 D (gk κ, z) (mw κ a g cm st be ro pl ha mo co to sn le) [.ref (a 0), .int (nI j), .int (nI 4)] (rt (.int (sn j)) (mw κ a g cm st be ro pl ha mo co to sn le)) := by
  refine Ct.of (by decide) (Nat.le_of_ble_eq_true rfl) ?_
  intro p e s0 m below meth c A hC hr hn
  refine u_iload_n hC d_M_look_0 rfl ?_
  refine u_iconst hC (nI 5) d_M_look_1 (by decide) ?_
  refine u_icmp_eq hC 11 d_M_look_2 (by decide) (fun h_2 => absurd h_2 (by decide)) (fun h_2 => ?_)
  refine u_iload_n hC d_M_look_5 rfl ?_
  refine u_bipush hC (nI 6) d_M_look_6 (by decide) ?_
  refine u_icmp_ne hC 28 d_M_look_8 (by decide) (fun h_8 => ?_) (fun h_8 => absurd h_8 (by decide))
  refine u_aload_n hC d_M_look_28 rfl ?_
  refine u_iload_n hC d_M_look_29 rfl ?_
  refine u_callVr hC (c_M_runsT hj hh) k_M_45 i_M_runs (q0 := 0) rfl rfl ⟨(Nat.le_of_ble_eq_true rfl), (Nat.le_of_ble_eq_true rfl)⟩ ⟨(Nat.le_of_ble_eq_true rfl), (Nat.le_of_ble_eq_true rfl)⟩ rfl rfl (Nat.le_of_ble_eq_true rfl) d_M_look_30 ?_
  refine u_if_eq hC 45 d_M_look_33 (by decide) (fun h_33 => absurd h_33 (by decide)) (fun h_33 => ?_)
  refine u_iload_n hC d_M_look_36 rfl ?_
  refine u_if_lt hC 45 d_M_look_37 (by decide) (fun h_37 => absurd h_37 (by decide)) (fun h_37 => ?_)
  refine u_iload_n hC d_M_look_40 rfl ?_
  refine u_iconst hC (nI 4) d_M_look_41 (by decide) ?_
  refine u_icmp_le hC 47 d_M_look_42 (by decide) (fun h_42 => ?_) (fun h_42 => absurd (by decide) h_42)
  refine u_iload_n hC d_M_look_47 rfl ?_
  refine u_if_ne hC 60 d_M_look_48 (by decide) (fun h_48 => ?_) (fun h_48 => absurd h_48 (by decide))
  refine u_iload_n hC d_M_look_60 rfl ?_
  refine u_iconst hC (nI 1) d_M_look_61 (by decide) ?_
  refine u_icmp_ne hC 74 d_M_look_62 (by decide) (fun h_62 => ?_) (fun h_62 => absurd h_62 (by decide))
  refine u_iload_n hC d_M_look_74 rfl ?_
  refine u_iconst hC (nI 2) d_M_look_75 (by decide) ?_
  refine u_icmp_ne hC 88 d_M_look_76 (by decide) (fun h_76 => ?_) (fun h_76 => absurd h_76 (by decide))
  refine u_iload_n hC d_M_look_88 rfl ?_
  refine u_iconst hC (nI 3) d_M_look_89 (by decide) ?_
  refine u_icmp_ne hC 112 d_M_look_90 (by decide) (fun h_90 => ?_) (fun h_90 => absurd h_90 (by decide))
  refine u_aload_n hC d_M_look_112 rfl ?_
  refine u_get hC f_M_35 0 rfl rfl d_M_look_113 ?_
  refine u_iload_n hC d_M_look_116 rfl ?_
  refine p_iald hC 9 0 rfl rfl j rfl hj (by decide) d_M_look_117 ?_
  exact u_iret hC hr d_M_look_118 (Nat.le_of_ble_eq_true rfl) (Nat.le_of_ble_eq_true rfl) ⟨rfl, rfl⟩
end MR
end
section
/-- how many of r levels from k on have no number -/
def m_mis (j : Nat) (le : Nat → Int32) : Nat → Nat → Nat
  | 0, _ => 0
  | r + 1, k => (if le (8 * j + k) = 0 then 1 else 0) + m_mis j le r (k + 1)
theorem m_mis_le (j : Nat) (le : Nat → Int32) : ∀ r k : Nat, m_mis j le r k ≤ r
  | 0, _ => Nat.le_refl _
  | r + 1, k => by
    have := m_mis_le j le r (k + 1)
    unfold m_mis
    split <;> omega
theorem m_mis_upd (j : Nat) (le : Nat → Int32) (q : Nat) (x : Int32) : ∀ r k : Nat, q < k → m_mis j (upd le (8 * j + q) x) r k = m_mis j le r k
  | 0, _, _ => rfl
  | r + 1, k, h => by
    unfold m_mis
    rw [m_mis_upd j le q x r (k + 1) (by omega)]
    have e : upd le (8 * j + q) x (8 * j + k) = le (8 * j + k) := by
      unfold upd
      exact if_neg (by omega)
    rw [e]
/-- numbers given, levels, states, belongs, roots -/
abbrev MG : Type := Nat × (Nat → Int32) × (Nat → Int32) × (Nat → Int32) × (Nat → Int32)
def m_new (j k : Nat) (x : MG) : MG := (x.1 + 1, upd x.2.1 (8 * j + k) (nI (x.1 + 1)), upd x.2.2.1 (x.1 + 1) (nI 1), upd x.2.2.2.1 (x.1 + 1) (nI (8 * j + k)), upd x.2.2.2.2 (x.1 + 1) (upd x.2.1 (8 * j + k) (nI (x.1 + 1)) (8 * j)))
/-- the levels k, .., k + r - 1 that have no number get one -/
def m_gv (j : Nat) : Nat → Nat → MG → MG
  | 0, _, x => x
  | r + 1, k, x => m_gv j r (k + 1) (if x.2.1 (8 * j + k) = 0 then m_new j k x else x)
/-- states, places, has: behind an abort of session j -/
abbrev MC : Type := (Nat → Int32) × (Nat → Int32) × (Nat → Int32)
def m_ab (be : Nat → Int32) (G0 j : Nat) (x : MC) : MC := (m_set x.1 be x.1 (nI j) (nI 0) (nI 3) (G0 + 1), m_set x.1 be x.2.1 (nI j) (nI 0) (nI 0) (G0 + 1), upd x.2.2 j 0)
def m_cr (be : Nat → Int32) (G0 : Nat) : Nat → Nat → MC → MC
  | 0, _, x => x
  | r + 1, k, x => m_cr be G0 r (k + 1) (if x.2.2 k = 0 then x else m_ab be G0 k x)
abbrev m_ok (ha sn pl : Nat → Int32) (q s : Nat) : Prop := ha s = 0 ∨ sn s < 0 ∨ ¬ sn s < pl q
section MN0
variable {l : Launch} {D : va_G} {κ : Nat → ClassId} {z : Nat × Nat} {a : Nat → Nat} {g cm : Int32} {st be ro pl ha mo co to sn le : Nat → Int32}
variable {p : Program} {e : Env} {R : Room} {s0 : State} {m : MethodId} {args : Array Value} {below : List Frame} {meth : Method} {c : Code} {A : Nat → Prop} {Q : State → Prop}
set_option maxHeartbeats 4000000 in
set_option maxRecDepth 100000 in
theorem l_M_num1 {j t : Nat} (hj : j < 6) (hh : ¬ ha j = 0) (ht : to j = nI t) (ht7 : t ≤ 7) (hC : vx p s0 m args meth c b_M_number 4 R_M D (gk κ, z) A) (hR : 0 + 1 ≤ R.frames ∧ 8 + (2 + 11) + 40 * 0 ≤ R.locals) : ∀ r k cn : Nat, k + r = t + 1 → U p l e R s0 m args below meth c 4 D A (mw κ a g cm st be ro pl ha mo co to sn le) 0 0 Q 50 [(3, .int (nI (k + r))), (2, .int (nI (cn + m_mis j le r k))), (0, .ref (a 0)), (1, .int (nI j))] [] → U p l e R s0 m args below meth c 4 D A (mw κ a g cm st be ro pl ha mo co to sn le) 0 0 Q 4 [(3, .int (nI k)), (2, .int (nI cn)), (0, .ref (a 0)), (1, .int (nI j))] [] := by
  intro r
  induction r with
  | zero =>
    intro k cn hk exit
    have e : k = t + 1 := by omega
    subst e
    refine u_aload_n hC d_M_number_4 rfl ?_
    refine u_iload_n hC d_M_number_5 rfl ?_
    refine u_callVr hC (c_M_runsT hj hh) k_M_45 i_M_runs (q0 := 0) rfl rfl hR ⟨Nat.zero_le _, Nat.zero_le _⟩ rfl rfl (Nat.le_of_ble_eq_true rfl) d_M_number_6 ?_
    refine u_if_eq hC 50 d_M_number_9 (by decide) (fun h_9 => absurd h_9 (by decide)) (fun h_9 => ?_)
    refine u_iload_n hC d_M_number_12 rfl ?_
    refine u_aload_n hC d_M_number_13 rfl ?_
    refine u_get hC f_M_32 0 rfl rfl d_M_number_14 ?_
    refine u_iload_n hC d_M_number_17 rfl ?_
    refine p_iald hC 8 0 rfl rfl j rfl hj (by decide) d_M_number_18 ?_
    refine u_icmp_gt hC 50 d_M_number_19 (by decide) (fun h_19 => ?_) (fun h_19 => absurd (by rw [ht]; exact nI_lt (by omega) (by omega)) h_19)
    exact exit
  | succ r ih =>
    intro k cn hk exit
    rw [show k + (r + 1) = (k + 1) + r by omega] at exit
    unfold m_mis at exit
    by_cases hz : le (8 * j + k) = 0
    · rw [if_pos hz, ← Nat.add_assoc] at exit
      refine u_aload_n hC d_M_number_4 rfl ?_
      refine u_iload_n hC d_M_number_5 rfl ?_
      refine u_callVr hC (c_M_runsT hj hh) k_M_45 i_M_runs (q0 := 0) rfl rfl hR ⟨Nat.zero_le _, Nat.zero_le _⟩ rfl rfl (Nat.le_of_ble_eq_true rfl) d_M_number_6 ?_
      refine u_if_eq hC 50 d_M_number_9 (by decide) (fun h_9 => absurd h_9 (by decide)) (fun h_9 => ?_)
      refine u_iload_n hC d_M_number_12 rfl ?_
      refine u_aload_n hC d_M_number_13 rfl ?_
      refine u_get hC f_M_32 0 rfl rfl d_M_number_14 ?_
      refine u_iload_n hC d_M_number_17 rfl ?_
      refine p_iald hC 8 0 rfl rfl j rfl hj (by decide) d_M_number_18 ?_
      refine u_icmp_gt hC 50 d_M_number_19 (by decide) (fun h_19 => absurd h_19 (by rw [ht]; exact nI_nlt (by omega) (by omega))) (fun h_19 => ?_)
      refine u_aload_n hC d_M_number_22 rfl ?_
      refine u_get hC f_M_38 0 rfl rfl d_M_number_23 ?_
      refine u_bipush hC (nI 8) d_M_number_26 (by decide) ?_
      refine u_iload_n hC d_M_number_28 rfl ?_
      refine u_imul hC d_M_number_29 ?_
      refine u_iload_n hC d_M_number_30 rfl ?_
      refine u_iadd hC d_M_number_31 ?_
      refine p_iald hC 10 0 rfl rfl (8 * j + k) (n_8 j k) (by omega) (by decide) d_M_number_32 ?_
      refine u_if_ne hC 42 d_M_number_33 (by decide) (fun h_33 => absurd hz h_33) (fun h_33 => ?_)
      refine u_iload_n hC d_M_number_36 rfl ?_
      refine u_iconst hC (nI 1) d_M_number_37 (by decide) ?_
      refine u_iadd hC d_M_number_38 ?_
      refine u_val (nI_add cn 1) ?_
      refine u_goto hC 43 d_M_number_39 (by decide) ?_
      refine u_istore_n hC d_M_number_43 (by decide) ?_
      refine u_iinc hC (nI (k + 1)) (j := 1) d_M_number_44 rfl (nI_1 k) (by decide) ?_
      refine u_goto hC 4 d_M_number_47 (by decide) ?_
      exact ih (k + 1) (cn + 1) (by omega) exit
    · rw [if_neg hz, Nat.zero_add] at exit
      refine u_aload_n hC d_M_number_4 rfl ?_
      refine u_iload_n hC d_M_number_5 rfl ?_
      refine u_callVr hC (c_M_runsT hj hh) k_M_45 i_M_runs (q0 := 0) rfl rfl hR ⟨Nat.zero_le _, Nat.zero_le _⟩ rfl rfl (Nat.le_of_ble_eq_true rfl) d_M_number_6 ?_
      refine u_if_eq hC 50 d_M_number_9 (by decide) (fun h_9 => absurd h_9 (by decide)) (fun h_9 => ?_)
      refine u_iload_n hC d_M_number_12 rfl ?_
      refine u_aload_n hC d_M_number_13 rfl ?_
      refine u_get hC f_M_32 0 rfl rfl d_M_number_14 ?_
      refine u_iload_n hC d_M_number_17 rfl ?_
      refine p_iald hC 8 0 rfl rfl j rfl hj (by decide) d_M_number_18 ?_
      refine u_icmp_gt hC 50 d_M_number_19 (by decide) (fun h_19 => absurd h_19 (by rw [ht]; exact nI_nlt (by omega) (by omega))) (fun h_19 => ?_)
      refine u_aload_n hC d_M_number_22 rfl ?_
      refine u_get hC f_M_38 0 rfl rfl d_M_number_23 ?_
      refine u_bipush hC (nI 8) d_M_number_26 (by decide) ?_
      refine u_iload_n hC d_M_number_28 rfl ?_
      refine u_imul hC d_M_number_29 ?_
      refine u_iload_n hC d_M_number_30 rfl ?_
      refine u_iadd hC d_M_number_31 ?_
      refine p_iald hC 10 0 rfl rfl (8 * j + k) (n_8 j k) (by omega) (by decide) d_M_number_32 ?_
      refine u_if_ne hC 42 d_M_number_33 (by decide) (fun h_33 => ?_) (fun h_33 => absurd h_33 hz)
      refine u_iload_n hC d_M_number_42 rfl ?_
      refine u_istore_n hC d_M_number_43 (by decide) ?_
      refine u_iinc hC (nI (k + 1)) (j := 1) d_M_number_44 rfl (nI_1 k) (by decide) ?_
      refine u_goto hC 4 d_M_number_47 (by decide) ?_
      exact ih (k + 1) cn (by omega) exit
set_option maxHeartbeats 4000000 in
set_option maxRecDepth 100000 in
theorem l_M_num2 {j t cn : Nat} (hj : j < 6) (hh : ¬ ha j = 0) (ht : to j = nI t) (ht7 : t ≤ 7) (hC : vx p s0 m args meth c b_M_number 4 R_M D (gk κ, z) A) : ∀ (r k : Nat) (x : MG), k + r = t + 1 → x.1 + m_mis j x.2.1 r k ≤ 4000 → U p l e R s0 m args below meth c 4 D A (mw κ a (nI (m_gv j r k x).1) cm (m_gv j r k x).2.2.1 (m_gv j r k x).2.2.2.1 (m_gv j r k x).2.2.2.2 pl ha mo co to sn (m_gv j r k x).2.1) 0 0 Q 172 [(3, .int (nI (k + r))), (2, .int (nI cn)), (0, .ref (a 0)), (1, .int (nI j))] [] → U p l e R s0 m args below meth c 4 D A (mw κ a (nI x.1) cm x.2.2.1 x.2.2.2.1 x.2.2.2.2 pl ha mo co to sn x.2.1) 0 0 Q 74 [(3, .int (nI k)), (2, .int (nI cn)), (0, .ref (a 0)), (1, .int (nI j))] [] := by
  intro r
  induction r with
  | zero =>
    intro k x hk hm exit
    have e : k = t + 1 := by omega
    subst e
    refine u_iload_n hC d_M_number_74 rfl ?_
    refine u_aload_n hC d_M_number_75 rfl ?_
    refine u_get hC f_M_32 0 rfl rfl d_M_number_76 ?_
    refine u_iload_n hC d_M_number_79 rfl ?_
    refine p_iald hC 8 0 rfl rfl j rfl hj (by decide) d_M_number_80 ?_
    refine u_icmp_gt hC 172 d_M_number_81 (by decide) (fun h_81 => ?_) (fun h_81 => absurd (by rw [ht]; exact nI_lt (by omega) (by omega)) h_81)
    exact exit
  | succ r ih =>
    intro k x hk hm exit
    rw [show k + (r + 1) = (k + 1) + r by omega] at exit
    unfold m_gv at exit
    unfold m_mis at hm
    obtain ⟨G1, le, st, be, ro⟩ := x
    dsimp only at hm exit ⊢
    by_cases hz : le (8 * j + k) = 0
    · rw [if_pos hz] at exit hm
      refine u_iload_n hC d_M_number_74 rfl ?_
      refine u_aload_n hC d_M_number_75 rfl ?_
      refine u_get hC f_M_32 0 rfl rfl d_M_number_76 ?_
      refine u_iload_n hC d_M_number_79 rfl ?_
      refine p_iald hC 8 0 rfl rfl j rfl hj (by decide) d_M_number_80 ?_
      refine u_icmp_gt hC 172 d_M_number_81 (by decide) (fun h_81 => absurd h_81 (by rw [ht]; exact nI_nlt (by omega) (by omega))) (fun h_81 => ?_)
      refine u_aload_n hC d_M_number_84 rfl ?_
      refine u_get hC f_M_38 0 rfl rfl d_M_number_85 ?_
      refine u_bipush hC (nI 8) d_M_number_88 (by decide) ?_
      refine u_iload_n hC d_M_number_90 rfl ?_
      refine u_imul hC d_M_number_91 ?_
      refine u_iload_n hC d_M_number_92 rfl ?_
      refine u_iadd hC d_M_number_93 ?_
      refine p_iald hC 10 0 rfl rfl (8 * j + k) (n_8 j k) (by omega) (by decide) d_M_number_94 ?_
      refine u_if_ne hC 166 d_M_number_95 (by decide) (fun h_95 => absurd hz h_95) (fun h_95 => ?_)
      refine u_aload_n hC d_M_number_98 rfl ?_
      refine u_dup hC d_M_number_99 rfl ?_
      refine u_get hC f_M_41 0 rfl rfl d_M_number_100 ?_
      refine u_iconst hC (nI 1) d_M_number_103 (by decide) ?_
      refine u_iadd hC d_M_number_104 ?_
      refine u_val (nI_add G1 1) ?_
      refine u_put hC f_M_41 (tt_M 0 (by decide)) rfl 0 rfl rfl rfl (Nat.le_of_ble_eq_true rfl) rfl d_M_number_105 ?_
      refine u_aload_n hC d_M_number_108 rfl ?_
      refine u_get hC f_M_38 0 rfl rfl d_M_number_109 ?_
      refine u_bipush hC (nI 8) d_M_number_112 (by decide) ?_
      refine u_iload_n hC d_M_number_114 rfl ?_
      refine u_imul hC d_M_number_115 ?_
      refine u_iload_n hC d_M_number_116 rfl ?_
      refine u_iadd hC d_M_number_117 ?_
      refine u_aload_n hC d_M_number_118 rfl ?_
      refine u_get hC f_M_41 0 rfl rfl d_M_number_119 ?_
      refine p_iast hC 10 0 rfl rfl (8 * j + k) (n_8 j k) (by omega) (by decide) rfl d_M_number_122 ?_
      refine u_aload_n hC d_M_number_123 rfl ?_
      refine u_get hC f_M_7 0 rfl rfl d_M_number_124 ?_
      refine u_aload_n hC d_M_number_127 rfl ?_
      refine u_get hC f_M_41 0 rfl rfl d_M_number_128 ?_
      refine u_iconst hC (nI 1) d_M_number_131 (by decide) ?_
      refine p_iast hC 1 0 rfl rfl (G1 + 1) rfl (by omega) (by decide) rfl d_M_number_132 ?_
      refine u_aload_n hC d_M_number_133 rfl ?_
      refine u_get hC f_M_13 0 rfl rfl d_M_number_134 ?_
      refine u_aload_n hC d_M_number_137 rfl ?_
      refine u_get hC f_M_41 0 rfl rfl d_M_number_138 ?_
      refine u_bipush hC (nI 8) d_M_number_141 (by decide) ?_
      refine u_iload_n hC d_M_number_143 rfl ?_
      refine u_imul hC d_M_number_144 ?_
      refine u_iload_n hC d_M_number_145 rfl ?_
      refine u_iadd hC d_M_number_146 ?_
      refine u_val (n_8 j k) ?_
      refine p_iast hC 2 0 rfl rfl (G1 + 1) rfl (by omega) (by decide) rfl d_M_number_147 ?_
      refine u_aload_n hC d_M_number_148 rfl ?_
      refine u_get hC f_M_16 0 rfl rfl d_M_number_149 ?_
      refine u_aload_n hC d_M_number_152 rfl ?_
      refine u_get hC f_M_41 0 rfl rfl d_M_number_153 ?_
      refine u_aload_n hC d_M_number_156 rfl ?_
      refine u_get hC f_M_38 0 rfl rfl d_M_number_157 ?_
      refine u_bipush hC (nI 8) d_M_number_160 (by decide) ?_
      refine u_iload_n hC d_M_number_162 rfl ?_
      refine u_imul hC d_M_number_163 ?_
      refine p_iald hC 10 0 rfl rfl (8 * j) (n_8a j) (by omega) (by decide) d_M_number_164 ?_
      refine p_iast hC 3 0 rfl rfl (G1 + 1) rfl (by omega) (by decide) rfl d_M_number_165 ?_
      refine u_iinc hC (nI (k + 1)) (j := 0) d_M_number_166 rfl (nI_1 k) (by decide) ?_
      refine u_goto hC 74 d_M_number_169 (by decide) ?_
      exact ih (k + 1) (m_new j k (G1, le, st, be, ro)) (by omega) (by show G1 + 1 + m_mis j (upd le (8 * j + k) _) r (k + 1) ≤ 4000; rw [m_mis_upd j le k _ r (k + 1) (by omega)]; omega) exit
    · rw [if_neg hz] at exit hm
      refine u_iload_n hC d_M_number_74 rfl ?_
      refine u_aload_n hC d_M_number_75 rfl ?_
      refine u_get hC f_M_32 0 rfl rfl d_M_number_76 ?_
      refine u_iload_n hC d_M_number_79 rfl ?_
      refine p_iald hC 8 0 rfl rfl j rfl hj (by decide) d_M_number_80 ?_
      refine u_icmp_gt hC 172 d_M_number_81 (by decide) (fun h_81 => absurd h_81 (by rw [ht]; exact nI_nlt (by omega) (by omega))) (fun h_81 => ?_)
      refine u_aload_n hC d_M_number_84 rfl ?_
      refine u_get hC f_M_38 0 rfl rfl d_M_number_85 ?_
      refine u_bipush hC (nI 8) d_M_number_88 (by decide) ?_
      refine u_iload_n hC d_M_number_90 rfl ?_
      refine u_imul hC d_M_number_91 ?_
      refine u_iload_n hC d_M_number_92 rfl ?_
      refine u_iadd hC d_M_number_93 ?_
      refine p_iald hC 10 0 rfl rfl (8 * j + k) (n_8 j k) (by omega) (by decide) d_M_number_94 ?_
      refine u_if_ne hC 166 d_M_number_95 (by decide) (fun h_95 => ?_) (fun h_95 => absurd h_95 hz)
      refine u_iinc hC (nI (k + 1)) (j := 0) d_M_number_166 rfl (nI_1 k) (by decide) ?_
      refine u_goto hC 74 d_M_number_169 (by decide) ?_
      exact ih (k + 1) (G1, le, st, be, ro) (by omega) (by show G1 + m_mis j le r (k + 1) ≤ 4000; omega) exit
set_option maxHeartbeats 4000000 in
set_option maxRecDepth 100000 in
theorem l_M_crash {G0 : Nat} (hC : vx p s0 m args meth c b_M_crash 3 R_M D (gk κ, z) A) (hR : 2 + 1 ≤ R.frames ∧ 8 + (3 + 11) + 40 * 2 ≤ R.locals) (hg : g = nI G0) (hG : G0 ≤ 4000) (hha : True) : ∀ (r k : Nat) (x : MC) (v2 : List (Nat × Value)), v2.length ≤ 1 → k + r = 6 → (∀ w2 : List (Nat × Value), U p l e R s0 m args below meth c 3 D A (mw κ a g cm (m_cr be G0 r k x).1 be ro (m_cr be G0 r k x).2.1 (m_cr be G0 r k x).2.2 mo co to sn le) 0 0 Q 20 [(1, .int (nI 6)), (0, .ref (a 0))] []) → U p l e R s0 m args below meth c 3 D A (mw κ a g cm x.1 be ro x.2.1 x.2.2 mo co to sn le) 0 0 Q 2 [(1, .int (nI k)), (0, .ref (a 0))] [] := by
  intro r
  induction r with
  | zero =>
    intro k x v2 hv hk exit
    have e : k = 6 := by omega
    subst e
    refine u_iload_n hC d_M_crash_2 rfl ?_
    refine u_bipush hC (nI 6) d_M_crash_3 (by decide) ?_
    refine u_icmp_ge hC 20 d_M_crash_5 (by decide) (fun h_5 => ?_) (fun h_5 => absurd (by decide) h_5)
    exact exit []
  | succ r ih =>
    intro k x v2 hv hk exit
    obtain ⟨st, pl, ha⟩ := x
    unfold m_cr at exit
    dsimp only at exit ⊢
    by_cases hz : ha k = 0
    · rw [if_pos hz] at exit
      refine u_iload_n hC d_M_crash_2 rfl ?_
      refine u_bipush hC (nI 6) d_M_crash_3 (by decide) ?_
      refine u_icmp_ge hC 20 d_M_crash_5 (by decide) (fun h_5 => absurd h_5 (nI_ge (by omega) (by decide))) (fun h_5 => ?_)
      refine u_aload_n hC d_M_crash_8 rfl ?_
      refine u_iload_n hC d_M_crash_9 rfl ?_
      refine u_callVr hC (c_M_abortF (by rintro ⟨j, h1, h2, h3⟩; have e9 := (nI_eq (by omega) (by omega)).mp h2; subst e9; exact h3 hz)) k_M_60 i_M_abort (q0 := 0) rfl rfl hR ⟨Nat.zero_le _, Nat.zero_le _⟩ rfl rfl (Nat.le_of_ble_eq_true rfl) d_M_crash_10 ?_
      refine u_istore_n hC d_M_crash_13 (by decide) ?_
      refine u_iinc hC (nI (k + 1)) (j := 1) d_M_crash_14 rfl (nI_1 k) (by decide) ?_
      refine u_goto hC 2 d_M_crash_17 (by decide) ?_
      refine u_pick [0, 2] rfl ?_
      exact ih (k + 1) (st, pl, ha) [] (Nat.zero_le _) (by omega) exit
    · rw [if_neg hz] at exit
      refine u_iload_n hC d_M_crash_2 rfl ?_
      refine u_bipush hC (nI 6) d_M_crash_3 (by decide) ?_
      refine u_icmp_ge hC 20 d_M_crash_5 (by decide) (fun h_5 => absurd h_5 (nI_ge (by omega) (by decide))) (fun h_5 => ?_)
      refine u_aload_n hC d_M_crash_8 rfl ?_
      refine u_iload_n hC d_M_crash_9 rfl ?_
      refine u_callVr hC (c_M_abortT (by omega) hz hg hG) k_M_60 i_M_abort (q0 := 0) rfl rfl hR ⟨Nat.zero_le _, Nat.zero_le _⟩ rfl rfl (Nat.le_of_ble_eq_true rfl) d_M_crash_10 ?_
      refine u_istore_n hC d_M_crash_13 (by decide) ?_
      refine u_iinc hC (nI (k + 1)) (j := 1) d_M_crash_14 rfl (nI_1 k) (by decide) ?_
      refine u_goto hC 2 d_M_crash_17 (by decide) ?_
      refine u_pick [0, 2] rfl ?_
      exact ih (k + 1) (m_ab be G0 k (st, pl, ha)) [] (Nat.zero_le _) (by omega) exit
end MN0
section MN1
variable {l : Launch} {D : va_G} {κ : Nat → ClassId} {z : Nat × Nat} {a : Nat → Nat} {g cm : Int32} {st be ro pl ha mo co to sn le : Nat → Int32}
set_option maxHeartbeats 4000000 in
set_option maxRecDepth 100000 in
theorem c_M_numberF {s : Int32} (hb : ¬ ∃ j : Nat, j < 6 ∧ s = nI j ∧ ¬ ha j = 0) : Ct l y_M_number b_M_number 4 (some .int) 1 0 0 D (gk κ, z) (mw κ a g cm st be ro pl ha mo co to sn le) [.ref (a 0), .int s] (rt (.int (-1)) (mw κ a g cm st be ro pl ha mo co to sn le)) := by
  refine Ct.of (by decide) (Nat.le_of_ble_eq_true rfl) ?_
  intro p e s0 m below meth c A hC hr hn
  refine u_iconst hC (nI 0) d_M_number_0 (by decide) ?_
  refine u_istore_n hC d_M_number_1 (by decide) ?_
  refine u_iconst hC (nI 0) d_M_number_2 (by decide) ?_
  refine u_istore_n hC d_M_number_3 (by decide) ?_
  refine u_aload_n hC d_M_number_4 rfl ?_
  refine u_iload_n hC d_M_number_5 rfl ?_
  refine u_callVr hC (c_M_runsF hb) k_M_45 i_M_runs (q0 := 0) rfl rfl ⟨(Nat.le_of_ble_eq_true rfl), (Nat.le_of_ble_eq_true rfl)⟩ ⟨(Nat.le_of_ble_eq_true rfl), (Nat.le_of_ble_eq_true rfl)⟩ rfl rfl (Nat.le_of_ble_eq_true rfl) d_M_number_6 ?_
  refine u_if_eq hC 50 d_M_number_9 (by decide) (fun h_9 => ?_) (fun h_9 => absurd rfl h_9)
  refine u_aload_n hC d_M_number_50 rfl ?_
  refine u_iload_n hC d_M_number_51 rfl ?_
  refine u_callVr hC (c_M_runsF hb) k_M_45 i_M_runs (q0 := 0) rfl rfl ⟨(Nat.le_of_ble_eq_true rfl), (Nat.le_of_ble_eq_true rfl)⟩ ⟨(Nat.le_of_ble_eq_true rfl), (Nat.le_of_ble_eq_true rfl)⟩ rfl rfl (Nat.le_of_ble_eq_true rfl) d_M_number_52 ?_
  refine u_if_eq hC 70 d_M_number_55 (by decide) (fun h_55 => ?_) (fun h_55 => absurd rfl h_55)
  refine u_iconst hC (-1) d_M_number_70 (by decide) ?_
  exact u_iret hC hr d_M_number_71 (Nat.le_of_ble_eq_true rfl) (Nat.le_of_ble_eq_true rfl) ⟨rfl, rfl⟩
set_option maxHeartbeats 4000000 in
set_option maxRecDepth 100000 in
theorem c_M_numberN {j t G0 : Nat} (hj : j < 6) (hh : ¬ ha j = 0) (ht : to j = nI t) (ht7 : t ≤ 7) (hg : g = nI G0) (hG : G0 ≤ 4000) (hm : 4000 < G0 + (m_mis j le (t + 1) 0)) : Ct l y_M_number b_M_number 4 (some .int) 1 0 0 D (gk κ, z) (mw κ a g cm st be ro pl ha mo co to sn le) [.ref (a 0), .int (nI j)] (rt (.int (-1)) (mw κ a g cm st be ro pl ha mo co to sn le)) := by
  refine Ct.of (by decide) (Nat.le_of_ble_eq_true rfl) ?_
  intro p e s0 m below meth c A hC hr hn
  refine u_iconst hC (nI 0) d_M_number_0 (by decide) ?_
  refine u_istore_n hC d_M_number_1 (by decide) ?_
  refine u_iconst hC (nI 0) d_M_number_2 (by decide) ?_
  refine u_istore_n hC d_M_number_3 (by decide) ?_
  refine l_M_num1 hj hh ht ht7 hC ⟨(Nat.le_of_ble_eq_true rfl), (Nat.le_of_ble_eq_true rfl)⟩ (t + 1) 0 0 (by omega) ?_
  rw [Nat.zero_add, Nat.zero_add]
  refine u_aload_n hC d_M_number_50 rfl ?_
  refine u_iload_n hC d_M_number_51 rfl ?_
  refine u_callVr hC (c_M_runsT hj hh) k_M_45 i_M_runs (q0 := 0) rfl rfl ⟨(Nat.le_of_ble_eq_true rfl), (Nat.le_of_ble_eq_true rfl)⟩ ⟨(Nat.le_of_ble_eq_true rfl), (Nat.le_of_ble_eq_true rfl)⟩ rfl rfl (Nat.le_of_ble_eq_true rfl) d_M_number_52 ?_
  refine u_if_eq hC 70 d_M_number_55 (by decide) (fun h_55 => absurd h_55 (by decide)) (fun h_55 => ?_)
  refine u_aload_n hC d_M_number_58 rfl ?_
  refine u_get hC f_M_41 0 rfl rfl d_M_number_59 ?_
  refine u_iload_n hC d_M_number_62 rfl ?_
  refine u_iadd hC d_M_number_63 ?_
  refine u_sipush hC (nI 4000) d_M_number_64 (by decide) ?_
  refine u_valb (x' := nI (G0 + (m_mis j le (t + 1) 0))) (by rw [hg, nI_add]) ?_
  refine u_icmp_le hC 72 d_M_number_67 (by decide) (fun h_67 => absurd h_67 (nI_ge hm (by have := m_mis_le j le (t + 1) 0; omega))) (fun h_67 => ?_)
  refine u_iconst hC (-1) d_M_number_70 (by decide) ?_
  exact u_iret hC hr d_M_number_71 (Nat.le_of_ble_eq_true rfl) (Nat.le_of_ble_eq_true rfl) ⟨rfl, rfl⟩
set_option maxHeartbeats 4000000 in
set_option maxRecDepth 100000 in
theorem c_M_numberT {j t G0 : Nat} (hj : j < 6) (hh : ¬ ha j = 0) (ht : to j = nI t) (ht7 : t ≤ 7) (hg : g = nI G0) (hG : G0 ≤ 4000) (hm : G0 + (m_mis j le (t + 1) 0) ≤ 4000) : Ct l y_M_number b_M_number 4 (some .int) 1 0 0 D (gk κ, z) (mw κ a g cm st be ro pl ha mo co to sn le) [.ref (a 0), .int (nI j)] (rt (.int ((m_gv j (t + 1) 0 (G0, le, st, be, ro)).2.1 (8 * j + t))) (mw κ a (nI (m_gv j (t + 1) 0 (G0, le, st, be, ro)).1) cm (m_gv j (t + 1) 0 (G0, le, st, be, ro)).2.2.1 (m_gv j (t + 1) 0 (G0, le, st, be, ro)).2.2.2.1 (m_gv j (t + 1) 0 (G0, le, st, be, ro)).2.2.2.2 pl ha mo co to sn (m_gv j (t + 1) 0 (G0, le, st, be, ro)).2.1)) := by
  refine Ct.of (by decide) (Nat.le_of_ble_eq_true rfl) ?_
  intro p e s0 m below meth c A hC hr hn
  refine u_iconst hC (nI 0) d_M_number_0 (by decide) ?_
  refine u_istore_n hC d_M_number_1 (by decide) ?_
  refine u_iconst hC (nI 0) d_M_number_2 (by decide) ?_
  refine u_istore_n hC d_M_number_3 (by decide) ?_
  refine l_M_num1 hj hh ht ht7 hC ⟨(Nat.le_of_ble_eq_true rfl), (Nat.le_of_ble_eq_true rfl)⟩ (t + 1) 0 0 (by omega) ?_
  rw [Nat.zero_add, Nat.zero_add]
  refine u_aload_n hC d_M_number_50 rfl ?_
  refine u_iload_n hC d_M_number_51 rfl ?_
  refine u_callVr hC (c_M_runsT hj hh) k_M_45 i_M_runs (q0 := 0) rfl rfl ⟨(Nat.le_of_ble_eq_true rfl), (Nat.le_of_ble_eq_true rfl)⟩ ⟨(Nat.le_of_ble_eq_true rfl), (Nat.le_of_ble_eq_true rfl)⟩ rfl rfl (Nat.le_of_ble_eq_true rfl) d_M_number_52 ?_
  refine u_if_eq hC 70 d_M_number_55 (by decide) (fun h_55 => absurd h_55 (by decide)) (fun h_55 => ?_)
  refine u_aload_n hC d_M_number_58 rfl ?_
  refine u_get hC f_M_41 0 rfl rfl d_M_number_59 ?_
  refine u_iload_n hC d_M_number_62 rfl ?_
  refine u_iadd hC d_M_number_63 ?_
  refine u_sipush hC (nI 4000) d_M_number_64 (by decide) ?_
  refine u_valb (x' := nI (G0 + (m_mis j le (t + 1) 0))) (by rw [hg, nI_add]) ?_
  refine u_icmp_le hC 72 d_M_number_67 (by decide) (fun h_67 => ?_) (fun h_67 => absurd (nI_le hm (by decide)) h_67)
  refine u_iconst hC (nI 0) d_M_number_72 (by decide) ?_
  refine u_istore_n hC d_M_number_73 (by decide) ?_
  refine u_eqw (ws' := (mw κ a (nI ((G0, le, st, be, ro) : MG).1) cm ((G0, le, st, be, ro) : MG).2.2.1 ((G0, le, st, be, ro) : MG).2.2.2.1 ((G0, le, st, be, ro) : MG).2.2.2.2 pl ha mo co to sn ((G0, le, st, be, ro) : MG).2.1)) (by rw [hg]) ?_
  refine l_M_num2 hj hh ht ht7 hC (t + 1) 0 (G0, le, st, be, ro) (by omega) hm ?_
  rw [Nat.zero_add]
  refine u_aload_n hC d_M_number_172 rfl ?_
  refine u_get hC f_M_38 0 rfl rfl d_M_number_173 ?_
  refine u_bipush hC (nI 8) d_M_number_176 (by decide) ?_
  refine u_iload_n hC d_M_number_178 rfl ?_
  refine u_imul hC d_M_number_179 ?_
  refine u_aload_n hC d_M_number_180 rfl ?_
  refine u_get hC f_M_32 0 rfl rfl d_M_number_181 ?_
  refine u_iload_n hC d_M_number_184 rfl ?_
  refine p_iald hC 8 0 rfl rfl j rfl hj (by decide) d_M_number_185 ?_
  refine u_iadd hC d_M_number_186 ?_
  refine p_iald hC 10 0 rfl rfl (8 * j + t) (by rw [ht, n_8]) (by omega) (by decide) d_M_number_187 ?_
  exact u_iret hC hr d_M_number_188 (Nat.le_of_ble_eq_true rfl) (Nat.le_of_ble_eq_true rfl) ⟨rfl, rfl⟩
set_option maxHeartbeats 4000000 in
set_option maxRecDepth 100000 in
theorem c_M_crash {G0 : Nat} (hg : g = nI G0) (hG : G0 ≤ 4000) : Ct l y_M_crash b_M_crash 3 none 3 0 0 D (gk κ, z) (mw κ a g cm st be ro pl ha mo co to sn le) [.ref (a 0)] (rtv (mw κ a g cm (m_cr be G0 6 0 (st, pl, ha)).1 be ro (m_cr be G0 6 0 (st, pl, ha)).2.1 (m_cr be G0 6 0 (st, pl, ha)).2.2 mo co to sn le)) := by
  refine Ct.of (by decide) (Nat.le_of_ble_eq_true rfl) ?_
  intro p e s0 m below meth c A hC hr hn
  refine u_iconst hC (nI 0) d_M_crash_0 (by decide) ?_
  refine u_istore_n hC d_M_crash_1 (by decide) ?_
  refine u_eqw (ws' := (mw κ a g cm ((st, pl, ha) : MC).1 be ro ((st, pl, ha) : MC).2.1 ((st, pl, ha) : MC).2.2 mo co to sn le)) rfl ?_
  refine l_M_crash hC ⟨(Nat.le_of_ble_eq_true rfl), (Nat.le_of_ble_eq_true rfl)⟩ hg hG trivial 6 0 (st, pl, ha) [] (Nat.zero_le _) rfl (fun _ => ?_)
  exact u_vret hC hr d_M_crash_20 (Nat.le_of_ble_eq_true rfl) (Nat.le_of_ble_eq_true rfl) ⟨rfl, rfl⟩
end MN1
end
section
section MQ0
variable {l : Launch} {D : va_G} {κ : Nat → ClassId} {z : Nat × Nat} {a : Nat → Nat} {g cm : Int32} {st be ro pl ha mo co to sn le : Nat → Int32}
variable {p : Program} {e : Env} {R : Room} {s0 : State} {m : MethodId} {args : Array Value} {below : List Frame} {meth : Method} {c : Code} {A : Nat → Prop} {Q : State → Prop}
set_option maxHeartbeats 4000000 in
set_option maxRecDepth 100000 in
theorem l_M_dead0 {x1 x2 : Int32} (hC : vx p s0 m args meth c b_M_dead 5 R_M D (gk κ, z) A) (exit : U p l e R s0 m args below meth c 5 D A (mw κ a g cm st be ro pl ha mo co to sn le) 0 0 Q 96 [(4, .int (nI 6)), (3, .int (nI 0)), (0, .ref (a 0)), (1, .int x1), (2, .int x2)] []) : ∀ r k : Nat, k + r = 6 → U p l e R s0 m args below meth c 5 D A (mw κ a g cm st be ro pl ha mo co to sn le) 0 0 Q 37 [(4, .int (nI k)), (3, .int (nI 0)), (0, .ref (a 0)), (1, .int x1), (2, .int x2)] [] := by
  intro r
  induction r with
  | zero =>
    intro k hk
    have e : k = 6 := by omega
    subst e
    refine u_iload hC d_M_dead_37 rfl ?_
    refine u_bipush hC (nI 6) d_M_dead_39 (by decide) ?_
    refine u_icmp_ge hC 96 d_M_dead_41 (by decide) (fun h_41 => ?_) (fun h_41 => absurd (by decide) h_41)
    exact exit
  | succ r ih =>
    intro k hk
    refine u_iload hC d_M_dead_37 rfl ?_
    refine u_bipush hC (nI 6) d_M_dead_39 (by decide) ?_
    refine u_icmp_ge hC 96 d_M_dead_41 (by decide) (fun h_41 => absurd h_41 (nI_ge (by omega) (by decide))) (fun h_41 => ?_)
    refine u_iload_n hC d_M_dead_44 rfl ?_
    refine u_if_eq hC 88 d_M_dead_45 (by decide) (fun h_45 => ?_) (fun h_45 => absurd rfl h_45)
    refine u_iconst hC (nI 0) d_M_dead_88 (by decide) ?_
    refine u_istore_n hC d_M_dead_89 (by decide) ?_
    refine u_iinc hC (nI (k + 1)) (j := 1) d_M_dead_90 rfl (nI_1 k) (by decide) ?_
    refine u_goto hC 37 d_M_dead_93 (by decide) ?_
    exact ih (k + 1) (by omega)
set_option maxHeartbeats 4000000 in
set_option maxRecDepth 100000 in
theorem l_M_dead1 {x1 : Int32} {q : Nat} (hq : q ≤ 4000) (hC : vx p s0 m args meth c b_M_dead 5 R_M D (gk κ, z) A) (e1 : (∀ s, s < 6 → m_ok ha sn pl q s) → U p l e R s0 m args below meth c 5 D A (mw κ a g cm st be ro pl ha mo co to sn le) 0 0 Q 96 [(4, .int (nI 6)), (3, .int (nI 1)), (0, .ref (a 0)), (1, .int x1), (2, .int (nI q))] []) (e0 : (∃ s, s < 6 ∧ ¬ m_ok ha sn pl q s) → U p l e R s0 m args below meth c 5 D A (mw κ a g cm st be ro pl ha mo co to sn le) 0 0 Q 96 [(4, .int (nI 6)), (3, .int (nI 0)), (0, .ref (a 0)), (1, .int x1), (2, .int (nI q))] []) : ∀ r k : Nat, k + r = 6 → (∀ s, s < k → m_ok ha sn pl q s) → U p l e R s0 m args below meth c 5 D A (mw κ a g cm st be ro pl ha mo co to sn le) 0 0 Q 37 [(4, .int (nI k)), (3, .int (nI 1)), (0, .ref (a 0)), (1, .int x1), (2, .int (nI q))] [] := by
  intro r
  induction r with
  | zero =>
    intro k hk ho
    have e : k = 6 := by omega
    subst e
    refine u_iload hC d_M_dead_37 rfl ?_
    refine u_bipush hC (nI 6) d_M_dead_39 (by decide) ?_
    refine u_icmp_ge hC 96 d_M_dead_41 (by decide) (fun h_41 => ?_) (fun h_41 => absurd (by decide) h_41)
    exact e1 ho
  | succ r ih =>
    intro k hk ho
    by_cases ok : m_ok ha sn pl q k
    · refine u_iload hC d_M_dead_37 rfl ?_
      refine u_bipush hC (nI 6) d_M_dead_39 (by decide) ?_
      refine u_icmp_ge hC 96 d_M_dead_41 (by decide) (fun h_41 => absurd h_41 (nI_ge (by omega) (by decide))) (fun h_41 => ?_)
      refine u_iload_n hC d_M_dead_44 rfl ?_
      refine u_if_eq hC 88 d_M_dead_45 (by decide) (fun h_45 => absurd h_45 (by decide)) (fun h_45 => ?_)
      refine u_aload_n hC d_M_dead_48 rfl ?_
      refine u_get hC f_M_22 0 rfl rfl d_M_dead_49 ?_
      refine u_iload hC d_M_dead_52 rfl ?_
      refine p_zald hC 5 1 rfl rfl k rfl (by omega) (by decide) d_M_dead_54 ?_
      refine u_if_eq hC 84 d_M_dead_55 (by decide) (fun h_55 => ?_) (fun h_55 => ?_)
      · refine u_iconst hC (nI 1) d_M_dead_84 (by decide) ?_
        refine u_goto hC 89 d_M_dead_85 (by decide) ?_
        refine u_istore_n hC d_M_dead_89 (by decide) ?_
        refine u_iinc hC (nI (k + 1)) (j := 1) d_M_dead_90 rfl (nI_1 k) (by decide) ?_
        refine u_goto hC 37 d_M_dead_93 (by decide) ?_
        exact ih (k + 1) (by omega) (fun s hs => by
          rcases Nat.lt_or_ge s k with w | w
          · exact ho s w
          · have e9 : s = k := by omega
            rw [e9]; exact ok)
      · refine u_aload_n hC d_M_dead_58 rfl ?_
        refine u_get hC f_M_35 0 rfl rfl d_M_dead_59 ?_
        refine u_iload hC d_M_dead_62 rfl ?_
        refine p_iald hC 9 0 rfl rfl k rfl (by omega) (by decide) d_M_dead_64 ?_
        refine u_if_lt hC 84 d_M_dead_65 (by decide) (fun h_65 => ?_) (fun h_65 => ?_)
        · refine u_iconst hC (nI 1) d_M_dead_84 (by decide) ?_
          refine u_goto hC 89 d_M_dead_85 (by decide) ?_
          refine u_istore_n hC d_M_dead_89 (by decide) ?_
          refine u_iinc hC (nI (k + 1)) (j := 1) d_M_dead_90 rfl (nI_1 k) (by decide) ?_
          refine u_goto hC 37 d_M_dead_93 (by decide) ?_
          exact ih (k + 1) (by omega) (fun s hs => by
            rcases Nat.lt_or_ge s k with w | w
            · exact ho s w
            · have e9 : s = k := by omega
              rw [e9]; exact ok)
        · refine u_aload_n hC d_M_dead_68 rfl ?_
          refine u_get hC f_M_19 0 rfl rfl d_M_dead_69 ?_
          refine u_iload_n hC d_M_dead_72 rfl ?_
          refine p_iald hC 4 0 rfl rfl q rfl (by omega) (by decide) d_M_dead_73 ?_
          refine u_aload_n hC d_M_dead_74 rfl ?_
          refine u_get hC f_M_35 0 rfl rfl d_M_dead_75 ?_
          refine u_iload hC d_M_dead_78 rfl ?_
          refine p_iald hC 9 0 rfl rfl k rfl (by omega) (by decide) d_M_dead_80 ?_
          refine u_icmp_gt hC 88 d_M_dead_81 (by decide) (fun h_81 => absurd h_81 (by rcases ok with w | w | w; exact absurd w h_55; exact absurd w h_65; exact w)) (fun h_81 => ?_)
          refine u_iconst hC (nI 1) d_M_dead_84 (by decide) ?_
          refine u_goto hC 89 d_M_dead_85 (by decide) ?_
          refine u_istore_n hC d_M_dead_89 (by decide) ?_
          refine u_iinc hC (nI (k + 1)) (j := 1) d_M_dead_90 rfl (nI_1 k) (by decide) ?_
          refine u_goto hC 37 d_M_dead_93 (by decide) ?_
          exact ih (k + 1) (by omega) (fun s hs => by
            rcases Nat.lt_or_ge s k with w | w
            · exact ho s w
            · have e9 : s = k := by omega
              rw [e9]; exact ok)
    · refine u_iload hC d_M_dead_37 rfl ?_
      refine u_bipush hC (nI 6) d_M_dead_39 (by decide) ?_
      refine u_icmp_ge hC 96 d_M_dead_41 (by decide) (fun h_41 => absurd h_41 (nI_ge (by omega) (by decide))) (fun h_41 => ?_)
      refine u_iload_n hC d_M_dead_44 rfl ?_
      refine u_if_eq hC 88 d_M_dead_45 (by decide) (fun h_45 => absurd h_45 (by decide)) (fun h_45 => ?_)
      refine u_aload_n hC d_M_dead_48 rfl ?_
      refine u_get hC f_M_22 0 rfl rfl d_M_dead_49 ?_
      refine u_iload hC d_M_dead_52 rfl ?_
      refine p_zald hC 5 1 rfl rfl k rfl (by omega) (by decide) d_M_dead_54 ?_
      refine u_if_eq hC 84 d_M_dead_55 (by decide) (fun h_55 => absurd h_55 (fun w => ok (Or.inl w))) (fun h_55 => ?_)
      refine u_aload_n hC d_M_dead_58 rfl ?_
      refine u_get hC f_M_35 0 rfl rfl d_M_dead_59 ?_
      refine u_iload hC d_M_dead_62 rfl ?_
      refine p_iald hC 9 0 rfl rfl k rfl (by omega) (by decide) d_M_dead_64 ?_
      refine u_if_lt hC 84 d_M_dead_65 (by decide) (fun h_65 => absurd h_65 (fun w => ok (Or.inr (Or.inl w)))) (fun h_65 => ?_)
      refine u_aload_n hC d_M_dead_68 rfl ?_
      refine u_get hC f_M_19 0 rfl rfl d_M_dead_69 ?_
      refine u_iload_n hC d_M_dead_72 rfl ?_
      refine p_iald hC 4 0 rfl rfl q rfl (by omega) (by decide) d_M_dead_73 ?_
      refine u_aload_n hC d_M_dead_74 rfl ?_
      refine u_get hC f_M_35 0 rfl rfl d_M_dead_75 ?_
      refine u_iload hC d_M_dead_78 rfl ?_
      refine p_iald hC 9 0 rfl rfl k rfl (by omega) (by decide) d_M_dead_80 ?_
      refine u_icmp_gt hC 88 d_M_dead_81 (by decide) (fun h_81 => ?_) (fun h_81 => absurd (Decidable.byContradiction (fun w => ok (Or.inr (Or.inr w)))) h_81)
      refine u_iconst hC (nI 0) d_M_dead_88 (by decide) ?_
      refine u_istore_n hC d_M_dead_89 (by decide) ?_
      refine u_iinc hC (nI (k + 1)) (j := 1) d_M_dead_90 rfl (nI_1 k) (by decide) ?_
      refine u_goto hC 37 d_M_dead_93 (by decide) ?_
      exact l_M_dead0 hC (e0 ⟨k, by omega, ok⟩) r (k + 1) (by omega)
end MQ0
section MQ1
variable {l : Launch} {D : va_G} {κ : Nat → ClassId} {z : Nat × Nat} {a : Nat → Nat} {g cm : Int32} {st be ro pl ha mo co to sn le : Nat → Int32}
set_option maxHeartbeats 4000000 in
set_option maxRecDepth 100000 in
theorem c_M_deadF {x1 x2 : Int32} {G0 : Nat} (hg : g = nI G0) (hG : G0 ≤ 4000) (hb : ¬ ∃ i : Nat, 1 ≤ i ∧ i ≤ G0 ∧ x1 = nI i) : Ct l y_M_dead b_M_dead 5 (some .boolean) 1 0 0 D (gk κ, z) (mw κ a g cm st be ro pl ha mo co to sn le) [.ref (a 0), .int x1, .int x2] (rt (.int 0) (mw κ a g cm st be ro pl ha mo co to sn le)) := by
  refine Ct.of (by decide) (Nat.le_of_ble_eq_true rfl) ?_
  intro p e s0 m below meth c A hC hr hn
  refine u_aload_n hC d_M_dead_0 rfl ?_
  refine u_iload_n hC d_M_dead_1 rfl ?_
  refine u_callVr hC (c_M_givenF hg hG hb) k_M_63 i_M_isGiven (q0 := 0) rfl rfl ⟨(Nat.le_of_ble_eq_true rfl), (Nat.le_of_ble_eq_true rfl)⟩ ⟨(Nat.le_of_ble_eq_true rfl), (Nat.le_of_ble_eq_true rfl)⟩ rfl rfl (Nat.le_of_ble_eq_true rfl) d_M_dead_2 ?_
  refine u_if_ne hC 10 d_M_dead_5 (by decide) (fun h_5 => absurd rfl h_5) (fun h_5 => ?_)
  refine u_iconst hC (nI 0) d_M_dead_8 (by decide) ?_
  exact u_zret hC hr rfl d_M_dead_9 (Nat.le_of_ble_eq_true rfl) (Nat.le_of_ble_eq_true rfl) ⟨rfl, rfl⟩
set_option maxHeartbeats 4000000 in
set_option maxRecDepth 100000 in
theorem c_M_deadN {i G0 : Nat} (hg : g = nI G0) (hG : G0 ≤ 4000) (h1 : 1 ≤ i) (h2 : i ≤ G0) {x2 : Int32} (hx : ¬ ∃ i : Nat, 1 ≤ i ∧ i ≤ G0 ∧ x2 = nI i) : Ct l y_M_dead b_M_dead 5 (some .boolean) 1 0 0 D (gk κ, z) (mw κ a g cm st be ro pl ha mo co to sn le) [.ref (a 0), .int (nI i), .int x2] (rt (.int (if st i = nI 3 then 1 else 0)) (mw κ a g cm st be ro pl ha mo co to sn le)) := by
  refine Ct.of (by decide) (Nat.le_of_ble_eq_true rfl) ?_
  intro p e s0 m below meth c A hC hr hn
  refine u_aload_n hC d_M_dead_0 rfl ?_
  refine u_iload_n hC d_M_dead_1 rfl ?_
  refine u_callVr hC (c_M_givenT hg hG h1 h2) k_M_63 i_M_isGiven (q0 := 0) rfl rfl ⟨(Nat.le_of_ble_eq_true rfl), (Nat.le_of_ble_eq_true rfl)⟩ ⟨(Nat.le_of_ble_eq_true rfl), (Nat.le_of_ble_eq_true rfl)⟩ rfl rfl (Nat.le_of_ble_eq_true rfl) d_M_dead_2 ?_
  refine u_if_ne hC 10 d_M_dead_5 (by decide) (fun h_5 => ?_) (fun h_5 => absurd h_5 (by decide))
  refine u_aload_n hC d_M_dead_10 rfl ?_
  refine u_iload_n hC d_M_dead_11 rfl ?_
  refine u_callVr hC (c_M_givenF hg hG hx) k_M_63 i_M_isGiven (q0 := 0) rfl rfl ⟨(Nat.le_of_ble_eq_true rfl), (Nat.le_of_ble_eq_true rfl)⟩ ⟨(Nat.le_of_ble_eq_true rfl), (Nat.le_of_ble_eq_true rfl)⟩ rfl rfl (Nat.le_of_ble_eq_true rfl) d_M_dead_12 ?_
  refine u_if_eq hC 32 d_M_dead_15 (by decide) (fun h_15 => ?_) (fun h_15 => absurd rfl h_15)
  refine u_iconst hC (nI 0) d_M_dead_32 (by decide) ?_
  refine u_istore_n hC d_M_dead_33 (by decide) ?_
  refine u_iconst hC (nI 0) d_M_dead_34 (by decide) ?_
  refine u_istore hC d_M_dead_35 (by decide) ?_
  refine l_M_dead0 hC ?_ 6 0 rfl
  refine u_aload_n hC d_M_dead_96 rfl ?_
  refine u_get hC f_M_7 0 rfl rfl d_M_dead_97 ?_
  refine u_iload_n hC d_M_dead_100 rfl ?_
  refine p_iald hC 1 0 rfl rfl i rfl (by omega) (by decide) d_M_dead_101 ?_
  refine u_iconst hC (nI 3) d_M_dead_102 (by decide) ?_
  refine u_icmp_eq hC 110 d_M_dead_103 (by decide) (fun h_103 => ?_) (fun h_103 => ?_)
  · refine u_iconst hC (nI 1) d_M_dead_110 (by decide) ?_
    refine u_goto hC 115 d_M_dead_111 (by decide) ?_
    exact u_zret hC hr rfl d_M_dead_115 (Nat.le_of_ble_eq_true rfl) (Nat.le_of_ble_eq_true rfl) ⟨by first | rfl | (rw [if_pos h_103]; rfl) | (rw [if_neg h_103]; rfl), rfl⟩
  · refine u_iload_n hC d_M_dead_106 rfl ?_
    refine u_if_eq hC 114 d_M_dead_107 (by decide) (fun h_107 => ?_) (fun h_107 => absurd rfl h_107)
    refine u_iconst hC (nI 0) d_M_dead_114 (by decide) ?_
    exact u_zret hC hr rfl d_M_dead_115 (Nat.le_of_ble_eq_true rfl) (Nat.le_of_ble_eq_true rfl) ⟨by first | rfl | (rw [if_pos h_103]; rfl) | (rw [if_neg h_103]; rfl), rfl⟩
set_option maxHeartbeats 4000000 in
set_option maxRecDepth 100000 in
theorem c_M_deadU {i G0 : Nat} (hg : g = nI G0) (hG : G0 ≤ 4000) (h1 : 1 ≤ i) (h2 : i ≤ G0) {q : Nat} (q1 : 1 ≤ q) (q2 : q ≤ G0) (hs : ¬ st q = nI 2) : Ct l y_M_dead b_M_dead 5 (some .boolean) 1 0 0 D (gk κ, z) (mw κ a g cm st be ro pl ha mo co to sn le) [.ref (a 0), .int (nI i), .int (nI q)] (rt (.int (if st i = nI 3 then 1 else 0)) (mw κ a g cm st be ro pl ha mo co to sn le)) := by
  refine Ct.of (by decide) (Nat.le_of_ble_eq_true rfl) ?_
  intro p e s0 m below meth c A hC hr hn
  refine u_aload_n hC d_M_dead_0 rfl ?_
  refine u_iload_n hC d_M_dead_1 rfl ?_
  refine u_callVr hC (c_M_givenT hg hG h1 h2) k_M_63 i_M_isGiven (q0 := 0) rfl rfl ⟨(Nat.le_of_ble_eq_true rfl), (Nat.le_of_ble_eq_true rfl)⟩ ⟨(Nat.le_of_ble_eq_true rfl), (Nat.le_of_ble_eq_true rfl)⟩ rfl rfl (Nat.le_of_ble_eq_true rfl) d_M_dead_2 ?_
  refine u_if_ne hC 10 d_M_dead_5 (by decide) (fun h_5 => ?_) (fun h_5 => absurd h_5 (by decide))
  refine u_aload_n hC d_M_dead_10 rfl ?_
  refine u_iload_n hC d_M_dead_11 rfl ?_
  refine u_callVr hC (c_M_givenT hg hG q1 q2) k_M_63 i_M_isGiven (q0 := 0) rfl rfl ⟨(Nat.le_of_ble_eq_true rfl), (Nat.le_of_ble_eq_true rfl)⟩ ⟨(Nat.le_of_ble_eq_true rfl), (Nat.le_of_ble_eq_true rfl)⟩ rfl rfl (Nat.le_of_ble_eq_true rfl) d_M_dead_12 ?_
  refine u_if_eq hC 32 d_M_dead_15 (by decide) (fun h_15 => absurd h_15 (by decide)) (fun h_15 => ?_)
  refine u_aload_n hC d_M_dead_18 rfl ?_
  refine u_get hC f_M_7 0 rfl rfl d_M_dead_19 ?_
  refine u_iload_n hC d_M_dead_22 rfl ?_
  refine p_iald hC 1 0 rfl rfl q rfl (by omega) (by decide) d_M_dead_23 ?_
  refine u_iconst hC (nI 2) d_M_dead_24 (by decide) ?_
  refine u_icmp_ne hC 32 d_M_dead_25 (by decide) (fun h_25 => ?_) (fun h_25 => absurd h_25 hs)
  refine u_iconst hC (nI 0) d_M_dead_32 (by decide) ?_
  refine u_istore_n hC d_M_dead_33 (by decide) ?_
  refine u_iconst hC (nI 0) d_M_dead_34 (by decide) ?_
  refine u_istore hC d_M_dead_35 (by decide) ?_
  refine l_M_dead0 hC ?_ 6 0 rfl
  refine u_aload_n hC d_M_dead_96 rfl ?_
  refine u_get hC f_M_7 0 rfl rfl d_M_dead_97 ?_
  refine u_iload_n hC d_M_dead_100 rfl ?_
  refine p_iald hC 1 0 rfl rfl i rfl (by omega) (by decide) d_M_dead_101 ?_
  refine u_iconst hC (nI 3) d_M_dead_102 (by decide) ?_
  refine u_icmp_eq hC 110 d_M_dead_103 (by decide) (fun h_103 => ?_) (fun h_103 => ?_)
  · refine u_iconst hC (nI 1) d_M_dead_110 (by decide) ?_
    refine u_goto hC 115 d_M_dead_111 (by decide) ?_
    exact u_zret hC hr rfl d_M_dead_115 (Nat.le_of_ble_eq_true rfl) (Nat.le_of_ble_eq_true rfl) ⟨by first | rfl | (rw [if_pos h_103]; rfl) | (rw [if_neg h_103]; rfl), rfl⟩
  · refine u_iload_n hC d_M_dead_106 rfl ?_
    refine u_if_eq hC 114 d_M_dead_107 (by decide) (fun h_107 => ?_) (fun h_107 => absurd rfl h_107)
    refine u_iconst hC (nI 0) d_M_dead_114 (by decide) ?_
    exact u_zret hC hr rfl d_M_dead_115 (Nat.le_of_ble_eq_true rfl) (Nat.le_of_ble_eq_true rfl) ⟨by first | rfl | (rw [if_pos h_103]; rfl) | (rw [if_neg h_103]; rfl), rfl⟩
set_option maxHeartbeats 4000000 in
set_option maxRecDepth 100000 in
theorem c_M_deadY {i G0 : Nat} (hg : g = nI G0) (hG : G0 ≤ 4000) (h1 : 1 ≤ i) (h2 : i ≤ G0) {q : Nat} (q1 : 1 ≤ q) (q2 : q ≤ G0) (hs : st q = nI 2) (ho : ∀ s, s < 6 → m_ok ha sn pl q s) : Ct l y_M_dead b_M_dead 5 (some .boolean) 1 0 0 D (gk κ, z) (mw κ a g cm st be ro pl ha mo co to sn le) [.ref (a 0), .int (nI i), .int (nI q)] (rt (.int 1) (mw κ a g cm st be ro pl ha mo co to sn le)) := by
  refine Ct.of (by decide) (Nat.le_of_ble_eq_true rfl) ?_
  intro p e s0 m below meth c A hC hr hn
  refine u_aload_n hC d_M_dead_0 rfl ?_
  refine u_iload_n hC d_M_dead_1 rfl ?_
  refine u_callVr hC (c_M_givenT hg hG h1 h2) k_M_63 i_M_isGiven (q0 := 0) rfl rfl ⟨(Nat.le_of_ble_eq_true rfl), (Nat.le_of_ble_eq_true rfl)⟩ ⟨(Nat.le_of_ble_eq_true rfl), (Nat.le_of_ble_eq_true rfl)⟩ rfl rfl (Nat.le_of_ble_eq_true rfl) d_M_dead_2 ?_
  refine u_if_ne hC 10 d_M_dead_5 (by decide) (fun h_5 => ?_) (fun h_5 => absurd h_5 (by decide))
  refine u_aload_n hC d_M_dead_10 rfl ?_
  refine u_iload_n hC d_M_dead_11 rfl ?_
  refine u_callVr hC (c_M_givenT hg hG q1 q2) k_M_63 i_M_isGiven (q0 := 0) rfl rfl ⟨(Nat.le_of_ble_eq_true rfl), (Nat.le_of_ble_eq_true rfl)⟩ ⟨(Nat.le_of_ble_eq_true rfl), (Nat.le_of_ble_eq_true rfl)⟩ rfl rfl (Nat.le_of_ble_eq_true rfl) d_M_dead_12 ?_
  refine u_if_eq hC 32 d_M_dead_15 (by decide) (fun h_15 => absurd h_15 (by decide)) (fun h_15 => ?_)
  refine u_aload_n hC d_M_dead_18 rfl ?_
  refine u_get hC f_M_7 0 rfl rfl d_M_dead_19 ?_
  refine u_iload_n hC d_M_dead_22 rfl ?_
  refine p_iald hC 1 0 rfl rfl q rfl (by omega) (by decide) d_M_dead_23 ?_
  refine u_iconst hC (nI 2) d_M_dead_24 (by decide) ?_
  refine u_icmp_ne hC 32 d_M_dead_25 (by decide) (fun h_25 => absurd hs h_25) (fun h_25 => ?_)
  refine u_iconst hC (nI 1) d_M_dead_28 (by decide) ?_
  refine u_goto hC 33 d_M_dead_29 (by decide) ?_
  refine u_istore_n hC d_M_dead_33 (by decide) ?_
  refine u_iconst hC (nI 0) d_M_dead_34 (by decide) ?_
  refine u_istore hC d_M_dead_35 (by decide) ?_
  refine l_M_dead1 (by omega) hC (fun _ => ?_) (fun w => by obtain ⟨s, w1, w2⟩ := w; exact absurd (ho s w1) w2) 6 0 rfl (fun s w => absurd w (Nat.not_lt_zero s))
  refine u_aload_n hC d_M_dead_96 rfl ?_
  refine u_get hC f_M_7 0 rfl rfl d_M_dead_97 ?_
  refine u_iload_n hC d_M_dead_100 rfl ?_
  refine p_iald hC 1 0 rfl rfl i rfl (by omega) (by decide) d_M_dead_101 ?_
  refine u_iconst hC (nI 3) d_M_dead_102 (by decide) ?_
  refine u_icmp_eq hC 110 d_M_dead_103 (by decide) (fun h_103 => ?_) (fun h_103 => ?_)
  · refine u_iconst hC (nI 1) d_M_dead_110 (by decide) ?_
    refine u_goto hC 115 d_M_dead_111 (by decide) ?_
    exact u_zret hC hr rfl d_M_dead_115 (Nat.le_of_ble_eq_true rfl) (Nat.le_of_ble_eq_true rfl) ⟨by first | rfl | (rw [if_pos h_103]; rfl) | (rw [if_neg h_103]; rfl), rfl⟩
  · refine u_iload_n hC d_M_dead_106 rfl ?_
    refine u_if_eq hC 114 d_M_dead_107 (by decide) (fun h_107 => absurd h_107 (by decide)) (fun h_107 => ?_)
    refine u_iconst hC (nI 1) d_M_dead_110 (by decide) ?_
    refine u_goto hC 115 d_M_dead_111 (by decide) ?_
    exact u_zret hC hr rfl d_M_dead_115 (Nat.le_of_ble_eq_true rfl) (Nat.le_of_ble_eq_true rfl) ⟨by first | rfl | (rw [if_pos h_103]; rfl) | (rw [if_neg h_103]; rfl), rfl⟩
set_option maxHeartbeats 4000000 in
set_option maxRecDepth 100000 in
theorem c_M_deadZ {i G0 : Nat} (hg : g = nI G0) (hG : G0 ≤ 4000) (h1 : 1 ≤ i) (h2 : i ≤ G0) {q : Nat} (q1 : 1 ≤ q) (q2 : q ≤ G0) (hs : st q = nI 2) (ho : ¬ ∀ s, s < 6 → m_ok ha sn pl q s) : Ct l y_M_dead b_M_dead 5 (some .boolean) 1 0 0 D (gk κ, z) (mw κ a g cm st be ro pl ha mo co to sn le) [.ref (a 0), .int (nI i), .int (nI q)] (rt (.int (if st i = nI 3 then 1 else 0)) (mw κ a g cm st be ro pl ha mo co to sn le)) := by
  refine Ct.of (by decide) (Nat.le_of_ble_eq_true rfl) ?_
  intro p e s0 m below meth c A hC hr hn
  refine u_aload_n hC d_M_dead_0 rfl ?_
  refine u_iload_n hC d_M_dead_1 rfl ?_
  refine u_callVr hC (c_M_givenT hg hG h1 h2) k_M_63 i_M_isGiven (q0 := 0) rfl rfl ⟨(Nat.le_of_ble_eq_true rfl), (Nat.le_of_ble_eq_true rfl)⟩ ⟨(Nat.le_of_ble_eq_true rfl), (Nat.le_of_ble_eq_true rfl)⟩ rfl rfl (Nat.le_of_ble_eq_true rfl) d_M_dead_2 ?_
  refine u_if_ne hC 10 d_M_dead_5 (by decide) (fun h_5 => ?_) (fun h_5 => absurd h_5 (by decide))
  refine u_aload_n hC d_M_dead_10 rfl ?_
  refine u_iload_n hC d_M_dead_11 rfl ?_
  refine u_callVr hC (c_M_givenT hg hG q1 q2) k_M_63 i_M_isGiven (q0 := 0) rfl rfl ⟨(Nat.le_of_ble_eq_true rfl), (Nat.le_of_ble_eq_true rfl)⟩ ⟨(Nat.le_of_ble_eq_true rfl), (Nat.le_of_ble_eq_true rfl)⟩ rfl rfl (Nat.le_of_ble_eq_true rfl) d_M_dead_12 ?_
  refine u_if_eq hC 32 d_M_dead_15 (by decide) (fun h_15 => absurd h_15 (by decide)) (fun h_15 => ?_)
  refine u_aload_n hC d_M_dead_18 rfl ?_
  refine u_get hC f_M_7 0 rfl rfl d_M_dead_19 ?_
  refine u_iload_n hC d_M_dead_22 rfl ?_
  refine p_iald hC 1 0 rfl rfl q rfl (by omega) (by decide) d_M_dead_23 ?_
  refine u_iconst hC (nI 2) d_M_dead_24 (by decide) ?_
  refine u_icmp_ne hC 32 d_M_dead_25 (by decide) (fun h_25 => absurd hs h_25) (fun h_25 => ?_)
  refine u_iconst hC (nI 1) d_M_dead_28 (by decide) ?_
  refine u_goto hC 33 d_M_dead_29 (by decide) ?_
  refine u_istore_n hC d_M_dead_33 (by decide) ?_
  refine u_iconst hC (nI 0) d_M_dead_34 (by decide) ?_
  refine u_istore hC d_M_dead_35 (by decide) ?_
  refine l_M_dead1 (by omega) hC (fun w => absurd w ho) (fun _ => ?_) 6 0 rfl (fun s w => absurd w (Nat.not_lt_zero s))
  refine u_aload_n hC d_M_dead_96 rfl ?_
  refine u_get hC f_M_7 0 rfl rfl d_M_dead_97 ?_
  refine u_iload_n hC d_M_dead_100 rfl ?_
  refine p_iald hC 1 0 rfl rfl i rfl (by omega) (by decide) d_M_dead_101 ?_
  refine u_iconst hC (nI 3) d_M_dead_102 (by decide) ?_
  refine u_icmp_eq hC 110 d_M_dead_103 (by decide) (fun h_103 => ?_) (fun h_103 => ?_)
  · refine u_iconst hC (nI 1) d_M_dead_110 (by decide) ?_
    refine u_goto hC 115 d_M_dead_111 (by decide) ?_
    exact u_zret hC hr rfl d_M_dead_115 (Nat.le_of_ble_eq_true rfl) (Nat.le_of_ble_eq_true rfl) ⟨by first | rfl | (rw [if_pos h_103]; rfl) | (rw [if_neg h_103]; rfl), rfl⟩
  · refine u_iload_n hC d_M_dead_106 rfl ?_
    refine u_if_eq hC 114 d_M_dead_107 (by decide) (fun h_107 => ?_) (fun h_107 => absurd rfl h_107)
    refine u_iconst hC (nI 0) d_M_dead_114 (by decide) ?_
    exact u_zret hC hr rfl d_M_dead_115 (Nat.le_of_ble_eq_true rfl) (Nat.le_of_ble_eq_true rfl) ⟨by first | rfl | (rw [if_pos h_103]; rfl) | (rw [if_neg h_103]; rfl), rfl⟩
end MQ1
end
section
/-! The cells of the program's objects. -/
abbrev cD (hs hl : Nat) (cm : Int32) : va_E := .inr (1, [.ref hs, .ref hl, .int cm])
abbrev cG (ro lv cd pl : Int32) : va_E := .inr (2, [.int ro, .int lv, .int cd, .int pl])
abbrev cT (md : Int32) (na : Nat) (tp co sn : Int32) : va_E := .inr (3, [.int md, .ref na, .int tp, .int co, .int sn])
abbrev cL (mc : Int32) (he : Nat) (n : Nat) : va_E := .inr (4, [.int mc, .ref he, .int (nI n)])
abbrev aI (κ : Nat → ClassId) (n : Nat) (f : Nat → Int32) : va_E := .inl (κ 0, n, .inl f)
abbrev aQ (κ : Nat → ClassId) (i n : Nat) (f : Nat → Option Nat) : va_E := .inl (κ i, n, .inr (.inr (.inr (.inr f))))
theorem wup_wup (ws : va_W) (a : Nat) (x y : va_E) : wup (wup ws a x) a y = wup ws a y := by
  unfold wup
  rw [List.map_map]
  congr 1
  funext q
  show (if (if q.1 = a then (a, x) else q).1 = a then (a, y) else (if q.1 = a then (a, x) else q)) = _
  by_cases c : q.1 = a
  · rw [if_pos c, if_pos rfl, if_pos c]
  · rw [if_neg c, if_neg c]
section TG
variable {l : Launch} {D : va_G} {κ : Nat → ClassId} {z : Nat × Nat} {ws : va_W}
set_option maxHeartbeats 4000000 in
set_option maxRecDepth 100000 in
theorem c_T_hasT {t na : Nat} {md tp co sn : Int32} (hT : wg ws t = some (cT md na tp co sn)) (hs : ¬ sn = -1) : Ct l y_T_hasSnapshot b_T_hasSnapshot 1 (some .boolean) 0 0 0 D (gk κ, z) ws [.ref t] (rt (.int 1) ws) := by
  refine Ct.of (by decide) (Nat.le_of_ble_eq_true rfl) ?_
  intro p e s0 m below meth c A hC hr hn
  refine u_aload_n hC d_T_hasSnapshot_0 rfl ?_
  refine w_get hC f_T_22 hT rfl d_T_hasSnapshot_1 ?_
  refine u_iconst hC (-1) d_T_hasSnapshot_4 (by decide) ?_
  refine u_icmp_eq hC 12 d_T_hasSnapshot_5 (by decide) (fun h_5 => absurd h_5 hs) (fun h_5 => ?_)
  refine u_iconst hC (nI 1) d_T_hasSnapshot_8 (by decide) ?_
  refine u_goto hC 13 d_T_hasSnapshot_9 (by decide) ?_
  exact u_zret hC hr rfl d_T_hasSnapshot_13 (Nat.le_of_ble_eq_true rfl) (Nat.le_of_ble_eq_true rfl) ⟨rfl, rfl⟩
set_option maxHeartbeats 4000000 in
set_option maxRecDepth 100000 in
theorem c_T_hasF {t na : Nat} {md tp co sn : Int32} (hT : wg ws t = some (cT md na tp co sn)) (hs : sn = -1) : Ct l y_T_hasSnapshot b_T_hasSnapshot 1 (some .boolean) 0 0 0 D (gk κ, z) ws [.ref t] (rt (.int 0) ws) := by
  refine Ct.of (by decide) (Nat.le_of_ble_eq_true rfl) ?_
  intro p e s0 m below meth c A hC hr hn
  refine u_aload_n hC d_T_hasSnapshot_0 rfl ?_
  refine w_get hC f_T_22 hT rfl d_T_hasSnapshot_1 ?_
  refine u_iconst hC (-1) d_T_hasSnapshot_4 (by decide) ?_
  refine u_icmp_eq hC 12 d_T_hasSnapshot_5 (by decide) (fun h_5 => ?_) (fun h_5 => absurd hs h_5)
  refine u_iconst hC (nI 0) d_T_hasSnapshot_12 (by decide) ?_
  exact u_zret hC hr rfl d_T_hasSnapshot_13 (Nat.le_of_ble_eq_true rfl) (Nat.le_of_ble_eq_true rfl) ⟨rfl, rfl⟩
set_option maxHeartbeats 4000000 in
set_option maxRecDepth 100000 in
theorem c_T_ownsT {t na : Nat} {md tp co sn : Int32} (hT : wg ws t = some (cT md na tp co sn)) {nb : Nat → Int32} (hN : wg ws na = some (aI κ 8 nb)) {q : Nat} {ro lv cd pl : Int32} (hG : wg ws q = some (cG ro lv cd pl)) (ho : ro = nb 0) : Ct l y_T_owns b_T_owns 2 (some .boolean) 0 0 0 D (gk κ, z) ws [.ref t, .ref q] (rt (.int 1) ws) := by
  refine Ct.of (by decide) (Nat.le_of_ble_eq_true rfl) ?_
  intro p e s0 m below meth c A hC hr hn
  refine u_aload_n hC d_T_owns_0 rfl ?_
  refine w_get hC f_T_28 hG rfl d_T_owns_1 ?_
  refine u_aload_n hC d_T_owns_4 rfl ?_
  refine w_get hC f_T_9 hT rfl d_T_owns_5 ?_
  refine u_iconst hC (nI 0) d_T_owns_8 (by decide) ?_
  refine w_iald hC 0 hN rfl 0 rfl (by decide) (by decide) d_T_owns_9 ?_
  refine u_icmp_ne hC 17 d_T_owns_10 (by decide) (fun h_10 => absurd ho h_10) (fun h_10 => ?_)
  refine u_iconst hC (nI 1) d_T_owns_13 (by decide) ?_
  refine u_goto hC 18 d_T_owns_14 (by decide) ?_
  exact u_zret hC hr rfl d_T_owns_18 (Nat.le_of_ble_eq_true rfl) (Nat.le_of_ble_eq_true rfl) ⟨rfl, rfl⟩
set_option maxHeartbeats 4000000 in
set_option maxRecDepth 100000 in
theorem c_T_ownsF {t na : Nat} {md tp co sn : Int32} (hT : wg ws t = some (cT md na tp co sn)) {nb : Nat → Int32} (hN : wg ws na = some (aI κ 8 nb)) {q : Nat} {ro lv cd pl : Int32} (hG : wg ws q = some (cG ro lv cd pl)) (ho : ¬ ro = nb 0) : Ct l y_T_owns b_T_owns 2 (some .boolean) 0 0 0 D (gk κ, z) ws [.ref t, .ref q] (rt (.int 0) ws) := by
  refine Ct.of (by decide) (Nat.le_of_ble_eq_true rfl) ?_
  intro p e s0 m below meth c A hC hr hn
  refine u_aload_n hC d_T_owns_0 rfl ?_
  refine w_get hC f_T_28 hG rfl d_T_owns_1 ?_
  refine u_aload_n hC d_T_owns_4 rfl ?_
  refine w_get hC f_T_9 hT rfl d_T_owns_5 ?_
  refine u_iconst hC (nI 0) d_T_owns_8 (by decide) ?_
  refine w_iald hC 0 hN rfl 0 rfl (by decide) (by decide) d_T_owns_9 ?_
  refine u_icmp_ne hC 17 d_T_owns_10 (by decide) (fun h_10 => ?_) (fun h_10 => absurd h_10 ho)
  refine u_iconst hC (nI 0) d_T_owns_17 (by decide) ?_
  exact u_zret hC hr rfl d_T_owns_18 (Nat.le_of_ble_eq_true rfl) (Nat.le_of_ble_eq_true rfl) ⟨rfl, rfl⟩
set_option maxHeartbeats 4000000 in
set_option maxRecDepth 100000 in
theorem c_T_leaveT {t na : Nat} {md tp co sn : Int32} (hT : wg ws t = some (cT md na tp co sn)) {x : Int32} (h1 : ¬ x < nI 1) (h2 : ¬ tp < x) : Ct l y_T_canLeave b_T_canLeave 2 (some .boolean) 0 0 0 D (gk κ, z) ws [.ref t, .int x] (rt (.int 1) ws) := by
  refine Ct.of (by decide) (Nat.le_of_ble_eq_true rfl) ?_
  intro p e s0 m below meth c A hC hr hn
  refine u_iload_n hC d_T_canLeave_0 rfl ?_
  refine u_iconst hC (nI 1) d_T_canLeave_1 (by decide) ?_
  refine u_icmp_lt hC 17 d_T_canLeave_2 (by decide) (fun h_2 => absurd h_2 h1) (fun h_2 => ?_)
  refine u_iload_n hC d_T_canLeave_5 rfl ?_
  refine u_aload_n hC d_T_canLeave_6 rfl ?_
  refine w_get hC f_T_15 hT rfl d_T_canLeave_7 ?_
  refine u_icmp_gt hC 17 d_T_canLeave_10 (by decide) (fun h_10 => absurd h_10 h2) (fun h_10 => ?_)
  refine u_iconst hC (nI 1) d_T_canLeave_13 (by decide) ?_
  refine u_goto hC 18 d_T_canLeave_14 (by decide) ?_
  exact u_zret hC hr rfl d_T_canLeave_18 (Nat.le_of_ble_eq_true rfl) (Nat.le_of_ble_eq_true rfl) ⟨rfl, rfl⟩
set_option maxHeartbeats 4000000 in
set_option maxRecDepth 100000 in
theorem c_T_leaveF {t na : Nat} {md tp co sn : Int32} (hT : wg ws t = some (cT md na tp co sn)) {x : Int32} (h1 : ¬ (¬ x < nI 1 ∧ ¬ tp < x)) : Ct l y_T_canLeave b_T_canLeave 2 (some .boolean) 0 0 0 D (gk κ, z) ws [.ref t, .int x] (rt (.int 0) ws) := by
  refine Ct.of (by decide) (Nat.le_of_ble_eq_true rfl) ?_
  intro p e s0 m below meth c A hC hr hn
  refine u_iload_n hC d_T_canLeave_0 rfl ?_
  refine u_iconst hC (nI 1) d_T_canLeave_1 (by decide) ?_
  refine u_icmp_lt hC 17 d_T_canLeave_2 (by decide) (fun h_2 => ?_) (fun h_2 => ?_)
  · refine u_iconst hC (nI 0) d_T_canLeave_17 (by decide) ?_
    exact u_zret hC hr rfl d_T_canLeave_18 (Nat.le_of_ble_eq_true rfl) (Nat.le_of_ble_eq_true rfl) ⟨rfl, rfl⟩
  · refine u_iload_n hC d_T_canLeave_5 rfl ?_
    refine u_aload_n hC d_T_canLeave_6 rfl ?_
    refine w_get hC f_T_15 hT rfl d_T_canLeave_7 ?_
    refine u_icmp_gt hC 17 d_T_canLeave_10 (by decide) (fun h_10 => ?_) (fun h_10 => ?_)
    · refine u_iconst hC (nI 0) d_T_canLeave_17 (by decide) ?_
      exact u_zret hC hr rfl d_T_canLeave_18 (Nat.le_of_ble_eq_true rfl) (Nat.le_of_ble_eq_true rfl) ⟨rfl, rfl⟩
    · exact absurd ⟨h_2, h_10⟩ h1
set_option maxHeartbeats 4000000 in
set_option maxRecDepth 100000 in
theorem c_G_init {q : Nat} {v0 v1 v2 v3 x y : Int32} (hG : wg ws q = some (cG v0 v1 v2 v3)) : Ct l y_G_init b_G_init 3 none 1 0 0 D (gk κ, z) ws [.ref q, .int x, .int y] (rtv (wup ws q (cG x y (nI 1) (nI 0)))) := by
  refine Ct.of (by decide) (Nat.le_of_ble_eq_true rfl) ?_
  intro p e s0 m below meth c A hC hr hn
  refine u_aload_n hC d_G_init_0 rfl ?_
  refine u_objInit hC o_G_3 o_I o_C (Nat.le_of_ble_eq_true rfl) (Nat.le_of_ble_eq_true rfl) (Nat.le_of_ble_eq_true rfl) d_G_init_1 ?_
  refine u_aload_n hC d_G_init_4 rfl ?_
  refine u_iconst hC (nI 1) d_G_init_5 (by decide) ?_
  refine w_put hC f_G_9 (tt_G 2 (by decide)) rfl hG rfl rfl (Nat.le_of_ble_eq_true rfl) d_G_init_6 ?_
  have h6 := wg_up (y := cG v0 v1 (nI 1) v3) hG
  refine u_aload_n hC d_G_init_9 rfl ?_
  refine u_iconst hC (nI 0) d_G_init_10 (by decide) ?_
  refine w_put hC f_G_15 (tt_G 3 (by decide)) rfl h6 rfl rfl (Nat.le_of_ble_eq_true rfl) d_G_init_11 ?_
  rw [wup_wup]
  have h11 := wg_up (y := cG v0 v1 (nI 1) (nI 0)) hG
  refine u_aload_n hC d_G_init_14 rfl ?_
  refine u_iload_n hC d_G_init_15 rfl ?_
  refine w_putF hC f_G_18 (tt_G 0 (by decide)) rfl hn rfl h11 rfl rfl (Nat.le_of_ble_eq_true rfl) d_G_init_16 ?_
  rw [wup_wup]
  have h16 := wg_up (y := cG x v1 (nI 1) (nI 0)) hG
  refine u_aload_n hC d_G_init_19 rfl ?_
  refine u_iload_n hC d_G_init_20 rfl ?_
  refine w_put hC f_G_21 (tt_G 1 (by decide)) rfl h16 rfl rfl (Nat.le_of_ble_eq_true rfl) d_G_init_21 ?_
  rw [wup_wup]
  exact u_vret hC hr d_G_init_24 (Nat.le_of_ble_eq_true rfl) (Nat.le_of_ble_eq_true rfl) ⟨rfl, rfl⟩
set_option maxHeartbeats 4000000 in
set_option maxRecDepth 100000 in
theorem c_T_init {t : Nat} {v0 v2 v3 v4 x : Int32} (hT : wg ws t = some (.inr (3, [.int v0, .null, .int v2, .int v3, .int v4]))) : Ct l y_T_init b_T_init 2 none 1 1 8 D (gk κ, z) ws [.ref t, .int x] (fun v w' => v = none ∧ ∃ q : Nat, wg ws q = none ∧ w' = wup (ws ++ [(q, aI κ 8 (fun _ => 0))]) t (cT x q (nI 0) (nI 0) (-1))) := by
  refine Ct.of (by decide) (Nat.le_of_ble_eq_true rfl) ?_
  intro p e s0 m below meth c A hC hr hn
  refine u_aload_n hC d_T_init_0 rfl ?_
  refine u_objInit hC o_T_3 o_I o_C (Nat.le_of_ble_eq_true rfl) (Nat.le_of_ble_eq_true rfl) (Nat.le_of_ble_eq_true rfl) d_T_init_1 ?_
  refine u_aload_n hC d_T_init_4 rfl ?_
  refine u_bipush hC (nI 8) d_T_init_5 (by decide) ?_
  refine u_newi hC (N := 8) 0 rfl a_int (by decide) (by decide) (by decide) (Nat.le_of_ble_eq_true rfl) (Nat.le_of_ble_eq_true rfl) d_T_init_7 (fun na => w_fresh (fun hna => ?_))
  have hT0 := wg_app (w2 := [(na, aI κ 8 (fun _ => 0))]) hT
  refine w_putF hC f_T_9 (tt_T 1 (by decide)) rfl hn rfl hT0 rfl rfl (Nat.le_of_ble_eq_true rfl) d_T_init_9 ?_
  have h9 := wg_up (y := .inr (3, [.int v0, .ref na, .int v2, .int v3, .int v4])) hT0
  refine u_aload_n hC d_T_init_12 rfl ?_
  refine u_iconst hC (nI 0) d_T_init_13 (by decide) ?_
  refine w_put hC f_T_15 (tt_T 2 (by decide)) rfl h9 rfl rfl (Nat.le_of_ble_eq_true rfl) d_T_init_14 ?_
  rw [wup_wup]
  have h14 := wg_up (y := .inr (3, [.int v0, .ref na, .int (nI 0), .int v3, .int v4])) hT0
  refine u_aload_n hC d_T_init_17 rfl ?_
  refine u_iconst hC (nI 0) d_T_init_18 (by decide) ?_
  refine w_put hC f_T_19 (tt_T 3 (by decide)) rfl h14 rfl rfl (Nat.le_of_ble_eq_true rfl) d_T_init_19 ?_
  rw [wup_wup]
  have h19 := wg_up (y := .inr (3, [.int v0, .ref na, .int (nI 0), .int (nI 0), .int v4])) hT0
  refine u_aload_n hC d_T_init_22 rfl ?_
  refine u_iconst hC (-1) d_T_init_23 (by decide) ?_
  refine w_put hC f_T_22 (tt_T 4 (by decide)) rfl h19 rfl rfl (Nat.le_of_ble_eq_true rfl) d_T_init_24 ?_
  rw [wup_wup]
  have h24 := wg_up (y := .inr (3, [.int v0, .ref na, .int (nI 0), .int (nI 0), .int (-1)])) hT0
  refine u_aload_n hC d_T_init_27 rfl ?_
  refine u_iload_n hC d_T_init_28 rfl ?_
  refine w_putF hC f_T_25 (tt_T 0 (by decide)) rfl hn rfl h24 rfl rfl (Nat.le_of_ble_eq_true rfl) d_T_init_29 ?_
  rw [wup_wup]
  exact u_vret hC hr d_T_init_32 (Nat.le_of_ble_eq_true rfl) (Nat.le_of_ble_eq_true rfl) ⟨rfl, na, hna, rfl⟩
end TG
end
section
/-- levels k0, .., k - 1 have no number -/
def t_clr (nb : Nat → Int32) (k0 k : Nat) : Nat → Int32 := fun i => if k0 ≤ i ∧ i < k then nI 0 else nb i
theorem t_clr_0 {nb : Nat → Int32} {k0 : Nat} : t_clr nb k0 k0 = nb := by
  funext i
  exact if_neg (fun h => by omega)
theorem t_clr_s {nb : Nat → Int32} {k0 k : Nat} (h : k0 ≤ k) : upd (t_clr nb k0 k) k (nI 0) = t_clr nb k0 (k + 1) := by
  funext i
  unfold upd t_clr
  by_cases c : i = k
  · rw [if_pos c, if_pos ⟨by omega, by omega⟩]
  · rw [if_neg c]
    by_cases c2 : k0 ≤ i ∧ i < k
    · rw [if_pos c2, if_pos ⟨c2.1, by omega⟩]
    · rw [if_neg c2, if_neg (fun q => c2 ⟨q.1, by omega⟩)]
theorem wup_self : ∀ {ws : va_W} {A : Nat → Prop} {a : Nat} {x : va_E}, va_D A ws → wg ws a = some x → wup ws a x = ws := by
  intro ws A a x hD h
  obtain ⟨q0, h0⟩ := wg_ix h
  have key : ∀ q ∈ ws, (fun q : Nat × va_E => if q.1 = a then (a, x) else q) q = id q := by
    intro q hq
    obtain ⟨i, hi⟩ := List.getElem?_of_mem hq
    show (if q.1 = a then (a, x) else q) = q
    by_cases c : q.1 = a
    · have e := hD.1 i q0 q (a, x) hi h0 c
      subst e
      rw [if_pos c]
      exact Option.some.inj (h0.symm.trans hi)
    · rw [if_neg c]
  unfold wup
  rw [List.map_congr_left key, List.map_id]
section TC0
variable {l : Launch} {D : va_G} {κ : Nat → ClassId} {z : Nat × Nat} {ws : va_W}
variable {p : Program} {e : Env} {R : Room} {s0 : State} {m : MethodId} {args : Array Value} {below : List Frame} {meth : Method} {c : Code} {A : Nat → Prop} {Q : State → Prop} {k9 n9 : Nat}
set_option maxHeartbeats 4000000 in
set_option maxRecDepth 100000 in
theorem l_T_clear {t na k0 : Nat} {md tp co sn x : Int32} {nb : Nat → Int32} (hT : wg ws t = some (cT md na tp co sn)) (hN : wg ws na = some (aI κ 8 nb)) (hC : vx p s0 m args meth c b_T_clearLevelsFrom 3 R_T D (gk κ, z) A) (exit : U p l e R s0 m args below meth c 3 D A (wup ws na (aI κ 8 (t_clr nb k0 8))) k9 n9 Q 21 [(2, .int (nI 8)), (0, .ref t), (1, .int x)] []) : ∀ r k : Nat, k + r = 8 → k0 ≤ k → U p l e R s0 m args below meth c 3 D A (wup ws na (aI κ 8 (t_clr nb k0 k))) k9 n9 Q 2 [(2, .int (nI k)), (0, .ref t), (1, .int x)] [] := by
  intro r
  induction r with
  | zero =>
    intro k hk h0
    have e : k = 8 := by omega
    subst e
    refine u_iload_n hC d_T_clearLevelsFrom_2 rfl ?_
    refine u_bipush hC (nI 8) d_T_clearLevelsFrom_3 (by decide) ?_
    refine u_icmp_ge hC 21 d_T_clearLevelsFrom_5 (by decide) (fun h_5 => ?_) (fun h_5 => absurd (by decide) h_5)
    exact exit
  | succ r ih =>
    intro k hk h0
    have hT2 : wg (wup ws na (aI κ 8 (t_clr nb k0 k))) t = some (cT md na tp co sn) := by rw [wg_upN (wg_ne hT hN (by intro q; cases q))]; exact hT
    have hN2 : wg (wup ws na (aI κ 8 (t_clr nb k0 k))) na = some (aI κ 8 (t_clr nb k0 k)) := wg_up hN
    refine u_iload_n hC d_T_clearLevelsFrom_2 rfl ?_
    refine u_bipush hC (nI 8) d_T_clearLevelsFrom_3 (by decide) ?_
    refine u_icmp_ge hC 21 d_T_clearLevelsFrom_5 (by decide) (fun h_5 => absurd h_5 (nI_ge (by omega) (by decide))) (fun h_5 => ?_)
    refine u_aload_n hC d_T_clearLevelsFrom_8 rfl ?_
    refine w_get hC f_T_9 hT2 rfl d_T_clearLevelsFrom_9 ?_
    refine u_iload_n hC d_T_clearLevelsFrom_12 rfl ?_
    refine u_iconst hC (nI 0) d_T_clearLevelsFrom_13 (by decide) ?_
    refine w_iast hC 0 hN2 rfl k rfl (by omega) (by decide) d_T_clearLevelsFrom_14 ?_
    rw [wup_wup, t_clr_s h0]
    refine u_iinc hC (nI (k + 1)) (j := 0) d_T_clearLevelsFrom_15 rfl (nI_1 k) (by decide) ?_
    refine u_goto hC 2 d_T_clearLevelsFrom_18 (by decide) ?_
    exact ih (k + 1) (by omega) (by omega)
end TC0
section TC1
variable {l : Launch} {D : va_G} {κ : Nat → ClassId} {z : Nat × Nat} {ws : va_W}
set_option maxHeartbeats 4000000 in
set_option maxRecDepth 100000 in
theorem c_T_clear {t na k0 : Nat} {md tp co sn : Int32} {nb : Nat → Int32} (hk : k0 ≤ 8) (hT : wg ws t = some (cT md na tp co sn)) (hN : wg ws na = some (aI κ 8 nb)) : Ct l y_T_clearLevelsFrom b_T_clearLevelsFrom 3 none 0 0 0 D (gk κ, z) ws [.ref t, .int (nI k0)] (rtv (wup ws na (aI κ 8 (t_clr nb k0 8)))) := by
  refine Ct.of (by decide) (Nat.le_of_ble_eq_true rfl) ?_
  intro p e s0 m below meth c A hC hr hn
  refine u_iload_n hC d_T_clearLevelsFrom_0 rfl ?_
  refine u_istore_n hC d_T_clearLevelsFrom_1 (by decide) ?_
  refine u_D (fun ⟨B, hB⟩ => ?_)
  refine u_eqw (ws' := wup ws na (aI κ 8 (t_clr nb k0 k0))) (by rw [t_clr_0, wup_self hB hN]) ?_
  refine l_T_clear hT hN hC ?_ (8 - k0) k0 (by omega) (Nat.le_refl _)
  exact u_vret hC hr d_T_clearLevelsFrom_21 (Nat.le_of_ble_eq_true rfl) (Nat.le_of_ble_eq_true rfl) ⟨rfl, rfl⟩
end TC1
end
section
/-! Rows for arraycopy and the mirror, by addresses. -/
theorem wup_last {ws : va_W} {q : Nat} {x y : va_E} (h : wg ws q = none) : wup (ws ++ [(q, x)]) q y = ws ++ [(q, y)] := by
  unfold wup
  rw [List.map_append]
  congr 1
  · exact wup_noop (a := q) (y := y) (fun i z hz c => by
      have : ∀ {w : va_W} {i : Nat} {z : Nat × va_E}, w[i]? = some z → z.1 = q → ∃ u, wg w q = some u := by
        intro w
        induction w with
        | nil => intro i z h1 _; simp at h1
        | cons b r ih =>
          intro i z h1 h2
          by_cases c9 : b.1 = q
          · exact ⟨b.2, by rw [wg, if_pos c9]⟩
          · cases i with
            | zero =>
              rw [List.getElem?_cons_zero] at h1
              cases h1
              exact absurd h2 c9
            | succ i =>
              rw [List.getElem?_cons_succ] at h1
              obtain ⟨u, hu⟩ := ih h1 h2
              exact ⟨u, by rw [wg, if_neg c9]; exact hu⟩
      obtain ⟨u, hu⟩ := this hz c
      rw [h] at hu
      cases hu)
  · rw [List.map_cons, List.map_nil, if_pos rfl]
section VJ2
variable {p : Program} {l : Launch} {e : Env} {R : Room} {s : State} {m : MethodId} {args : Array Value} {below : List Frame} {meth : Method} {c : Code} {k n : Nat} {Q : State → Prop}
variable {cc : ByteArray} {nL : Nat} {own : String} {D : va_G} {κ : Nat → ClassId} {z : Nat × Nat} {A : Nat → Prop} {pc : Nat} {L : List (Nat × Value)} {st : List Value} {ws : va_W}
theorem u_getC (hC : vx p s m args meth c cc nL own D (gk κ, z) A) {idx a N : Nat} {f : Nat → Option Nat} (hl9 : Cond.methodLink own idx ⟨"java/lang/Object", "getClass", "()Ljava/lang/Class;"⟩ ∈ gw) (ha : wg ws a = some (.inl (κ 3, N, .inr (.inr (.inr (.inr f)))))) (hf : 1 ≤ R.frames) (hlo : 22 ≤ R.locals) (hst : (st.map fun v => v.category).sum ≤ 8) (d : decode cc pc = .ok (.invokevirtual idx, 3))
    (kk : U p l e R s m args below meth c nL D A ws k n Q (pc + 3) L (.ref z.2 :: st)) : U p l e R s m args below meth c nL D A ws k n Q pc L (.ref a :: st) := by
  intro ls hl H locs hP hD hS
  obtain ⟨q0, h0⟩ := wg_ix ha
  have hZ := hC.2.2.2.1
  have hK3 := (hC.2.1.2 3 (κ 3, .object "java/lang/Object") rfl).2
  refine va_getC hC.1.1 hC.1.2.1 (hC.1.2.2.1.trans hl.1.symm) hC.1.2.2.2.1 (hC.1.2.2.2.2 _ hl9) (va_Dc.use hZ.2.2.2.2.2.2) (hC.1.2.2.2.2 _ gc_s) (hC.1.2.2.2.2 _ gc_i) (hC.1.2.2.2.2 _ gc_n) hZ.2.2.1 ⟨_, hP q0 _ h0, rfl, ?_⟩ hf (by omega) d (kk ls hl H locs hP hD hS)
  exact va_nmO hK3 rfl
theorem w_copyq (hC : vx p s m args meth c cc nL own D (gk κ, z) A) {idx a0 a n0 n1 N : Nat} {f g : Nat → Option Nat} (hl9 : Cond.methodLink own idx arraycopyName ∈ gw) (ha0 : wg ws a0 = some (.inl (κ 3, n0, .inr (.inr (.inr (.inr f)))))) (ha1 : wg ws a = some (.inl (κ 3, n1, .inr (.inr (.inr (.inr g)))))) (hn0 : N ≤ n0) (hn1 : N ≤ n1) (hN : N < 2 ^ 31)
    (hel : ∀ i : Nat, i < N → ∀ y : Nat, f i = some y → ∃ fs : List Value, wg ws y = some (.inr (2, fs))) (hf : 1 ≤ R.frames) (hlo : 40 ≤ R.locals) (hst : (st.map fun v => v.category).sum ≤ 8) (d : decode cc pc = .ok (.invokestatic idx, 3))
    (kk : U p l e R s m args below meth c nL D A (wup ws a (.inl (κ 3, n1, .inr (.inr (.inr (.inr (va_cpy f g 0 0 N))))))) k n Q (pc + 3) L st) : U p l e R s m args below meth c nL D A ws k n Q pc L (.int (nI N) :: .int (nI 0) :: .ref a :: .int (nI 0) :: .ref a0 :: st) := by
  intro ls hl H locs hP hD hS
  obtain ⟨q0, h0⟩ := wg_ix ha0
  obtain ⟨q1, h1⟩ := wg_ix ha1
  have e0 : (nI 0).toNatClampNeg = 0 := nI_clamp (by decide)
  have eN : (nI N).toNatClampNeg = N := nI_clamp hN
  have hZ := hC.2.2.2.1
  refine va_copyq (C := R_G) (E0 := "java/lang/Object") (E1 := "java/lang/Object") hC.1.1 hC.1.2.1 (hC.1.2.2.1.trans hl.1.symm) hC.1.2.2.2.1 (hC.1.2.2.2.2 _ hl9) (hC.1.2.2.2.2 _ ac_n) (hC.1.2.2.2.2 _ ac_s) (hC.1.2.2.2.2 _ ac_i) hC.2.1 hP hD hS q0 q1 3 3 h0 h1 rfl rfl (nI_pos (by decide)) (nI_pos (by decide)) (nI_pos hN) (by rw [e0, eN]; omega) (by rw [e0, eN]; omega) ?_ ?_ hf ?_ d ?_
  · intro i hi y hy
    rw [eN] at hi
    rw [e0, Nat.zero_add] at hy
    obtain ⟨fs, hfs⟩ := hel i hi y hy
    obtain ⟨q2, h2⟩ := wg_ix hfs
    exact va_recv hC.2.1 hP (ci := 2) rfl h2
  · intro comp c0 h2 h3
    obtain ⟨c1, t1, f1, f2, f3⟩ := Cond.castable_spec (va_Nw.use (A := args) rfl hZ.2.2.2.1)
    cases h3.symm.trans f1
    cases h2.symm.trans f2
    exact f3
  · have : nativeFrameWords "java/lang/System" "arraycopy" 5 = 7 := by decide
    omega
  · intro H1 locs1 g1 g2 g3
    rw [e0, eN] at g1 g2
    rw [wup_set hD h1] at g1 g2
    exact kk ls hl H1 locs1 g1 g2 g3
end VJ2
end
section
theorem u_top {p : Program} {l : Launch} {e : Env} {R : Room} {s : State} {m : MethodId} {args : Array Value} {below : List Frame} {meth : Method} {c : Code} {k n : Nat} {Q : State → Prop} {nL : Nat} {D : va_G} {A : Nat → Prop} {pc : Nat} {L : List (Nat × Value)} {st : List Value} {ws : va_W} {v : Value} (kk : U p l e R s m args below meth c nL D A ws k n Q pc L (v :: st)) : U p l e R s m args below meth c nL D A ws k n Q pc L ((some v).toList ++ st) := kk
/-! The list: its own methods, and what it is to its user. -/
theorem cst_AS : Cond.constant R_AS 200 2147483639 ∈ gw := gw_in (List.mem_append_right _ (List.mem_of_getElem? (i := 167) (by decide +kernel))) rfl
section LI
variable {l : Launch} {D : va_G} {κ : Nat → ClassId} {z : Nat × Nat} {ws : va_W}
set_option maxHeartbeats 4000000 in
set_option maxRecDepth 100000 in
theorem c_AC_init {q : Nat} : Ct l y_AC_init b_AC_init 1 none 1 0 0 D (gk κ, z) ws [.ref q] (rtv ws) := by
  refine Ct.of (by decide) (Nat.le_of_ble_eq_true rfl) ?_
  intro p e s0 m below meth c A hC hr hn
  refine u_aload_n hC d_AC_init_0 rfl ?_
  refine u_objInit hC o_AC_1 o_I o_C (Nat.le_of_ble_eq_true rfl) (Nat.le_of_ble_eq_true rfl) (Nat.le_of_ble_eq_true rfl) d_AC_init_1 ?_
  exact u_vret hC hr d_AC_init_4 (Nat.le_of_ble_eq_true rfl) (Nat.le_of_ble_eq_true rfl) ⟨rfl, rfl⟩
set_option maxHeartbeats 4000000 in
set_option maxRecDepth 100000 in
theorem c_AL_init {q : Nat} {v0 v1 v2 : Value} (hq : wg ws q = some (.inr (4, [v0, v1, v2]))) : Ct l y_AL_init b_AL_init 1 none 2 0 0 D (gk κ, z) ws [.ref q] (rtv (wup ws q (.inr (4, [.int (nI 0), v1, v2])))) := by
  refine Ct.of (by decide) (Nat.le_of_ble_eq_true rfl) ?_
  intro p e s0 m below meth c A hC hr hn
  refine u_aload_n hC d_AL_init_0 rfl ?_
  refine u_callIv hC (c_AC_init) k_AL_1 i_AC_init rfl ⟨(Nat.le_of_ble_eq_true rfl), (Nat.le_of_ble_eq_true rfl)⟩ ⟨(Nat.le_of_ble_eq_true rfl), (Nat.le_of_ble_eq_true rfl)⟩ rfl rfl (Nat.le_of_ble_eq_true rfl) d_AL_init_1 ?_
  refine u_aload_n hC d_AL_init_4 rfl ?_
  refine u_iconst hC (nI 0) d_AL_init_5 (by decide) ?_
  refine w_put hC f_AL_7 (tt_L 0 (by decide)) rfl hq rfl rfl (Nat.le_of_ble_eq_true rfl) d_AL_init_6 ?_
  exact u_vret hC hr d_AL_init_9 (Nat.le_of_ble_eq_true rfl) (Nat.le_of_ble_eq_true rfl) ⟨rfl, rfl⟩
set_option maxHeartbeats 4000000 in
set_option maxRecDepth 100000 in
theorem c_L_init {q : Nat} {v0 v1 v2 : Value} (hq : wg ws q = some (.inr (4, [v0, v1, v2]))) : Ct l y_L_init b_L_init 1 none 3 0 0 D (gk κ, z) ws [.ref q] (rtv (wup ws q (.inr (4, [.int (nI 0), .ref z.1, v2])))) := by
  refine Ct.of (by decide) (Nat.le_of_ble_eq_true rfl) ?_
  intro p e s0 m below meth c A hC hr hn
  refine u_aload_n hC d_L_init_0 rfl ?_
  refine u_callIv hC (c_AL_init hq) k_L_1 i_AL_init rfl ⟨(Nat.le_of_ble_eq_true rfl), (Nat.le_of_ble_eq_true rfl)⟩ ⟨(Nat.le_of_ble_eq_true rfl), (Nat.le_of_ble_eq_true rfl)⟩ rfl rfl (Nat.le_of_ble_eq_true rfl) d_L_init_1 ?_
  refine u_aload_n hC d_L_init_4 rfl ?_
  refine u_gets hC g_L_39 d_L_init_5 ?_
  refine w_put hC f_L_9 (tt_L 1 (by decide)) rfl (wg_up hq) rfl rfl (Nat.le_of_ble_eq_true rfl) d_L_init_8 ?_
  rw [wup_wup]
  exact u_vret hC hr d_L_init_11 (Nat.le_of_ble_eq_true rfl) (Nat.le_of_ble_eq_true rfl) ⟨rfl, rfl⟩
set_option maxHeartbeats 4000000 in
set_option maxRecDepth 100000 in
theorem c_L_size {hl he n : Nat} {mc : Int32} (hL : wg ws hl = some (cL mc he n)) : Ct l y_L_size b_L_size 1 (some .int) 0 0 0 D (gk κ, z) ws [.ref hl] (rt (.int (nI n)) ws) := by
  refine Ct.of (by decide) (Nat.le_of_ble_eq_true rfl) ?_
  intro p e s0 m below meth c A hC hr hn
  refine u_aload_n hC d_L_size_0 rfl ?_
  refine w_get hC f_L_48 hL rfl d_L_size_1 ?_
  exact u_iret hC hr d_L_size_4 (Nat.le_of_ble_eq_true rfl) (Nat.le_of_ble_eq_true rfl) ⟨rfl, rfl⟩
set_option maxHeartbeats 4000000 in
set_option maxRecDepth 100000 in
theorem c_L_elem {hl he n : Nat} {mc : Int32} (hL : wg ws hl = some (cL mc he n)) {cap : Nat} {f : Nat → Option Nat} (hE : wg ws he = some (aQ κ 3 cap f)) (hcap : cap ≤ 10000) {i x : Nat} (hi : i < cap) (hx : f i = some x) : Ct l y_L_elementData b_L_elementData 2 (some (.object "java/lang/Object")) 0 0 0 D (gk κ, z) ws [.ref hl, .int (nI i)] (rt (.ref x) ws) := by
  refine Ct.of (by decide) (Nat.le_of_ble_eq_true rfl) ?_
  intro p e s0 m below meth c A hC hr hn
  refine u_aload_n hC d_L_elementData_0 rfl ?_
  refine w_get hC f_L_9 hL rfl d_L_elementData_1 ?_
  refine u_iload_n hC d_L_elementData_4 rfl ?_
  refine w_aldq hC 3 hE rfl i rfl hi (by omega) d_L_elementData_5 ?_
  rw [hx]
  exact u_aret hC hr (Or.inl ⟨_, rfl⟩) (Or.inr ⟨_, rfl⟩) d_L_elementData_6 (Nat.le_of_ble_eq_true rfl) (Nat.le_of_ble_eq_true rfl) ⟨rfl, rfl⟩
set_option maxHeartbeats 4000000 in
set_option maxRecDepth 100000 in
theorem c_P_check {i n : Nat} (hi : i < n) (hn2 : n < 2 ^ 31) : Ct l y_P_checkIndex b_P_checkIndex 3 (some .int) 0 0 0 D (gk κ, z) ws [.int (nI i), .int (nI n), .null] (rt (.int (nI i)) ws) := by
  refine Ct.of (by decide) (Nat.le_of_ble_eq_true rfl) ?_
  intro p e s0 m below meth c A hC hr hn
  refine u_iload_n hC d_P_checkIndex_0 rfl ?_
  refine u_if_lt hC 9 d_P_checkIndex_1 (by decide) (fun h_1 => absurd h_1 (nI_pos (by omega))) (fun h_1 => ?_)
  refine u_iload_n hC d_P_checkIndex_4 rfl ?_
  refine u_iload_n hC d_P_checkIndex_5 rfl ?_
  refine u_icmp_lt hC 16 d_P_checkIndex_6 (by decide) (fun h_6 => ?_) (fun h_6 => absurd (nI_lt hi hn2) h_6)
  refine u_iload_n hC d_P_checkIndex_16 rfl ?_
  exact u_iret hC hr d_P_checkIndex_17 (Nat.le_of_ble_eq_true rfl) (Nat.le_of_ble_eq_true rfl) ⟨rfl, rfl⟩
set_option maxHeartbeats 4000000 in
set_option maxRecDepth 100000 in
theorem c_O_check {i n : Nat} (hi : i < n) (hn2 : n < 2 ^ 31) : Ct l y_O_checkIndex b_O_checkIndex 2 (some .int) 1 0 0 D (gk κ, z) ws [.int (nI i), .int (nI n)] (rt (.int (nI i)) ws) := by
  refine Ct.of (by decide) (Nat.le_of_ble_eq_true rfl) ?_
  intro p e s0 m below meth c A hC hr hn
  refine u_iload_n hC d_O_checkIndex_0 rfl ?_
  refine u_iload_n hC d_O_checkIndex_1 rfl ?_
  refine u_null hC d_O_checkIndex_2 ?_
  refine u_callSr hC (c_P_check hi hn2) k_O_105 s_P_checkIndex ⟨(Nat.le_of_ble_eq_true rfl), (Nat.le_of_ble_eq_true rfl)⟩ ⟨(Nat.le_of_ble_eq_true rfl), (Nat.le_of_ble_eq_true rfl)⟩ rfl rfl (Nat.le_of_ble_eq_true rfl) d_O_checkIndex_3 ?_
  exact u_iret hC hr d_O_checkIndex_6 (Nat.le_of_ble_eq_true rfl) (Nat.le_of_ble_eq_true rfl) ⟨rfl, rfl⟩
set_option maxHeartbeats 4000000 in
set_option maxRecDepth 100000 in
theorem c_L_get0 {hl he n : Nat} {mc : Int32} (hL : wg ws hl = some (cL mc he n)) {cap : Nat} {f : Nat → Option Nat} (hE : wg ws he = some (aQ κ 3 cap f)) (hcap : cap ≤ 10000) {i x : Nat} (hn9 : n ≤ cap) (hi : i < n) (hx : f i = some x) : Ct l y_L_get b_L_get 2 (some (.object "java/lang/Object")) 2 0 0 D (gk κ, z) ws [.ref hl, .int (nI i)] (rt (.ref x) ws) := by
  refine Ct.of (by decide) (Nat.le_of_ble_eq_true rfl) ?_
  intro p e s0 m below meth c A hC hr hn
  refine u_iload_n hC d_L_get_0 rfl ?_
  refine u_aload_n hC d_L_get_1 rfl ?_
  refine w_get hC f_L_48 hL rfl d_L_get_2 ?_
  refine u_callSr hC (c_O_check hi (by omega)) k_L_118 s_O_checkIndex ⟨(Nat.le_of_ble_eq_true rfl), (Nat.le_of_ble_eq_true rfl)⟩ ⟨(Nat.le_of_ble_eq_true rfl), (Nat.le_of_ble_eq_true rfl)⟩ rfl rfl (Nat.le_of_ble_eq_true rfl) d_L_get_5 ?_
  refine u_pop hC d_L_get_8 rfl ?_
  refine u_aload_n hC d_L_get_9 rfl ?_
  refine u_iload_n hC d_L_get_10 rfl ?_
  refine w_callVr hC (c_L_elem hL hE hcap (Nat.lt_of_lt_of_le hi hn9) hx) k_L_123 i_L_elementData hL rfl ⟨(Nat.le_of_ble_eq_true rfl), (Nat.le_of_ble_eq_true rfl)⟩ ⟨(Nat.le_of_ble_eq_true rfl), (Nat.le_of_ble_eq_true rfl)⟩ rfl rfl (Nat.le_of_ble_eq_true rfl) d_L_get_11 ?_
  exact u_aret hC hr (Or.inl ⟨_, rfl⟩) (Or.inr ⟨_, rfl⟩) d_L_get_14 (Nat.le_of_ble_eq_true rfl) (Nat.le_of_ble_eq_true rfl) ⟨rfl, rfl⟩
set_option maxHeartbeats 4000000 in
set_option maxRecDepth 100000 in
theorem c_AS_new {k : Nat} (h1 : 10 ≤ k) (h2 : k ≤ 5000) : Ct l y_AS_newLength b_AS_newLength 4 (some .int) 1 0 0 D (gk κ, z) ws [.int (nI k), .int (nI 1), .int (nI (k / 2))] (rt (.int (nI (k + k / 2))) ws) := by
  refine Ct.of (by decide) (Nat.le_of_ble_eq_true rfl) ?_
  intro p e s0 m below meth c A hC hr hn
  refine u_iload_n hC d_AS_newLength_0 rfl ?_
  refine u_iload_n hC d_AS_newLength_1 rfl ?_
  refine u_iload_n hC d_AS_newLength_2 rfl ?_
  refine u_mmax hC q_AS_194 m_max_s m_i m_max_c (Nat.le_of_ble_eq_true rfl) (Nat.le_of_ble_eq_true rfl) (Nat.le_of_ble_eq_true rfl) (Nat.le_of_ble_eq_true rfl) (Nat.le_of_ble_eq_true rfl) d_AS_newLength_3 ?_
  refine u_val (if_pos (nI_lt (by omega) (by omega))) ?_
  refine u_iadd hC d_AS_newLength_6 ?_
  refine u_val (nI_add k (k / 2)) ?_
  refine u_istore_n hC d_AS_newLength_7 (by decide) ?_
  refine u_iconst hC (nI 0) d_AS_newLength_8 (by decide) ?_
  refine u_iload_n hC d_AS_newLength_9 rfl ?_
  refine u_icmp_ge hC 21 d_AS_newLength_10 (by decide) (fun h_10 => absurd h_10 (nI_nle (by omega) (by omega))) (fun h_10 => ?_)
  refine u_iload_n hC d_AS_newLength_13 rfl ?_
  refine u_ldcI hC cst_AS d_AS_newLength_14 ?_
  refine u_icmp_gt hC 21 d_AS_newLength_16 (by decide) (fun h_16 => absurd h_16 (show ¬ nI 2147483639 < nI (k + k / 2) from nI_nlt (by omega) (by decide))) (fun h_16 => ?_)
  refine u_iload_n hC d_AS_newLength_19 rfl ?_
  exact u_iret hC hr d_AS_newLength_20 (Nat.le_of_ble_eq_true rfl) (Nat.le_of_ble_eq_true rfl) ⟨rfl, rfl⟩
set_option maxHeartbeats 4000000 in
set_option maxRecDepth 100000 in
theorem c_AR_copy3 {he cap k9 : Nat} {f : Nat → Option Nat} (hE : wg ws he = some (aQ κ 3 cap f)) (hc : cap ≤ k9) (hk : k9 ≤ 10000) (hel : ∀ i : Nat, i < cap → ∀ y : Nat, f i = some y → ∃ fs : List Value, wg ws y = some (.inr (2, fs))) : Ct l y_AR_copyOf3 b_AR_copyOf3 4 (some (.array (.object "java/lang/Object"))) 1 1 k9 D (gk κ, z) ws [.ref he, .int (nI k9), .ref z.2] (fun v w' => ∃ q : Nat, wg ws q = none ∧ v = some (.ref q) ∧ w' = ws ++ [(q, aQ κ 3 k9 (va_cpy f (fun _ => none) 0 0 cap))]) := by
  refine Ct.of (by decide) (Nat.le_of_ble_eq_true rfl) ?_
  intro p e s0 m below meth c A hC hr hn
  refine u_aload_n hC d_AR_copyOf3_0 rfl ?_
  refine u_ldcM hC l_AR_110 d_AR_copyOf3_1 ?_
  refine u_acmp_ne hC (some z.2) (some z.2) 13 d_AR_copyOf3_3 (by decide) (fun h_3 => absurd rfl h_3) (fun h_3 => ?_)
  refine u_iload_n hC d_AR_copyOf3_6 rfl ?_
  have hZ := hC.2.2.2.1
  refine u_newq hC 3 rfl l_AR_2 hZ.2.2.2.2.2.1 (nI_pos (by omega)) (nI_clamp (by omega)) (by omega) (Nat.le_of_ble_eq_true rfl) (Nat.le_of_eq (Nat.zero_add k9)) d_AR_copyOf3_7 (fun q => w_fresh (fun hq => ?_))
  have hE1 := wg_app (w2 := [(q, aQ κ 3 k9 (fun _ => none))]) hE
  refine u_goto hC 24 d_AR_copyOf3_10 (by decide) ?_
  refine u_astore_n hC d_AR_copyOf3_24 (by decide) ?_
  refine u_aload_n hC d_AR_copyOf3_25 rfl ?_
  refine u_iconst hC (nI 0) d_AR_copyOf3_26 (by decide) ?_
  refine u_aload_n hC d_AR_copyOf3_27 rfl ?_
  refine u_iconst hC (nI 0) d_AR_copyOf3_28 (by decide) ?_
  refine u_aload_n hC d_AR_copyOf3_29 rfl ?_
  refine w_alen hC 3 hE1 rfl d_AR_copyOf3_30 ?_
  refine u_iload_n hC d_AR_copyOf3_31 rfl ?_
  refine u_mmin hC q_AR_304 m_min_s m_i m_min_c (Nat.le_of_ble_eq_true rfl) (Nat.le_of_ble_eq_true rfl) (Nat.le_of_ble_eq_true rfl) (Nat.le_of_ble_eq_true rfl) (Nat.le_of_eq (Nat.zero_add k9)) d_AR_copyOf3_32 ?_
  refine u_val (if_neg (nI_nlt hc (by omega))) ?_
  refine w_copyq hC q_AR_150 hE1 (wg_push hq) (Nat.le_refl _) hc (by omega) (fun i hi y hy => by obtain ⟨fs, h9⟩ := hel i hi y hy; exact ⟨fs, wg_app h9⟩) (Nat.le_of_ble_eq_true rfl) (Nat.le_of_ble_eq_true rfl) (Nat.le_of_ble_eq_true rfl) d_AR_copyOf3_35 ?_
  rw [wup_last hq]
  refine u_aload_n hC d_AR_copyOf3_38 rfl ?_
  exact u_aret hC hr (Or.inr ⟨_, rfl⟩) (Or.inr ⟨_, rfl⟩) d_AR_copyOf3_39 (by omega) (by omega) ⟨q, hq, rfl, rfl⟩
set_option maxHeartbeats 4000000 in
set_option maxRecDepth 100000 in
theorem c_AR_copy {he cap k9 : Nat} {f : Nat → Option Nat} (hE : wg ws he = some (aQ κ 3 cap f)) (hc : cap ≤ k9) (hk : k9 ≤ 10000) (hel : ∀ i : Nat, i < cap → ∀ y : Nat, f i = some y → ∃ fs : List Value, wg ws y = some (.inr (2, fs))) : Ct l y_AR_copyOf b_AR_copyOf 2 (some (.array (.object "java/lang/Object"))) 2 1 k9 D (gk κ, z) ws [.ref he, .int (nI k9)] (fun v w' => ∃ q : Nat, wg ws q = none ∧ v = some (.ref q) ∧ w' = ws ++ [(q, aQ κ 3 k9 (va_cpy f (fun _ => none) 0 0 cap))]) := by
  refine Ct.of (by decide) (Nat.le_of_ble_eq_true rfl) ?_
  intro p e s0 m below meth c A hC hr hn
  refine u_aload_n hC d_AR_copyOf_0 rfl ?_
  refine u_iload_n hC d_AR_copyOf_1 rfl ?_
  refine u_aload_n hC d_AR_copyOf_2 rfl ?_
  refine u_getC hC q_AR_86 hE (Nat.le_of_ble_eq_true rfl) (Nat.le_of_ble_eq_true rfl) (Nat.le_of_ble_eq_true rfl) d_AR_copyOf_3 ?_
  refine u_callS hC (c_AR_copy3 hE hc hk hel) k_AR_300 s_AR_copyOf3 ⟨(Nat.le_of_ble_eq_true rfl), (Nat.le_of_ble_eq_true rfl)⟩ ⟨(Nat.le_of_ble_eq_true rfl), (Nat.le_of_eq (Nat.zero_add k9))⟩ rfl rfl (Nat.le_of_ble_eq_true rfl) d_AR_copyOf_6 (fun v w' hp => ?_)
  obtain ⟨q, hq, rfl, rfl⟩ := hp
  refine u_top ?_
  exact u_aret hC hr (Or.inr ⟨_, rfl⟩) (Or.inr ⟨_, rfl⟩) d_AR_copyOf_9 (by omega) (by omega) ⟨q, hq, rfl, rfl⟩
set_option maxHeartbeats 4000000 in
set_option maxRecDepth 100000 in
theorem c_L_growI {hl he cap : Nat} {mc : Int32} (hL : wg ws hl = some (cL mc he cap)) {f : Nat → Option Nat} (hE : wg ws he = some (aQ κ 3 cap f)) (h1 : 10 ≤ cap) (h2 : cap ≤ 5000) (hel : ∀ i : Nat, i < cap → ∀ y : Nat, f i = some y → ∃ fs : List Value, wg ws y = some (.inr (2, fs))) : Ct l y_L_growI b_L_growI 4 (some (.array (.object "java/lang/Object"))) 3 1 (cap + cap / 2) D (gk κ, z) ws [.ref hl, .int (nI (cap + 1))] (fun v w' => ∃ q : Nat, wg ws q = none ∧ v = some (.ref q) ∧ w' = wup (ws ++ [(q, aQ κ 3 (cap + cap / 2) (va_cpy f (fun _ => none) 0 0 cap))]) hl (cL mc q cap)) := by
  refine Ct.of (by decide) (Nat.le_of_ble_eq_true rfl) ?_
  intro p e s0 m below meth c A hC hr hn
  refine u_aload_n hC d_L_growI_0 rfl ?_
  refine w_get hC f_L_9 hL rfl d_L_growI_1 ?_
  refine w_alen hC 3 hE rfl d_L_growI_4 ?_
  refine u_istore_n hC d_L_growI_5 (by decide) ?_
  refine u_iload_n hC d_L_growI_6 rfl ?_
  refine u_if_gt hC 20 d_L_growI_7 (by decide) (fun h_7 => ?_) (fun h_7 => absurd (nI_lt (a := 0) (by omega) (by omega)) h_7)
  refine u_iload_n hC d_L_growI_20 rfl ?_
  refine u_iload_n hC d_L_growI_21 rfl ?_
  refine u_iload_n hC d_L_growI_22 rfl ?_
  refine u_isub hC d_L_growI_23 ?_
  refine u_val (pk_sub (by omega)) ?_
  rw [Nat.add_sub_cancel_left]
  refine u_iload_n hC d_L_growI_24 rfl ?_
  refine u_iconst hC (nI 1) d_L_growI_25 (by decide) ?_
  refine u_ishr hC d_L_growI_26 ?_
  refine u_val (pk_shrN (by omega) _ 1 (by decide)) ?_
  rw [Nat.pow_one]
  refine u_callSr hC (c_AS_new h1 h2) k_L_73 s_AS_newLength ⟨(Nat.le_of_ble_eq_true rfl), (Nat.le_of_ble_eq_true rfl)⟩ ⟨(Nat.le_of_ble_eq_true rfl), (Nat.le_of_ble_eq_true rfl)⟩ rfl rfl (Nat.le_of_ble_eq_true rfl) d_L_growI_27 ?_
  refine u_istore_n hC d_L_growI_30 (by decide) ?_
  refine u_aload_n hC d_L_growI_31 rfl ?_
  refine u_aload_n hC d_L_growI_32 rfl ?_
  refine w_get hC f_L_9 hL rfl d_L_growI_33 ?_
  refine u_iload_n hC d_L_growI_36 rfl ?_
  refine u_callS hC (c_AR_copy hE (Nat.le_add_right _ _) (by omega) hel) k_L_66 s_AR_copyOf ⟨(Nat.le_of_ble_eq_true rfl), (Nat.le_of_ble_eq_true rfl)⟩ ⟨(Nat.le_of_ble_eq_true rfl), (by show 0 + 0 + _ ≤ cap + cap / 2; omega)⟩ rfl rfl (Nat.le_of_ble_eq_true rfl) d_L_growI_37 (fun v w' hp => ?_)
  obtain ⟨q, hq, rfl, rfl⟩ := hp
  refine u_top ?_
  refine u_dup_x1 hC d_L_growI_40 rfl rfl ?_
  refine w_put hC f_L_9 (tt_L 1 (by decide)) rfl (wg_app hL) rfl rfl (Nat.le_of_ble_eq_true rfl) d_L_growI_41 ?_
  exact u_aret hC hr (Or.inr ⟨_, rfl⟩) (Or.inr ⟨_, rfl⟩) d_L_growI_44 (by omega) (by omega) ⟨q, hq, rfl, rfl⟩
set_option maxHeartbeats 4000000 in
set_option maxRecDepth 100000 in
theorem c_L_growF {hl : Nat} {mc : Int32} (hL : wg ws hl = some (cL mc z.1 0)) : Ct l y_L_growI b_L_growI 4 (some (.array (.object "java/lang/Object"))) 3 1 10 D (gk κ, z) ws [.ref hl, .int (nI 1)] (fun v w' => ∃ q : Nat, wg ws q = none ∧ v = some (.ref q) ∧ w' = wup (ws ++ [(q, aQ κ 3 10 (fun _ => none))]) hl (cL mc q 0)) := by
  refine Ct.of (by decide) (Nat.le_of_ble_eq_true rfl) ?_
  intro p e s0 m below meth c A hC hr hn
  refine u_aload_n hC d_L_growI_0 rfl ?_
  refine w_get hC f_L_9 hL rfl d_L_growI_1 ?_
  refine u_tlen hC d_L_growI_4 ?_
  refine u_istore_n hC d_L_growI_5 (by decide) ?_
  refine u_iload_n hC d_L_growI_6 rfl ?_
  refine u_if_gt hC 20 d_L_growI_7 (by decide) (fun h_7 => absurd h_7 (by decide)) (fun h_7 => ?_)
  refine u_aload_n hC d_L_growI_10 rfl ?_
  refine w_get hC f_L_9 hL rfl d_L_growI_11 ?_
  refine u_gets hC g_L_39 d_L_growI_14 ?_
  refine u_acmp_eq hC (some z.1) (some z.1) 45 d_L_growI_17 (by decide) (fun h_17 => ?_) (fun h_17 => absurd rfl h_17)
  refine u_aload_n hC d_L_growI_45 rfl ?_
  refine u_bipush hC (nI 10) d_L_growI_46 (by decide) ?_
  refine u_iload_n hC d_L_growI_48 rfl ?_
  refine u_mmax hC q_L_79 m_max_s m_i m_max_c (Nat.le_of_ble_eq_true rfl) (Nat.le_of_ble_eq_true rfl) (Nat.le_of_ble_eq_true rfl) (Nat.le_of_ble_eq_true rfl) (Nat.le_of_ble_eq_true rfl) d_L_growI_49 ?_
  refine u_val (x' := nI 10) (by decide) ?_
  have hZ := hC.2.2.2.1
  refine u_newq hC (N := 10) 3 rfl l_L_7 hZ.2.2.2.2.2.1 (by decide) (by decide) (by decide) (Nat.le_of_ble_eq_true rfl) (Nat.le_of_ble_eq_true rfl) d_L_growI_52 (fun q => w_fresh (fun hq => ?_))
  refine u_dup_x1 hC d_L_growI_55 rfl rfl ?_
  refine w_put hC f_L_9 (tt_L 1 (by decide)) rfl (wg_app hL) rfl rfl (Nat.le_of_ble_eq_true rfl) d_L_growI_56 ?_
  exact u_aret hC hr (Or.inr ⟨_, rfl⟩) (Or.inr ⟨_, rfl⟩) d_L_growI_59 (Nat.le_of_ble_eq_true rfl) (Nat.le_of_ble_eq_true rfl) ⟨q, hq, rfl, rfl⟩
set_option maxHeartbeats 4000000 in
set_option maxRecDepth 100000 in
theorem c_L_growG {hl he cap : Nat} {mc : Int32} (hL : wg ws hl = some (cL mc he cap)) {f : Nat → Option Nat} (hE : wg ws he = some (aQ κ 3 cap f)) (h1 : 10 ≤ cap) (h2 : cap ≤ 5000) (hel : ∀ i : Nat, i < cap → ∀ y : Nat, f i = some y → ∃ fs : List Value, wg ws y = some (.inr (2, fs))) : Ct l y_L_grow b_L_grow 1 (some (.array (.object "java/lang/Object"))) 4 1 (cap + cap / 2) D (gk κ, z) ws [.ref hl] (fun v w' => ∃ q : Nat, wg ws q = none ∧ v = some (.ref q) ∧ w' = wup (ws ++ [(q, aQ κ 3 (cap + cap / 2) (va_cpy f (fun _ => none) 0 0 cap))]) hl (cL mc q cap)) := by
  refine Ct.of (by decide) (Nat.le_of_ble_eq_true rfl) ?_
  intro p e s0 m below meth c A hC hr hn
  refine u_aload_n hC d_L_grow_0 rfl ?_
  refine u_aload_n hC d_L_grow_1 rfl ?_
  refine w_get hC f_L_48 hL rfl d_L_grow_2 ?_
  refine u_iconst hC (nI 1) d_L_grow_5 (by decide) ?_
  refine u_iadd hC d_L_grow_6 ?_
  refine u_val (nI_add cap 1) ?_
  refine w_callV hC (c_L_growI hL hE h1 h2 hel) k_L_69 i_L_growI hL rfl ⟨(Nat.le_of_ble_eq_true rfl), (Nat.le_of_ble_eq_true rfl)⟩ ⟨(Nat.le_of_ble_eq_true rfl), (Nat.le_of_eq (Nat.zero_add _))⟩ rfl rfl (Nat.le_of_ble_eq_true rfl) d_L_grow_7 (fun v w' hp => ?_)
  obtain ⟨q, hq, rfl, rfl⟩ := hp
  refine u_top ?_
  exact u_aret hC hr (Or.inr ⟨_, rfl⟩) (Or.inr ⟨_, rfl⟩) d_L_grow_10 (by omega) (by omega) ⟨q, hq, rfl, rfl⟩
set_option maxHeartbeats 4000000 in
set_option maxRecDepth 100000 in
theorem c_L_grow0 {hl : Nat} {mc : Int32} (hL : wg ws hl = some (cL mc z.1 0)) : Ct l y_L_grow b_L_grow 1 (some (.array (.object "java/lang/Object"))) 4 1 10 D (gk κ, z) ws [.ref hl] (fun v w' => ∃ q : Nat, wg ws q = none ∧ v = some (.ref q) ∧ w' = wup (ws ++ [(q, aQ κ 3 10 (fun _ => none))]) hl (cL mc q 0)) := by
  refine Ct.of (by decide) (Nat.le_of_ble_eq_true rfl) ?_
  intro p e s0 m below meth c A hC hr hn
  refine u_aload_n hC d_L_grow_0 rfl ?_
  refine u_aload_n hC d_L_grow_1 rfl ?_
  refine w_get hC f_L_48 hL rfl d_L_grow_2 ?_
  refine u_iconst hC (nI 1) d_L_grow_5 (by decide) ?_
  refine u_iadd hC d_L_grow_6 ?_
  refine u_val (x' := nI 1) (by decide) ?_
  refine w_callV hC (c_L_growF hL) k_L_69 i_L_growI hL rfl ⟨(Nat.le_of_ble_eq_true rfl), (Nat.le_of_ble_eq_true rfl)⟩ ⟨(Nat.le_of_ble_eq_true rfl), (Nat.le_of_ble_eq_true rfl)⟩ rfl rfl (Nat.le_of_ble_eq_true rfl) d_L_grow_7 (fun v w' hp => ?_)
  obtain ⟨q, hq, rfl, rfl⟩ := hp
  refine u_top ?_
  exact u_aret hC hr (Or.inr ⟨_, rfl⟩) (Or.inr ⟨_, rfl⟩) d_L_grow_10 (Nat.le_of_ble_eq_true rfl) (Nat.le_of_ble_eq_true rfl) ⟨q, hq, rfl, rfl⟩
set_option maxHeartbeats 4000000 in
set_option maxRecDepth 100000 in
theorem c_L_add3R {hl he n : Nat} {mc : Int32} (hL : wg ws hl = some (cL mc he n)) {cap : Nat} {f : Nat → Option Nat} (hE : wg ws he = some (aQ κ 3 cap f)) (hcap : cap ≤ 10000) {x : Nat} {vs : List Value} (hx : wg ws x = some (.inr (2, vs))) (hn9 : n < cap) : Ct l y_L_add3 b_L_add3 4 none 5 1 0 D (gk κ, z) ws [.ref hl, .ref x, .ref he, .int (nI n)] (rtv (wup (wup ws he (aQ κ 3 cap (va_up f n (some x)))) hl (cL mc he (n + 1)))) := by
  refine Ct.of (by decide) (Nat.le_of_ble_eq_true rfl) ?_
  intro p e s0 m below meth c A hC hr hn
  refine u_iload_n hC d_L_add3_0 rfl ?_
  refine u_aload_n hC d_L_add3_1 rfl ?_
  refine w_alen hC 3 hE rfl d_L_add3_2 ?_
  refine u_icmp_ne hC 11 d_L_add3_3 (by decide) (fun h_3 => ?_) (fun h_3 => absurd h_3 (fun w => absurd ((nI_eq (by omega) (by omega)).mp w) (by omega)))
  refine u_aload_n hC d_L_add3_11 rfl ?_
  refine u_iload_n hC d_L_add3_12 rfl ?_
  refine u_aload_n hC d_L_add3_13 rfl ?_
  have hZ := hC.2.2.2.1
  refine w_astqO (r := (R_G, F_G, 4)) hC 3 hE rfl hZ.2.2.2.1 hx rfl n rfl (by omega) (by omega) d_L_add3_14 ?_
  refine u_aload_n hC d_L_add3_15 rfl ?_
  refine u_iload_n hC d_L_add3_16 rfl ?_
  refine u_iconst hC (nI 1) d_L_add3_17 (by decide) ?_
  refine u_iadd hC d_L_add3_18 ?_
  refine u_val (nI_add n 1) ?_
  refine w_put hC f_L_48 (tt_L 2 (by decide)) rfl (by rw [wg_upN (wg_ne hL hE (by intro w; cases w))]; exact hL) rfl rfl (Nat.le_of_ble_eq_true rfl) d_L_add3_19 ?_
  exact u_vret hC hr d_L_add3_22 (Nat.le_of_ble_eq_true rfl) (Nat.le_of_ble_eq_true rfl) ⟨rfl, rfl⟩
set_option maxHeartbeats 4000000 in
set_option maxRecDepth 100000 in
theorem c_L_add3G {hl he cap : Nat} {mc : Int32} (hL : wg ws hl = some (cL mc he cap)) {f : Nat → Option Nat} (hE : wg ws he = some (aQ κ 3 cap f)) (h1 : 10 ≤ cap) (h2 : cap ≤ 5000) (hel : ∀ i : Nat, i < cap → ∀ y : Nat, f i = some y → ∃ fs : List Value, wg ws y = some (.inr (2, fs))) {x : Nat} {vs : List Value} (hx : wg ws x = some (.inr (2, vs))) : Ct l y_L_add3 b_L_add3 4 none 5 1 (cap + cap / 2) D (gk κ, z) ws [.ref hl, .ref x, .ref he, .int (nI cap)] (fun v w' => v = none ∧ ∃ q : Nat, wg ws q = none ∧ w' = wup (wup (wup (ws ++ [(q, aQ κ 3 (cap + cap / 2) (va_cpy f (fun _ => none) 0 0 cap))]) hl (cL mc q cap)) q (aQ κ 3 (cap + cap / 2) (va_up (va_cpy f (fun _ => none) 0 0 cap) cap (some x)))) hl (cL mc q (cap + 1))) := by
  refine Ct.of (by decide) (Nat.le_of_ble_eq_true rfl) ?_
  intro p e s0 m below meth c A hC hr hn
  refine u_iload_n hC d_L_add3_0 rfl ?_
  refine u_aload_n hC d_L_add3_1 rfl ?_
  refine w_alen hC 3 hE rfl d_L_add3_2 ?_
  refine u_icmp_ne hC 11 d_L_add3_3 (by decide) (fun h_3 => absurd rfl h_3) (fun h_3 => ?_)
  refine u_aload_n hC d_L_add3_6 rfl ?_
  refine w_callV hC (c_L_growG hL hE h1 h2 hel) k_L_129 i_L_grow hL rfl ⟨(Nat.le_of_ble_eq_true rfl), (Nat.le_of_ble_eq_true rfl)⟩ ⟨(Nat.le_of_ble_eq_true rfl), (Nat.le_of_eq (Nat.zero_add _))⟩ rfl rfl (Nat.le_of_ble_eq_true rfl) d_L_add3_7 (fun v w' hp => ?_)
  obtain ⟨q, hq, rfl, rfl⟩ := hp
  refine u_top ?_
  have ne1 : q ≠ hl := fun w => by rw [w, hL] at hq; cases hq
  have ne2 : x ≠ hl := wg_ne hx hL (by intro w; cases w)
  have hQ : wg (wup (ws ++ [(q, aQ κ 3 (cap + cap / 2) (va_cpy f (fun _ => none) 0 0 cap))]) hl (cL mc q cap)) q = some (aQ κ 3 (cap + cap / 2) (va_cpy f (fun _ => none) 0 0 cap)) := by rw [wg_upN ne1]; exact wg_push hq
  have hX : wg (wup (ws ++ [(q, aQ κ 3 (cap + cap / 2) (va_cpy f (fun _ => none) 0 0 cap))]) hl (cL mc q cap)) x = some (.inr (2, vs)) := by rw [wg_upN ne2]; exact wg_app hx
  have hH : wg (wup (ws ++ [(q, aQ κ 3 (cap + cap / 2) (va_cpy f (fun _ => none) 0 0 cap))]) hl (cL mc q cap)) hl = some (cL mc q cap) := wg_up (wg_app hL)
  refine u_astore_n hC d_L_add3_10 (by decide) ?_
  refine u_aload_n hC d_L_add3_11 rfl ?_
  refine u_iload_n hC d_L_add3_12 rfl ?_
  refine u_aload_n hC d_L_add3_13 rfl ?_
  have hZ := hC.2.2.2.1
  refine w_astqO (r := (R_G, F_G, 4)) hC 3 hQ rfl hZ.2.2.2.1 hX rfl cap rfl (by omega) (by omega) d_L_add3_14 ?_
  refine u_aload_n hC d_L_add3_15 rfl ?_
  refine u_iload_n hC d_L_add3_16 rfl ?_
  refine u_iconst hC (nI 1) d_L_add3_17 (by decide) ?_
  refine u_iadd hC d_L_add3_18 ?_
  refine u_val (nI_add cap 1) ?_
  refine w_put hC f_L_48 (tt_L 2 (by decide)) rfl (by rw [wg_upN (Ne.symm ne1)]; exact hH) rfl rfl (Nat.le_of_ble_eq_true rfl) d_L_add3_19 ?_
  exact u_vret hC hr d_L_add3_22 (by omega) (by omega) ⟨rfl, q, hq, rfl⟩
set_option maxHeartbeats 4000000 in
set_option maxRecDepth 100000 in
theorem c_L_add3F {hl : Nat} {mc : Int32} (hL : wg ws hl = some (cL mc z.1 0)) {x : Nat} {vs : List Value} (hx : wg ws x = some (.inr (2, vs))) : Ct l y_L_add3 b_L_add3 4 none 5 1 10 D (gk κ, z) ws [.ref hl, .ref x, .ref z.1, .int (nI 0)] (fun v w' => v = none ∧ ∃ q : Nat, wg ws q = none ∧ w' = wup (wup (wup (ws ++ [(q, aQ κ 3 10 (fun _ => none))]) hl (cL mc q 0)) q (aQ κ 3 10 (va_up (fun _ => none) 0 (some x)))) hl (cL mc q 1)) := by
  refine Ct.of (by decide) (Nat.le_of_ble_eq_true rfl) ?_
  intro p e s0 m below meth c A hC hr hn
  refine u_iload_n hC d_L_add3_0 rfl ?_
  refine u_aload_n hC d_L_add3_1 rfl ?_
  refine u_tlen hC d_L_add3_2 ?_
  refine u_icmp_ne hC 11 d_L_add3_3 (by decide) (fun h_3 => absurd rfl h_3) (fun h_3 => ?_)
  refine u_aload_n hC d_L_add3_6 rfl ?_
  refine w_callV hC (c_L_grow0 hL) k_L_129 i_L_grow hL rfl ⟨(Nat.le_of_ble_eq_true rfl), (Nat.le_of_ble_eq_true rfl)⟩ ⟨(Nat.le_of_ble_eq_true rfl), (Nat.le_of_ble_eq_true rfl)⟩ rfl rfl (Nat.le_of_ble_eq_true rfl) d_L_add3_7 (fun v w' hp => ?_)
  obtain ⟨q, hq, rfl, rfl⟩ := hp
  refine u_top ?_
  have ne1 : q ≠ hl := fun w => by rw [w, hL] at hq; cases hq
  have ne2 : x ≠ hl := wg_ne hx hL (by intro w; cases w)
  have hQ : wg (wup (ws ++ [(q, aQ κ 3 10 (fun _ => none))]) hl (cL mc q 0)) q = some (aQ κ 3 10 (fun _ => none)) := by rw [wg_upN ne1]; exact wg_push hq
  have hX : wg (wup (ws ++ [(q, aQ κ 3 10 (fun _ => none))]) hl (cL mc q 0)) x = some (.inr (2, vs)) := by rw [wg_upN ne2]; exact wg_app hx
  have hH : wg (wup (ws ++ [(q, aQ κ 3 10 (fun _ => none))]) hl (cL mc q 0)) hl = some (cL mc q 0) := wg_up (wg_app hL)
  refine u_astore_n hC d_L_add3_10 (by decide) ?_
  refine u_aload_n hC d_L_add3_11 rfl ?_
  refine u_iload_n hC d_L_add3_12 rfl ?_
  refine u_aload_n hC d_L_add3_13 rfl ?_
  have hZ := hC.2.2.2.1
  refine w_astqO (r := (R_G, F_G, 4)) hC 3 hQ rfl hZ.2.2.2.1 hX rfl 0 rfl (by omega) (by omega) d_L_add3_14 ?_
  refine u_aload_n hC d_L_add3_15 rfl ?_
  refine u_iload_n hC d_L_add3_16 rfl ?_
  refine u_iconst hC (nI 1) d_L_add3_17 (by decide) ?_
  refine u_iadd hC d_L_add3_18 ?_
  refine u_val (x' := nI 1) (by decide) ?_
  refine w_put hC f_L_48 (tt_L 2 (by decide)) rfl (by rw [wg_upN (Ne.symm ne1)]; exact hH) rfl rfl (Nat.le_of_ble_eq_true rfl) d_L_add3_19 ?_
  exact u_vret hC hr d_L_add3_22 (Nat.le_of_ble_eq_true rfl) (Nat.le_of_ble_eq_true rfl) ⟨rfl, q, hq, rfl⟩
end LI
end
section
/-- the list at hl holds el 0, .., el (n - 1); cap places -/
def Lst (κ : Nat → ClassId) (z : Nat × Nat) (ws : va_W) (hl n : Nat) (el : Nat → Nat) (cap : Nat) : Prop := ∃ (mc : Int32) (he : Nat), wg ws hl = some (cL mc he n) ∧ ((he = z.1 ∧ n = 0 ∧ cap = 0) ∨ (10 ≤ cap ∧ n ≤ cap ∧ ∃ f : Nat → Option Nat, wg ws he = some (aQ κ 3 cap f) ∧ (∀ i, i < n → f i = some (el i)) ∧ ∀ i, n ≤ i → f i = none))
def gcap (n cap : Nat) : Nat := if n < cap then cap else if cap = 0 then 10 else cap + cap / 2
def gslots (n cap : Nat) : Nat := if n < cap then 0 else gcap n cap
/-- nothing else has changed -/
def Lfr (κ : Nat → ClassId) (hl cap : Nat) (ws w' : va_W) : Prop := ∀ (b : Nat) (x : va_E), wg ws b = some x → b ≠ hl → (∀ f, x ≠ aQ κ 3 cap f) → wg w' b = some x
/-- the elements are objects that the list may hold -/
def Lgv (ws : va_W) (n : Nat) (el : Nat → Nat) : Prop := ∀ i, i < n → ∃ fs : List Value, wg ws (el i) = some (.inr (2, fs))
theorem Lst.moved {κ : Nat → ClassId} {z : Nat × Nat} {ws w' : va_W} {hl n cap : Nat} {el : Nat → Nat} (h : Lst κ z ws hl n el cap) (hk : ∀ b x, wg ws b = some x → (∃ fs, x = .inr (4, fs)) ∨ (∃ f, x = aQ κ 3 cap f ∧ 10 ≤ cap) → wg w' b = some x) : Lst κ z w' hl n el cap := by
  obtain ⟨mc, he, h1, h2⟩ := h
  refine ⟨mc, he, hk _ _ h1 (Or.inl ⟨_, rfl⟩), ?_⟩
  rcases h2 with h2 | ⟨a1, a2, f, a3, a4⟩
  · exact Or.inl h2
  · exact Or.inr ⟨a1, a2, f, hk _ _ a3 (Or.inr ⟨f, rfl, a1⟩), a4⟩
section LJ
variable {l : Launch} {D : va_G} {κ : Nat → ClassId} {z : Nat × Nat} {ws : va_W}
set_option maxHeartbeats 4000000 in
set_option maxRecDepth 100000 in
theorem c_L_addR {hl he n : Nat} {mc : Int32} (hL : wg ws hl = some (cL mc he n)) {cap : Nat} {f : Nat → Option Nat} (hE : wg ws he = some (aQ κ 3 cap f)) (hcap : cap ≤ 10000) {x : Nat} {vs : List Value} (hx : wg ws x = some (.inr (2, vs))) (hn9 : n < cap) : Ct l y_L_add b_L_add 2 (some .boolean) 6 1 0 D (gk κ, z) ws [.ref hl, .ref x] (rt (.int 1) (wup (wup (wup ws hl (cL (mc + nI 1) he n)) he (aQ κ 3 cap (va_up f n (some x)))) hl (cL (mc + nI 1) he (n + 1)))) := by
  refine Ct.of (by decide) (Nat.le_of_ble_eq_true rfl) ?_
  intro p e s0 m below meth c A hC hr hn
  refine u_aload_n hC d_L_add_0 rfl ?_
  refine u_dup hC d_L_add_1 rfl ?_
  refine w_get hC f_L_63 hL rfl d_L_add_2 ?_
  refine u_iconst hC (nI 1) d_L_add_5 (by decide) ?_
  refine u_iadd hC d_L_add_6 ?_
  refine w_put hC f_L_63 (tt_L 0 (by decide)) rfl hL rfl rfl (Nat.le_of_ble_eq_true rfl) d_L_add_7 ?_
  have ne3 : x ≠ hl := wg_ne hx hL (by intro w; cases w)
  have hL1 : wg (wup ws hl (cL (mc + nI 1) he n)) hl = some (cL (mc + nI 1) he n) := wg_up hL
  have hx1 : wg (wup ws hl (cL (mc + nI 1) he n)) x = some (.inr (2, vs)) := by rw [wg_upN ne3]; exact hx
  have hE1 : wg (wup ws hl (cL (mc + nI 1) he n)) he = some (aQ κ 3 cap f) := by rw [wg_upN (wg_ne hE hL (by intro w; cases w))]; exact hE
  refine u_aload_n hC d_L_add_10 rfl ?_
  refine u_aload_n hC d_L_add_11 rfl ?_
  refine u_aload_n hC d_L_add_12 rfl ?_
  refine w_get hC f_L_9 hL1 rfl d_L_add_13 ?_
  refine u_aload_n hC d_L_add_16 rfl ?_
  refine w_get hC f_L_48 hL1 rfl d_L_add_17 ?_
  refine w_callVv hC (c_L_add3R hL1 hE1 hcap hx1 hn9) k_L_131 i_L_add3 hL1 rfl ⟨(Nat.le_of_ble_eq_true rfl), (Nat.le_of_ble_eq_true rfl)⟩ ⟨(Nat.le_of_ble_eq_true rfl), (Nat.le_of_ble_eq_true rfl)⟩ rfl rfl (Nat.le_of_ble_eq_true rfl) d_L_add_20 ?_
  refine u_iconst hC (nI 1) d_L_add_23 (by decide) ?_
  exact u_zret hC hr rfl d_L_add_24 (Nat.le_of_ble_eq_true rfl) (Nat.le_of_ble_eq_true rfl) ⟨rfl, rfl⟩
set_option maxHeartbeats 4000000 in
set_option maxRecDepth 100000 in
theorem c_L_addG {hl he cap : Nat} {mc : Int32} (hL : wg ws hl = some (cL mc he cap)) {f : Nat → Option Nat} (hE : wg ws he = some (aQ κ 3 cap f)) (h1 : 10 ≤ cap) (h2 : cap ≤ 5000) (hel : ∀ i : Nat, i < cap → ∀ y : Nat, f i = some y → ∃ fs : List Value, wg ws y = some (.inr (2, fs))) {x : Nat} {vs : List Value} (hx : wg ws x = some (.inr (2, vs))) : Ct l y_L_add b_L_add 2 (some .boolean) 6 1 (cap + cap / 2) D (gk κ, z) ws [.ref hl, .ref x] (fun v w' => v = some (.int 1) ∧ ∃ q : Nat, wg (wup ws hl (cL (mc + nI 1) he cap)) q = none ∧ w' = wup (wup (wup (wup ws hl (cL (mc + nI 1) he cap) ++ [(q, aQ κ 3 (cap + cap / 2) (va_cpy f (fun _ => none) 0 0 cap))]) hl (cL (mc + nI 1) q cap)) q (aQ κ 3 (cap + cap / 2) (va_up (va_cpy f (fun _ => none) 0 0 cap) cap (some x)))) hl (cL (mc + nI 1) q (cap + 1))) := by
  refine Ct.of (by decide) (Nat.le_of_ble_eq_true rfl) ?_
  intro p e s0 m below meth c A hC hr hn
  refine u_aload_n hC d_L_add_0 rfl ?_
  refine u_dup hC d_L_add_1 rfl ?_
  refine w_get hC f_L_63 hL rfl d_L_add_2 ?_
  refine u_iconst hC (nI 1) d_L_add_5 (by decide) ?_
  refine u_iadd hC d_L_add_6 ?_
  refine w_put hC f_L_63 (tt_L 0 (by decide)) rfl hL rfl rfl (Nat.le_of_ble_eq_true rfl) d_L_add_7 ?_
  have ne3 : x ≠ hl := wg_ne hx hL (by intro w; cases w)
  have hL1 : wg (wup ws hl (cL (mc + nI 1) he cap)) hl = some (cL (mc + nI 1) he cap) := wg_up hL
  have hx1 : wg (wup ws hl (cL (mc + nI 1) he cap)) x = some (.inr (2, vs)) := by rw [wg_upN ne3]; exact hx
  have hE1 : wg (wup ws hl (cL (mc + nI 1) he cap)) he = some (aQ κ 3 cap f) := by rw [wg_upN (wg_ne hE hL (by intro w; cases w))]; exact hE
  have hel1 : ∀ i : Nat, i < cap → ∀ y : Nat, f i = some y → ∃ fs : List Value, wg (wup ws hl (cL (mc + nI 1) he cap)) y = some (.inr (2, fs)) := by
    intro i hi y hy
    obtain ⟨fs, h9⟩ := hel i hi y hy
    exact ⟨fs, by rw [wg_upN (wg_ne h9 hL (by intro w; cases w))]; exact h9⟩
  refine u_aload_n hC d_L_add_10 rfl ?_
  refine u_aload_n hC d_L_add_11 rfl ?_
  refine u_aload_n hC d_L_add_12 rfl ?_
  refine w_get hC f_L_9 hL1 rfl d_L_add_13 ?_
  refine u_aload_n hC d_L_add_16 rfl ?_
  refine w_get hC f_L_48 hL1 rfl d_L_add_17 ?_
  refine w_callV hC (c_L_add3G hL1 hE1 h1 h2 hel1 hx1) k_L_131 i_L_add3 hL1 rfl ⟨(Nat.le_of_ble_eq_true rfl), (Nat.le_of_ble_eq_true rfl)⟩ ⟨(Nat.le_of_ble_eq_true rfl), (Nat.le_of_eq (Nat.zero_add _))⟩ rfl rfl (Nat.le_of_ble_eq_true rfl) d_L_add_20 (fun v w' hp => ?_)
  obtain ⟨rfl, q, hq, rfl⟩ := hp
  refine u_iconst hC (nI 1) d_L_add_23 (by decide) ?_
  exact u_zret hC hr rfl d_L_add_24 (by omega) (by omega) ⟨rfl, q, hq, rfl⟩
set_option maxHeartbeats 4000000 in
set_option maxRecDepth 100000 in
theorem c_L_addF {hl : Nat} {mc : Int32} (hL : wg ws hl = some (cL mc z.1 0)) {x : Nat} {vs : List Value} (hx : wg ws x = some (.inr (2, vs))) : Ct l y_L_add b_L_add 2 (some .boolean) 6 1 10 D (gk κ, z) ws [.ref hl, .ref x] (fun v w' => v = some (.int 1) ∧ ∃ q : Nat, wg (wup ws hl (cL (mc + nI 1) z.1 0)) q = none ∧ w' = wup (wup (wup (wup ws hl (cL (mc + nI 1) z.1 0) ++ [(q, aQ κ 3 10 (fun _ => none))]) hl (cL (mc + nI 1) q 0)) q (aQ κ 3 10 (va_up (fun _ => none) 0 (some x)))) hl (cL (mc + nI 1) q 1)) := by
  refine Ct.of (by decide) (Nat.le_of_ble_eq_true rfl) ?_
  intro p e s0 m below meth c A hC hr hn
  refine u_aload_n hC d_L_add_0 rfl ?_
  refine u_dup hC d_L_add_1 rfl ?_
  refine w_get hC f_L_63 hL rfl d_L_add_2 ?_
  refine u_iconst hC (nI 1) d_L_add_5 (by decide) ?_
  refine u_iadd hC d_L_add_6 ?_
  refine w_put hC f_L_63 (tt_L 0 (by decide)) rfl hL rfl rfl (Nat.le_of_ble_eq_true rfl) d_L_add_7 ?_
  have ne3 : x ≠ hl := wg_ne hx hL (by intro w; cases w)
  have hL1 : wg (wup ws hl (cL (mc + nI 1) z.1 0)) hl = some (cL (mc + nI 1) z.1 0) := wg_up hL
  have hx1 : wg (wup ws hl (cL (mc + nI 1) z.1 0)) x = some (.inr (2, vs)) := by rw [wg_upN ne3]; exact hx
  refine u_aload_n hC d_L_add_10 rfl ?_
  refine u_aload_n hC d_L_add_11 rfl ?_
  refine u_aload_n hC d_L_add_12 rfl ?_
  refine w_get hC f_L_9 hL1 rfl d_L_add_13 ?_
  refine u_aload_n hC d_L_add_16 rfl ?_
  refine w_get hC f_L_48 hL1 rfl d_L_add_17 ?_
  refine w_callV hC (c_L_add3F hL1 hx1) k_L_131 i_L_add3 hL1 rfl ⟨(Nat.le_of_ble_eq_true rfl), (Nat.le_of_ble_eq_true rfl)⟩ ⟨(Nat.le_of_ble_eq_true rfl), (Nat.le_of_ble_eq_true rfl)⟩ rfl rfl (Nat.le_of_ble_eq_true rfl) d_L_add_20 (fun v w' hp => ?_)
  obtain ⟨rfl, q, hq, rfl⟩ := hp
  refine u_iconst hC (nI 1) d_L_add_23 (by decide) ?_
  exact u_zret hC hr rfl d_L_add_24 (Nat.le_of_ble_eq_true rfl) (Nat.le_of_ble_eq_true rfl) ⟨rfl, q, hq, rfl⟩
theorem Ct.mono {y : MethodName} {b : ByteArray} {nL : Nat} {ret : Option FieldType} {h mc ms : Nat} {G : u_G} {av : List Value} {post post' : Option Value → va_W → Prop} (hM : Ct l y b nL ret h mc ms D G ws av post) (hp : ∀ v w', post v w' → post' v w') : Ct l y b nL ret h mc ms D G ws av post' := by
  intro sz p e ha hc hk s m args below hf happ hP hK
  obtain ⟨n, o, h1, h2, h3, ⟨⟨v, w', q1, q2, q3⟩, q4⟩, h5⟩ := hM sz p e ha hc hk s m args below hf happ hP hK
  exact ⟨n, o, h1, h2, h3, ⟨⟨v, w', q1, hp v w' q2, q3⟩, q4⟩, h5⟩
theorem Ct.room {y : MethodName} {b : ByteArray} {nL : Nat} {ret : Option FieldType} {h mc ms mc' ms' : Nat} {G : u_G} {av : List Value} {post : Option Value → va_W → Prop} (hM : Ct l y b nL ret h mc ms D G ws av post) (h1 : mc = mc') (h2 : ms = ms') : Ct l y b nL ret h mc' ms' D G ws av post := by
  subst h1 h2
  exact hM
theorem c_L_get {hl n cap i : Nat} {el : Nat → Nat} (h : Lst κ z ws hl n el cap) (hcap : cap ≤ 10000) (hi : i < n) : Ct l y_L_get b_L_get 2 (some (.object "java/lang/Object")) 2 0 0 D (gk κ, z) ws [.ref hl, .int (nI i)] (rt (.ref (el i)) ws) := by
  obtain ⟨mc, he, h1, h2⟩ := h
  rcases h2 with ⟨_, h3, _⟩ | ⟨_, a2, f, a3, a4, _⟩
  · omega
  · exact c_L_get0 h1 a3 hcap a2 hi (a4 i hi)
theorem c_L_add {hl n cap x : Nat} {el : Nat → Nat} {vs : List Value} (h : Lst κ z ws hl n el cap) (hg : Lgv ws n el) (hn : n ≤ 4000) (hcap : cap ≤ 10000) (hx : wg ws x = some (.inr (2, vs))) : Ct l y_L_add b_L_add 2 (some .boolean) 6 1 (gslots n cap) D (gk κ, z) ws [.ref hl, .ref x] (fun v w' => v = some (.int 1) ∧ Lst κ z w' hl (n + 1) (va_up el n x) (gcap n cap) ∧ Lfr κ hl cap ws w') := by
  obtain ⟨mc, he, hL, h2⟩ := h
  have hup : ∀ i, i < n + 1 → (i = n ∧ va_up el n x i = x) ∨ (i < n ∧ va_up el n x i = el i) := by
    intro i hi
    by_cases c : i = n
    · exact Or.inl ⟨c, by rw [c]; exact if_pos rfl⟩
    · exact Or.inr ⟨by omega, if_neg c⟩
  rcases h2 with ⟨rfl, rfl, rfl⟩ | ⟨a1, a2, f, hE, a4, a5⟩
  · have e1 : gcap 0 0 = 10 := rfl
    have e2 : gslots 0 0 = 10 := rfl
    rw [e1, e2]
    refine Ct.mono (c_L_addF hL hx) (fun v w' hp => ?_)
    obtain ⟨rfl, q, hq, rfl⟩ := hp
    have ne1 : q ≠ hl := fun w => by rw [w, wg_up hL] at hq; cases hq
    have hq0 : wg ws q = none := by rw [wg_upN ne1] at hq; exact hq
    refine ⟨rfl, ⟨mc + nI 1, q, wg_up (x := cL (mc + nI 1) q 0) (by rw [wg_upN (Ne.symm ne1)]; exact wg_up (wg_app (wg_up hL))), Or.inr ⟨by omega, by omega, va_up (fun _ => none) 0 (some x), ?_, ?_, ?_⟩⟩, ?_⟩
    · rw [wg_upN ne1]
      exact wg_up (x := aQ κ 3 10 (fun _ => none)) (by rw [wg_upN ne1]; exact wg_push hq)
    · intro i hi
      have e : i = 0 := by omega
      subst e
      rfl
    · intro i hi
      exact if_neg (by omega)
    · intro b y hb h1 _
      have ne2 : b ≠ q := fun w => by rw [w, hq0] at hb; cases hb
      rw [wg_upN h1, wg_upN ne2, wg_upN h1]
      exact wg_app (by rw [wg_upN h1]; exact hb)
  · by_cases hc : n < cap
    · have e1 : gcap n cap = cap := if_pos hc
      have e2 : gslots n cap = 0 := if_pos hc
      rw [e1, e2]
      refine Ct.mono (c_L_addR hL hE hcap hx hc) (fun v w' hp => ?_)
      obtain ⟨rfl, rfl⟩ := hp
      have ne1 : he ≠ hl := wg_ne hE hL (by intro w; cases w)
      refine ⟨rfl, ⟨mc + nI 1, he, wg_up (x := cL (mc + nI 1) he n) (by rw [wg_upN (Ne.symm ne1)]; exact wg_up hL), Or.inr ⟨a1, by omega, va_up f n (some x), ?_, ?_, ?_⟩⟩, ?_⟩
      · rw [wg_upN ne1]
        exact wg_up (x := aQ κ 3 cap f) (by rw [wg_upN ne1]; exact hE)
      · intro i hi
        rcases hup i hi with ⟨w1, w2⟩ | ⟨w1, w2⟩
        · rw [w2, w1]; exact if_pos rfl
        · rw [w2]; exact (if_neg (by omega)).trans (a4 i w1)
      · intro i hi
        exact (if_neg (by omega)).trans (a5 i (by omega))
      · intro b y hb h1 h3
        have ne2 : b ≠ he := fun w => by
          rw [w, hE] at hb
          exact h3 f (Option.some.inj hb).symm
        rw [wg_upN h1, wg_upN ne2, wg_upN h1]
        exact hb
    · have e0 : n = cap := by omega
      subst e0
      have e1 : gcap n n = n + n / 2 := by
        unfold gcap
        rw [if_neg hc, if_neg (by omega)]
      have e2 : gslots n n = n + n / 2 := (if_neg hc).trans e1
      rw [e1, e2]
      have hel : ∀ i : Nat, i < n → ∀ y : Nat, f i = some y → ∃ fs : List Value, wg ws y = some (.inr (2, fs)) := by
        intro i hi y hy
        rw [a4 i hi] at hy
        rw [← Option.some.inj hy]
        exact hg i hi
      refine Ct.mono (c_L_addG hL hE a1 (by omega) hel hx) (fun v w' hp => ?_)
      obtain ⟨rfl, q, hq, rfl⟩ := hp
      have ne1 : q ≠ hl := fun w => by rw [w, wg_up hL] at hq; cases hq
      have hq0 : wg ws q = none := by rw [wg_upN ne1] at hq; exact hq
      refine ⟨rfl, ⟨mc + nI 1, q, wg_up (x := cL (mc + nI 1) q n) (by rw [wg_upN (Ne.symm ne1)]; exact wg_up (wg_app (wg_up hL))), Or.inr ⟨by omega, by omega, va_up (va_cpy f (fun _ => none) 0 0 n) n (some x), ?_, ?_, ?_⟩⟩, ?_⟩
      · rw [wg_upN ne1]
        exact wg_up (x := aQ κ 3 (n + n / 2) (va_cpy f (fun _ => none) 0 0 n)) (by rw [wg_upN ne1]; exact wg_push hq)
      · intro i hi
        rcases hup i hi with ⟨w1, w2⟩ | ⟨w1, w2⟩
        · rw [w2, w1]; exact if_pos rfl
        · rw [w2]
          refine (if_neg (by omega)).trans ?_
          rw [pk_cpy_in (by omega) (by omega), Nat.zero_add, Nat.sub_zero]
          exact a4 i w1
      · intro i hi
        refine (if_neg (by omega)).trans ?_
        exact pk_cpy_out (Or.inr (by omega))
      · intro b y hb h1 _
        have ne2 : b ≠ q := fun w => by rw [w, hq0] at hb; cases hb
        rw [wg_upN h1, wg_upN ne2, wg_upN h1]
        exact wg_app (by rw [wg_upN h1]; exact hb)
end LJ
end
section
/-! The program's state: what its cells hold. -/
def Dk (κ : Nat → ClassId) (z : Nat × Nat) (ws : va_W) (h0 hs hl cap : Nat) (cm : Int32) (tr : Nat → Option Nat) (na : Nat → Nat) (mo to co sn : Nat → Int32) (nb : Nat → Nat → Int32) (n : Nat) (el : Nat → Nat) (ro lv cd pl : Nat → Int32) : Prop :=
  wg ws h0 = some (cD hs hl cm) ∧ wg ws hs = some (aQ κ 2 6 tr) ∧ Lst κ z ws hl n el cap ∧
  (∀ j t, j < 6 → tr j = some t → wg ws t = some (cT (mo j) (na j) (to j) (co j) (sn j)) ∧ wg ws (na j) = some (aI κ 8 (nb j))) ∧
  (∀ i j t, i < 6 → j < 6 → tr i = some t → tr j = some t → i = j) ∧
  (∀ i j s t, i < 6 → j < 6 → tr i = some s → tr j = some t → na i = na j → i = j) ∧
  (∀ i, i < n → wg ws (el i) = some (cG (ro i) (lv i) (cd i) (pl i))) ∧
  (∀ i j, i < n → j < n → el i = el j → i = j)
section DS
variable {κ : Nat → ClassId} {z : Nat × Nat} {ws : va_W} {h0 hs hl cap : Nat} {cm : Int32} {tr : Nat → Option Nat} {na : Nat → Nat} {mo to co sn : Nat → Int32} {nb : Nat → Nat → Int32} {n : Nat} {el : Nat → Nat} {ro lv cd pl : Nat → Int32}
theorem Lst.up {a : Nat} {x y : va_E} (h : Lst κ z ws hl n el cap) (hx : wg ws a = some x) (h1 : ∀ fs, x ≠ .inr (4, fs)) (h2 : ∀ f, 10 ≤ cap → x ≠ aQ κ 3 cap f) : Lst κ z (wup ws a y) hl n el cap := by
  refine h.moved (fun b u hb hu => ?_)
  have ne : b ≠ a := by
    intro q
    subst q
    have e := Option.some.inj (hb.symm.trans hx)
    subst e
    rcases hu with ⟨fs, e⟩ | ⟨f, e, g⟩
    · exact h1 fs e
    · exact h2 f g e
  rw [wg_upN ne]
  exact hb
theorem aIQ {n i m : Nat} {f : Nat → Int32} {g : Nat → Option Nat} : aI κ n f ≠ aQ κ i m g := by
  intro w
  have e := congrArg (fun q => q.2.2) (Sum.inl.inj w)
  cases e
/-- another transaction's content -/
theorem Dk.updT (h : Dk κ z ws h0 hs hl cap cm tr na mo to co sn nb n el ro lv cd pl) {j t : Nat} (hj : j < 6) (ht : tr j = some t) (tp' co' sn' : Int32) : Dk κ z (wup ws t (cT (mo j) (na j) tp' co' sn')) h0 hs hl cap cm tr na mo (upd to j tp') (upd co j co') (upd sn j sn') nb n el ro lv cd pl := by
  obtain ⟨a1, a2, a3, a4, a5, a6, a7, a8⟩ := h
  have hT := (a4 j t hj ht).1
  have key : ∀ {b : Nat} {x : va_E}, wg ws b = some x → (∀ fs, x ≠ .inr (3, fs)) → wg (wup ws t (cT (mo j) (na j) tp' co' sn')) b = some x := by
    intro b x hb hx
    rw [wg_upN (wg_ne hb hT (hx _))]
    exact hb
  refine ⟨key a1 (by intro fs w; cases w), key a2 (by intro fs w; cases w), a3.up hT (by intro fs w; cases w) (by intro f _ w; cases w), ?_, a5, a6, fun i hi => key (a7 i hi) (by intro fs w; cases w), a8⟩
  intro i s hi hs9
  have hi4 := a4 i s hi hs9
  refine ⟨?_, key hi4.2 (by intro fs w; cases w)⟩
  by_cases c : i = j
  · subst c
    have e : s = t := Option.some.inj (hs9.symm.trans ht)
    subst e
    rw [pk_us, pk_us, pk_us]
    exact wg_up hT
  · rw [pk_un c, pk_un c, pk_un c, wg_upN (fun w => c (a5 i j t hi hj (by rw [← w]; exact hs9) ht))]
    exact hi4.1
/-- another content of a transaction's numbers -/
theorem Dk.updN (h : Dk κ z ws h0 hs hl cap cm tr na mo to co sn nb n el ro lv cd pl) {j t : Nat} (hj : j < 6) (ht : tr j = some t) (nb' : Nat → Int32) : Dk κ z (wup ws (na j) (aI κ 8 nb')) h0 hs hl cap cm tr na mo to co sn (va_up nb j nb') n el ro lv cd pl := by
  obtain ⟨a1, a2, a3, a4, a5, a6, a7, a8⟩ := h
  have hN := (a4 j t hj ht).2
  have key : ∀ {b : Nat} {x : va_E}, wg ws b = some x → (∀ f, x ≠ aI κ 8 f) → wg (wup ws (na j) (aI κ 8 nb')) b = some x := by
    intro b x hb hx
    rw [wg_upN (wg_ne hb hN (hx _))]
    exact hb
  refine ⟨key a1 (by intro fs w; cases w), key a2 (fun f => Ne.symm aIQ), a3.up hN (by intro fs w; cases w) (fun f _ => aIQ), ?_, a5, a6, fun i hi => key (a7 i hi) (by intro fs w; cases w), a8⟩
  intro i s hi hs9
  have hi4 := a4 i s hi hs9
  refine ⟨key hi4.1 (by intro fs w; cases w), ?_⟩
  by_cases c : i = j
  · subst c
    rw [show va_up nb i nb' i = nb' from if_pos rfl]
    exact wg_up hN
  · rw [show va_up nb j nb' i = nb i from if_neg c, wg_upN (fun w => c (a6 i j s t hi hj hs9 ht w))]
    exact hi4.2
/-- another content of a number's object -/
theorem Dk.updG (h : Dk κ z ws h0 hs hl cap cm tr na mo to co sn nb n el ro lv cd pl) {i : Nat} (hi : i < n) (lv' cd' pl' : Int32) : Dk κ z (wup ws (el i) (cG (ro i) lv' cd' pl')) h0 hs hl cap cm tr na mo to co sn nb n el ro (upd lv i lv') (upd cd i cd') (upd pl i pl') := by
  obtain ⟨a1, a2, a3, a4, a5, a6, a7, a8⟩ := h
  have hG := a7 i hi
  have key : ∀ {b : Nat} {x : va_E}, wg ws b = some x → (∀ fs, x ≠ .inr (2, fs)) → wg (wup ws (el i) (cG (ro i) lv' cd' pl')) b = some x := by
    intro b x hb hx
    rw [wg_upN (wg_ne hb hG (hx _))]
    exact hb
  refine ⟨key a1 (by intro fs w; cases w), key a2 (by intro fs w; cases w), a3.up hG (by intro fs w; cases w) (by intro f _ w; cases w), fun j t hj ht => ⟨key (a4 j t hj ht).1 (by intro fs w; cases w), key (a4 j t hj ht).2 (by intro fs w; cases w)⟩, a5, a6, ?_, a8⟩
  intro k hk
  by_cases c : k = i
  · subst c
    rw [pk_us, pk_us, pk_us]
    exact wg_up hG
  · rw [pk_un c, pk_un c, pk_un c, wg_upN (fun w => c (a8 k i hk hi w))]
    exact a7 k hk
/-- another number of commits -/
theorem Dk.updD (h : Dk κ z ws h0 hs hl cap cm tr na mo to co sn nb n el ro lv cd pl) (cm' : Int32) : Dk κ z (wup ws h0 (cD hs hl cm')) h0 hs hl cap cm' tr na mo to co sn nb n el ro lv cd pl := by
  obtain ⟨a1, a2, a3, a4, a5, a6, a7, a8⟩ := h
  have key : ∀ {b : Nat} {x : va_E}, wg ws b = some x → (∀ fs, x ≠ .inr (1, fs)) → wg (wup ws h0 (cD hs hl cm')) b = some x := by
    intro b x hb hx
    rw [wg_upN (wg_ne hb a1 (hx _))]
    exact hb
  exact ⟨wg_up a1, key a2 (by intro fs w; cases w), a3.up a1 (by intro fs w; cases w) (by intro f _ w; cases w), fun j t hj ht => ⟨key (a4 j t hj ht).1 (by intro fs w; cases w), key (a4 j t hj ht).2 (by intro fs w; cases w)⟩, a5, a6, fun i hi => key (a7 i hi) (by intro fs w; cases w), a8⟩
theorem aQ6 {cap : Nat} {f g : Nat → Option Nat} (h : 10 ≤ cap) : aQ κ 2 6 f ≠ aQ κ 3 cap g := by
  intro w
  have e := Sum.inl.inj w
  have e2 := congrArg (fun q => q.2.1) e
  have e3 : 6 = cap := e2
  omega
/-- a session's transaction goes -/
theorem Dk.drop (h : Dk κ z ws h0 hs hl cap cm tr na mo to co sn nb n el ro lv cd pl) (j : Nat) : Dk κ z (wup ws hs (aQ κ 2 6 (va_up tr j none))) h0 hs hl cap cm (va_up tr j none) na mo to co sn nb n el ro lv cd pl := by
  obtain ⟨a1, a2, a3, a4, a5, a6, a7, a8⟩ := h
  have key : ∀ {b : Nat} {x : va_E}, wg ws b = some x → (∀ f, x ≠ aQ κ 2 6 f) → wg (wup ws hs (aQ κ 2 6 (va_up tr j none))) b = some x := by
    intro b x hb hx
    rw [wg_upN (wg_ne hb a2 (hx _))]
    exact hb
  have old : ∀ {i t : Nat}, va_up tr j none i = some t → tr i = some t := by
    intro i t hi
    unfold va_up at hi
    by_cases c : i = j
    · rw [if_pos c] at hi; cases hi
    · rw [if_neg c] at hi; exact hi
  exact ⟨key a1 (by intro fs w; cases w), wg_up a2, a3.up a2 (by intro fs w; cases w) (fun f g => aQ6 g), fun i t hi ht => ⟨key (a4 i t hi (old ht)).1 (by intro fs w; cases w), key (a4 i t hi (old ht)).2 (fun f => aIQ)⟩, fun i k t hi hk h1 h2 => a5 i k t hi hk (old h1) (old h2), fun i k s t hi hk h1 h2 h3 => a6 i k s t hi hk (old h1) (old h2) h3, fun i hi => key (a7 i hi) (by intro fs w; cases w), a8⟩
end DS
/-- what a property singles out among the first m gets x -/
noncomputable def dset (P : Nat → Prop) (f : Nat → Int32) (x : Int32) (m : Nat) : Nat → Int32 := fun i => @ite Int32 (i < m ∧ P i) (Classical.propDecidable _) x (f i)
theorem dset_in {P : Nat → Prop} {f : Nat → Int32} {x : Int32} {m i : Nat} (h1 : i < m) (h2 : P i) : dset P f x m i = x := by
  unfold dset
  exact if_pos ⟨h1, h2⟩
theorem dset_out {P : Nat → Prop} {f : Nat → Int32} {x : Int32} {m i : Nat} (h : ¬ (i < m ∧ P i)) : dset P f x m i = f i := by
  unfold dset
  exact if_neg h
theorem dset_0 {P : Nat → Prop} {f : Nat → Int32} {x : Int32} : dset P f x 0 = f := by
  funext i
  exact dset_out (fun h => by omega)
theorem dset_T {P : Nat → Prop} {f : Nat → Int32} {x : Int32} {m : Nat} (h : P m) : upd (dset P f x m) m x = dset P f x (m + 1) := by
  funext i
  by_cases c : i = m
  · subst c
    rw [pk_us, dset_in (by omega) h]
  · rw [pk_un c]
    by_cases c2 : i < m ∧ P i
    · rw [dset_in c2.1 c2.2, dset_in (by omega) c2.2]
    · rw [dset_out c2, dset_out (fun q => c2 ⟨by omega, q.2⟩)]
theorem dset_F {P : Nat → Prop} {f : Nat → Int32} {x : Int32} {m : Nat} (h : ¬ P m) : dset P f x m = dset P f x (m + 1) := by
  funext i
  by_cases c2 : i < m ∧ P i
  · rw [dset_in c2.1 c2.2, dset_in (by omega) c2.2]
  · rw [dset_out c2, dset_out (fun q => c2 ⟨by
      rcases Nat.lt_or_ge i m with w | w
      · exact w
      · have e : i = m := by omega
        rw [e] at q
        exact absurd q.2 h, q.2⟩)]
theorem dset_at {P : Nat → Prop} {f : Nat → Int32} {x : Int32} {m i : Nat} (h : m ≤ i) : dset P f x m i = f i := dset_out (fun q => by omega)
end
section
theorem n_out4 {x : Int32} (hx : ¬ ∃ i : Nat, i ≤ 4 ∧ x = nI i) : x.toInt < 0 ∨ 4 < x.toInt := by
  by_cases h : x < 0
  · rw [Int32.lt_iff_toInt_lt, Int32.toInt_zero] at h
    exact Or.inl h
  · obtain ⟨j, hj, rfl⟩ := nI_of h
    rw [nI_toInt hj]
    right
    have : ¬ j ≤ 4 := fun w => hx ⟨j, w, rfl⟩
    omega
section DR
variable {l : Launch} {D : va_G} {κ : Nat → ClassId} {z : Nat × Nat} {ws : va_W} {h0 hs hl cap : Nat} {cm : Int32} {tr : Nat → Option Nat} {na : Nat → Nat} {mo to co sn : Nat → Int32} {nb : Nat → Nat → Int32} {n : Nat} {el : Nat → Nat} {ro lv cd pl : Nat → Int32}
set_option maxHeartbeats 4000000 in
set_option maxRecDepth 100000 in
theorem c_D_isT {j : Nat} (hj : j < 6) : Ct l y_D_isSession b_D_isSession 1 (some .boolean) 0 0 0 D (gk κ, z) ws [.int (nI j)] (rt (.int 1) ws) := by
  refine Ct.of (by decide) (Nat.le_of_ble_eq_true rfl) ?_
  intro p e s0 m below meth c A hC hr hn
  refine u_iload_n hC d_D_isSession_0 rfl ?_
  refine u_if_lt hC 14 d_D_isSession_1 (by decide) (fun h_1 => absurd h_1 (nI_pos (by omega))) (fun h_1 => ?_)
  refine u_iload_n hC d_D_isSession_4 rfl ?_
  refine u_bipush hC (nI 6) d_D_isSession_5 (by decide) ?_
  refine u_icmp_ge hC 14 d_D_isSession_7 (by decide) (fun h_7 => absurd h_7 (nI_ge hj (by decide))) (fun h_7 => ?_)
  refine u_iconst hC (nI 1) d_D_isSession_10 (by decide) ?_
  refine u_goto hC 15 d_D_isSession_11 (by decide) ?_
  exact u_zret hC hr rfl d_D_isSession_15 (Nat.le_of_ble_eq_true rfl) (Nat.le_of_ble_eq_true rfl) ⟨rfl, rfl⟩
set_option maxHeartbeats 4000000 in
set_option maxRecDepth 100000 in
theorem c_D_isF {s : Int32} (hb : ¬ ∃ j : Nat, j < 6 ∧ s = nI j) : Ct l y_D_isSession b_D_isSession 1 (some .boolean) 0 0 0 D (gk κ, z) ws [.int s] (rt (.int 0) ws) := by
  refine Ct.of (by decide) (Nat.le_of_ble_eq_true rfl) ?_
  intro p e s0 m below meth c A hC hr hn
  refine u_iload_n hC d_D_isSession_0 rfl ?_
  refine u_if_lt hC 14 d_D_isSession_1 (by decide) (fun h_1 => ?_) (fun h_1 => ?_)
  · refine u_iconst hC (nI 0) d_D_isSession_14 (by decide) ?_
    exact u_zret hC hr rfl d_D_isSession_15 (Nat.le_of_ble_eq_true rfl) (Nat.le_of_ble_eq_true rfl) ⟨rfl, rfl⟩
  · refine u_iload_n hC d_D_isSession_4 rfl ?_
    refine u_bipush hC (nI 6) d_D_isSession_5 (by decide) ?_
    refine u_icmp_ge hC 14 d_D_isSession_7 (by decide) (fun h_7 => ?_) (fun h_7 => ?_)
    · refine u_iconst hC (nI 0) d_D_isSession_14 (by decide) ?_
      exact u_zret hC hr rfl d_D_isSession_15 (Nat.le_of_ble_eq_true rfl) (Nat.le_of_ble_eq_true rfl) ⟨rfl, rfl⟩
    · exact absurd (n_rng0 (by decide) h_1 h_7) hb
set_option maxHeartbeats 4000000 in
set_option maxRecDepth 100000 in
theorem c_D_trT {j t : Nat} (hK : Dk κ z ws h0 hs hl cap cm tr na mo to co sn nb n el ro lv cd pl) (hj : j < 6) (ht : tr j = some t) : Ct l y_D_transactionOf b_D_transactionOf 2 (some (.object "SnapshotDesk$Transaction")) 1 0 0 D (gk κ, z) ws [.ref h0, .int (nI j)] (rt (.ref t) ws) := by
  refine Ct.of (by decide) (Nat.le_of_ble_eq_true rfl) ?_
  intro p e s0 m below meth c A hC hr hn
  obtain ⟨hO, hS9, hLs, hTr, hTi, hNi, hGs, hGi⟩ := id hK
  obtain ⟨mc9, he9, hL, hL2⟩ := id hLs
  refine u_iload_n hC d_D_transactionOf_0 rfl ?_
  refine u_callSr hC (c_D_isT hj) k_D_26 s_D_isSession ⟨(Nat.le_of_ble_eq_true rfl), (Nat.le_of_ble_eq_true rfl)⟩ ⟨(Nat.le_of_ble_eq_true rfl), (Nat.le_of_ble_eq_true rfl)⟩ rfl rfl (Nat.le_of_ble_eq_true rfl) d_D_transactionOf_1 ?_
  refine u_if_eq hC 16 d_D_transactionOf_4 (by decide) (fun h_4 => absurd h_4 (by decide)) (fun h_4 => ?_)
  refine u_aload_n hC d_D_transactionOf_7 rfl ?_
  refine w_get hC f_D_11 hO rfl d_D_transactionOf_8 ?_
  refine u_iload_n hC d_D_transactionOf_11 rfl ?_
  refine w_aldq hC 2 hS9 rfl j rfl hj (by decide) d_D_transactionOf_12 ?_
  rw [ht]
  refine u_goto hC 17 d_D_transactionOf_13 (by decide) ?_
  exact u_aret hC hr (Or.inl ⟨_, rfl⟩) (Or.inr ⟨_, rfl⟩) d_D_transactionOf_17 (Nat.le_of_ble_eq_true rfl) (Nat.le_of_ble_eq_true rfl) ⟨rfl, rfl⟩
set_option maxHeartbeats 4000000 in
set_option maxRecDepth 100000 in
theorem c_D_trN {j : Nat} (hK : Dk κ z ws h0 hs hl cap cm tr na mo to co sn nb n el ro lv cd pl) (hj : j < 6) (ht : tr j = none) : Ct l y_D_transactionOf b_D_transactionOf 2 (some (.object "SnapshotDesk$Transaction")) 1 0 0 D (gk κ, z) ws [.ref h0, .int (nI j)] (rt .null ws) := by
  refine Ct.of (by decide) (Nat.le_of_ble_eq_true rfl) ?_
  intro p e s0 m below meth c A hC hr hn
  obtain ⟨hO, hS9, hLs, hTr, hTi, hNi, hGs, hGi⟩ := id hK
  obtain ⟨mc9, he9, hL, hL2⟩ := id hLs
  refine u_iload_n hC d_D_transactionOf_0 rfl ?_
  refine u_callSr hC (c_D_isT hj) k_D_26 s_D_isSession ⟨(Nat.le_of_ble_eq_true rfl), (Nat.le_of_ble_eq_true rfl)⟩ ⟨(Nat.le_of_ble_eq_true rfl), (Nat.le_of_ble_eq_true rfl)⟩ rfl rfl (Nat.le_of_ble_eq_true rfl) d_D_transactionOf_1 ?_
  refine u_if_eq hC 16 d_D_transactionOf_4 (by decide) (fun h_4 => absurd h_4 (by decide)) (fun h_4 => ?_)
  refine u_aload_n hC d_D_transactionOf_7 rfl ?_
  refine w_get hC f_D_11 hO rfl d_D_transactionOf_8 ?_
  refine u_iload_n hC d_D_transactionOf_11 rfl ?_
  refine w_aldq hC 2 hS9 rfl j rfl hj (by decide) d_D_transactionOf_12 ?_
  rw [ht]
  refine u_goto hC 17 d_D_transactionOf_13 (by decide) ?_
  exact u_aret hC hr (Or.inl ⟨_, rfl⟩) (Or.inl rfl) d_D_transactionOf_17 (Nat.le_of_ble_eq_true rfl) (Nat.le_of_ble_eq_true rfl) ⟨rfl, rfl⟩
set_option maxHeartbeats 4000000 in
set_option maxRecDepth 100000 in
theorem c_D_trB {s : Int32} (hb : ¬ ∃ j : Nat, j < 6 ∧ s = nI j) : Ct l y_D_transactionOf b_D_transactionOf 2 (some (.object "SnapshotDesk$Transaction")) 1 0 0 D (gk κ, z) ws [.ref h0, .int s] (rt .null ws) := by
  refine Ct.of (by decide) (Nat.le_of_ble_eq_true rfl) ?_
  intro p e s0 m below meth c A hC hr hn
  refine u_iload_n hC d_D_transactionOf_0 rfl ?_
  refine u_callSr hC (c_D_isF hb) k_D_26 s_D_isSession ⟨(Nat.le_of_ble_eq_true rfl), (Nat.le_of_ble_eq_true rfl)⟩ ⟨(Nat.le_of_ble_eq_true rfl), (Nat.le_of_ble_eq_true rfl)⟩ rfl rfl (Nat.le_of_ble_eq_true rfl) d_D_transactionOf_1 ?_
  refine u_if_eq hC 16 d_D_transactionOf_4 (by decide) (fun h_4 => ?_) (fun h_4 => absurd rfl h_4)
  refine u_null hC d_D_transactionOf_16 ?_
  exact u_aret hC hr (Or.inl ⟨_, rfl⟩) (Or.inl rfl) d_D_transactionOf_17 (Nat.le_of_ble_eq_true rfl) (Nat.le_of_ble_eq_true rfl) ⟨rfl, rfl⟩
theorem c_D_trF {s : Int32} (hK : Dk κ z ws h0 hs hl cap cm tr na mo to co sn nb n el ro lv cd pl) (hb : ¬ ∃ j t : Nat, j < 6 ∧ s = nI j ∧ tr j = some t) : Ct l y_D_transactionOf b_D_transactionOf 2 (some (.object "SnapshotDesk$Transaction")) 1 0 0 D (gk κ, z) ws [.ref h0, .int s] (rt .null ws) := by
  by_cases h : ∃ j : Nat, j < 6 ∧ s = nI j
  · obtain ⟨j, hj, rfl⟩ := h
    cases ht : tr j with
    | none => exact c_D_trN hK hj ht
    | some t => exact absurd ⟨j, t, hj, rfl, ht⟩ hb
  · exact c_D_trB h
set_option maxHeartbeats 4000000 in
set_option maxRecDepth 100000 in
theorem c_D_findT {i : Nat} (hK : Dk κ z ws h0 hs hl cap cm tr na mo to co sn nb n el ro lv cd pl) (hn4 : n ≤ 4000) (hcap : cap ≤ 10000) (h1 : 1 ≤ i) (h2 : i ≤ n) : Ct l y_D_find b_D_find 2 (some (.object "SnapshotDesk$Given")) 3 0 0 D (gk κ, z) ws [.ref h0, .int (nI i)] (rt (.ref (el (i - 1))) ws) := by
  refine Ct.of (by decide) (Nat.le_of_ble_eq_true rfl) ?_
  intro p e s0 m below meth c A hC hr hn
  obtain ⟨hO, hS9, hLs, hTr, hTi, hNi, hGs, hGi⟩ := id hK
  obtain ⟨mc9, he9, hL, hL2⟩ := id hLs
  refine u_iload_n hC d_D_find_0 rfl ?_
  refine u_iconst hC (nI 1) d_D_find_1 (by decide) ?_
  refine u_icmp_lt hC 32 d_D_find_2 (by decide) (fun h_2 => absurd h_2 (nI_nlt h1 (by omega))) (fun h_2 => ?_)
  refine u_iload_n hC d_D_find_5 rfl ?_
  refine u_aload_n hC d_D_find_6 rfl ?_
  refine w_get hC f_D_18 hO rfl d_D_find_7 ?_
  refine w_callVr hC (c_L_size hL) k_D_54 i_L_size hL rfl ⟨(Nat.le_of_ble_eq_true rfl), (Nat.le_of_ble_eq_true rfl)⟩ ⟨(Nat.le_of_ble_eq_true rfl), (Nat.le_of_ble_eq_true rfl)⟩ rfl rfl (Nat.le_of_ble_eq_true rfl) d_D_find_10 ?_
  refine u_icmp_gt hC 32 d_D_find_13 (by decide) (fun h_13 => absurd h_13 (nI_nlt h2 (by omega))) (fun h_13 => ?_)
  refine u_aload_n hC d_D_find_16 rfl ?_
  refine w_get hC f_D_18 hO rfl d_D_find_17 ?_
  refine u_iload_n hC d_D_find_20 rfl ?_
  refine u_iconst hC (nI 1) d_D_find_21 (by decide) ?_
  refine u_isub hC d_D_find_22 ?_
  refine u_val (n_pred h1) ?_
  refine w_callVr hC (c_L_get hLs hcap (by omega)) k_D_72 i_L_get hL rfl ⟨(Nat.le_of_ble_eq_true rfl), (Nat.le_of_ble_eq_true rfl)⟩ ⟨(Nat.le_of_ble_eq_true rfl), (Nat.le_of_ble_eq_true rfl)⟩ rfl rfl (Nat.le_of_ble_eq_true rfl) d_D_find_23 ?_
  refine w_cast hC rfl l_D_76 (hGs (i - 1) (by omega)) d_D_find_26 ?_
  refine u_goto hC 33 d_D_find_29 (by decide) ?_
  exact u_aret hC hr (Or.inl ⟨_, rfl⟩) (Or.inr ⟨_, rfl⟩) d_D_find_33 (Nat.le_of_ble_eq_true rfl) (Nat.le_of_ble_eq_true rfl) ⟨rfl, rfl⟩
set_option maxHeartbeats 4000000 in
set_option maxRecDepth 100000 in
theorem c_D_findF {x : Int32} (hK : Dk κ z ws h0 hs hl cap cm tr na mo to co sn nb n el ro lv cd pl) (hn4 : n ≤ 4000) (hcap : cap ≤ 10000) (hx : ¬ ∃ i : Nat, 1 ≤ i ∧ i ≤ n ∧ x = nI i) : Ct l y_D_find b_D_find 2 (some (.object "SnapshotDesk$Given")) 3 0 0 D (gk κ, z) ws [.ref h0, .int x] (rt .null ws) := by
  refine Ct.of (by decide) (Nat.le_of_ble_eq_true rfl) ?_
  intro p e s0 m below meth c A hC hr hn
  obtain ⟨hO, hS9, hLs, hTr, hTi, hNi, hGs, hGi⟩ := id hK
  obtain ⟨mc9, he9, hL, hL2⟩ := id hLs
  refine u_iload_n hC d_D_find_0 rfl ?_
  refine u_iconst hC (nI 1) d_D_find_1 (by decide) ?_
  refine u_icmp_lt hC 32 d_D_find_2 (by decide) (fun h_2 => ?_) (fun h_2 => ?_)
  · refine u_null hC d_D_find_32 ?_
    exact u_aret hC hr (Or.inl ⟨_, rfl⟩) (Or.inl rfl) d_D_find_33 (Nat.le_of_ble_eq_true rfl) (Nat.le_of_ble_eq_true rfl) ⟨rfl, rfl⟩
  · refine u_iload_n hC d_D_find_5 rfl ?_
    refine u_aload_n hC d_D_find_6 rfl ?_
    refine w_get hC f_D_18 hO rfl d_D_find_7 ?_
    refine w_callVr hC (c_L_size hL) k_D_54 i_L_size hL rfl ⟨(Nat.le_of_ble_eq_true rfl), (Nat.le_of_ble_eq_true rfl)⟩ ⟨(Nat.le_of_ble_eq_true rfl), (Nat.le_of_ble_eq_true rfl)⟩ rfl rfl (Nat.le_of_ble_eq_true rfl) d_D_find_10 ?_
    refine u_icmp_gt hC 32 d_D_find_13 (by decide) (fun h_13 => ?_) (fun h_13 => ?_)
    · refine u_null hC d_D_find_32 ?_
      exact u_aret hC hr (Or.inl ⟨_, rfl⟩) (Or.inl rfl) d_D_find_33 (Nat.le_of_ble_eq_true rfl) (Nat.le_of_ble_eq_true rfl) ⟨rfl, rfl⟩
    · exact absurd (n_rng (by omega) (by decide) h_2 h_13) hx
set_option maxHeartbeats 4000000 in
set_option maxRecDepth 100000 in
theorem c_D_stateT {i : Nat} (hK : Dk κ z ws h0 hs hl cap cm tr na mo to co sn nb n el ro lv cd pl) (hn4 : n ≤ 4000) (hcap : cap ≤ 10000) (h1 : 1 ≤ i) (h2 : i ≤ n) : Ct l y_D_state b_D_state 3 (some .int) 4 0 0 D (gk κ, z) ws [.ref h0, .int (nI i)] (rt (.int (cd (i - 1))) ws) := by
  refine Ct.of (by decide) (Nat.le_of_ble_eq_true rfl) ?_
  intro p e s0 m below meth c A hC hr hn
  obtain ⟨hO, hS9, hLs, hTr, hTi, hNi, hGs, hGi⟩ := id hK
  obtain ⟨mc9, he9, hL, hL2⟩ := id hLs
  refine u_aload_n hC d_D_state_0 rfl ?_
  refine u_iload_n hC d_D_state_1 rfl ?_
  refine w_callVr hC (c_D_findT hK hn4 hcap h1 h2) k_D_98 i_D_find hO rfl ⟨(Nat.le_of_ble_eq_true rfl), (Nat.le_of_ble_eq_true rfl)⟩ ⟨(Nat.le_of_ble_eq_true rfl), (Nat.le_of_ble_eq_true rfl)⟩ rfl rfl (Nat.le_of_ble_eq_true rfl) d_D_state_2 ?_
  refine u_astore_n hC d_D_state_5 (by decide) ?_
  refine u_aload_n hC d_D_state_6 rfl ?_
  refine u_ifnonnull hC 14 d_D_state_7 (by decide) ?_
  refine u_aload_n hC d_D_state_14 rfl ?_
  refine w_get hC f_D_102 (hGs (i - 1) (by omega)) rfl d_D_state_15 ?_
  exact u_iret hC hr d_D_state_18 (Nat.le_of_ble_eq_true rfl) (Nat.le_of_ble_eq_true rfl) ⟨rfl, rfl⟩
set_option maxHeartbeats 4000000 in
set_option maxRecDepth 100000 in
theorem c_D_stateF {x : Int32} (hK : Dk κ z ws h0 hs hl cap cm tr na mo to co sn nb n el ro lv cd pl) (hn4 : n ≤ 4000) (hcap : cap ≤ 10000) (hx : ¬ ∃ i : Nat, 1 ≤ i ∧ i ≤ n ∧ x = nI i) : Ct l y_D_state b_D_state 3 (some .int) 4 0 0 D (gk κ, z) ws [.ref h0, .int x] (rt (.int 0) ws) := by
  refine Ct.of (by decide) (Nat.le_of_ble_eq_true rfl) ?_
  intro p e s0 m below meth c A hC hr hn
  obtain ⟨hO, hS9, hLs, hTr, hTi, hNi, hGs, hGi⟩ := id hK
  obtain ⟨mc9, he9, hL, hL2⟩ := id hLs
  refine u_aload_n hC d_D_state_0 rfl ?_
  refine u_iload_n hC d_D_state_1 rfl ?_
  refine w_callVr hC (c_D_findF hK hn4 hcap hx) k_D_98 i_D_find hO rfl ⟨(Nat.le_of_ble_eq_true rfl), (Nat.le_of_ble_eq_true rfl)⟩ ⟨(Nat.le_of_ble_eq_true rfl), (Nat.le_of_ble_eq_true rfl)⟩ rfl rfl (Nat.le_of_ble_eq_true rfl) d_D_state_2 ?_
  refine u_astore_nN hC d_D_state_5 (by decide) ?_
  refine u_aload_nN hC d_D_state_6 rfl ?_
  refine u_ifnonnullN hC d_D_state_7 ?_
  refine u_iconst hC (nI 0) d_D_state_10 (by decide) ?_
  refine u_goto hC 18 d_D_state_11 (by decide) ?_
  exact u_iret hC hr d_D_state_18 (Nat.le_of_ble_eq_true rfl) (Nat.le_of_ble_eq_true rfl) ⟨rfl, rfl⟩
set_option maxHeartbeats 4000000 in
set_option maxRecDepth 100000 in
theorem c_D_rootT {i : Nat} (hK : Dk κ z ws h0 hs hl cap cm tr na mo to co sn nb n el ro lv cd pl) (hn4 : n ≤ 4000) (hcap : cap ≤ 10000) (h1 : 1 ≤ i) (h2 : i ≤ n) : Ct l y_D_root b_D_root 3 (some .int) 4 0 0 D (gk κ, z) ws [.ref h0, .int (nI i)] (rt (.int (ro (i - 1))) ws) := by
  refine Ct.of (by decide) (Nat.le_of_ble_eq_true rfl) ?_
  intro p e s0 m below meth c A hC hr hn
  obtain ⟨hO, hS9, hLs, hTr, hTi, hNi, hGs, hGi⟩ := id hK
  obtain ⟨mc9, he9, hL, hL2⟩ := id hLs
  refine u_aload_n hC d_D_root_0 rfl ?_
  refine u_iload_n hC d_D_root_1 rfl ?_
  refine w_callVr hC (c_D_findT hK hn4 hcap h1 h2) k_D_98 i_D_find hO rfl ⟨(Nat.le_of_ble_eq_true rfl), (Nat.le_of_ble_eq_true rfl)⟩ ⟨(Nat.le_of_ble_eq_true rfl), (Nat.le_of_ble_eq_true rfl)⟩ rfl rfl (Nat.le_of_ble_eq_true rfl) d_D_root_2 ?_
  refine u_astore_n hC d_D_root_5 (by decide) ?_
  refine u_aload_n hC d_D_root_6 rfl ?_
  refine u_ifnonnull hC 14 d_D_root_7 (by decide) ?_
  refine u_aload_n hC d_D_root_14 rfl ?_
  refine w_get hC f_D_105 (hGs (i - 1) (by omega)) rfl d_D_root_15 ?_
  exact u_iret hC hr d_D_root_18 (Nat.le_of_ble_eq_true rfl) (Nat.le_of_ble_eq_true rfl) ⟨rfl, rfl⟩
set_option maxHeartbeats 4000000 in
set_option maxRecDepth 100000 in
theorem c_D_rootF {x : Int32} (hK : Dk κ z ws h0 hs hl cap cm tr na mo to co sn nb n el ro lv cd pl) (hn4 : n ≤ 4000) (hcap : cap ≤ 10000) (hx : ¬ ∃ i : Nat, 1 ≤ i ∧ i ≤ n ∧ x = nI i) : Ct l y_D_root b_D_root 3 (some .int) 4 0 0 D (gk κ, z) ws [.ref h0, .int x] (rt (.int 0) ws) := by
  refine Ct.of (by decide) (Nat.le_of_ble_eq_true rfl) ?_
  intro p e s0 m below meth c A hC hr hn
  obtain ⟨hO, hS9, hLs, hTr, hTi, hNi, hGs, hGi⟩ := id hK
  obtain ⟨mc9, he9, hL, hL2⟩ := id hLs
  refine u_aload_n hC d_D_root_0 rfl ?_
  refine u_iload_n hC d_D_root_1 rfl ?_
  refine w_callVr hC (c_D_findF hK hn4 hcap hx) k_D_98 i_D_find hO rfl ⟨(Nat.le_of_ble_eq_true rfl), (Nat.le_of_ble_eq_true rfl)⟩ ⟨(Nat.le_of_ble_eq_true rfl), (Nat.le_of_ble_eq_true rfl)⟩ rfl rfl (Nat.le_of_ble_eq_true rfl) d_D_root_2 ?_
  refine u_astore_nN hC d_D_root_5 (by decide) ?_
  refine u_aload_nN hC d_D_root_6 rfl ?_
  refine u_ifnonnullN hC d_D_root_7 ?_
  refine u_iconst hC (nI 0) d_D_root_10 (by decide) ?_
  refine u_goto hC 18 d_D_root_11 (by decide) ?_
  exact u_iret hC hr d_D_root_18 (Nat.le_of_ble_eq_true rfl) (Nat.le_of_ble_eq_true rfl) ⟨rfl, rfl⟩
set_option maxHeartbeats 4000000 in
set_option maxRecDepth 100000 in
theorem c_D_placeT {i : Nat} (hK : Dk κ z ws h0 hs hl cap cm tr na mo to co sn nb n el ro lv cd pl) (hn4 : n ≤ 4000) (hcap : cap ≤ 10000) (h1 : 1 ≤ i) (h2 : i ≤ n) : Ct l y_D_place b_D_place 3 (some .int) 4 0 0 D (gk κ, z) ws [.ref h0, .int (nI i)] (rt (.int (pl (i - 1))) ws) := by
  refine Ct.of (by decide) (Nat.le_of_ble_eq_true rfl) ?_
  intro p e s0 m below meth c A hC hr hn
  obtain ⟨hO, hS9, hLs, hTr, hTi, hNi, hGs, hGi⟩ := id hK
  obtain ⟨mc9, he9, hL, hL2⟩ := id hLs
  refine u_aload_n hC d_D_place_0 rfl ?_
  refine u_iload_n hC d_D_place_1 rfl ?_
  refine w_callVr hC (c_D_findT hK hn4 hcap h1 h2) k_D_98 i_D_find hO rfl ⟨(Nat.le_of_ble_eq_true rfl), (Nat.le_of_ble_eq_true rfl)⟩ ⟨(Nat.le_of_ble_eq_true rfl), (Nat.le_of_ble_eq_true rfl)⟩ rfl rfl (Nat.le_of_ble_eq_true rfl) d_D_place_2 ?_
  refine u_astore_n hC d_D_place_5 (by decide) ?_
  refine u_aload_n hC d_D_place_6 rfl ?_
  refine u_ifnonnull hC 14 d_D_place_7 (by decide) ?_
  refine u_aload_n hC d_D_place_14 rfl ?_
  refine w_get hC f_D_108 (hGs (i - 1) (by omega)) rfl d_D_place_15 ?_
  exact u_iret hC hr d_D_place_18 (Nat.le_of_ble_eq_true rfl) (Nat.le_of_ble_eq_true rfl) ⟨rfl, rfl⟩
set_option maxHeartbeats 4000000 in
set_option maxRecDepth 100000 in
theorem c_D_placeF {x : Int32} (hK : Dk κ z ws h0 hs hl cap cm tr na mo to co sn nb n el ro lv cd pl) (hn4 : n ≤ 4000) (hcap : cap ≤ 10000) (hx : ¬ ∃ i : Nat, 1 ≤ i ∧ i ≤ n ∧ x = nI i) : Ct l y_D_place b_D_place 3 (some .int) 4 0 0 D (gk κ, z) ws [.ref h0, .int x] (rt (.int 0) ws) := by
  refine Ct.of (by decide) (Nat.le_of_ble_eq_true rfl) ?_
  intro p e s0 m below meth c A hC hr hn
  obtain ⟨hO, hS9, hLs, hTr, hTi, hNi, hGs, hGi⟩ := id hK
  obtain ⟨mc9, he9, hL, hL2⟩ := id hLs
  refine u_aload_n hC d_D_place_0 rfl ?_
  refine u_iload_n hC d_D_place_1 rfl ?_
  refine w_callVr hC (c_D_findF hK hn4 hcap hx) k_D_98 i_D_find hO rfl ⟨(Nat.le_of_ble_eq_true rfl), (Nat.le_of_ble_eq_true rfl)⟩ ⟨(Nat.le_of_ble_eq_true rfl), (Nat.le_of_ble_eq_true rfl)⟩ rfl rfl (Nat.le_of_ble_eq_true rfl) d_D_place_2 ?_
  refine u_astore_nN hC d_D_place_5 (by decide) ?_
  refine u_aload_nN hC d_D_place_6 rfl ?_
  refine u_ifnonnullN hC d_D_place_7 ?_
  refine u_iconst hC (nI 0) d_D_place_10 (by decide) ?_
  refine u_goto hC 18 d_D_place_11 (by decide) ?_
  exact u_iret hC hr d_D_place_18 (Nat.le_of_ble_eq_true rfl) (Nat.le_of_ble_eq_true rfl) ⟨rfl, rfl⟩
set_option maxHeartbeats 4000000 in
set_option maxRecDepth 100000 in
theorem c_D_sdN {t : Nat} {x : Int32} : Ct l y_D_seesDeed b_D_seesDeed 3 (some .boolean) 1 0 0 D (gk κ, z) ws [.ref t, .null, .int x] (rt (.int 0) ws) := by
  refine Ct.of (by decide) (Nat.le_of_ble_eq_true rfl) ?_
  intro p e s0 m below meth c A hC hr hn
  refine u_aload_nN hC d_D_seesDeed_0 rfl ?_
  refine u_ifnullN hC 12 d_D_seesDeed_1 (by decide) ?_
  refine u_iconst hC (nI 0) d_D_seesDeed_12 (by decide) ?_
  exact u_zret hC hr rfl d_D_seesDeed_13 (Nat.le_of_ble_eq_true rfl) (Nat.le_of_ble_eq_true rfl) ⟨rfl, rfl⟩
set_option maxHeartbeats 4000000 in
set_option maxRecDepth 100000 in
theorem c_D_sdA {t na0 : Nat} {md tp c0 s0 : Int32} {nb0 : Nat → Int32} (hT : wg ws t = some (cT md na0 tp c0 s0)) (hN : wg ws na0 = some (aI κ 8 nb0)) {q : Nat} {r0 l0 d0 p0 : Int32} (hG : wg ws q = some (cG r0 l0 d0 p0)) {x : Int32} (hd : d0 = nI 3) : Ct l y_D_seesDeed b_D_seesDeed 3 (some .boolean) 1 0 0 D (gk κ, z) ws [.ref t, .ref q, .int x] (rt (.int 0) ws) := by
  refine Ct.of (by decide) (Nat.le_of_ble_eq_true rfl) ?_
  intro p e s0 m below meth c A hC hr hn
  refine u_aload_n hC d_D_seesDeed_0 rfl ?_
  refine u_ifnull hC d_D_seesDeed_1 ?_
  refine u_aload_n hC d_D_seesDeed_4 rfl ?_
  refine w_get hC f_D_102 hG rfl d_D_seesDeed_5 ?_
  refine u_iconst hC (nI 3) d_D_seesDeed_8 (by decide) ?_
  refine u_icmp_ne hC 14 d_D_seesDeed_9 (by decide) (fun h_9 => absurd hd h_9) (fun h_9 => ?_)
  refine u_iconst hC (nI 0) d_D_seesDeed_12 (by decide) ?_
  exact u_zret hC hr rfl d_D_seesDeed_13 (Nat.le_of_ble_eq_true rfl) (Nat.le_of_ble_eq_true rfl) ⟨rfl, rfl⟩
set_option maxHeartbeats 4000000 in
set_option maxRecDepth 100000 in
theorem c_D_sdO {t na0 : Nat} {md tp c0 s0 : Int32} {nb0 : Nat → Int32} (hT : wg ws t = some (cT md na0 tp c0 s0)) (hN : wg ws na0 = some (aI κ 8 nb0)) {q : Nat} {r0 l0 d0 p0 : Int32} (hG : wg ws q = some (cG r0 l0 d0 p0)) {x : Int32} (hd : ¬ d0 = nI 3) (ho : r0 = nb0 0) : Ct l y_D_seesDeed b_D_seesDeed 3 (some .boolean) 1 0 0 D (gk κ, z) ws [.ref t, .ref q, .int x] (rt (.int (if x < c0 then 1 else 0)) ws) := by
  refine Ct.of (by decide) (Nat.le_of_ble_eq_true rfl) ?_
  intro p e s0 m below meth c A hC hr hn
  refine u_aload_n hC d_D_seesDeed_0 rfl ?_
  refine u_ifnull hC d_D_seesDeed_1 ?_
  refine u_aload_n hC d_D_seesDeed_4 rfl ?_
  refine w_get hC f_D_102 hG rfl d_D_seesDeed_5 ?_
  refine u_iconst hC (nI 3) d_D_seesDeed_8 (by decide) ?_
  refine u_icmp_ne hC 14 d_D_seesDeed_9 (by decide) (fun h_9 => ?_) (fun h_9 => absurd h_9 hd)
  refine u_aload_n hC d_D_seesDeed_14 rfl ?_
  refine u_aload_n hC d_D_seesDeed_15 rfl ?_
  refine w_callVr hC (c_T_ownsT hT hN hG ho) k_D_78 i_T_owns hT rfl ⟨(Nat.le_of_ble_eq_true rfl), (Nat.le_of_ble_eq_true rfl)⟩ ⟨(Nat.le_of_ble_eq_true rfl), (Nat.le_of_ble_eq_true rfl)⟩ rfl rfl (Nat.le_of_ble_eq_true rfl) d_D_seesDeed_16 ?_
  refine u_if_eq hC 36 d_D_seesDeed_19 (by decide) (fun h_19 => absurd h_19 (by decide)) (fun h_19 => ?_)
  refine u_iload_n hC d_D_seesDeed_22 rfl ?_
  refine u_aload_n hC d_D_seesDeed_23 rfl ?_
  refine w_get hC f_D_37 hT rfl d_D_seesDeed_24 ?_
  refine u_icmp_ge hC 34 d_D_seesDeed_27 (by decide) (fun h_27 => ?_) (fun h_27 => ?_)
  · refine u_iconst hC (nI 0) d_D_seesDeed_34 (by decide) ?_
    exact u_zret hC hr rfl d_D_seesDeed_35 (Nat.le_of_ble_eq_true rfl) (Nat.le_of_ble_eq_true rfl) ⟨by first | (rw [if_pos (Int32.not_le.mp h_27)]; rfl) | (rw [if_neg (Int32.not_lt.mpr h_27)]; rfl), rfl⟩
  · refine u_iconst hC (nI 1) d_D_seesDeed_30 (by decide) ?_
    refine u_goto hC 35 d_D_seesDeed_31 (by decide) ?_
    exact u_zret hC hr rfl d_D_seesDeed_35 (Nat.le_of_ble_eq_true rfl) (Nat.le_of_ble_eq_true rfl) ⟨by first | (rw [if_pos (Int32.not_le.mp h_27)]; rfl) | (rw [if_neg (Int32.not_lt.mpr h_27)]; rfl), rfl⟩
set_option maxHeartbeats 4000000 in
set_option maxRecDepth 100000 in
theorem c_D_sdE {t na0 : Nat} {md tp c0 s0 : Int32} {nb0 : Nat → Int32} (hT : wg ws t = some (cT md na0 tp c0 s0)) (hN : wg ws na0 = some (aI κ 8 nb0)) {q : Nat} {r0 l0 d0 p0 : Int32} (hG : wg ws q = some (cG r0 l0 d0 p0)) {x : Int32} (hd : ¬ d0 = nI 3) (ho : ¬ r0 = nb0 0) : Ct l y_D_seesDeed b_D_seesDeed 3 (some .boolean) 1 0 0 D (gk κ, z) ws [.ref t, .ref q, .int x] (rt (.int (if d0 = nI 2 ∧ ¬ s0 < p0 then 1 else 0)) ws) := by
  refine Ct.of (by decide) (Nat.le_of_ble_eq_true rfl) ?_
  intro p e s0 m below meth c A hC hr hn
  refine u_aload_n hC d_D_seesDeed_0 rfl ?_
  refine u_ifnull hC d_D_seesDeed_1 ?_
  refine u_aload_n hC d_D_seesDeed_4 rfl ?_
  refine w_get hC f_D_102 hG rfl d_D_seesDeed_5 ?_
  refine u_iconst hC (nI 3) d_D_seesDeed_8 (by decide) ?_
  refine u_icmp_ne hC 14 d_D_seesDeed_9 (by decide) (fun h_9 => ?_) (fun h_9 => absurd h_9 hd)
  refine u_aload_n hC d_D_seesDeed_14 rfl ?_
  refine u_aload_n hC d_D_seesDeed_15 rfl ?_
  refine w_callVr hC (c_T_ownsF hT hN hG ho) k_D_78 i_T_owns hT rfl ⟨(Nat.le_of_ble_eq_true rfl), (Nat.le_of_ble_eq_true rfl)⟩ ⟨(Nat.le_of_ble_eq_true rfl), (Nat.le_of_ble_eq_true rfl)⟩ rfl rfl (Nat.le_of_ble_eq_true rfl) d_D_seesDeed_16 ?_
  refine u_if_eq hC 36 d_D_seesDeed_19 (by decide) (fun h_19 => ?_) (fun h_19 => absurd rfl h_19)
  refine u_aload_n hC d_D_seesDeed_36 rfl ?_
  refine w_get hC f_D_102 hG rfl d_D_seesDeed_37 ?_
  refine u_iconst hC (nI 2) d_D_seesDeed_40 (by decide) ?_
  refine u_icmp_ne hC 59 d_D_seesDeed_41 (by decide) (fun h_41 => ?_) (fun h_41 => ?_)
  · refine u_iconst hC (nI 0) d_D_seesDeed_59 (by decide) ?_
    exact u_zret hC hr rfl d_D_seesDeed_60 (Nat.le_of_ble_eq_true rfl) (Nat.le_of_ble_eq_true rfl) ⟨by first | (rw [if_neg (fun w => absurd w.1 h_41)]; rfl) | (rw [if_neg (fun w => absurd h_52 w.2)]; rfl) | (rw [if_pos ⟨h_41, h_52⟩]; rfl), rfl⟩
  · refine u_aload_n hC d_D_seesDeed_44 rfl ?_
    refine w_get hC f_D_108 hG rfl d_D_seesDeed_45 ?_
    refine u_aload_n hC d_D_seesDeed_48 rfl ?_
    refine w_get hC f_D_47 hT rfl d_D_seesDeed_49 ?_
    refine u_icmp_gt hC 59 d_D_seesDeed_52 (by decide) (fun h_52 => ?_) (fun h_52 => ?_)
    · refine u_iconst hC (nI 0) d_D_seesDeed_59 (by decide) ?_
      exact u_zret hC hr rfl d_D_seesDeed_60 (Nat.le_of_ble_eq_true rfl) (Nat.le_of_ble_eq_true rfl) ⟨by first | (rw [if_neg (fun w => absurd w.1 h_41)]; rfl) | (rw [if_neg (fun w => absurd h_52 w.2)]; rfl) | (rw [if_pos ⟨h_41, h_52⟩]; rfl), rfl⟩
    · refine u_iconst hC (nI 1) d_D_seesDeed_55 (by decide) ?_
      refine u_goto hC 60 d_D_seesDeed_56 (by decide) ?_
      exact u_zret hC hr rfl d_D_seesDeed_60 (Nat.le_of_ble_eq_true rfl) (Nat.le_of_ble_eq_true rfl) ⟨by first | (rw [if_neg (fun w => absurd w.1 h_41)]; rfl) | (rw [if_neg (fun w => absurd h_52 w.2)]; rfl) | (rw [if_pos ⟨h_41, h_52⟩]; rfl), rfl⟩
set_option maxHeartbeats 4000000 in
set_option maxRecDepth 100000 in
theorem c_D_la0 {t na0 : Nat} {md tp c0 s0 : Int32} {nb0 : Nat → Int32} (hT : wg ws t = some (cT md na0 tp c0 s0)) (hN : wg ws na0 = some (aI κ 8 nb0)) {k : Nat} (hk : tp = nI k) (hk7 : k ≤ 7) : Ct l y_D_lookAt b_D_lookAt 2 (some .int) 0 0 0 D (gk κ, z) ws [.ref t, .int (nI 0)] (rt (.int (md)) ws) := by
  refine Ct.of (by decide) (Nat.le_of_ble_eq_true rfl) ?_
  intro p e s0 m below meth c A hC hr hn
  refine u_iload_n hC d_D_lookAt_0 rfl ?_
  refine u_tableIn hC (off := 35) 36 d_D_lookAt_1 (by decide) (by decide) (by decide) (by decide) ?_
  refine u_aload_n hC d_D_lookAt_36 rfl ?_
  refine w_get hC f_D_40 hT rfl d_D_lookAt_37 ?_
  exact u_iret hC hr d_D_lookAt_40 (Nat.le_of_ble_eq_true rfl) (Nat.le_of_ble_eq_true rfl) ⟨rfl, rfl⟩
set_option maxHeartbeats 4000000 in
set_option maxRecDepth 100000 in
theorem c_D_la1 {t na0 : Nat} {md tp c0 s0 : Int32} {nb0 : Nat → Int32} (hT : wg ws t = some (cT md na0 tp c0 s0)) (hN : wg ws na0 = some (aI κ 8 nb0)) {k : Nat} (hk : tp = nI k) (hk7 : k ≤ 7) : Ct l y_D_lookAt b_D_lookAt 2 (some .int) 0 0 0 D (gk κ, z) ws [.ref t, .int (nI 1)] (rt (.int (c0)) ws) := by
  refine Ct.of (by decide) (Nat.le_of_ble_eq_true rfl) ?_
  intro p e s0 m below meth c A hC hr hn
  refine u_iload_n hC d_D_lookAt_0 rfl ?_
  refine u_tableIn hC (off := 40) 41 d_D_lookAt_1 (by decide) (by decide) (by decide) (by decide) ?_
  refine u_aload_n hC d_D_lookAt_41 rfl ?_
  refine w_get hC f_D_37 hT rfl d_D_lookAt_42 ?_
  exact u_iret hC hr d_D_lookAt_45 (Nat.le_of_ble_eq_true rfl) (Nat.le_of_ble_eq_true rfl) ⟨rfl, rfl⟩
set_option maxHeartbeats 4000000 in
set_option maxRecDepth 100000 in
theorem c_D_la2 {t na0 : Nat} {md tp c0 s0 : Int32} {nb0 : Nat → Int32} (hT : wg ws t = some (cT md na0 tp c0 s0)) (hN : wg ws na0 = some (aI κ 8 nb0)) {k : Nat} (hk : tp = nI k) (hk7 : k ≤ 7) : Ct l y_D_lookAt b_D_lookAt 2 (some .int) 0 0 0 D (gk κ, z) ws [.ref t, .int (nI 2)] (rt (.int (tp)) ws) := by
  refine Ct.of (by decide) (Nat.le_of_ble_eq_true rfl) ?_
  intro p e s0 m below meth c A hC hr hn
  refine u_iload_n hC d_D_lookAt_0 rfl ?_
  refine u_tableIn hC (off := 45) 46 d_D_lookAt_1 (by decide) (by decide) (by decide) (by decide) ?_
  refine u_aload_n hC d_D_lookAt_46 rfl ?_
  refine w_get hC f_D_66 hT rfl d_D_lookAt_47 ?_
  exact u_iret hC hr d_D_lookAt_50 (Nat.le_of_ble_eq_true rfl) (Nat.le_of_ble_eq_true rfl) ⟨rfl, rfl⟩
set_option maxHeartbeats 4000000 in
set_option maxRecDepth 100000 in
theorem c_D_la3 {t na0 : Nat} {md tp c0 s0 : Int32} {nb0 : Nat → Int32} (hT : wg ws t = some (cT md na0 tp c0 s0)) (hN : wg ws na0 = some (aI κ 8 nb0)) {k : Nat} (hk : tp = nI k) (hk7 : k ≤ 7) : Ct l y_D_lookAt b_D_lookAt 2 (some .int) 0 0 0 D (gk κ, z) ws [.ref t, .int (nI 3)] (rt (.int (nb0 k)) ws) := by
  refine Ct.of (by decide) (Nat.le_of_ble_eq_true rfl) ?_
  intro p e s0 m below meth c A hC hr hn
  refine u_iload_n hC d_D_lookAt_0 rfl ?_
  refine u_tableIn hC (off := 50) 51 d_D_lookAt_1 (by decide) (by decide) (by decide) (by decide) ?_
  refine u_aload_n hC d_D_lookAt_51 rfl ?_
  refine w_get hC f_D_62 hT rfl d_D_lookAt_52 ?_
  refine u_aload_n hC d_D_lookAt_55 rfl ?_
  refine w_get hC f_D_66 hT rfl d_D_lookAt_56 ?_
  refine w_iald hC 0 hN rfl k hk (by omega) (by decide) d_D_lookAt_59 ?_
  exact u_iret hC hr d_D_lookAt_60 (Nat.le_of_ble_eq_true rfl) (Nat.le_of_ble_eq_true rfl) ⟨rfl, rfl⟩
set_option maxHeartbeats 4000000 in
set_option maxRecDepth 100000 in
theorem c_D_la4 {t na0 : Nat} {md tp c0 s0 : Int32} {nb0 : Nat → Int32} (hT : wg ws t = some (cT md na0 tp c0 s0)) (hN : wg ws na0 = some (aI κ 8 nb0)) {k : Nat} (hk : tp = nI k) (hk7 : k ≤ 7) : Ct l y_D_lookAt b_D_lookAt 2 (some .int) 0 0 0 D (gk κ, z) ws [.ref t, .int (nI 4)] (rt (.int (s0)) ws) := by
  refine Ct.of (by decide) (Nat.le_of_ble_eq_true rfl) ?_
  intro p e s0 m below meth c A hC hr hn
  refine u_iload_n hC d_D_lookAt_0 rfl ?_
  refine u_tableIn hC (off := 60) 61 d_D_lookAt_1 (by decide) (by decide) (by decide) (by decide) ?_
  refine u_aload_n hC d_D_lookAt_61 rfl ?_
  refine w_get hC f_D_47 hT rfl d_D_lookAt_62 ?_
  exact u_iret hC hr d_D_lookAt_65 (Nat.le_of_ble_eq_true rfl) (Nat.le_of_ble_eq_true rfl) ⟨rfl, rfl⟩
set_option maxHeartbeats 4000000 in
set_option maxRecDepth 100000 in
theorem c_D_laX {t : Nat} {x : Int32} (hx : ¬ ∃ i : Nat, i ≤ 4 ∧ x = nI i) : Ct l y_D_lookAt b_D_lookAt 2 (some .int) 0 0 0 D (gk κ, z) ws [.ref t, .int x] (rt (.int (-1)) ws) := by
  refine Ct.of (by decide) (Nat.le_of_ble_eq_true rfl) ?_
  intro p e s0 m below meth c A hC hr hn
  refine u_iload_n hC d_D_lookAt_0 rfl ?_
  refine u_tableOut hC 66 d_D_lookAt_1 (n_out4 hx) (by decide) ?_
  refine u_iconst hC (-1) d_D_lookAt_66 (by decide) ?_
  exact u_iret hC hr d_D_lookAt_67 (Nat.le_of_ble_eq_true rfl) (Nat.le_of_ble_eq_true rfl) ⟨rfl, rfl⟩
set_option maxHeartbeats 4000000 in
set_option maxRecDepth 100000 in
theorem c_D_seesF0 {s x1 c1 x2 c2 : Int32} (hK : Dk κ z ws h0 hs hl cap cm tr na mo to co sn nb n el ro lv cd pl) (hb : ¬ ∃ j t : Nat, j < 6 ∧ s = nI j ∧ tr j = some t) : Ct l y_D_sees b_D_sees 7 (some .boolean) 4 0 0 D (gk κ, z) ws [.ref h0, .int s, .int x1, .int c1, .int x2, .int c2] (rt (.int 0) ws) := by
  refine Ct.of (by decide) (Nat.le_of_ble_eq_true rfl) ?_
  intro p e s0 m below meth c A hC hr hn
  obtain ⟨hO, hS9, hLs, hTr, hTi, hNi, hGs, hGi⟩ := id hK
  obtain ⟨mc9, he9, hL, hL2⟩ := id hLs
  refine u_aload_n hC d_D_sees_0 rfl ?_
  refine u_iload_n hC d_D_sees_1 rfl ?_
  refine w_callVr hC (c_D_trF hK hb) k_D_33 i_D_transactionOf hO rfl ⟨(Nat.le_of_ble_eq_true rfl), (Nat.le_of_ble_eq_true rfl)⟩ ⟨(Nat.le_of_ble_eq_true rfl), (Nat.le_of_ble_eq_true rfl)⟩ rfl rfl (Nat.le_of_ble_eq_true rfl) d_D_sees_2 ?_
  refine u_astoreN hC d_D_sees_5 (by decide) ?_
  refine u_aloadN hC d_D_sees_7 rfl ?_
  refine u_ifnullN hC 20 d_D_sees_9 (by decide) ?_
  refine u_iconst hC (nI 0) d_D_sees_20 (by decide) ?_
  exact u_zret hC hr rfl d_D_sees_21 (Nat.le_of_ble_eq_true rfl) (Nat.le_of_ble_eq_true rfl) ⟨rfl, rfl⟩
set_option maxHeartbeats 4000000 in
set_option maxRecDepth 100000 in
theorem c_D_seesF1 {j t : Nat} {x1 c1 x2 c2 : Int32} (hK : Dk κ z ws h0 hs hl cap cm tr na mo to co sn nb n el ro lv cd pl) (hj : j < 6) (ht : tr j = some t) (hs9 : sn j = -1) : Ct l y_D_sees b_D_sees 7 (some .boolean) 4 0 0 D (gk κ, z) ws [.ref h0, .int (nI j), .int x1, .int c1, .int x2, .int c2] (rt (.int 0) ws) := by
  refine Ct.of (by decide) (Nat.le_of_ble_eq_true rfl) ?_
  intro p e s0 m below meth c A hC hr hn
  obtain ⟨hO, hS9, hLs, hTr, hTi, hNi, hGs, hGi⟩ := id hK
  obtain ⟨mc9, he9, hL, hL2⟩ := id hLs
  obtain ⟨hT, hN⟩ := hTr j t hj ht
  refine u_aload_n hC d_D_sees_0 rfl ?_
  refine u_iload_n hC d_D_sees_1 rfl ?_
  refine w_callVr hC (c_D_trT hK hj ht) k_D_33 i_D_transactionOf hO rfl ⟨(Nat.le_of_ble_eq_true rfl), (Nat.le_of_ble_eq_true rfl)⟩ ⟨(Nat.le_of_ble_eq_true rfl), (Nat.le_of_ble_eq_true rfl)⟩ rfl rfl (Nat.le_of_ble_eq_true rfl) d_D_sees_2 ?_
  refine u_astore hC d_D_sees_5 (by decide) ?_
  refine u_aload hC d_D_sees_7 rfl ?_
  refine u_ifnull hC d_D_sees_9 ?_
  refine u_aload hC d_D_sees_12 rfl ?_
  refine w_callVr hC (c_T_hasF hT hs9) k_D_43 i_T_hasSnapshot hT rfl ⟨(Nat.le_of_ble_eq_true rfl), (Nat.le_of_ble_eq_true rfl)⟩ ⟨(Nat.le_of_ble_eq_true rfl), (Nat.le_of_ble_eq_true rfl)⟩ rfl rfl (Nat.le_of_ble_eq_true rfl) d_D_sees_14 ?_
  refine u_if_ne hC 22 d_D_sees_17 (by decide) (fun h_17 => absurd rfl h_17) (fun h_17 => ?_)
  refine u_iconst hC (nI 0) d_D_sees_20 (by decide) ?_
  exact u_zret hC hr rfl d_D_sees_21 (Nat.le_of_ble_eq_true rfl) (Nat.le_of_ble_eq_true rfl) ⟨rfl, rfl⟩
set_option maxHeartbeats 4000000 in
set_option maxRecDepth 100000 in
theorem c_D_seesT {j t : Nat} {x1 c1 x2 c2 v1 v2 : Int32} {w1 w2 : Value} (hK : Dk κ z ws h0 hs hl cap cm tr na mo to co sn nb n el ro lv cd pl) (hj : j < 6) (ht : tr j = some t) (hs9 : ¬ sn j = -1) (C1 : Ct l y_D_find b_D_find 2 (some (.object "SnapshotDesk$Given")) 3 0 0 D (gk κ, z) ws [.ref h0, .int x1] (rt w1 ws)) (S1 : Ct l y_D_seesDeed b_D_seesDeed 3 (some .boolean) 1 0 0 D (gk κ, z) ws [.ref t, w1, .int c1] (rt (.int v1) ws)) (C2 : Ct l y_D_find b_D_find 2 (some (.object "SnapshotDesk$Given")) 3 0 0 D (gk κ, z) ws [.ref h0, .int x2] (rt w2 ws)) (S2 : Ct l y_D_seesDeed b_D_seesDeed 3 (some .boolean) 1 0 0 D (gk κ, z) ws [.ref t, w2, .int c2] (rt (.int v2) ws)) : Ct l y_D_sees b_D_sees 7 (some .boolean) 4 0 0 D (gk κ, z) ws [.ref h0, .int (nI j), .int x1, .int c1, .int x2, .int c2] (rt (.int (if v1 = 0 then 0 else if v2 = 0 then 1 else 0)) ws) := by
  refine Ct.of (by decide) (Nat.le_of_ble_eq_true rfl) ?_
  intro p e s0 m below meth c A hC hr hn
  obtain ⟨hO, hS9, hLs, hTr, hTi, hNi, hGs, hGi⟩ := id hK
  obtain ⟨mc9, he9, hL, hL2⟩ := id hLs
  obtain ⟨hT, hN⟩ := hTr j t hj ht
  refine u_aload_n hC d_D_sees_0 rfl ?_
  refine u_iload_n hC d_D_sees_1 rfl ?_
  refine w_callVr hC (c_D_trT hK hj ht) k_D_33 i_D_transactionOf hO rfl ⟨(Nat.le_of_ble_eq_true rfl), (Nat.le_of_ble_eq_true rfl)⟩ ⟨(Nat.le_of_ble_eq_true rfl), (Nat.le_of_ble_eq_true rfl)⟩ rfl rfl (Nat.le_of_ble_eq_true rfl) d_D_sees_2 ?_
  refine u_astore hC d_D_sees_5 (by decide) ?_
  refine u_aload hC d_D_sees_7 rfl ?_
  refine u_ifnull hC d_D_sees_9 ?_
  refine u_aload hC d_D_sees_12 rfl ?_
  refine w_callVr hC (c_T_hasT hT hs9) k_D_43 i_T_hasSnapshot hT rfl ⟨(Nat.le_of_ble_eq_true rfl), (Nat.le_of_ble_eq_true rfl)⟩ ⟨(Nat.le_of_ble_eq_true rfl), (Nat.le_of_ble_eq_true rfl)⟩ rfl rfl (Nat.le_of_ble_eq_true rfl) d_D_sees_14 ?_
  refine u_if_ne hC 22 d_D_sees_17 (by decide) (fun h_17 => ?_) (fun h_17 => absurd h_17 (by decide))
  refine u_aload hC d_D_sees_22 rfl ?_
  refine u_aload_n hC d_D_sees_24 rfl ?_
  refine u_iload_n hC d_D_sees_25 rfl ?_
  refine w_callVr hC (C1) k_D_98 i_D_find hO rfl ⟨(Nat.le_of_ble_eq_true rfl), (Nat.le_of_ble_eq_true rfl)⟩ ⟨(Nat.le_of_ble_eq_true rfl), (Nat.le_of_ble_eq_true rfl)⟩ rfl rfl (Nat.le_of_ble_eq_true rfl) d_D_sees_26 ?_
  refine u_iload_n hC d_D_sees_29 rfl ?_
  refine u_callSr hC (S1) k_D_111 s_D_seesDeed ⟨(Nat.le_of_ble_eq_true rfl), (Nat.le_of_ble_eq_true rfl)⟩ ⟨(Nat.le_of_ble_eq_true rfl), (Nat.le_of_ble_eq_true rfl)⟩ rfl rfl (Nat.le_of_ble_eq_true rfl) d_D_sees_30 ?_
  refine u_if_eq hC 56 d_D_sees_33 (by decide) (fun h_33 => ?_) (fun h_33 => ?_)
  · refine u_iconst hC (nI 0) d_D_sees_56 (by decide) ?_
    exact u_zret hC hr rfl d_D_sees_57 (Nat.le_of_ble_eq_true rfl) (Nat.le_of_ble_eq_true rfl) ⟨by first | (rw [if_pos h_33]; rfl) | (rw [if_neg h_33, if_neg h_49]; rfl) | (rw [if_neg h_33, if_pos h_49]; rfl), rfl⟩
  · refine u_aload hC d_D_sees_36 rfl ?_
    refine u_aload_n hC d_D_sees_38 rfl ?_
    refine u_iload hC d_D_sees_39 rfl ?_
    refine w_callVr hC (C2) k_D_98 i_D_find hO rfl ⟨(Nat.le_of_ble_eq_true rfl), (Nat.le_of_ble_eq_true rfl)⟩ ⟨(Nat.le_of_ble_eq_true rfl), (Nat.le_of_ble_eq_true rfl)⟩ rfl rfl (Nat.le_of_ble_eq_true rfl) d_D_sees_41 ?_
    refine u_iload hC d_D_sees_44 rfl ?_
    refine u_callSr hC (S2) k_D_111 s_D_seesDeed ⟨(Nat.le_of_ble_eq_true rfl), (Nat.le_of_ble_eq_true rfl)⟩ ⟨(Nat.le_of_ble_eq_true rfl), (Nat.le_of_ble_eq_true rfl)⟩ rfl rfl (Nat.le_of_ble_eq_true rfl) d_D_sees_46 ?_
    refine u_if_ne hC 56 d_D_sees_49 (by decide) (fun h_49 => ?_) (fun h_49 => ?_)
    · refine u_iconst hC (nI 0) d_D_sees_56 (by decide) ?_
      exact u_zret hC hr rfl d_D_sees_57 (Nat.le_of_ble_eq_true rfl) (Nat.le_of_ble_eq_true rfl) ⟨by first | (rw [if_pos h_33]; rfl) | (rw [if_neg h_33, if_neg h_49]; rfl) | (rw [if_neg h_33, if_pos h_49]; rfl), rfl⟩
    · refine u_iconst hC (nI 1) d_D_sees_52 (by decide) ?_
      refine u_goto hC 57 d_D_sees_53 (by decide) ?_
      exact u_zret hC hr rfl d_D_sees_57 (Nat.le_of_ble_eq_true rfl) (Nat.le_of_ble_eq_true rfl) ⟨by first | (rw [if_pos h_33]; rfl) | (rw [if_neg h_33, if_neg h_49]; rfl) | (rw [if_neg h_33, if_pos h_49]; rfl), rfl⟩
set_option maxHeartbeats 4000000 in
set_option maxRecDepth 100000 in
theorem c_D_endF0 {s x cx : Int32} (hK : Dk κ z ws h0 hs hl cap cm tr na mo to co sn nb n el ro lv cd pl) (hb : ¬ ∃ j t : Nat, j < 6 ∧ s = nI j ∧ tr j = some t) : Ct l y_D_ending b_D_ending 7 (some .int) 4 0 0 D (gk κ, z) ws [.ref h0, .int s, .int x, .int cx] (rt (.int (-1)) ws) := by
  refine Ct.of (by decide) (Nat.le_of_ble_eq_true rfl) ?_
  intro p e s0 m below meth c A hC hr hn
  obtain ⟨hO, hS9, hLs, hTr, hTi, hNi, hGs, hGi⟩ := id hK
  obtain ⟨mc9, he9, hL, hL2⟩ := id hLs
  refine u_aload_n hC d_D_ending_0 rfl ?_
  refine u_iload_n hC d_D_ending_1 rfl ?_
  refine w_callVr hC (c_D_trF hK hb) k_D_33 i_D_transactionOf hO rfl ⟨(Nat.le_of_ble_eq_true rfl), (Nat.le_of_ble_eq_true rfl)⟩ ⟨(Nat.le_of_ble_eq_true rfl), (Nat.le_of_ble_eq_true rfl)⟩ rfl rfl (Nat.le_of_ble_eq_true rfl) d_D_ending_2 ?_
  refine u_astoreN hC d_D_ending_5 (by decide) ?_
  refine u_aloadN hC d_D_ending_7 rfl ?_
  refine u_ifnullN hC 20 d_D_ending_9 (by decide) ?_
  refine u_iconst hC (-1) d_D_ending_20 (by decide) ?_
  exact u_iret hC hr d_D_ending_21 (Nat.le_of_ble_eq_true rfl) (Nat.le_of_ble_eq_true rfl) ⟨rfl, rfl⟩
set_option maxHeartbeats 4000000 in
set_option maxRecDepth 100000 in
theorem c_D_endF1 {j t : Nat} {x cx : Int32} (hK : Dk κ z ws h0 hs hl cap cm tr na mo to co sn nb n el ro lv cd pl) (hj : j < 6) (ht : tr j = some t) (hs9 : sn j = -1) : Ct l y_D_ending b_D_ending 7 (some .int) 4 0 0 D (gk κ, z) ws [.ref h0, .int (nI j), .int x, .int cx] (rt (.int (-1)) ws) := by
  refine Ct.of (by decide) (Nat.le_of_ble_eq_true rfl) ?_
  intro p e s0 m below meth c A hC hr hn
  obtain ⟨hO, hS9, hLs, hTr, hTi, hNi, hGs, hGi⟩ := id hK
  obtain ⟨mc9, he9, hL, hL2⟩ := id hLs
  obtain ⟨hT, hN⟩ := hTr j t hj ht
  refine u_aload_n hC d_D_ending_0 rfl ?_
  refine u_iload_n hC d_D_ending_1 rfl ?_
  refine w_callVr hC (c_D_trT hK hj ht) k_D_33 i_D_transactionOf hO rfl ⟨(Nat.le_of_ble_eq_true rfl), (Nat.le_of_ble_eq_true rfl)⟩ ⟨(Nat.le_of_ble_eq_true rfl), (Nat.le_of_ble_eq_true rfl)⟩ rfl rfl (Nat.le_of_ble_eq_true rfl) d_D_ending_2 ?_
  refine u_astore hC d_D_ending_5 (by decide) ?_
  refine u_aload hC d_D_ending_7 rfl ?_
  refine u_ifnull hC d_D_ending_9 ?_
  refine u_aload hC d_D_ending_12 rfl ?_
  refine w_callVr hC (c_T_hasF hT hs9) k_D_43 i_T_hasSnapshot hT rfl ⟨(Nat.le_of_ble_eq_true rfl), (Nat.le_of_ble_eq_true rfl)⟩ ⟨(Nat.le_of_ble_eq_true rfl), (Nat.le_of_ble_eq_true rfl)⟩ rfl rfl (Nat.le_of_ble_eq_true rfl) d_D_ending_14 ?_
  refine u_if_ne hC 22 d_D_ending_17 (by decide) (fun h_17 => absurd rfl h_17) (fun h_17 => ?_)
  refine u_iconst hC (-1) d_D_ending_20 (by decide) ?_
  exact u_iret hC hr d_D_ending_21 (Nat.le_of_ble_eq_true rfl) (Nat.le_of_ble_eq_true rfl) ⟨rfl, rfl⟩
set_option maxHeartbeats 4000000 in
set_option maxRecDepth 100000 in
theorem c_D_endN {j t : Nat} {x cx : Int32} (hK : Dk κ z ws h0 hs hl cap cm tr na mo to co sn nb n el ro lv cd pl) (hn4 : n ≤ 4000) (hcap : cap ≤ 10000) (hj : j < 6) (ht : tr j = some t) (hs9 : ¬ sn j = -1) (hx : ¬ ∃ i : Nat, 1 ≤ i ∧ i ≤ n ∧ x = nI i) : Ct l y_D_ending b_D_ending 7 (some .int) 4 0 0 D (gk κ, z) ws [.ref h0, .int (nI j), .int x, .int cx] (rt (.int 0) ws) := by
  refine Ct.of (by decide) (Nat.le_of_ble_eq_true rfl) ?_
  intro p e s0 m below meth c A hC hr hn
  obtain ⟨hO, hS9, hLs, hTr, hTi, hNi, hGs, hGi⟩ := id hK
  obtain ⟨mc9, he9, hL, hL2⟩ := id hLs
  obtain ⟨hT, hN⟩ := hTr j t hj ht
  refine u_aload_n hC d_D_ending_0 rfl ?_
  refine u_iload_n hC d_D_ending_1 rfl ?_
  refine w_callVr hC (c_D_trT hK hj ht) k_D_33 i_D_transactionOf hO rfl ⟨(Nat.le_of_ble_eq_true rfl), (Nat.le_of_ble_eq_true rfl)⟩ ⟨(Nat.le_of_ble_eq_true rfl), (Nat.le_of_ble_eq_true rfl)⟩ rfl rfl (Nat.le_of_ble_eq_true rfl) d_D_ending_2 ?_
  refine u_astore hC d_D_ending_5 (by decide) ?_
  refine u_aload hC d_D_ending_7 rfl ?_
  refine u_ifnull hC d_D_ending_9 ?_
  refine u_aload hC d_D_ending_12 rfl ?_
  refine w_callVr hC (c_T_hasT hT hs9) k_D_43 i_T_hasSnapshot hT rfl ⟨(Nat.le_of_ble_eq_true rfl), (Nat.le_of_ble_eq_true rfl)⟩ ⟨(Nat.le_of_ble_eq_true rfl), (Nat.le_of_ble_eq_true rfl)⟩ rfl rfl (Nat.le_of_ble_eq_true rfl) d_D_ending_14 ?_
  refine u_if_ne hC 22 d_D_ending_17 (by decide) (fun h_17 => ?_) (fun h_17 => absurd h_17 (by decide))
  refine u_aload_n hC d_D_ending_22 rfl ?_
  refine u_iload_n hC d_D_ending_23 rfl ?_
  refine w_callVr hC (c_D_findF hK hn4 hcap hx) k_D_98 i_D_find hO rfl ⟨(Nat.le_of_ble_eq_true rfl), (Nat.le_of_ble_eq_true rfl)⟩ ⟨(Nat.le_of_ble_eq_true rfl), (Nat.le_of_ble_eq_true rfl)⟩ rfl rfl (Nat.le_of_ble_eq_true rfl) d_D_ending_24 ?_
  refine u_astoreN hC d_D_ending_27 (by decide) ?_
  refine u_aloadN hC d_D_ending_29 rfl ?_
  refine u_ifnullN hC 43 d_D_ending_31 (by decide) ?_
  refine u_iconst hC (nI 0) d_D_ending_43 (by decide) ?_
  exact u_iret hC hr d_D_ending_44 (Nat.le_of_ble_eq_true rfl) (Nat.le_of_ble_eq_true rfl) ⟨rfl, rfl⟩
set_option maxHeartbeats 4000000 in
set_option maxRecDepth 100000 in
theorem c_D_endA {j t i : Nat} {cx : Int32} (hK : Dk κ z ws h0 hs hl cap cm tr na mo to co sn nb n el ro lv cd pl) (hn4 : n ≤ 4000) (hcap : cap ≤ 10000) (hj : j < 6) (ht : tr j = some t) (hs9 : ¬ sn j = -1) (h1 : 1 ≤ i) (h2 : i ≤ n) (hd : cd (i - 1) = nI 3) : Ct l y_D_ending b_D_ending 7 (some .int) 4 0 0 D (gk κ, z) ws [.ref h0, .int (nI j), .int (nI i), .int cx] (rt (.int 0) ws) := by
  refine Ct.of (by decide) (Nat.le_of_ble_eq_true rfl) ?_
  intro p e s0 m below meth c A hC hr hn
  obtain ⟨hO, hS9, hLs, hTr, hTi, hNi, hGs, hGi⟩ := id hK
  obtain ⟨mc9, he9, hL, hL2⟩ := id hLs
  obtain ⟨hT, hN⟩ := hTr j t hj ht
  refine u_aload_n hC d_D_ending_0 rfl ?_
  refine u_iload_n hC d_D_ending_1 rfl ?_
  refine w_callVr hC (c_D_trT hK hj ht) k_D_33 i_D_transactionOf hO rfl ⟨(Nat.le_of_ble_eq_true rfl), (Nat.le_of_ble_eq_true rfl)⟩ ⟨(Nat.le_of_ble_eq_true rfl), (Nat.le_of_ble_eq_true rfl)⟩ rfl rfl (Nat.le_of_ble_eq_true rfl) d_D_ending_2 ?_
  refine u_astore hC d_D_ending_5 (by decide) ?_
  refine u_aload hC d_D_ending_7 rfl ?_
  refine u_ifnull hC d_D_ending_9 ?_
  refine u_aload hC d_D_ending_12 rfl ?_
  refine w_callVr hC (c_T_hasT hT hs9) k_D_43 i_T_hasSnapshot hT rfl ⟨(Nat.le_of_ble_eq_true rfl), (Nat.le_of_ble_eq_true rfl)⟩ ⟨(Nat.le_of_ble_eq_true rfl), (Nat.le_of_ble_eq_true rfl)⟩ rfl rfl (Nat.le_of_ble_eq_true rfl) d_D_ending_14 ?_
  refine u_if_ne hC 22 d_D_ending_17 (by decide) (fun h_17 => ?_) (fun h_17 => absurd h_17 (by decide))
  refine u_aload_n hC d_D_ending_22 rfl ?_
  refine u_iload_n hC d_D_ending_23 rfl ?_
  refine w_callVr hC (c_D_findT hK hn4 hcap h1 h2) k_D_98 i_D_find hO rfl ⟨(Nat.le_of_ble_eq_true rfl), (Nat.le_of_ble_eq_true rfl)⟩ ⟨(Nat.le_of_ble_eq_true rfl), (Nat.le_of_ble_eq_true rfl)⟩ rfl rfl (Nat.le_of_ble_eq_true rfl) d_D_ending_24 ?_
  refine u_astore hC d_D_ending_27 (by decide) ?_
  refine u_aload hC d_D_ending_29 rfl ?_
  refine u_ifnull hC d_D_ending_31 ?_
  refine u_aload hC d_D_ending_34 rfl ?_
  refine w_get hC f_D_102 (hGs (i - 1) (by omega)) rfl d_D_ending_36 ?_
  refine u_iconst hC (nI 3) d_D_ending_39 (by decide) ?_
  refine u_icmp_ne hC 45 d_D_ending_40 (by decide) (fun h_40 => absurd hd h_40) (fun h_40 => ?_)
  refine u_iconst hC (nI 0) d_D_ending_43 (by decide) ?_
  exact u_iret hC hr d_D_ending_44 (Nat.le_of_ble_eq_true rfl) (Nat.le_of_ble_eq_true rfl) ⟨rfl, rfl⟩
set_option maxHeartbeats 4000000 in
set_option maxRecDepth 100000 in
theorem c_D_endO {j t i : Nat} {cx v : Int32} (hK : Dk κ z ws h0 hs hl cap cm tr na mo to co sn nb n el ro lv cd pl) (hn4 : n ≤ 4000) (hcap : cap ≤ 10000) (hj : j < 6) (ht : tr j = some t) (hs9 : ¬ sn j = -1) (h1 : 1 ≤ i) (h2 : i ≤ n) (hd : ¬ cd (i - 1) = nI 3) (S1 : Ct l y_D_seesDeed b_D_seesDeed 3 (some .boolean) 1 0 0 D (gk κ, z) ws [.ref t, .ref (el (i - 1)), .int cx] (rt (.int v) ws)) (ho : ro (i - 1) = nb j 0) : Ct l y_D_ending b_D_ending 7 (some .int) 4 0 0 D (gk κ, z) ws [.ref h0, .int (nI j), .int (nI i), .int cx] (rt (.int (if v = 0 then 2 else 1)) ws) := by
  refine Ct.of (by decide) (Nat.le_of_ble_eq_true rfl) ?_
  intro p e s0 m below meth c A hC hr hn
  obtain ⟨hO, hS9, hLs, hTr, hTi, hNi, hGs, hGi⟩ := id hK
  obtain ⟨mc9, he9, hL, hL2⟩ := id hLs
  obtain ⟨hT, hN⟩ := hTr j t hj ht
  refine u_aload_n hC d_D_ending_0 rfl ?_
  refine u_iload_n hC d_D_ending_1 rfl ?_
  refine w_callVr hC (c_D_trT hK hj ht) k_D_33 i_D_transactionOf hO rfl ⟨(Nat.le_of_ble_eq_true rfl), (Nat.le_of_ble_eq_true rfl)⟩ ⟨(Nat.le_of_ble_eq_true rfl), (Nat.le_of_ble_eq_true rfl)⟩ rfl rfl (Nat.le_of_ble_eq_true rfl) d_D_ending_2 ?_
  refine u_astore hC d_D_ending_5 (by decide) ?_
  refine u_aload hC d_D_ending_7 rfl ?_
  refine u_ifnull hC d_D_ending_9 ?_
  refine u_aload hC d_D_ending_12 rfl ?_
  refine w_callVr hC (c_T_hasT hT hs9) k_D_43 i_T_hasSnapshot hT rfl ⟨(Nat.le_of_ble_eq_true rfl), (Nat.le_of_ble_eq_true rfl)⟩ ⟨(Nat.le_of_ble_eq_true rfl), (Nat.le_of_ble_eq_true rfl)⟩ rfl rfl (Nat.le_of_ble_eq_true rfl) d_D_ending_14 ?_
  refine u_if_ne hC 22 d_D_ending_17 (by decide) (fun h_17 => ?_) (fun h_17 => absurd h_17 (by decide))
  refine u_aload_n hC d_D_ending_22 rfl ?_
  refine u_iload_n hC d_D_ending_23 rfl ?_
  refine w_callVr hC (c_D_findT hK hn4 hcap h1 h2) k_D_98 i_D_find hO rfl ⟨(Nat.le_of_ble_eq_true rfl), (Nat.le_of_ble_eq_true rfl)⟩ ⟨(Nat.le_of_ble_eq_true rfl), (Nat.le_of_ble_eq_true rfl)⟩ rfl rfl (Nat.le_of_ble_eq_true rfl) d_D_ending_24 ?_
  refine u_astore hC d_D_ending_27 (by decide) ?_
  refine u_aload hC d_D_ending_29 rfl ?_
  refine u_ifnull hC d_D_ending_31 ?_
  refine u_aload hC d_D_ending_34 rfl ?_
  refine w_get hC f_D_102 (hGs (i - 1) (by omega)) rfl d_D_ending_36 ?_
  refine u_iconst hC (nI 3) d_D_ending_39 (by decide) ?_
  refine u_icmp_ne hC 45 d_D_ending_40 (by decide) (fun h_40 => ?_) (fun h_40 => absurd h_40 hd)
  refine u_aload hC d_D_ending_45 rfl ?_
  refine u_aload hC d_D_ending_47 rfl ?_
  refine u_iload_n hC d_D_ending_49 rfl ?_
  refine u_callSr hC (S1) k_D_111 s_D_seesDeed ⟨(Nat.le_of_ble_eq_true rfl), (Nat.le_of_ble_eq_true rfl)⟩ ⟨(Nat.le_of_ble_eq_true rfl), (Nat.le_of_ble_eq_true rfl)⟩ rfl rfl (Nat.le_of_ble_eq_true rfl) d_D_ending_50 ?_
  refine u_istore hC d_D_ending_53 (by decide) ?_
  refine u_aload hC d_D_ending_55 rfl ?_
  refine u_aload hC d_D_ending_57 rfl ?_
  refine w_callVr hC (c_T_ownsT hT hN (hGs (i - 1) (by omega)) ho) k_D_78 i_T_owns hT rfl ⟨(Nat.le_of_ble_eq_true rfl), (Nat.le_of_ble_eq_true rfl)⟩ ⟨(Nat.le_of_ble_eq_true rfl), (Nat.le_of_ble_eq_true rfl)⟩ rfl rfl (Nat.le_of_ble_eq_true rfl) d_D_ending_59 ?_
  refine u_if_eq hC 76 d_D_ending_62 (by decide) (fun h_62 => absurd h_62 (by decide)) (fun h_62 => ?_)
  refine u_iload hC d_D_ending_65 rfl ?_
  refine u_if_eq hC 74 d_D_ending_67 (by decide) (fun h_67 => ?_) (fun h_67 => ?_)
  · refine u_iconst hC (nI 2) d_D_ending_74 (by decide) ?_
    exact u_iret hC hr d_D_ending_75 (Nat.le_of_ble_eq_true rfl) (Nat.le_of_ble_eq_true rfl) ⟨by first | (rw [if_pos h_67]; rfl) | (rw [if_neg h_67]; rfl), rfl⟩
  · refine u_iconst hC (nI 1) d_D_ending_70 (by decide) ?_
    refine u_goto hC 75 d_D_ending_71 (by decide) ?_
    exact u_iret hC hr d_D_ending_75 (Nat.le_of_ble_eq_true rfl) (Nat.le_of_ble_eq_true rfl) ⟨by first | (rw [if_pos h_67]; rfl) | (rw [if_neg h_67]; rfl), rfl⟩
set_option maxHeartbeats 4000000 in
set_option maxRecDepth 100000 in
theorem c_D_endR {j t i : Nat} {cx v : Int32} (hK : Dk κ z ws h0 hs hl cap cm tr na mo to co sn nb n el ro lv cd pl) (hn4 : n ≤ 4000) (hcap : cap ≤ 10000) (hj : j < 6) (ht : tr j = some t) (hs9 : ¬ sn j = -1) (h1 : 1 ≤ i) (h2 : i ≤ n) (hd : cd (i - 1) = nI 1) (S1 : Ct l y_D_seesDeed b_D_seesDeed 3 (some .boolean) 1 0 0 D (gk κ, z) ws [.ref t, .ref (el (i - 1)), .int cx] (rt (.int v) ws)) (ho : ¬ ro (i - 1) = nb j 0) : Ct l y_D_ending b_D_ending 7 (some .int) 4 0 0 D (gk κ, z) ws [.ref h0, .int (nI j), .int (nI i), .int cx] (rt (.int 3) ws) := by
  refine Ct.of (by decide) (Nat.le_of_ble_eq_true rfl) ?_
  intro p e s0 m below meth c A hC hr hn
  obtain ⟨hO, hS9, hLs, hTr, hTi, hNi, hGs, hGi⟩ := id hK
  obtain ⟨mc9, he9, hL, hL2⟩ := id hLs
  obtain ⟨hT, hN⟩ := hTr j t hj ht
  refine u_aload_n hC d_D_ending_0 rfl ?_
  refine u_iload_n hC d_D_ending_1 rfl ?_
  refine w_callVr hC (c_D_trT hK hj ht) k_D_33 i_D_transactionOf hO rfl ⟨(Nat.le_of_ble_eq_true rfl), (Nat.le_of_ble_eq_true rfl)⟩ ⟨(Nat.le_of_ble_eq_true rfl), (Nat.le_of_ble_eq_true rfl)⟩ rfl rfl (Nat.le_of_ble_eq_true rfl) d_D_ending_2 ?_
  refine u_astore hC d_D_ending_5 (by decide) ?_
  refine u_aload hC d_D_ending_7 rfl ?_
  refine u_ifnull hC d_D_ending_9 ?_
  refine u_aload hC d_D_ending_12 rfl ?_
  refine w_callVr hC (c_T_hasT hT hs9) k_D_43 i_T_hasSnapshot hT rfl ⟨(Nat.le_of_ble_eq_true rfl), (Nat.le_of_ble_eq_true rfl)⟩ ⟨(Nat.le_of_ble_eq_true rfl), (Nat.le_of_ble_eq_true rfl)⟩ rfl rfl (Nat.le_of_ble_eq_true rfl) d_D_ending_14 ?_
  refine u_if_ne hC 22 d_D_ending_17 (by decide) (fun h_17 => ?_) (fun h_17 => absurd h_17 (by decide))
  refine u_aload_n hC d_D_ending_22 rfl ?_
  refine u_iload_n hC d_D_ending_23 rfl ?_
  refine w_callVr hC (c_D_findT hK hn4 hcap h1 h2) k_D_98 i_D_find hO rfl ⟨(Nat.le_of_ble_eq_true rfl), (Nat.le_of_ble_eq_true rfl)⟩ ⟨(Nat.le_of_ble_eq_true rfl), (Nat.le_of_ble_eq_true rfl)⟩ rfl rfl (Nat.le_of_ble_eq_true rfl) d_D_ending_24 ?_
  refine u_astore hC d_D_ending_27 (by decide) ?_
  refine u_aload hC d_D_ending_29 rfl ?_
  refine u_ifnull hC d_D_ending_31 ?_
  refine u_aload hC d_D_ending_34 rfl ?_
  refine w_get hC f_D_102 (hGs (i - 1) (by omega)) rfl d_D_ending_36 ?_
  refine u_iconst hC (nI 3) d_D_ending_39 (by decide) ?_
  refine u_icmp_ne hC 45 d_D_ending_40 (by decide) (fun h_40 => ?_) (fun h_40 => absurd h_40 (by rw [hd]; decide))
  refine u_aload hC d_D_ending_45 rfl ?_
  refine u_aload hC d_D_ending_47 rfl ?_
  refine u_iload_n hC d_D_ending_49 rfl ?_
  refine u_callSr hC (S1) k_D_111 s_D_seesDeed ⟨(Nat.le_of_ble_eq_true rfl), (Nat.le_of_ble_eq_true rfl)⟩ ⟨(Nat.le_of_ble_eq_true rfl), (Nat.le_of_ble_eq_true rfl)⟩ rfl rfl (Nat.le_of_ble_eq_true rfl) d_D_ending_50 ?_
  refine u_istore hC d_D_ending_53 (by decide) ?_
  refine u_aload hC d_D_ending_55 rfl ?_
  refine u_aload hC d_D_ending_57 rfl ?_
  refine w_callVr hC (c_T_ownsF hT hN (hGs (i - 1) (by omega)) ho) k_D_78 i_T_owns hT rfl ⟨(Nat.le_of_ble_eq_true rfl), (Nat.le_of_ble_eq_true rfl)⟩ ⟨(Nat.le_of_ble_eq_true rfl), (Nat.le_of_ble_eq_true rfl)⟩ rfl rfl (Nat.le_of_ble_eq_true rfl) d_D_ending_59 ?_
  refine u_if_eq hC 76 d_D_ending_62 (by decide) (fun h_62 => ?_) (fun h_62 => absurd rfl h_62)
  refine u_aload hC d_D_ending_76 rfl ?_
  refine w_get hC f_D_102 (hGs (i - 1) (by omega)) rfl d_D_ending_78 ?_
  refine u_iconst hC (nI 1) d_D_ending_81 (by decide) ?_
  refine u_icmp_ne hC 87 d_D_ending_82 (by decide) (fun h_82 => absurd hd h_82) (fun h_82 => ?_)
  refine u_iconst hC (nI 3) d_D_ending_85 (by decide) ?_
  exact u_iret hC hr d_D_ending_86 (Nat.le_of_ble_eq_true rfl) (Nat.le_of_ble_eq_true rfl) ⟨rfl, rfl⟩
set_option maxHeartbeats 4000000 in
set_option maxRecDepth 100000 in
theorem c_D_endC {j t i : Nat} {cx v : Int32} (hK : Dk κ z ws h0 hs hl cap cm tr na mo to co sn nb n el ro lv cd pl) (hn4 : n ≤ 4000) (hcap : cap ≤ 10000) (hj : j < 6) (ht : tr j = some t) (hs9 : ¬ sn j = -1) (h1 : 1 ≤ i) (h2 : i ≤ n) (hd : ¬ cd (i - 1) = nI 3) (hd1 : ¬ cd (i - 1) = nI 1) (S1 : Ct l y_D_seesDeed b_D_seesDeed 3 (some .boolean) 1 0 0 D (gk κ, z) ws [.ref t, .ref (el (i - 1)), .int cx] (rt (.int v) ws)) (ho : ¬ ro (i - 1) = nb j 0) : Ct l y_D_ending b_D_ending 7 (some .int) 4 0 0 D (gk κ, z) ws [.ref h0, .int (nI j), .int (nI i), .int cx] (rt (.int (if v = 0 then 5 else 4)) ws) := by
  refine Ct.of (by decide) (Nat.le_of_ble_eq_true rfl) ?_
  intro p e s0 m below meth c A hC hr hn
  obtain ⟨hO, hS9, hLs, hTr, hTi, hNi, hGs, hGi⟩ := id hK
  obtain ⟨mc9, he9, hL, hL2⟩ := id hLs
  obtain ⟨hT, hN⟩ := hTr j t hj ht
  refine u_aload_n hC d_D_ending_0 rfl ?_
  refine u_iload_n hC d_D_ending_1 rfl ?_
  refine w_callVr hC (c_D_trT hK hj ht) k_D_33 i_D_transactionOf hO rfl ⟨(Nat.le_of_ble_eq_true rfl), (Nat.le_of_ble_eq_true rfl)⟩ ⟨(Nat.le_of_ble_eq_true rfl), (Nat.le_of_ble_eq_true rfl)⟩ rfl rfl (Nat.le_of_ble_eq_true rfl) d_D_ending_2 ?_
  refine u_astore hC d_D_ending_5 (by decide) ?_
  refine u_aload hC d_D_ending_7 rfl ?_
  refine u_ifnull hC d_D_ending_9 ?_
  refine u_aload hC d_D_ending_12 rfl ?_
  refine w_callVr hC (c_T_hasT hT hs9) k_D_43 i_T_hasSnapshot hT rfl ⟨(Nat.le_of_ble_eq_true rfl), (Nat.le_of_ble_eq_true rfl)⟩ ⟨(Nat.le_of_ble_eq_true rfl), (Nat.le_of_ble_eq_true rfl)⟩ rfl rfl (Nat.le_of_ble_eq_true rfl) d_D_ending_14 ?_
  refine u_if_ne hC 22 d_D_ending_17 (by decide) (fun h_17 => ?_) (fun h_17 => absurd h_17 (by decide))
  refine u_aload_n hC d_D_ending_22 rfl ?_
  refine u_iload_n hC d_D_ending_23 rfl ?_
  refine w_callVr hC (c_D_findT hK hn4 hcap h1 h2) k_D_98 i_D_find hO rfl ⟨(Nat.le_of_ble_eq_true rfl), (Nat.le_of_ble_eq_true rfl)⟩ ⟨(Nat.le_of_ble_eq_true rfl), (Nat.le_of_ble_eq_true rfl)⟩ rfl rfl (Nat.le_of_ble_eq_true rfl) d_D_ending_24 ?_
  refine u_astore hC d_D_ending_27 (by decide) ?_
  refine u_aload hC d_D_ending_29 rfl ?_
  refine u_ifnull hC d_D_ending_31 ?_
  refine u_aload hC d_D_ending_34 rfl ?_
  refine w_get hC f_D_102 (hGs (i - 1) (by omega)) rfl d_D_ending_36 ?_
  refine u_iconst hC (nI 3) d_D_ending_39 (by decide) ?_
  refine u_icmp_ne hC 45 d_D_ending_40 (by decide) (fun h_40 => ?_) (fun h_40 => absurd h_40 hd)
  refine u_aload hC d_D_ending_45 rfl ?_
  refine u_aload hC d_D_ending_47 rfl ?_
  refine u_iload_n hC d_D_ending_49 rfl ?_
  refine u_callSr hC (S1) k_D_111 s_D_seesDeed ⟨(Nat.le_of_ble_eq_true rfl), (Nat.le_of_ble_eq_true rfl)⟩ ⟨(Nat.le_of_ble_eq_true rfl), (Nat.le_of_ble_eq_true rfl)⟩ rfl rfl (Nat.le_of_ble_eq_true rfl) d_D_ending_50 ?_
  refine u_istore hC d_D_ending_53 (by decide) ?_
  refine u_aload hC d_D_ending_55 rfl ?_
  refine u_aload hC d_D_ending_57 rfl ?_
  refine w_callVr hC (c_T_ownsF hT hN (hGs (i - 1) (by omega)) ho) k_D_78 i_T_owns hT rfl ⟨(Nat.le_of_ble_eq_true rfl), (Nat.le_of_ble_eq_true rfl)⟩ ⟨(Nat.le_of_ble_eq_true rfl), (Nat.le_of_ble_eq_true rfl)⟩ rfl rfl (Nat.le_of_ble_eq_true rfl) d_D_ending_59 ?_
  refine u_if_eq hC 76 d_D_ending_62 (by decide) (fun h_62 => ?_) (fun h_62 => absurd rfl h_62)
  refine u_aload hC d_D_ending_76 rfl ?_
  refine w_get hC f_D_102 (hGs (i - 1) (by omega)) rfl d_D_ending_78 ?_
  refine u_iconst hC (nI 1) d_D_ending_81 (by decide) ?_
  refine u_icmp_ne hC 87 d_D_ending_82 (by decide) (fun h_82 => ?_) (fun h_82 => absurd h_82 hd1)
  refine u_iload hC d_D_ending_87 rfl ?_
  refine u_if_eq hC 96 d_D_ending_89 (by decide) (fun h_89 => ?_) (fun h_89 => ?_)
  · refine u_iconst hC (nI 5) d_D_ending_96 (by decide) ?_
    exact u_iret hC hr d_D_ending_97 (Nat.le_of_ble_eq_true rfl) (Nat.le_of_ble_eq_true rfl) ⟨by first | (rw [if_pos h_89]; rfl) | (rw [if_neg h_89]; rfl), rfl⟩
  · refine u_iconst hC (nI 4) d_D_ending_92 (by decide) ?_
    refine u_goto hC 97 d_D_ending_93 (by decide) ?_
    exact u_iret hC hr d_D_ending_97 (Nat.le_of_ble_eq_true rfl) (Nat.le_of_ble_eq_true rfl) ⟨by first | (rw [if_pos h_89]; rfl) | (rw [if_neg h_89]; rfl), rfl⟩
set_option maxHeartbeats 4000000 in
set_option maxRecDepth 100000 in
theorem c_D_deadF {x y : Int32} (hK : Dk κ z ws h0 hs hl cap cm tr na mo to co sn nb n el ro lv cd pl) (hn4 : n ≤ 4000) (hcap : cap ≤ 10000) (hx : ¬ ∃ i : Nat, 1 ≤ i ∧ i ≤ n ∧ x = nI i) : Ct l y_D_dead b_D_dead 4 (some .boolean) 4 0 0 D (gk κ, z) ws [.ref h0, .int x, .int y] (rt (.int 0) ws) := by
  refine Ct.of (by decide) (Nat.le_of_ble_eq_true rfl) ?_
  intro p e s0 m below meth c A hC hr hn
  obtain ⟨hO, hS9, hLs, hTr, hTi, hNi, hGs, hGi⟩ := id hK
  obtain ⟨mc9, he9, hL, hL2⟩ := id hLs
  refine u_aload_n hC d_D_dead_0 rfl ?_
  refine u_iload_n hC d_D_dead_1 rfl ?_
  refine w_callVr hC (c_D_findF hK hn4 hcap hx) k_D_98 i_D_find hO rfl ⟨(Nat.le_of_ble_eq_true rfl), (Nat.le_of_ble_eq_true rfl)⟩ ⟨(Nat.le_of_ble_eq_true rfl), (Nat.le_of_ble_eq_true rfl)⟩ rfl rfl (Nat.le_of_ble_eq_true rfl) d_D_dead_2 ?_
  refine u_astore_nN hC d_D_dead_5 (by decide) ?_
  refine u_aload_nN hC d_D_dead_6 rfl ?_
  refine u_ifnonnullN hC d_D_dead_7 ?_
  refine u_iconst hC (nI 0) d_D_dead_10 (by decide) ?_
  exact u_zret hC hr rfl d_D_dead_11 (Nat.le_of_ble_eq_true rfl) (Nat.le_of_ble_eq_true rfl) ⟨rfl, rfl⟩
set_option maxHeartbeats 4000000 in
set_option maxRecDepth 100000 in
theorem c_D_deadA {i : Nat} {y : Int32} (hK : Dk κ z ws h0 hs hl cap cm tr na mo to co sn nb n el ro lv cd pl) (hn4 : n ≤ 4000) (hcap : cap ≤ 10000) (h1 : 1 ≤ i) (h2 : i ≤ n) (hd : cd (i - 1) = nI 3) : Ct l y_D_dead b_D_dead 4 (some .boolean) 4 0 0 D (gk κ, z) ws [.ref h0, .int (nI i), .int y] (rt (.int 1) ws) := by
  refine Ct.of (by decide) (Nat.le_of_ble_eq_true rfl) ?_
  intro p e s0 m below meth c A hC hr hn
  obtain ⟨hO, hS9, hLs, hTr, hTi, hNi, hGs, hGi⟩ := id hK
  obtain ⟨mc9, he9, hL, hL2⟩ := id hLs
  refine u_aload_n hC d_D_dead_0 rfl ?_
  refine u_iload_n hC d_D_dead_1 rfl ?_
  refine w_callVr hC (c_D_findT hK hn4 hcap h1 h2) k_D_98 i_D_find hO rfl ⟨(Nat.le_of_ble_eq_true rfl), (Nat.le_of_ble_eq_true rfl)⟩ ⟨(Nat.le_of_ble_eq_true rfl), (Nat.le_of_ble_eq_true rfl)⟩ rfl rfl (Nat.le_of_ble_eq_true rfl) d_D_dead_2 ?_
  refine u_astore_n hC d_D_dead_5 (by decide) ?_
  refine u_aload_n hC d_D_dead_6 rfl ?_
  refine u_ifnonnull hC 12 d_D_dead_7 (by decide) ?_
  refine u_aload_n hC d_D_dead_12 rfl ?_
  refine w_get hC f_D_102 (hGs (i - 1) (by omega)) rfl d_D_dead_13 ?_
  refine u_iconst hC (nI 3) d_D_dead_16 (by decide) ?_
  refine u_icmp_eq hC 32 d_D_dead_17 (by decide) (fun h_17 => ?_) (fun h_17 => absurd hd h_17)
  refine u_iconst hC (nI 1) d_D_dead_32 (by decide) ?_
  refine u_goto hC 37 d_D_dead_33 (by decide) ?_
  exact u_zret hC hr rfl d_D_dead_37 (Nat.le_of_ble_eq_true rfl) (Nat.le_of_ble_eq_true rfl) ⟨rfl, rfl⟩
set_option maxHeartbeats 4000000 in
set_option maxRecDepth 100000 in
theorem c_D_deadE {i : Nat} {y v : Int32} {w2 : Value} (hK : Dk κ z ws h0 hs hl cap cm tr na mo to co sn nb n el ro lv cd pl) (hn4 : n ≤ 4000) (hcap : cap ≤ 10000) (h1 : 1 ≤ i) (h2 : i ≤ n) (hd : ¬ cd (i - 1) = nI 3) (C2 : Ct l y_D_find b_D_find 2 (some (.object "SnapshotDesk$Given")) 3 0 0 D (gk κ, z) ws [.ref h0, .int y] (rt w2 ws)) (E2 : Ct l y_D_isInEveryLiveSnapshot b_D_isInEveryLiveSnapshot 4 (some .boolean) 1 0 0 D (gk κ, z) ws [.ref h0, w2] (rt (.int v) ws)) : Ct l y_D_dead b_D_dead 4 (some .boolean) 4 0 0 D (gk κ, z) ws [.ref h0, .int (nI i), .int y] (rt (.int (if v = 0 then 0 else 1)) ws) := by
  refine Ct.of (by decide) (Nat.le_of_ble_eq_true rfl) ?_
  intro p e s0 m below meth c A hC hr hn
  obtain ⟨hO, hS9, hLs, hTr, hTi, hNi, hGs, hGi⟩ := id hK
  obtain ⟨mc9, he9, hL, hL2⟩ := id hLs
  refine u_aload_n hC d_D_dead_0 rfl ?_
  refine u_iload_n hC d_D_dead_1 rfl ?_
  refine w_callVr hC (c_D_findT hK hn4 hcap h1 h2) k_D_98 i_D_find hO rfl ⟨(Nat.le_of_ble_eq_true rfl), (Nat.le_of_ble_eq_true rfl)⟩ ⟨(Nat.le_of_ble_eq_true rfl), (Nat.le_of_ble_eq_true rfl)⟩ rfl rfl (Nat.le_of_ble_eq_true rfl) d_D_dead_2 ?_
  refine u_astore_n hC d_D_dead_5 (by decide) ?_
  refine u_aload_n hC d_D_dead_6 rfl ?_
  refine u_ifnonnull hC 12 d_D_dead_7 (by decide) ?_
  refine u_aload_n hC d_D_dead_12 rfl ?_
  refine w_get hC f_D_102 (hGs (i - 1) (by omega)) rfl d_D_dead_13 ?_
  refine u_iconst hC (nI 3) d_D_dead_16 (by decide) ?_
  refine u_icmp_eq hC 32 d_D_dead_17 (by decide) (fun h_17 => absurd h_17 hd) (fun h_17 => ?_)
  refine u_aload_n hC d_D_dead_20 rfl ?_
  refine u_aload_n hC d_D_dead_21 rfl ?_
  refine u_iload_n hC d_D_dead_22 rfl ?_
  refine w_callVr hC (C2) k_D_98 i_D_find hO rfl ⟨(Nat.le_of_ble_eq_true rfl), (Nat.le_of_ble_eq_true rfl)⟩ ⟨(Nat.le_of_ble_eq_true rfl), (Nat.le_of_ble_eq_true rfl)⟩ rfl rfl (Nat.le_of_ble_eq_true rfl) d_D_dead_23 ?_
  refine w_callVr hC (E2) k_D_115 i_D_isInEveryLiveSnapshot hO rfl ⟨(Nat.le_of_ble_eq_true rfl), (Nat.le_of_ble_eq_true rfl)⟩ ⟨(Nat.le_of_ble_eq_true rfl), (Nat.le_of_ble_eq_true rfl)⟩ rfl rfl (Nat.le_of_ble_eq_true rfl) d_D_dead_26 ?_
  refine u_if_eq hC 36 d_D_dead_29 (by decide) (fun h_29 => ?_) (fun h_29 => ?_)
  · refine u_iconst hC (nI 0) d_D_dead_36 (by decide) ?_
    exact u_zret hC hr rfl d_D_dead_37 (Nat.le_of_ble_eq_true rfl) (Nat.le_of_ble_eq_true rfl) ⟨by first | (rw [if_pos h_29]; rfl) | (rw [if_neg h_29]; rfl), rfl⟩
  · refine u_iconst hC (nI 1) d_D_dead_32 (by decide) ?_
    refine u_goto hC 37 d_D_dead_33 (by decide) ?_
    exact u_zret hC hr rfl d_D_dead_37 (Nat.le_of_ble_eq_true rfl) (Nat.le_of_ble_eq_true rfl) ⟨by first | (rw [if_pos h_29]; rfl) | (rw [if_neg h_29]; rfl), rfl⟩
set_option maxHeartbeats 4000000 in
set_option maxRecDepth 100000 in
theorem c_D_look5 {s : Int32} (hK : Dk κ z ws h0 hs hl cap cm tr na mo to co sn nb n el ro lv cd pl) : Ct l y_D_look b_D_look 4 (some .int) 2 0 0 D (gk κ, z) ws [.ref h0, .int s, .int (nI 5)] (rt (.int (nI n)) ws) := by
  refine Ct.of (by decide) (Nat.le_of_ble_eq_true rfl) ?_
  intro p e s0 m below meth c A hC hr hn
  obtain ⟨hO, hS9, hLs, hTr, hTi, hNi, hGs, hGi⟩ := id hK
  obtain ⟨mc9, he9, hL, hL2⟩ := id hLs
  refine u_iload_n hC d_D_look_0 rfl ?_
  refine u_iconst hC (nI 5) d_D_look_1 (by decide) ?_
  refine u_icmp_ne hC 13 d_D_look_2 (by decide) (fun h_2 => absurd rfl h_2) (fun h_2 => ?_)
  refine u_aload_n hC d_D_look_5 rfl ?_
  refine w_get hC f_D_18 hO rfl d_D_look_6 ?_
  refine w_callVr hC (c_L_size hL) k_D_54 i_L_size hL rfl ⟨(Nat.le_of_ble_eq_true rfl), (Nat.le_of_ble_eq_true rfl)⟩ ⟨(Nat.le_of_ble_eq_true rfl), (Nat.le_of_ble_eq_true rfl)⟩ rfl rfl (Nat.le_of_ble_eq_true rfl) d_D_look_9 ?_
  exact u_iret hC hr d_D_look_12 (Nat.le_of_ble_eq_true rfl) (Nat.le_of_ble_eq_true rfl) ⟨rfl, rfl⟩
set_option maxHeartbeats 4000000 in
set_option maxRecDepth 100000 in
theorem c_D_look6 {s : Int32} (hK : Dk κ z ws h0 hs hl cap cm tr na mo to co sn nb n el ro lv cd pl) : Ct l y_D_look b_D_look 4 (some .int) 2 0 0 D (gk κ, z) ws [.ref h0, .int s, .int (nI 6)] (rt (.int cm) ws) := by
  refine Ct.of (by decide) (Nat.le_of_ble_eq_true rfl) ?_
  intro p e s0 m below meth c A hC hr hn
  obtain ⟨hO, hS9, hLs, hTr, hTi, hNi, hGs, hGi⟩ := id hK
  obtain ⟨mc9, he9, hL, hL2⟩ := id hLs
  refine u_iload_n hC d_D_look_0 rfl ?_
  refine u_iconst hC (nI 5) d_D_look_1 (by decide) ?_
  refine u_icmp_ne hC 13 d_D_look_2 (by decide) (fun h_2 => ?_) (fun h_2 => absurd h_2 (by decide))
  refine u_iload_n hC d_D_look_13 rfl ?_
  refine u_bipush hC (nI 6) d_D_look_14 (by decide) ?_
  refine u_icmp_ne hC 24 d_D_look_16 (by decide) (fun h_16 => absurd rfl h_16) (fun h_16 => ?_)
  refine u_aload_n hC d_D_look_19 rfl ?_
  refine w_get hC f_D_22 hO rfl d_D_look_20 ?_
  exact u_iret hC hr d_D_look_23 (Nat.le_of_ble_eq_true rfl) (Nat.le_of_ble_eq_true rfl) ⟨rfl, rfl⟩
set_option maxHeartbeats 4000000 in
set_option maxRecDepth 100000 in
theorem c_D_lookF {s x : Int32} (hK : Dk κ z ws h0 hs hl cap cm tr na mo to co sn nb n el ro lv cd pl) (hb : ¬ ∃ j t : Nat, j < 6 ∧ s = nI j ∧ tr j = some t) (h5 : ¬ x = nI 5) (h6 : ¬ x = nI 6) : Ct l y_D_look b_D_look 4 (some .int) 2 0 0 D (gk κ, z) ws [.ref h0, .int s, .int x] (rt (.int (-1)) ws) := by
  refine Ct.of (by decide) (Nat.le_of_ble_eq_true rfl) ?_
  intro p e s0 m below meth c A hC hr hn
  obtain ⟨hO, hS9, hLs, hTr, hTi, hNi, hGs, hGi⟩ := id hK
  obtain ⟨mc9, he9, hL, hL2⟩ := id hLs
  refine u_iload_n hC d_D_look_0 rfl ?_
  refine u_iconst hC (nI 5) d_D_look_1 (by decide) ?_
  refine u_icmp_ne hC 13 d_D_look_2 (by decide) (fun h_2 => ?_) (fun h_2 => absurd h_2 h5)
  refine u_iload_n hC d_D_look_13 rfl ?_
  refine u_bipush hC (nI 6) d_D_look_14 (by decide) ?_
  refine u_icmp_ne hC 24 d_D_look_16 (by decide) (fun h_16 => ?_) (fun h_16 => absurd h_16 h6)
  refine u_aload_n hC d_D_look_24 rfl ?_
  refine u_iload_n hC d_D_look_25 rfl ?_
  refine w_callVr hC (c_D_trF hK hb) k_D_33 i_D_transactionOf hO rfl ⟨(Nat.le_of_ble_eq_true rfl), (Nat.le_of_ble_eq_true rfl)⟩ ⟨(Nat.le_of_ble_eq_true rfl), (Nat.le_of_ble_eq_true rfl)⟩ rfl rfl (Nat.le_of_ble_eq_true rfl) d_D_look_26 ?_
  refine u_astore_nN hC d_D_look_29 (by decide) ?_
  refine u_aload_nN hC d_D_look_30 rfl ?_
  refine u_ifnonnullN hC d_D_look_31 ?_
  refine u_iconst hC (-1) d_D_look_34 (by decide) ?_
  refine u_goto hC 43 d_D_look_35 (by decide) ?_
  exact u_iret hC hr d_D_look_43 (Nat.le_of_ble_eq_true rfl) (Nat.le_of_ble_eq_true rfl) ⟨rfl, rfl⟩
set_option maxHeartbeats 4000000 in
set_option maxRecDepth 100000 in
theorem c_D_lookT {j t : Nat} {x v : Int32} (hK : Dk κ z ws h0 hs hl cap cm tr na mo to co sn nb n el ro lv cd pl) (hj : j < 6) (ht : tr j = some t) (h5 : ¬ x = nI 5) (h6 : ¬ x = nI 6) (S1 : Ct l y_D_lookAt b_D_lookAt 2 (some .int) 0 0 0 D (gk κ, z) ws [.ref t, .int x] (rt (.int v) ws)) : Ct l y_D_look b_D_look 4 (some .int) 2 0 0 D (gk κ, z) ws [.ref h0, .int (nI j), .int x] (rt (.int v) ws) := by
  refine Ct.of (by decide) (Nat.le_of_ble_eq_true rfl) ?_
  intro p e s0 m below meth c A hC hr hn
  obtain ⟨hO, hS9, hLs, hTr, hTi, hNi, hGs, hGi⟩ := id hK
  obtain ⟨mc9, he9, hL, hL2⟩ := id hLs
  obtain ⟨hT, hN⟩ := hTr j t hj ht
  refine u_iload_n hC d_D_look_0 rfl ?_
  refine u_iconst hC (nI 5) d_D_look_1 (by decide) ?_
  refine u_icmp_ne hC 13 d_D_look_2 (by decide) (fun h_2 => ?_) (fun h_2 => absurd h_2 h5)
  refine u_iload_n hC d_D_look_13 rfl ?_
  refine u_bipush hC (nI 6) d_D_look_14 (by decide) ?_
  refine u_icmp_ne hC 24 d_D_look_16 (by decide) (fun h_16 => ?_) (fun h_16 => absurd h_16 h6)
  refine u_aload_n hC d_D_look_24 rfl ?_
  refine u_iload_n hC d_D_look_25 rfl ?_
  refine w_callVr hC (c_D_trT hK hj ht) k_D_33 i_D_transactionOf hO rfl ⟨(Nat.le_of_ble_eq_true rfl), (Nat.le_of_ble_eq_true rfl)⟩ ⟨(Nat.le_of_ble_eq_true rfl), (Nat.le_of_ble_eq_true rfl)⟩ rfl rfl (Nat.le_of_ble_eq_true rfl) d_D_look_26 ?_
  refine u_astore_n hC d_D_look_29 (by decide) ?_
  refine u_aload_n hC d_D_look_30 rfl ?_
  refine u_ifnonnull hC 38 d_D_look_31 (by decide) ?_
  refine u_aload_n hC d_D_look_38 rfl ?_
  refine u_iload_n hC d_D_look_39 rfl ?_
  refine u_callSr hC (S1) k_D_118 s_D_lookAt ⟨(Nat.le_of_ble_eq_true rfl), (Nat.le_of_ble_eq_true rfl)⟩ ⟨(Nat.le_of_ble_eq_true rfl), (Nat.le_of_ble_eq_true rfl)⟩ rfl rfl (Nat.le_of_ble_eq_true rfl) d_D_look_40 ?_
  exact u_iret hC hr d_D_look_43 (Nat.le_of_ble_eq_true rfl) (Nat.le_of_ble_eq_true rfl) ⟨rfl, rfl⟩
end DR
end
section
theorem u_non {p : Program} {l : Launch} {e : Env} {R : Room} {s : State} {m : MethodId} {args : Array Value} {below : List Frame} {meth : Method} {c : Code} {k n : Nat} {Q : State → Prop} {nL : Nat} {D : va_G} {A : Nat → Prop} {pc : Nat} {L : List (Nat × Value)} {st : List Value} {ws : va_W} (kk : U p l e R s m args below meth c nL D A ws k n Q pc L st) : U p l e R s m args below meth c nL D A ws k n Q pc L ((none : Option Value).toList ++ st) := kk
/-! Changes of the program's state, one number after the other. -/
abbrev d_ok (tr : Nat → Option Nat) (sn : Nat → Int32) (x : Int32) (s : Nat) : Prop := ∀ t, tr s = some t → sn s = -1 ∨ ¬ sn s < x
section DP
variable {l : Launch} {D : va_G} {κ : Nat → ClassId} {z : Nat × Nat} {ws : va_W} {h0 hs hl cap : Nat} {cm : Int32} {tr : Nat → Option Nat} {na : Nat → Nat} {mo to co sn : Nat → Int32} {nb : Nat → Nat → Int32} {n : Nat} {el : Nat → Nat} {ro lv cd pl : Nat → Int32}
theorem Dk.ext {w' : va_W} (hK : Dk κ z ws h0 hs hl cap cm tr na mo to co sn nb n el ro lv cd pl) (hx : ∀ b x, wg ws b = some x → wg w' b = some x) : Dk κ z w' h0 hs hl cap cm tr na mo to co sn nb n el ro lv cd pl := by
  obtain ⟨a1, a2, a3, a4, a5, a6, a7, a8⟩ := hK
  exact ⟨hx _ _ a1, hx _ _ a2, a3.moved (fun b x h _ => hx b x h), fun j t hj ht => ⟨hx _ _ (a4 j t hj ht).1, hx _ _ (a4 j t hj ht).2⟩, a5, a6, fun i hi => hx _ _ (a7 i hi), a8⟩
theorem Dk.setlv {P : Nat → Prop} {y : Int32} {i : Nat} (hK : Dk κ z ws h0 hs hl cap cm tr na mo to co sn nb n el ro (dset P lv y i) cd pl) (hi : i < n) (hP : P i) : Dk κ z (wup ws (el i) (cG (ro i) y (cd i) (pl i))) h0 hs hl cap cm tr na mo to co sn nb n el ro (dset P lv y (i + 1)) cd pl := by
  have h := hK.updG hi y (cd i) (pl i)
  rw [m_upd_id, m_upd_id, dset_T hP] at h
  exact h
theorem Dk.setcd {P : Nat → Prop} {y : Int32} {i : Nat} (hK : Dk κ z ws h0 hs hl cap cm tr na mo to co sn nb n el ro lv (dset P cd y i) pl) (hi : i < n) (hP : P i) : Dk κ z (wup ws (el i) (cG (ro i) (lv i) y (pl i))) h0 hs hl cap cm tr na mo to co sn nb n el ro lv (dset P cd y (i + 1)) pl := by
  have h := hK.updG hi (lv i) y (pl i)
  rw [m_upd_id, m_upd_id, dset_T hP] at h
  exact h
theorem Dk.setcp {P : Nat → Prop} {y x : Int32} {i : Nat} (hK : Dk κ z ws h0 hs hl cap cm tr na mo to co sn nb n el ro lv (dset P cd y i) (dset P pl x i)) (hi : i < n) (hP : P i) : Dk κ z (wup ws (el i) (cG (ro i) (lv i) y x)) h0 hs hl cap cm tr na mo to co sn nb n el ro lv (dset P cd y (i + 1)) (dset P pl x (i + 1)) := by
  have h := hK.updG hi (lv i) y x
  rw [m_upd_id, dset_T hP, dset_T hP] at h
  exact h
/-- a session gets a transaction -/
theorem Dk.beg {j t q : Nat} {x : va_E} {md a b c : Int32} {f : Nat → Int32} (hK : Dk κ z ws h0 hs hl cap cm tr na mo to co sn nb n el ro lv cd pl) (hj : j < 6) (hn : tr j = none) (ht : wg ws t = none) (hq : wg (ws ++ [(t, x)]) q = none) :
    Dk κ z (wup (wup ((ws ++ [(t, x)]) ++ [(q, aI κ 8 f)]) t (cT md q a b c)) hs (aQ κ 2 6 (va_up tr j (some t)))) h0 hs hl cap cm (va_up tr j (some t)) (va_up na j q) (upd mo j md) (upd to j a) (upd co j b) (upd sn j c) (va_up nb j f) n el ro lv cd pl := by
  obtain ⟨a1, a2, a3, a4, a5, a6, a7, a8⟩ := hK
  have hqt : q ≠ t := fun w => by rw [w, wg_push ht] at hq; cases hq
  have hq0 : wg ws q = none := by rw [wg_pushN hqt] at hq; exact hq
  have key : ∀ {b0 : Nat} {y : va_E}, wg ws b0 = some y → (∀ g, y ≠ aQ κ 2 6 g) → wg (wup (wup ((ws ++ [(t, x)]) ++ [(q, aI κ 8 f)]) t (cT md q a b c)) hs (aQ κ 2 6 (va_up tr j (some t)))) b0 = some y := by
    intro b0 y hb hy
    have n1 : b0 ≠ t := fun w => by rw [w, ht] at hb; cases hb
    rw [wg_upN (wg_ne hb a2 (hy _)), wg_upN n1]
    exact wg_app (wg_app hb)
  have hth : t ≠ hs := fun w => by rw [w, a2] at ht; cases ht
  have hqh : q ≠ hs := fun w => by rw [w, a2] at hq0; cases hq0
  have old : ∀ {i s : Nat}, i ≠ j → va_up tr j (some t) i = some s → tr i = some s := by
    intro i s c hi
    rw [show va_up tr j (some t) i = tr i from if_neg c] at hi
    exact hi
  have self : va_up tr j (some t) j = some t := if_pos rfl
  refine ⟨key a1 (by intro fs w; cases w), wg_up (x := aQ κ 2 6 tr) (by rw [wg_upN (Ne.symm hth)]; exact wg_app (wg_app a2)), a3.moved (fun b0 y hb hy => key hb (by
    intro g w
    subst w
    rcases hy with ⟨fs, e⟩ | ⟨f9, e, g9⟩
    · cases e
    · exact aQ6 g9 e)), ?_, ?_, ?_, fun i hi => key (a7 i hi) (by intro fs w; cases w), a8⟩
  · intro i s hi hs9
    by_cases c9 : i = j
    · subst c9
      have e9 : t = s := Option.some.inj (self.symm.trans hs9)
      subst e9
      rw [pk_us, pk_us, pk_us, pk_us, show va_up na i q i = q from if_pos rfl, show va_up nb i f i = f from if_pos rfl]
      exact ⟨by rw [wg_upN hth]; exact wg_up (wg_app (wg_push ht)), by rw [wg_upN hqh, wg_upN hqt]; exact wg_push hq⟩
    · rw [pk_un c9, pk_un c9, pk_un c9, pk_un c9, show va_up na j q i = na i from if_neg c9, show va_up nb j f i = nb i from if_neg c9]
      exact ⟨key (a4 i s hi (old c9 hs9)).1 (by intro fs w; cases w), key (a4 i s hi (old c9 hs9)).2 (fun g => aIQ)⟩
  · intro i k s hi hk h1 h2
    by_cases c1 : i = j
    · by_cases c2 : k = j
      · rw [c1, c2]
      · rw [c1, self] at h1
        have e9 := Option.some.inj h1
        rw [← e9] at h2
        have := (a4 k t hk (old c2 h2)).1
        rw [ht] at this
        cases this
    · by_cases c2 : k = j
      · rw [c2, self] at h2
        have e9 := Option.some.inj h2
        rw [← e9] at h1
        have := (a4 i t hi (old c1 h1)).1
        rw [ht] at this
        cases this
      · exact a5 i k s hi hk (old c1 h1) (old c2 h2)
  · intro i k s u hi hk h1 h2 h3
    by_cases c1 : i = j
    · by_cases c2 : k = j
      · rw [c1, c2]
      · rw [show va_up na j q i = q from if_pos c1, show va_up na j q k = na k from if_neg c2] at h3
        have := (a4 k u hk (old c2 h2)).2
        rw [← h3, hq0] at this
        cases this
    · by_cases c2 : k = j
      · rw [show va_up na j q k = q from if_pos c2, show va_up na j q i = na i from if_neg c1] at h3
        have := (a4 i s hi (old c1 h1)).2
        rw [h3, hq0] at this
        cases this
      · rw [show va_up na j q i = na i from if_neg c1, show va_up na j q k = na k from if_neg c2] at h3
        exact a6 i k s u hi hk (old c1 h1) (old c2 h2) h3
end DP
section DW0
variable {l : Launch} {D : va_G} {κ : Nat → ClassId} {z : Nat × Nat} {ws : va_W} {h0 hs hl cap : Nat} {cm : Int32} {tr : Nat → Option Nat} {na : Nat → Nat} {mo to co sn : Nat → Int32} {nb : Nat → Nat → Int32} {n : Nat} {el : Nat → Nat} {ro lv cd pl : Nat → Int32}
variable {p : Program} {e : Env} {R : Room} {s0 : State} {m : MethodId} {args : Array Value} {below : List Frame} {meth : Method} {c : Code} {A : Nat → Prop} {Q : State → Prop}
set_option maxHeartbeats 4000000 in
set_option maxRecDepth 100000 in
theorem l_D_every {q : Nat} {r0 l0 d0 p0 : Int32} (hG : wg ws q = some (cG r0 l0 d0 p0)) (hK : Dk κ z ws h0 hs hl cap cm tr na mo to co sn nb n el ro lv cd pl) (hC : vx p s0 m args meth c b_D_isInEveryLiveSnapshot 4 R_D D (gk κ, z) A) (hR : 0 + 1 ≤ R.frames ∧ 8 + (1 + 11) + 40 * 0 ≤ R.locals) (e1 : (∀ s, s < 6 → d_ok tr sn p0 s) → U p l e R s0 m args below meth c 4 D A ws 0 0 Q 59 [(2, .int (nI 6)), (0, .ref h0), (1, .ref q)] []) (e0 : (∃ s, s < 6 ∧ ¬ d_ok tr sn p0 s) → ∀ k t : Nat, U p l e R s0 m args below meth c 4 D A ws 0 0 Q 51 [(3, .ref t), (2, .int (nI k)), (0, .ref h0), (1, .ref q)] []) : ∀ r k : Nat, k + r = 6 → (∀ s, s < k → d_ok tr sn p0 s) → U p l e R s0 m args below meth c 4 D A ws 0 0 Q 16 [(2, .int (nI k)), (0, .ref h0), (1, .ref q)] [] := by
  obtain ⟨hO, hS9, hLs, hTr, hTi, hNi, hGs, hGi⟩ := id hK
  intro r
  induction r with
  | zero =>
    intro k hk ho
    have e : k = 6 := by omega
    subst e
    refine u_iload_n hC d_D_isInEveryLiveSnapshot_16 rfl ?_
    refine u_bipush hC (nI 6) d_D_isInEveryLiveSnapshot_17 (by decide) ?_
    refine u_icmp_ge hC 59 d_D_isInEveryLiveSnapshot_19 (by decide) (fun h_19 => ?_) (fun h_19 => absurd (by decide) h_19)
    exact e1 ho
  | succ r ih =>
    intro k hk ho
    cases htr : tr k with
    | none =>
      refine u_iload_n hC d_D_isInEveryLiveSnapshot_16 rfl ?_
      refine u_bipush hC (nI 6) d_D_isInEveryLiveSnapshot_17 (by decide) ?_
      refine u_icmp_ge hC 59 d_D_isInEveryLiveSnapshot_19 (by decide) (fun h_19 => absurd h_19 (nI_ge (by omega) (by decide))) (fun h_19 => ?_)
      refine u_aload_n hC d_D_isInEveryLiveSnapshot_22 rfl ?_
      refine w_get hC f_D_11 hO rfl d_D_isInEveryLiveSnapshot_23 ?_
      refine u_iload_n hC d_D_isInEveryLiveSnapshot_26 rfl ?_
      refine w_aldq hC 2 hS9 rfl k rfl (by omega) (by decide) d_D_isInEveryLiveSnapshot_27 ?_
      rw [htr]
      refine u_astore_nN hC d_D_isInEveryLiveSnapshot_28 (by decide) ?_
      refine u_aload_nN hC d_D_isInEveryLiveSnapshot_29 rfl ?_
      refine u_ifnullN hC 53 d_D_isInEveryLiveSnapshot_30 (by decide) ?_
      refine u_iinc hC (nI (k + 1)) (j := 1) d_D_isInEveryLiveSnapshot_53 rfl (nI_1 k) (by decide) ?_
      refine u_goto hC 16 d_D_isInEveryLiveSnapshot_56 (by decide) ?_
      refine u_pick [0, 2, 3] rfl ?_
      exact ih (k + 1) (by omega) (fun s hs7 => by
        rcases Nat.lt_or_ge s k with w | w
        · exact ho s w
        · have e9 : s = k := by omega
          rw [e9]
          exact fun t ht => by rw [htr] at ht; cases ht)
    | some t =>
      have hT := (hTr k t (by omega) htr).1
      by_cases hsn : sn k = -1
      · refine u_iload_n hC d_D_isInEveryLiveSnapshot_16 rfl ?_
        refine u_bipush hC (nI 6) d_D_isInEveryLiveSnapshot_17 (by decide) ?_
        refine u_icmp_ge hC 59 d_D_isInEveryLiveSnapshot_19 (by decide) (fun h_19 => absurd h_19 (nI_ge (by omega) (by decide))) (fun h_19 => ?_)
        refine u_aload_n hC d_D_isInEveryLiveSnapshot_22 rfl ?_
        refine w_get hC f_D_11 hO rfl d_D_isInEveryLiveSnapshot_23 ?_
        refine u_iload_n hC d_D_isInEveryLiveSnapshot_26 rfl ?_
        refine w_aldq hC 2 hS9 rfl k rfl (by omega) (by decide) d_D_isInEveryLiveSnapshot_27 ?_
        rw [htr]
        refine u_astore_n hC d_D_isInEveryLiveSnapshot_28 (by decide) ?_
        refine u_aload_n hC d_D_isInEveryLiveSnapshot_29 rfl ?_
        refine u_ifnull hC d_D_isInEveryLiveSnapshot_30 ?_
        refine u_aload_n hC d_D_isInEveryLiveSnapshot_33 rfl ?_
        refine w_callVr hC (c_T_hasF hT hsn) k_D_43 i_T_hasSnapshot hT rfl hR ⟨Nat.zero_le _, Nat.zero_le _⟩ rfl rfl (Nat.le_of_ble_eq_true rfl) d_D_isInEveryLiveSnapshot_34 ?_
        refine u_if_eq hC 53 d_D_isInEveryLiveSnapshot_37 (by decide) (fun h_37 => ?_) (fun h_37 => absurd rfl h_37)
        refine u_iinc hC (nI (k + 1)) (j := 1) d_D_isInEveryLiveSnapshot_53 rfl (nI_1 k) (by decide) ?_
        refine u_goto hC 16 d_D_isInEveryLiveSnapshot_56 (by decide) ?_
        refine u_pick [0, 2, 3] rfl ?_
        exact ih (k + 1) (by omega) (fun s hs7 => by
          rcases Nat.lt_or_ge s k with w | w
          · exact ho s w
          · have e9 : s = k := by omega
            rw [e9]
            exact fun _ _ => Or.inl hsn)
      · by_cases hlt : ¬ sn k < p0
        · refine u_iload_n hC d_D_isInEveryLiveSnapshot_16 rfl ?_
          refine u_bipush hC (nI 6) d_D_isInEveryLiveSnapshot_17 (by decide) ?_
          refine u_icmp_ge hC 59 d_D_isInEveryLiveSnapshot_19 (by decide) (fun h_19 => absurd h_19 (nI_ge (by omega) (by decide))) (fun h_19 => ?_)
          refine u_aload_n hC d_D_isInEveryLiveSnapshot_22 rfl ?_
          refine w_get hC f_D_11 hO rfl d_D_isInEveryLiveSnapshot_23 ?_
          refine u_iload_n hC d_D_isInEveryLiveSnapshot_26 rfl ?_
          refine w_aldq hC 2 hS9 rfl k rfl (by omega) (by decide) d_D_isInEveryLiveSnapshot_27 ?_
          rw [htr]
          refine u_astore_n hC d_D_isInEveryLiveSnapshot_28 (by decide) ?_
          refine u_aload_n hC d_D_isInEveryLiveSnapshot_29 rfl ?_
          refine u_ifnull hC d_D_isInEveryLiveSnapshot_30 ?_
          refine u_aload_n hC d_D_isInEveryLiveSnapshot_33 rfl ?_
          refine w_callVr hC (c_T_hasT hT hsn) k_D_43 i_T_hasSnapshot hT rfl hR ⟨Nat.zero_le _, Nat.zero_le _⟩ rfl rfl (Nat.le_of_ble_eq_true rfl) d_D_isInEveryLiveSnapshot_34 ?_
          refine u_if_eq hC 53 d_D_isInEveryLiveSnapshot_37 (by decide) (fun h_37 => absurd h_37 (by decide)) (fun h_37 => ?_)
          refine u_aload_n hC d_D_isInEveryLiveSnapshot_40 rfl ?_
          refine w_get hC f_D_108 hG rfl d_D_isInEveryLiveSnapshot_41 ?_
          refine u_aload_n hC d_D_isInEveryLiveSnapshot_44 rfl ?_
          refine w_get hC f_D_47 hT rfl d_D_isInEveryLiveSnapshot_45 ?_
          refine u_icmp_le hC 53 d_D_isInEveryLiveSnapshot_48 (by decide) (fun h_48 => ?_) (fun h_48 => absurd (Int32.not_lt.mp hlt) h_48)
          refine u_iinc hC (nI (k + 1)) (j := 1) d_D_isInEveryLiveSnapshot_53 rfl (nI_1 k) (by decide) ?_
          refine u_goto hC 16 d_D_isInEveryLiveSnapshot_56 (by decide) ?_
          refine u_pick [0, 2, 3] rfl ?_
          exact ih (k + 1) (by omega) (fun s hs7 => by
            rcases Nat.lt_or_ge s k with w | w
            · exact ho s w
            · have e9 : s = k := by omega
              rw [e9]
              exact fun _ _ => Or.inr hlt)
        · refine u_iload_n hC d_D_isInEveryLiveSnapshot_16 rfl ?_
          refine u_bipush hC (nI 6) d_D_isInEveryLiveSnapshot_17 (by decide) ?_
          refine u_icmp_ge hC 59 d_D_isInEveryLiveSnapshot_19 (by decide) (fun h_19 => absurd h_19 (nI_ge (by omega) (by decide))) (fun h_19 => ?_)
          refine u_aload_n hC d_D_isInEveryLiveSnapshot_22 rfl ?_
          refine w_get hC f_D_11 hO rfl d_D_isInEveryLiveSnapshot_23 ?_
          refine u_iload_n hC d_D_isInEveryLiveSnapshot_26 rfl ?_
          refine w_aldq hC 2 hS9 rfl k rfl (by omega) (by decide) d_D_isInEveryLiveSnapshot_27 ?_
          rw [htr]
          refine u_astore_n hC d_D_isInEveryLiveSnapshot_28 (by decide) ?_
          refine u_aload_n hC d_D_isInEveryLiveSnapshot_29 rfl ?_
          refine u_ifnull hC d_D_isInEveryLiveSnapshot_30 ?_
          refine u_aload_n hC d_D_isInEveryLiveSnapshot_33 rfl ?_
          refine w_callVr hC (c_T_hasT hT hsn) k_D_43 i_T_hasSnapshot hT rfl hR ⟨Nat.zero_le _, Nat.zero_le _⟩ rfl rfl (Nat.le_of_ble_eq_true rfl) d_D_isInEveryLiveSnapshot_34 ?_
          refine u_if_eq hC 53 d_D_isInEveryLiveSnapshot_37 (by decide) (fun h_37 => absurd h_37 (by decide)) (fun h_37 => ?_)
          refine u_aload_n hC d_D_isInEveryLiveSnapshot_40 rfl ?_
          refine w_get hC f_D_108 hG rfl d_D_isInEveryLiveSnapshot_41 ?_
          refine u_aload_n hC d_D_isInEveryLiveSnapshot_44 rfl ?_
          refine w_get hC f_D_47 hT rfl d_D_isInEveryLiveSnapshot_45 ?_
          refine u_icmp_le hC 53 d_D_isInEveryLiveSnapshot_48 (by decide) (fun h_48 => absurd h_48 (fun w => hlt (Int32.not_lt.mpr w))) (fun h_48 => ?_)
          exact e0 ⟨k, by omega, fun w => (w t htr).elim hsn hlt⟩ k t
end DW0
section DW1
variable {l : Launch} {D : va_G} {κ : Nat → ClassId} {z : Nat × Nat} {ws : va_W} {h0 hs hl cap : Nat} {cm : Int32} {tr : Nat → Option Nat} {na : Nat → Nat} {mo to co sn : Nat → Int32} {nb : Nat → Nat → Int32} {n : Nat} {el : Nat → Nat} {ro lv cd pl : Nat → Int32}

set_option maxHeartbeats 4000000 in
set_option maxRecDepth 100000 in
theorem c_D_ieN  : Ct l y_D_isInEveryLiveSnapshot b_D_isInEveryLiveSnapshot 4 (some .boolean) 1 0 0 D (gk κ, z) ws [.ref h0, .null] (rt (.int 0) ws) := by
  refine Ct.of (by decide) (Nat.le_of_ble_eq_true rfl) ?_
  intro p e s0 m below meth c A hC hr hn
  refine u_aload_nN hC d_D_isInEveryLiveSnapshot_0 rfl ?_
  refine u_ifnullN hC 12 d_D_isInEveryLiveSnapshot_1 (by decide) ?_
  refine u_iconst hC (nI 0) d_D_isInEveryLiveSnapshot_12 (by decide) ?_
  exact u_zret hC hr rfl d_D_isInEveryLiveSnapshot_13 (Nat.le_of_ble_eq_true rfl) (Nat.le_of_ble_eq_true rfl) ⟨rfl, rfl⟩
set_option maxHeartbeats 4000000 in
set_option maxRecDepth 100000 in
theorem c_D_ieU {q : Nat} {r0 l0 d0 p0 : Int32} (hG : wg ws q = some (cG r0 l0 d0 p0)) (hd : ¬ d0 = nI 2) : Ct l y_D_isInEveryLiveSnapshot b_D_isInEveryLiveSnapshot 4 (some .boolean) 1 0 0 D (gk κ, z) ws [.ref h0, .ref q] (rt (.int 0) ws) := by
  refine Ct.of (by decide) (Nat.le_of_ble_eq_true rfl) ?_
  intro p e s0 m below meth c A hC hr hn
  refine u_aload_n hC d_D_isInEveryLiveSnapshot_0 rfl ?_
  refine u_ifnull hC d_D_isInEveryLiveSnapshot_1 ?_
  refine u_aload_n hC d_D_isInEveryLiveSnapshot_4 rfl ?_
  refine w_get hC f_D_102 hG rfl d_D_isInEveryLiveSnapshot_5 ?_
  refine u_iconst hC (nI 2) d_D_isInEveryLiveSnapshot_8 (by decide) ?_
  refine u_icmp_eq hC 14 d_D_isInEveryLiveSnapshot_9 (by decide) (fun h_9 => absurd h_9 hd) (fun h_9 => ?_)
  refine u_iconst hC (nI 0) d_D_isInEveryLiveSnapshot_12 (by decide) ?_
  exact u_zret hC hr rfl d_D_isInEveryLiveSnapshot_13 (Nat.le_of_ble_eq_true rfl) (Nat.le_of_ble_eq_true rfl) ⟨rfl, rfl⟩
set_option maxHeartbeats 4000000 in
set_option maxRecDepth 100000 in
theorem c_D_ieT {q : Nat} {r0 l0 d0 p0 : Int32} (hG : wg ws q = some (cG r0 l0 d0 p0)) (hK : Dk κ z ws h0 hs hl cap cm tr na mo to co sn nb n el ro lv cd pl) (hd : d0 = nI 2) (ho : ∀ s, s < 6 → d_ok tr sn p0 s) : Ct l y_D_isInEveryLiveSnapshot b_D_isInEveryLiveSnapshot 4 (some .boolean) 1 0 0 D (gk κ, z) ws [.ref h0, .ref q] (rt (.int 1) ws) := by
  refine Ct.of (by decide) (Nat.le_of_ble_eq_true rfl) ?_
  intro p e s0 m below meth c A hC hr hn
  refine u_aload_n hC d_D_isInEveryLiveSnapshot_0 rfl ?_
  refine u_ifnull hC d_D_isInEveryLiveSnapshot_1 ?_
  refine u_aload_n hC d_D_isInEveryLiveSnapshot_4 rfl ?_
  refine w_get hC f_D_102 hG rfl d_D_isInEveryLiveSnapshot_5 ?_
  refine u_iconst hC (nI 2) d_D_isInEveryLiveSnapshot_8 (by decide) ?_
  refine u_icmp_eq hC 14 d_D_isInEveryLiveSnapshot_9 (by decide) (fun h_9 => ?_) (fun h_9 => absurd hd h_9)
  refine u_iconst hC (nI 0) d_D_isInEveryLiveSnapshot_14 (by decide) ?_
  refine u_istore_n hC d_D_isInEveryLiveSnapshot_15 (by decide) ?_
  refine l_D_every hG hK hC ⟨(Nat.le_of_ble_eq_true rfl), (Nat.le_of_ble_eq_true rfl)⟩ (fun _ => ?_) (fun w => by obtain ⟨s, w1, w2⟩ := w; exact absurd (ho s w1) w2) 6 0 rfl (fun s w => absurd w (Nat.not_lt_zero s))
  refine u_iconst hC (nI 1) d_D_isInEveryLiveSnapshot_59 (by decide) ?_
  exact u_zret hC hr rfl d_D_isInEveryLiveSnapshot_60 (Nat.le_of_ble_eq_true rfl) (Nat.le_of_ble_eq_true rfl) ⟨rfl, rfl⟩
set_option maxHeartbeats 4000000 in
set_option maxRecDepth 100000 in
theorem c_D_ieF {q : Nat} {r0 l0 d0 p0 : Int32} (hG : wg ws q = some (cG r0 l0 d0 p0)) (hK : Dk κ z ws h0 hs hl cap cm tr na mo to co sn nb n el ro lv cd pl) (hd : d0 = nI 2) (ho : ¬ ∀ s, s < 6 → d_ok tr sn p0 s) : Ct l y_D_isInEveryLiveSnapshot b_D_isInEveryLiveSnapshot 4 (some .boolean) 1 0 0 D (gk κ, z) ws [.ref h0, .ref q] (rt (.int 0) ws) := by
  refine Ct.of (by decide) (Nat.le_of_ble_eq_true rfl) ?_
  intro p e s0 m below meth c A hC hr hn
  refine u_aload_n hC d_D_isInEveryLiveSnapshot_0 rfl ?_
  refine u_ifnull hC d_D_isInEveryLiveSnapshot_1 ?_
  refine u_aload_n hC d_D_isInEveryLiveSnapshot_4 rfl ?_
  refine w_get hC f_D_102 hG rfl d_D_isInEveryLiveSnapshot_5 ?_
  refine u_iconst hC (nI 2) d_D_isInEveryLiveSnapshot_8 (by decide) ?_
  refine u_icmp_eq hC 14 d_D_isInEveryLiveSnapshot_9 (by decide) (fun h_9 => ?_) (fun h_9 => absurd hd h_9)
  refine u_iconst hC (nI 0) d_D_isInEveryLiveSnapshot_14 (by decide) ?_
  refine u_istore_n hC d_D_isInEveryLiveSnapshot_15 (by decide) ?_
  refine l_D_every hG hK hC ⟨(Nat.le_of_ble_eq_true rfl), (Nat.le_of_ble_eq_true rfl)⟩ (fun w => absurd w ho) (fun _ k t => ?_) 6 0 rfl (fun s w => absurd w (Nat.not_lt_zero s))
  refine u_iconst hC (nI 0) d_D_isInEveryLiveSnapshot_51 (by decide) ?_
  exact u_zret hC hr rfl d_D_isInEveryLiveSnapshot_52 (Nat.le_of_ble_eq_true rfl) (Nat.le_of_ble_eq_true rfl) ⟨rfl, rfl⟩
set_option maxHeartbeats 4000000 in
set_option maxRecDepth 100000 in
theorem c_D_beginB {s md : Int32} (hb : ¬ ∃ j : Nat, j < 6 ∧ s = nI j) : Ct l y_D_begin b_D_begin 3 (some .boolean) 2 0 0 D (gk κ, z) ws [.ref h0, .int s, .int md] (rt (.int 0) ws) := by
  refine Ct.of (by decide) (Nat.le_of_ble_eq_true rfl) ?_
  intro p e s0 m below meth c A hC hr hn
  refine u_iload_n hC d_D_begin_0 rfl ?_
  refine u_callSr hC (c_D_isF hb) k_D_26 s_D_isSession ⟨(Nat.le_of_ble_eq_true rfl), (Nat.le_of_ble_eq_true rfl)⟩ ⟨(Nat.le_of_ble_eq_true rfl), (Nat.le_of_ble_eq_true rfl)⟩ rfl rfl (Nat.le_of_ble_eq_true rfl) d_D_begin_1 ?_
  refine u_if_eq hC 25 d_D_begin_4 (by decide) (fun h_4 => ?_) (fun h_4 => absurd rfl h_4)
  refine u_iconst hC (nI 0) d_D_begin_25 (by decide) ?_
  exact u_zret hC hr rfl d_D_begin_26 (Nat.le_of_ble_eq_true rfl) (Nat.le_of_ble_eq_true rfl) ⟨rfl, rfl⟩
set_option maxHeartbeats 4000000 in
set_option maxRecDepth 100000 in
theorem c_D_beginM {j : Nat} {md : Int32} (hj : j < 6) (hm : ¬ (¬ md < 0 ∧ ¬ nI 2 ≤ md)) : Ct l y_D_begin b_D_begin 3 (some .boolean) 2 0 0 D (gk κ, z) ws [.ref h0, .int (nI j), .int md] (rt (.int 0) ws) := by
  refine Ct.of (by decide) (Nat.le_of_ble_eq_true rfl) ?_
  intro p e s0 m below meth c A hC hr hn
  refine u_iload_n hC d_D_begin_0 rfl ?_
  refine u_callSr hC (c_D_isT hj) k_D_26 s_D_isSession ⟨(Nat.le_of_ble_eq_true rfl), (Nat.le_of_ble_eq_true rfl)⟩ ⟨(Nat.le_of_ble_eq_true rfl), (Nat.le_of_ble_eq_true rfl)⟩ rfl rfl (Nat.le_of_ble_eq_true rfl) d_D_begin_1 ?_
  refine u_if_eq hC 25 d_D_begin_4 (by decide) (fun h_4 => absurd h_4 (by decide)) (fun h_4 => ?_)
  refine u_iload_n hC d_D_begin_7 rfl ?_
  refine u_if_lt hC 25 d_D_begin_8 (by decide) (fun h_8 => ?_) (fun h_8 => ?_)
  · refine u_iconst hC (nI 0) d_D_begin_25 (by decide) ?_
    exact u_zret hC hr rfl d_D_begin_26 (Nat.le_of_ble_eq_true rfl) (Nat.le_of_ble_eq_true rfl) ⟨rfl, rfl⟩
  · refine u_iload_n hC d_D_begin_11 rfl ?_
    refine u_iconst hC (nI 2) d_D_begin_12 (by decide) ?_
    refine u_icmp_ge hC 25 d_D_begin_13 (by decide) (fun h_13 => ?_) (fun h_13 => ?_)
    · refine u_iconst hC (nI 0) d_D_begin_25 (by decide) ?_
      exact u_zret hC hr rfl d_D_begin_26 (Nat.le_of_ble_eq_true rfl) (Nat.le_of_ble_eq_true rfl) ⟨rfl, rfl⟩
    · exact absurd ⟨h_8, h_13⟩ hm
set_option maxHeartbeats 4000000 in
set_option maxRecDepth 100000 in
theorem c_D_beginH {j t : Nat} {md : Int32} (hK : Dk κ z ws h0 hs hl cap cm tr na mo to co sn nb n el ro lv cd pl) (hj : j < 6) (ht : tr j = some t) (hm0 : ¬ md < 0) (hm1 : ¬ nI 2 ≤ md) : Ct l y_D_begin b_D_begin 3 (some .boolean) 2 0 0 D (gk κ, z) ws [.ref h0, .int (nI j), .int md] (rt (.int 0) ws) := by
  refine Ct.of (by decide) (Nat.le_of_ble_eq_true rfl) ?_
  intro p e s0 m below meth c A hC hr hn
  obtain ⟨hO, hS9, hLs, hTr, hTi, hNi, hGs, hGi⟩ := id hK
  obtain ⟨mc9, he9, hL, hL2⟩ := id hLs
  refine u_iload_n hC d_D_begin_0 rfl ?_
  refine u_callSr hC (c_D_isT hj) k_D_26 s_D_isSession ⟨(Nat.le_of_ble_eq_true rfl), (Nat.le_of_ble_eq_true rfl)⟩ ⟨(Nat.le_of_ble_eq_true rfl), (Nat.le_of_ble_eq_true rfl)⟩ rfl rfl (Nat.le_of_ble_eq_true rfl) d_D_begin_1 ?_
  refine u_if_eq hC 25 d_D_begin_4 (by decide) (fun h_4 => absurd h_4 (by decide)) (fun h_4 => ?_)
  refine u_iload_n hC d_D_begin_7 rfl ?_
  refine u_if_lt hC 25 d_D_begin_8 (by decide) (fun h_8 => absurd h_8 hm0) (fun h_8 => ?_)
  refine u_iload_n hC d_D_begin_11 rfl ?_
  refine u_iconst hC (nI 2) d_D_begin_12 (by decide) ?_
  refine u_icmp_ge hC 25 d_D_begin_13 (by decide) (fun h_13 => absurd h_13 hm1) (fun h_13 => ?_)
  refine u_aload_n hC d_D_begin_16 rfl ?_
  refine w_get hC f_D_11 hO rfl d_D_begin_17 ?_
  refine u_iload_n hC d_D_begin_20 rfl ?_
  refine w_aldq hC 2 hS9 rfl j rfl hj (by decide) d_D_begin_21 ?_
  rw [ht]
  refine u_ifnull hC d_D_begin_22 ?_
  refine u_iconst hC (nI 0) d_D_begin_25 (by decide) ?_
  exact u_zret hC hr rfl d_D_begin_26 (Nat.le_of_ble_eq_true rfl) (Nat.le_of_ble_eq_true rfl) ⟨rfl, rfl⟩
set_option maxHeartbeats 4000000 in
set_option maxRecDepth 100000 in
theorem c_D_beginT {j : Nat} {md : Int32} (hK : Dk κ z ws h0 hs hl cap cm tr na mo to co sn nb n el ro lv cd pl) (hj : j < 6) (ht : tr j = none) (hm0 : ¬ md < 0) (hm1 : ¬ nI 2 ≤ md) : Ct l y_D_begin b_D_begin 3 (some .boolean) 2 2 13 D (gk κ, z) ws [.ref h0, .int (nI j), .int md] (fun v w' => v = some (.int 1) ∧ ∃ t q : Nat, Dk κ z w' h0 hs hl cap cm (va_up tr j (some t)) (va_up na j q) (upd mo j md) (upd to j (nI 0)) (upd co j (nI 0)) (upd sn j (-1)) (va_up nb j (fun _ => 0)) n el ro lv cd pl) := by
  refine Ct.of (by decide) (Nat.le_of_ble_eq_true rfl) ?_
  intro p e s0 m below meth c A hC hr hn
  obtain ⟨hO, hS9, hLs, hTr, hTi, hNi, hGs, hGi⟩ := id hK
  obtain ⟨mc9, he9, hL, hL2⟩ := id hLs
  refine u_iload_n hC d_D_begin_0 rfl ?_
  refine u_callSr hC (c_D_isT hj) k_D_26 s_D_isSession ⟨(Nat.le_of_ble_eq_true rfl), (Nat.le_of_ble_eq_true rfl)⟩ ⟨(Nat.le_of_ble_eq_true rfl), (Nat.le_of_ble_eq_true rfl)⟩ rfl rfl (Nat.le_of_ble_eq_true rfl) d_D_begin_1 ?_
  refine u_if_eq hC 25 d_D_begin_4 (by decide) (fun h_4 => absurd h_4 (by decide)) (fun h_4 => ?_)
  refine u_iload_n hC d_D_begin_7 rfl ?_
  refine u_if_lt hC 25 d_D_begin_8 (by decide) (fun h_8 => absurd h_8 hm0) (fun h_8 => ?_)
  refine u_iload_n hC d_D_begin_11 rfl ?_
  refine u_iconst hC (nI 2) d_D_begin_12 (by decide) ?_
  refine u_icmp_ge hC 25 d_D_begin_13 (by decide) (fun h_13 => absurd h_13 hm1) (fun h_13 => ?_)
  refine u_aload_n hC d_D_begin_16 rfl ?_
  refine w_get hC f_D_11 hO rfl d_D_begin_17 ?_
  refine u_iload_n hC d_D_begin_20 rfl ?_
  refine w_aldq hC 2 hS9 rfl j rfl hj (by decide) d_D_begin_21 ?_
  rw [ht]
  refine u_ifnullN hC 27 d_D_begin_22 (by decide) ?_
  refine u_aload_n hC d_D_begin_27 rfl ?_
  refine w_get hC f_D_11 hO rfl d_D_begin_28 ?_
  refine u_iload_n hC d_D_begin_31 rfl ?_
  refine w_new hC n_D_9 (Nat.le_of_ble_eq_true rfl) (Nat.le_of_ble_eq_true rfl) d_D_begin_32 (fun t ht9 => ?_)
  have hS1 := wg_app (w2 := [(t, .inr (3, [.int 0, .null, .int 0, .int 0, .int 0]))]) hS9
  refine u_dup hC d_D_begin_35 rfl ?_
  refine u_iload_n hC d_D_begin_36 rfl ?_
  refine u_callI hC (c_T_init (wg_push ht9)) k_D_30 i_T_init rfl ⟨(Nat.le_of_ble_eq_true rfl), (Nat.le_of_ble_eq_true rfl)⟩ ⟨(Nat.le_of_ble_eq_true rfl), (Nat.le_of_ble_eq_true rfl)⟩ rfl rfl (Nat.le_of_ble_eq_true rfl) d_D_begin_37 (fun v w' hp => ?_)
  obtain ⟨rfl, q, hq, rfl⟩ := hp
  have hth : t ≠ hs := fun w => by rw [w, hS9] at ht9; cases ht9
  refine u_non ?_
  refine w_astq (r := (R_T, F_T, 5)) hC 2 (by rw [wg_upN (Ne.symm hth)]; exact wg_app hS1) rfl (wg_up (wg_app (wg_push ht9))) rfl j rfl hj (by decide) d_D_begin_40 ?_
  refine u_iconst hC (nI 1) d_D_begin_41 (by decide) ?_
  exact u_zret hC hr rfl d_D_begin_42 (Nat.le_of_ble_eq_true rfl) (Nat.le_of_ble_eq_true rfl) ⟨rfl, t, q, Dk.beg hK hj ht ht9 hq⟩
set_option maxHeartbeats 4000000 in
set_option maxRecDepth 100000 in
theorem c_D_statementF {s : Int32} (hK : Dk κ z ws h0 hs hl cap cm tr na mo to co sn nb n el ro lv cd pl) (hb : ¬ ∃ j t : Nat, j < 6 ∧ s = nI j ∧ tr j = some t) : Ct l y_D_statement b_D_statement 3 (some .int) 2 0 0 D (gk κ, z) ws [.ref h0, .int s] (rt (.int (-1)) ws) := by
  refine Ct.of (by decide) (Nat.le_of_ble_eq_true rfl) ?_
  intro p e s0 m below meth c A hC hr hn
  obtain ⟨hO, hS9, hLs, hTr, hTi, hNi, hGs, hGi⟩ := id hK
  obtain ⟨mc9, he9, hL, hL2⟩ := id hLs
  refine u_aload_n hC d_D_statement_0 rfl ?_
  refine u_iload_n hC d_D_statement_1 rfl ?_
  refine w_callVr hC (c_D_trF hK hb) k_D_33 i_D_transactionOf hO rfl ⟨(Nat.le_of_ble_eq_true rfl), (Nat.le_of_ble_eq_true rfl)⟩ ⟨(Nat.le_of_ble_eq_true rfl), (Nat.le_of_ble_eq_true rfl)⟩ rfl rfl (Nat.le_of_ble_eq_true rfl) d_D_statement_2 ?_
  refine u_astore_nN hC d_D_statement_5 (by decide) ?_
  refine u_aload_nN hC d_D_statement_6 rfl ?_
  refine u_ifnonnullN hC d_D_statement_7 ?_
  refine u_iconst hC (-1) d_D_statement_10 (by decide) ?_
  exact u_iret hC hr d_D_statement_11 (Nat.le_of_ble_eq_true rfl) (Nat.le_of_ble_eq_true rfl) ⟨rfl, rfl⟩
set_option maxHeartbeats 4000000 in
set_option maxRecDepth 100000 in
theorem c_D_statementA1 {j t : Nat} (hK : Dk κ z ws h0 hs hl cap cm tr na mo to co sn nb n el ro lv cd pl) (hj : j < 6) (ht : tr j = some t) (hm : mo j = 0) : Ct l y_D_statement b_D_statement 3 (some .int) 2 0 0 D (gk κ, z) ws [.ref h0, .int (nI j)] (fun v w' => v = some (.int (co j + nI 1)) ∧ Dk κ z w' h0 hs hl cap cm tr na mo to (upd co j (co j + nI 1)) (upd sn j cm) nb n el ro lv cd pl) := by
  refine Ct.of (by decide) (Nat.le_of_ble_eq_true rfl) ?_
  intro p e s0 m below meth c A hC hr hn
  obtain ⟨hO, hS9, hLs, hTr, hTi, hNi, hGs, hGi⟩ := id hK
  obtain ⟨mc9, he9, hL, hL2⟩ := id hLs
  obtain ⟨hT, hN⟩ := hTr j t hj ht
  refine u_aload_n hC d_D_statement_0 rfl ?_
  refine u_iload_n hC d_D_statement_1 rfl ?_
  refine w_callVr hC (c_D_trT hK hj ht) k_D_33 i_D_transactionOf hO rfl ⟨(Nat.le_of_ble_eq_true rfl), (Nat.le_of_ble_eq_true rfl)⟩ ⟨(Nat.le_of_ble_eq_true rfl), (Nat.le_of_ble_eq_true rfl)⟩ rfl rfl (Nat.le_of_ble_eq_true rfl) d_D_statement_2 ?_
  refine u_astore_n hC d_D_statement_5 (by decide) ?_
  refine u_aload_n hC d_D_statement_6 rfl ?_
  refine u_ifnonnull hC 12 d_D_statement_7 (by decide) ?_
  refine u_aload_n hC d_D_statement_12 rfl ?_
  refine u_dup hC d_D_statement_13 rfl ?_
  refine w_get hC f_D_37 hT rfl d_D_statement_14 ?_
  refine u_iconst hC (nI 1) d_D_statement_17 (by decide) ?_
  refine u_iadd hC d_D_statement_18 ?_
  refine w_put hC f_D_37 (tt_T 3 (by decide)) rfl hT rfl rfl (Nat.le_of_ble_eq_true rfl) d_D_statement_19 ?_
  have hT1 : wg (wup ws t (cT (mo j) (na j) (to j) (co j + nI 1) (sn j))) t = some (cT (mo j) (na j) (to j) (co j + nI 1) (sn j)) := wg_up hT
  have hO1 : wg (wup ws t (cT (mo j) (na j) (to j) (co j + nI 1) (sn j))) h0 = some (cD hs hl cm) := by rw [wg_upN (wg_ne hO hT (by intro w; cases w))]; exact hO
  refine u_aload_n hC d_D_statement_22 rfl ?_
  refine w_get hC f_D_40 hT1 rfl d_D_statement_23 ?_
  refine u_if_eq hC 36 d_D_statement_26 (by decide) (fun h_26 => ?_) (fun h_26 => absurd hm h_26)
  refine u_aload_n hC d_D_statement_36 rfl ?_
  refine u_aload_n hC d_D_statement_37 rfl ?_
  refine w_get hC f_D_22 hO1 rfl d_D_statement_38 ?_
  refine w_put hC f_D_47 (tt_T 4 (by decide)) rfl hT1 rfl rfl (Nat.le_of_ble_eq_true rfl) d_D_statement_41 ?_
  rw [wup_wup]
  refine u_aload_n hC d_D_statement_44 rfl ?_
  refine w_get hC f_D_37 (wg_up hT) rfl d_D_statement_45 ?_
  exact u_iret hC hr d_D_statement_48 (Nat.le_of_ble_eq_true rfl) (Nat.le_of_ble_eq_true rfl) ⟨rfl, by have h9 := hK.updT hj ht (to j) (co j + nI 1) cm; rw [m_upd_id] at h9; exact h9⟩
set_option maxHeartbeats 4000000 in
set_option maxRecDepth 100000 in
theorem c_D_statementA2 {j t : Nat} (hK : Dk κ z ws h0 hs hl cap cm tr na mo to co sn nb n el ro lv cd pl) (hj : j < 6) (ht : tr j = some t) (hm : ¬ mo j = 0) (hs7 : sn j = -1) : Ct l y_D_statement b_D_statement 3 (some .int) 2 0 0 D (gk κ, z) ws [.ref h0, .int (nI j)] (fun v w' => v = some (.int (co j + nI 1)) ∧ Dk κ z w' h0 hs hl cap cm tr na mo to (upd co j (co j + nI 1)) (upd sn j cm) nb n el ro lv cd pl) := by
  refine Ct.of (by decide) (Nat.le_of_ble_eq_true rfl) ?_
  intro p e s0 m below meth c A hC hr hn
  obtain ⟨hO, hS9, hLs, hTr, hTi, hNi, hGs, hGi⟩ := id hK
  obtain ⟨mc9, he9, hL, hL2⟩ := id hLs
  obtain ⟨hT, hN⟩ := hTr j t hj ht
  refine u_aload_n hC d_D_statement_0 rfl ?_
  refine u_iload_n hC d_D_statement_1 rfl ?_
  refine w_callVr hC (c_D_trT hK hj ht) k_D_33 i_D_transactionOf hO rfl ⟨(Nat.le_of_ble_eq_true rfl), (Nat.le_of_ble_eq_true rfl)⟩ ⟨(Nat.le_of_ble_eq_true rfl), (Nat.le_of_ble_eq_true rfl)⟩ rfl rfl (Nat.le_of_ble_eq_true rfl) d_D_statement_2 ?_
  refine u_astore_n hC d_D_statement_5 (by decide) ?_
  refine u_aload_n hC d_D_statement_6 rfl ?_
  refine u_ifnonnull hC 12 d_D_statement_7 (by decide) ?_
  refine u_aload_n hC d_D_statement_12 rfl ?_
  refine u_dup hC d_D_statement_13 rfl ?_
  refine w_get hC f_D_37 hT rfl d_D_statement_14 ?_
  refine u_iconst hC (nI 1) d_D_statement_17 (by decide) ?_
  refine u_iadd hC d_D_statement_18 ?_
  refine w_put hC f_D_37 (tt_T 3 (by decide)) rfl hT rfl rfl (Nat.le_of_ble_eq_true rfl) d_D_statement_19 ?_
  have hT1 : wg (wup ws t (cT (mo j) (na j) (to j) (co j + nI 1) (sn j))) t = some (cT (mo j) (na j) (to j) (co j + nI 1) (sn j)) := wg_up hT
  have hO1 : wg (wup ws t (cT (mo j) (na j) (to j) (co j + nI 1) (sn j))) h0 = some (cD hs hl cm) := by rw [wg_upN (wg_ne hO hT (by intro w; cases w))]; exact hO
  refine u_aload_n hC d_D_statement_22 rfl ?_
  refine w_get hC f_D_40 hT1 rfl d_D_statement_23 ?_
  refine u_if_eq hC 36 d_D_statement_26 (by decide) (fun h_26 => absurd h_26 hm) (fun h_26 => ?_)
  refine u_aload_n hC d_D_statement_29 rfl ?_
  refine w_callVr hC (c_T_hasF hT1 hs7) k_D_43 i_T_hasSnapshot hT1 rfl ⟨(Nat.le_of_ble_eq_true rfl), (Nat.le_of_ble_eq_true rfl)⟩ ⟨(Nat.le_of_ble_eq_true rfl), (Nat.le_of_ble_eq_true rfl)⟩ rfl rfl (Nat.le_of_ble_eq_true rfl) d_D_statement_30 ?_
  refine u_if_ne hC 44 d_D_statement_33 (by decide) (fun h_33 => absurd rfl h_33) (fun h_33 => ?_)
  refine u_aload_n hC d_D_statement_36 rfl ?_
  refine u_aload_n hC d_D_statement_37 rfl ?_
  refine w_get hC f_D_22 hO1 rfl d_D_statement_38 ?_
  refine w_put hC f_D_47 (tt_T 4 (by decide)) rfl hT1 rfl rfl (Nat.le_of_ble_eq_true rfl) d_D_statement_41 ?_
  rw [wup_wup]
  refine u_aload_n hC d_D_statement_44 rfl ?_
  refine w_get hC f_D_37 (wg_up hT) rfl d_D_statement_45 ?_
  exact u_iret hC hr d_D_statement_48 (Nat.le_of_ble_eq_true rfl) (Nat.le_of_ble_eq_true rfl) ⟨rfl, by have h9 := hK.updT hj ht (to j) (co j + nI 1) cm; rw [m_upd_id] at h9; exact h9⟩
set_option maxHeartbeats 4000000 in
set_option maxRecDepth 100000 in
theorem c_D_statementB {j t : Nat} (hK : Dk κ z ws h0 hs hl cap cm tr na mo to co sn nb n el ro lv cd pl) (hj : j < 6) (ht : tr j = some t) (hm : ¬ mo j = 0) (hs7 : ¬ sn j = -1) : Ct l y_D_statement b_D_statement 3 (some .int) 2 0 0 D (gk κ, z) ws [.ref h0, .int (nI j)] (fun v w' => v = some (.int (co j + nI 1)) ∧ Dk κ z w' h0 hs hl cap cm tr na mo to (upd co j (co j + nI 1)) sn nb n el ro lv cd pl) := by
  refine Ct.of (by decide) (Nat.le_of_ble_eq_true rfl) ?_
  intro p e s0 m below meth c A hC hr hn
  obtain ⟨hO, hS9, hLs, hTr, hTi, hNi, hGs, hGi⟩ := id hK
  obtain ⟨mc9, he9, hL, hL2⟩ := id hLs
  obtain ⟨hT, hN⟩ := hTr j t hj ht
  refine u_aload_n hC d_D_statement_0 rfl ?_
  refine u_iload_n hC d_D_statement_1 rfl ?_
  refine w_callVr hC (c_D_trT hK hj ht) k_D_33 i_D_transactionOf hO rfl ⟨(Nat.le_of_ble_eq_true rfl), (Nat.le_of_ble_eq_true rfl)⟩ ⟨(Nat.le_of_ble_eq_true rfl), (Nat.le_of_ble_eq_true rfl)⟩ rfl rfl (Nat.le_of_ble_eq_true rfl) d_D_statement_2 ?_
  refine u_astore_n hC d_D_statement_5 (by decide) ?_
  refine u_aload_n hC d_D_statement_6 rfl ?_
  refine u_ifnonnull hC 12 d_D_statement_7 (by decide) ?_
  refine u_aload_n hC d_D_statement_12 rfl ?_
  refine u_dup hC d_D_statement_13 rfl ?_
  refine w_get hC f_D_37 hT rfl d_D_statement_14 ?_
  refine u_iconst hC (nI 1) d_D_statement_17 (by decide) ?_
  refine u_iadd hC d_D_statement_18 ?_
  refine w_put hC f_D_37 (tt_T 3 (by decide)) rfl hT rfl rfl (Nat.le_of_ble_eq_true rfl) d_D_statement_19 ?_
  have hT1 : wg (wup ws t (cT (mo j) (na j) (to j) (co j + nI 1) (sn j))) t = some (cT (mo j) (na j) (to j) (co j + nI 1) (sn j)) := wg_up hT
  have hO1 : wg (wup ws t (cT (mo j) (na j) (to j) (co j + nI 1) (sn j))) h0 = some (cD hs hl cm) := by rw [wg_upN (wg_ne hO hT (by intro w; cases w))]; exact hO
  refine u_aload_n hC d_D_statement_22 rfl ?_
  refine w_get hC f_D_40 hT1 rfl d_D_statement_23 ?_
  refine u_if_eq hC 36 d_D_statement_26 (by decide) (fun h_26 => absurd h_26 hm) (fun h_26 => ?_)
  refine u_aload_n hC d_D_statement_29 rfl ?_
  refine w_callVr hC (c_T_hasT hT1 hs7) k_D_43 i_T_hasSnapshot hT1 rfl ⟨(Nat.le_of_ble_eq_true rfl), (Nat.le_of_ble_eq_true rfl)⟩ ⟨(Nat.le_of_ble_eq_true rfl), (Nat.le_of_ble_eq_true rfl)⟩ rfl rfl (Nat.le_of_ble_eq_true rfl) d_D_statement_30 ?_
  refine u_if_ne hC 44 d_D_statement_33 (by decide) (fun h_33 => ?_) (fun h_33 => absurd h_33 (by decide))
  refine u_aload_n hC d_D_statement_44 rfl ?_
  refine w_get hC f_D_37 hT1 rfl d_D_statement_45 ?_
  exact u_iret hC hr d_D_statement_48 (Nat.le_of_ble_eq_true rfl) (Nat.le_of_ble_eq_true rfl) ⟨rfl, by have h9 := hK.updT hj ht (to j) (co j + nI 1) (sn j); rw [m_upd_id, m_upd_id] at h9; exact h9⟩
set_option maxHeartbeats 4000000 in
set_option maxRecDepth 100000 in
theorem c_D_saveF {s : Int32} (hK : Dk κ z ws h0 hs hl cap cm tr na mo to co sn nb n el ro lv cd pl) (hb : ¬ ∃ j t : Nat, j < 6 ∧ s = nI j ∧ tr j = some t) : Ct l y_D_save b_D_save 3 (some .int) 2 0 0 D (gk κ, z) ws [.ref h0, .int s] (rt (.int (-1)) ws) := by
  refine Ct.of (by decide) (Nat.le_of_ble_eq_true rfl) ?_
  intro p e s0 m below meth c A hC hr hn
  obtain ⟨hO, hS9, hLs, hTr, hTi, hNi, hGs, hGi⟩ := id hK
  obtain ⟨mc9, he9, hL, hL2⟩ := id hLs
  refine u_aload_n hC d_D_save_0 rfl ?_
  refine u_iload_n hC d_D_save_1 rfl ?_
  refine w_callVr hC (c_D_trF hK hb) k_D_33 i_D_transactionOf hO rfl ⟨(Nat.le_of_ble_eq_true rfl), (Nat.le_of_ble_eq_true rfl)⟩ ⟨(Nat.le_of_ble_eq_true rfl), (Nat.le_of_ble_eq_true rfl)⟩ rfl rfl (Nat.le_of_ble_eq_true rfl) d_D_save_2 ?_
  refine u_astore_nN hC d_D_save_5 (by decide) ?_
  refine u_aload_nN hC d_D_save_6 rfl ?_
  refine u_ifnullN hC 19 d_D_save_7 (by decide) ?_
  refine u_iconst hC (-1) d_D_save_19 (by decide) ?_
  exact u_iret hC hr d_D_save_20 (Nat.le_of_ble_eq_true rfl) (Nat.le_of_ble_eq_true rfl) ⟨rfl, rfl⟩
set_option maxHeartbeats 4000000 in
set_option maxRecDepth 100000 in
theorem c_D_saveN {j t : Nat} (hK : Dk κ z ws h0 hs hl cap cm tr na mo to co sn nb n el ro lv cd pl) (hj : j < 6) (ht : tr j = some t) (h7 : to j = nI 7) : Ct l y_D_save b_D_save 3 (some .int) 2 0 0 D (gk κ, z) ws [.ref h0, .int (nI j)] (rt (.int (-1)) ws) := by
  refine Ct.of (by decide) (Nat.le_of_ble_eq_true rfl) ?_
  intro p e s0 m below meth c A hC hr hn
  obtain ⟨hO, hS9, hLs, hTr, hTi, hNi, hGs, hGi⟩ := id hK
  obtain ⟨mc9, he9, hL, hL2⟩ := id hLs
  obtain ⟨hT, hN⟩ := hTr j t hj ht
  refine u_aload_n hC d_D_save_0 rfl ?_
  refine u_iload_n hC d_D_save_1 rfl ?_
  refine w_callVr hC (c_D_trT hK hj ht) k_D_33 i_D_transactionOf hO rfl ⟨(Nat.le_of_ble_eq_true rfl), (Nat.le_of_ble_eq_true rfl)⟩ ⟨(Nat.le_of_ble_eq_true rfl), (Nat.le_of_ble_eq_true rfl)⟩ rfl rfl (Nat.le_of_ble_eq_true rfl) d_D_save_2 ?_
  refine u_astore_n hC d_D_save_5 (by decide) ?_
  refine u_aload_n hC d_D_save_6 rfl ?_
  refine u_ifnull hC d_D_save_7 ?_
  refine u_aload_n hC d_D_save_10 rfl ?_
  refine w_get hC f_D_66 hT rfl d_D_save_11 ?_
  refine u_bipush hC (nI 7) d_D_save_14 (by decide) ?_
  refine u_icmp_lt hC 21 d_D_save_16 (by decide) (fun h_16 => absurd h_16 (by rw [h7]; decide)) (fun h_16 => ?_)
  refine u_iconst hC (-1) d_D_save_19 (by decide) ?_
  exact u_iret hC hr d_D_save_20 (Nat.le_of_ble_eq_true rfl) (Nat.le_of_ble_eq_true rfl) ⟨rfl, rfl⟩
set_option maxHeartbeats 4000000 in
set_option maxRecDepth 100000 in
theorem c_D_saveT {j t u : Nat} (hK : Dk κ z ws h0 hs hl cap cm tr na mo to co sn nb n el ro lv cd pl) (hj : j < 6) (ht : tr j = some t) (hu : to j = nI u) (hu7 : u < 7) : Ct l y_D_save b_D_save 3 (some .int) 2 0 0 D (gk κ, z) ws [.ref h0, .int (nI j)] (fun v w' => v = some (.int (nI (u + 1))) ∧ Dk κ z w' h0 hs hl cap cm tr na mo (upd to j (nI (u + 1))) co sn nb n el ro lv cd pl) := by
  refine Ct.of (by decide) (Nat.le_of_ble_eq_true rfl) ?_
  intro p e s0 m below meth c A hC hr hn
  obtain ⟨hO, hS9, hLs, hTr, hTi, hNi, hGs, hGi⟩ := id hK
  obtain ⟨mc9, he9, hL, hL2⟩ := id hLs
  obtain ⟨hT, hN⟩ := hTr j t hj ht
  refine u_aload_n hC d_D_save_0 rfl ?_
  refine u_iload_n hC d_D_save_1 rfl ?_
  refine w_callVr hC (c_D_trT hK hj ht) k_D_33 i_D_transactionOf hO rfl ⟨(Nat.le_of_ble_eq_true rfl), (Nat.le_of_ble_eq_true rfl)⟩ ⟨(Nat.le_of_ble_eq_true rfl), (Nat.le_of_ble_eq_true rfl)⟩ rfl rfl (Nat.le_of_ble_eq_true rfl) d_D_save_2 ?_
  refine u_astore_n hC d_D_save_5 (by decide) ?_
  refine u_aload_n hC d_D_save_6 rfl ?_
  refine u_ifnull hC d_D_save_7 ?_
  refine u_aload_n hC d_D_save_10 rfl ?_
  refine w_get hC f_D_66 hT rfl d_D_save_11 ?_
  refine u_bipush hC (nI 7) d_D_save_14 (by decide) ?_
  refine u_icmp_lt hC 21 d_D_save_16 (by decide) (fun h_16 => ?_) (fun h_16 => absurd (by rw [hu]; exact nI_lt hu7 (by decide)) h_16)
  refine u_aload_n hC d_D_save_21 rfl ?_
  refine u_dup hC d_D_save_22 rfl ?_
  refine w_get hC f_D_66 hT rfl d_D_save_23 ?_
  refine u_iconst hC (nI 1) d_D_save_26 (by decide) ?_
  refine u_iadd hC d_D_save_27 ?_
  refine u_val (x' := nI (u + 1)) (by rw [hu, nI_add]) ?_
  refine w_put hC f_D_66 (tt_T 2 (by decide)) rfl hT rfl rfl (Nat.le_of_ble_eq_true rfl) d_D_save_28 ?_
  refine u_aload_n hC d_D_save_31 rfl ?_
  refine w_get hC f_D_66 (wg_up hT) rfl d_D_save_32 ?_
  exact u_iret hC hr d_D_save_35 (Nat.le_of_ble_eq_true rfl) (Nat.le_of_ble_eq_true rfl) ⟨rfl, by have h9 := hK.updT hj ht (nI (u + 1)) (co j) (sn j); rw [m_upd_id, m_upd_id] at h9; exact h9⟩
end DW1
end
section
/-- the numbers of a transaction (by its root) at level x and upon it -/
abbrev d_up (ro lv : Nat → Int32) (r x : Int32) (i : Nat) : Prop := ro i = r ∧ ¬ lv i < x
/-- the running numbers of a transaction -/
abbrev d_run (ro cd : Nat → Int32) (r : Int32) (i : Nat) : Prop := ro i = r ∧ cd i = nI 1
section DX0
variable {l : Launch} {D : va_G} {κ : Nat → ClassId} {z : Nat × Nat} {h0 hs hl cap : Nat} {cm : Int32} {tr : Nat → Option Nat} {na : Nat → Nat} {mo to co sn : Nat → Int32} {nb : Nat → Nat → Int32} {n : Nat} {el : Nat → Nat} {ro lv cd pl : Nat → Int32}
variable {p : Program} {e : Env} {R : Room} {s0 : State} {m : MethodId} {args : Array Value} {below : List Frame} {meth : Method} {c : Code} {A : Nat → Prop} {Q : State → Prop}
set_option maxHeartbeats 4000000 in
set_option maxRecDepth 100000 in
theorem l_D_abort {t na0 : Nat} {md tp c0 s1 : Int32} {nb0 : Nat → Int32} {x : Int32} {s9 : Int32} (hn4 : n ≤ 4000) (hcap : cap ≤ 10000) (hC : vx p s0 m args meth c b_D_abortNumbersFrom 5 R_D D (gk κ, z) A) (hR : 2 + 1 ≤ R.frames ∧ 8 + (2 + 11) + 40 * 2 ≤ R.locals) (exit : ∀ ws : va_W, Dk κ z ws h0 hs hl cap cm tr na mo to co sn nb n el ro lv (dset (d_up ro lv (nb0 0) x) cd (nI 3) n) pl → wg ws t = some (cT md na0 tp c0 s1) → wg ws na0 = some (aI κ 8 nb0) → U p l e R s0 m args below meth c 5 D A ws 0 0 Q 56 [(3, .int (nI n)), (0, .ref h0), (1, .ref t), (2, .int x)] []) : ∀ (r i : Nat) (ws : va_W), i + r = n → Dk κ z ws h0 hs hl cap cm tr na mo to co sn nb n el ro lv (dset (d_up ro lv (nb0 0) x) cd (nI 3) i) pl → wg ws t = some (cT md na0 tp c0 s1) → wg ws na0 = some (aI κ 8 nb0) → U p l e R s0 m args below meth c 5 D A ws 0 0 Q 2 [(3, .int (nI i)), (0, .ref h0), (1, .ref t), (2, .int x)] [] := by
  have hR0 : 0 + 1 ≤ R.frames ∧ 8 + (2 + 11) + 40 * 0 ≤ R.locals := ⟨by omega, by omega⟩
  have hR1 : 0 + 1 ≤ R.frames ∧ 8 + (1 + 11) + 40 * 0 ≤ R.locals := ⟨by omega, by omega⟩
  intro r
  induction r with
  | zero =>
    intro i ws hi hK hT hN
    have e : i = n := by omega
    subst e
    obtain ⟨hO, hS9, hLs, hTr, hTi, hNi, hGs, hGi⟩ := id hK
    obtain ⟨mc9, he9, hL, hL2⟩ := id hLs
    refine u_iload_n hC d_D_abortNumbersFrom_2 rfl ?_
    refine u_aload_n hC d_D_abortNumbersFrom_3 rfl ?_
    refine w_get hC f_D_18 hO rfl d_D_abortNumbersFrom_4 ?_
    refine w_callVr hC (c_L_size hL) k_D_54 i_L_size hL rfl hR1 ⟨Nat.zero_le _, Nat.zero_le _⟩ rfl rfl (Nat.le_of_ble_eq_true rfl) d_D_abortNumbersFrom_7 ?_
    refine u_icmp_ge hC 56 d_D_abortNumbersFrom_10 (by decide) (fun h_10 => ?_) (fun h_10 => absurd (nI_le (Nat.le_refl _) (by omega)) h_10)
    exact exit ws hK hT hN
  | succ r ih =>
    intro i ws hi hK hT hN
    obtain ⟨hO, hS9, hLs, hTr, hTi, hNi, hGs, hGi⟩ := id hK
    obtain ⟨mc9, he9, hL, hL2⟩ := id hLs
    have hG := hGs i (by omega)
    rw [dset_at (Nat.le_refl i)] at hG
    by_cases hP : d_up ro lv (nb0 0) x i
    · refine u_iload_n hC d_D_abortNumbersFrom_2 rfl ?_
      refine u_aload_n hC d_D_abortNumbersFrom_3 rfl ?_
      refine w_get hC f_D_18 hO rfl d_D_abortNumbersFrom_4 ?_
      refine w_callVr hC (c_L_size hL) k_D_54 i_L_size hL rfl hR1 ⟨Nat.zero_le _, Nat.zero_le _⟩ rfl rfl (Nat.le_of_ble_eq_true rfl) d_D_abortNumbersFrom_7 ?_
      refine u_icmp_ge hC 56 d_D_abortNumbersFrom_10 (by decide) (fun h_10 => absurd h_10 (nI_ge (by omega) (by omega))) (fun h_10 => ?_)
      refine u_aload_n hC d_D_abortNumbersFrom_13 rfl ?_
      refine w_get hC f_D_18 hO rfl d_D_abortNumbersFrom_14 ?_
      refine u_iload_n hC d_D_abortNumbersFrom_17 rfl ?_
      refine w_callVr hC (c_L_get hLs hcap (by omega)) k_D_72 i_L_get hL rfl hR ⟨Nat.zero_le _, Nat.zero_le _⟩ rfl rfl (Nat.le_of_ble_eq_true rfl) d_D_abortNumbersFrom_18 ?_
      refine w_cast hC rfl l_D_76 hG d_D_abortNumbersFrom_21 ?_
      refine u_astore hC d_D_abortNumbersFrom_24 (by decide) ?_
      refine u_aload_n hC d_D_abortNumbersFrom_26 rfl ?_
      refine u_aload hC d_D_abortNumbersFrom_27 rfl ?_
      refine w_callVr hC (c_T_ownsT hT hN hG hP.1) k_D_78 i_T_owns hT rfl hR0 ⟨Nat.zero_le _, Nat.zero_le _⟩ rfl rfl (Nat.le_of_ble_eq_true rfl) d_D_abortNumbersFrom_29 ?_
      refine u_if_eq hC 50 d_D_abortNumbersFrom_32 (by decide) (fun h_32 => absurd h_32 (by decide)) (fun h_32 => ?_)
      refine u_aload hC d_D_abortNumbersFrom_35 rfl ?_
      refine w_get hC f_D_82 hG rfl d_D_abortNumbersFrom_37 ?_
      refine u_iload_n hC d_D_abortNumbersFrom_40 rfl ?_
      refine u_icmp_lt hC 50 d_D_abortNumbersFrom_41 (by decide) (fun h_41 => absurd h_41 hP.2) (fun h_41 => ?_)
      refine u_aload hC d_D_abortNumbersFrom_44 rfl ?_
      refine u_iconst hC (nI 3) d_D_abortNumbersFrom_46 (by decide) ?_
      refine w_put hC f_D_102 (tt_G 2 (by decide)) rfl hG rfl rfl (Nat.le_of_ble_eq_true rfl) d_D_abortNumbersFrom_47 ?_
      refine u_iinc hC (nI (i + 1)) (j := 1) d_D_abortNumbersFrom_50 rfl (nI_1 i) (by decide) ?_
      refine u_goto hC 2 d_D_abortNumbersFrom_53 (by decide) ?_
      refine u_pick [0, 2, 3, 4] rfl ?_
      refine ih (i + 1) _ (by omega) (Dk.setcd hK (by omega) hP) (by rw [wg_upN (wg_ne hT hG (by intro w; cases w))]; exact hT) (by rw [wg_upN (wg_ne hN hG (by intro w; cases w))]; exact hN)
    · by_cases ho : ro i = nb0 0
      · refine u_iload_n hC d_D_abortNumbersFrom_2 rfl ?_
        refine u_aload_n hC d_D_abortNumbersFrom_3 rfl ?_
        refine w_get hC f_D_18 hO rfl d_D_abortNumbersFrom_4 ?_
        refine w_callVr hC (c_L_size hL) k_D_54 i_L_size hL rfl hR1 ⟨Nat.zero_le _, Nat.zero_le _⟩ rfl rfl (Nat.le_of_ble_eq_true rfl) d_D_abortNumbersFrom_7 ?_
        refine u_icmp_ge hC 56 d_D_abortNumbersFrom_10 (by decide) (fun h_10 => absurd h_10 (nI_ge (by omega) (by omega))) (fun h_10 => ?_)
        refine u_aload_n hC d_D_abortNumbersFrom_13 rfl ?_
        refine w_get hC f_D_18 hO rfl d_D_abortNumbersFrom_14 ?_
        refine u_iload_n hC d_D_abortNumbersFrom_17 rfl ?_
        refine w_callVr hC (c_L_get hLs hcap (by omega)) k_D_72 i_L_get hL rfl hR ⟨Nat.zero_le _, Nat.zero_le _⟩ rfl rfl (Nat.le_of_ble_eq_true rfl) d_D_abortNumbersFrom_18 ?_
        refine w_cast hC rfl l_D_76 hG d_D_abortNumbersFrom_21 ?_
        refine u_astore hC d_D_abortNumbersFrom_24 (by decide) ?_
        refine u_aload_n hC d_D_abortNumbersFrom_26 rfl ?_
        refine u_aload hC d_D_abortNumbersFrom_27 rfl ?_
        refine w_callVr hC (c_T_ownsT hT hN hG ho) k_D_78 i_T_owns hT rfl hR0 ⟨Nat.zero_le _, Nat.zero_le _⟩ rfl rfl (Nat.le_of_ble_eq_true rfl) d_D_abortNumbersFrom_29 ?_
        refine u_if_eq hC 50 d_D_abortNumbersFrom_32 (by decide) (fun h_32 => absurd h_32 (by decide)) (fun h_32 => ?_)
        refine u_aload hC d_D_abortNumbersFrom_35 rfl ?_
        refine w_get hC f_D_82 hG rfl d_D_abortNumbersFrom_37 ?_
        refine u_iload_n hC d_D_abortNumbersFrom_40 rfl ?_
        refine u_icmp_lt hC 50 d_D_abortNumbersFrom_41 (by decide) (fun h_41 => ?_) (fun h_41 => absurd (Decidable.byContradiction (fun w => hP ⟨ho, w⟩)) h_41)
        refine u_iinc hC (nI (i + 1)) (j := 1) d_D_abortNumbersFrom_50 rfl (nI_1 i) (by decide) ?_
        refine u_goto hC 2 d_D_abortNumbersFrom_53 (by decide) ?_
        refine u_pick [0, 2, 3, 4] rfl ?_
        refine ih (i + 1) ws (by omega) ?_ hT hN
        rw [dset_F hP] at hK
        exact hK
      · refine u_iload_n hC d_D_abortNumbersFrom_2 rfl ?_
        refine u_aload_n hC d_D_abortNumbersFrom_3 rfl ?_
        refine w_get hC f_D_18 hO rfl d_D_abortNumbersFrom_4 ?_
        refine w_callVr hC (c_L_size hL) k_D_54 i_L_size hL rfl hR1 ⟨Nat.zero_le _, Nat.zero_le _⟩ rfl rfl (Nat.le_of_ble_eq_true rfl) d_D_abortNumbersFrom_7 ?_
        refine u_icmp_ge hC 56 d_D_abortNumbersFrom_10 (by decide) (fun h_10 => absurd h_10 (nI_ge (by omega) (by omega))) (fun h_10 => ?_)
        refine u_aload_n hC d_D_abortNumbersFrom_13 rfl ?_
        refine w_get hC f_D_18 hO rfl d_D_abortNumbersFrom_14 ?_
        refine u_iload_n hC d_D_abortNumbersFrom_17 rfl ?_
        refine w_callVr hC (c_L_get hLs hcap (by omega)) k_D_72 i_L_get hL rfl hR ⟨Nat.zero_le _, Nat.zero_le _⟩ rfl rfl (Nat.le_of_ble_eq_true rfl) d_D_abortNumbersFrom_18 ?_
        refine w_cast hC rfl l_D_76 hG d_D_abortNumbersFrom_21 ?_
        refine u_astore hC d_D_abortNumbersFrom_24 (by decide) ?_
        refine u_aload_n hC d_D_abortNumbersFrom_26 rfl ?_
        refine u_aload hC d_D_abortNumbersFrom_27 rfl ?_
        refine w_callVr hC (c_T_ownsF hT hN hG ho) k_D_78 i_T_owns hT rfl hR0 ⟨Nat.zero_le _, Nat.zero_le _⟩ rfl rfl (Nat.le_of_ble_eq_true rfl) d_D_abortNumbersFrom_29 ?_
        refine u_if_eq hC 50 d_D_abortNumbersFrom_32 (by decide) (fun h_32 => ?_) (fun h_32 => absurd rfl h_32)
        refine u_iinc hC (nI (i + 1)) (j := 1) d_D_abortNumbersFrom_50 rfl (nI_1 i) (by decide) ?_
        refine u_goto hC 2 d_D_abortNumbersFrom_53 (by decide) ?_
        refine u_pick [0, 2, 3, 4] rfl ?_
        refine ih (i + 1) ws (by omega) ?_ hT hN
        rw [dset_F hP] at hK
        exact hK
set_option maxHeartbeats 4000000 in
set_option maxRecDepth 100000 in
theorem l_D_commit {t na0 : Nat} {md tp c0 s1 : Int32} {nb0 : Nat → Int32} {x : Int32} {s9 : Int32} (hn4 : n ≤ 4000) (hcap : cap ≤ 10000) (hC : vx p s0 m args meth c b_D_commitRunningNumbers 4 R_D D (gk κ, z) A) (hR : 2 + 1 ≤ R.frames ∧ 8 + (2 + 11) + 40 * 2 ≤ R.locals) (exit : ∀ ws : va_W, Dk κ z ws h0 hs hl cap cm tr na mo to co sn nb n el ro lv (dset (d_run ro cd (nb0 0)) cd (nI 2) n) (dset (d_run ro cd (nb0 0)) pl cm n) → wg ws t = some (cT md na0 tp c0 s1) → wg ws na0 = some (aI κ 8 nb0) → U p l e R s0 m args below meth c 4 D A ws 0 0 Q 60 [(2, .int (nI n)), (0, .ref h0), (1, .ref t)] []) : ∀ (r i : Nat) (ws : va_W), i + r = n → Dk κ z ws h0 hs hl cap cm tr na mo to co sn nb n el ro lv (dset (d_run ro cd (nb0 0)) cd (nI 2) i) (dset (d_run ro cd (nb0 0)) pl cm i) → wg ws t = some (cT md na0 tp c0 s1) → wg ws na0 = some (aI κ 8 nb0) → U p l e R s0 m args below meth c 4 D A ws 0 0 Q 2 [(2, .int (nI i)), (0, .ref h0), (1, .ref t)] [] := by
  have hR0 : 0 + 1 ≤ R.frames ∧ 8 + (2 + 11) + 40 * 0 ≤ R.locals := ⟨by omega, by omega⟩
  have hR1 : 0 + 1 ≤ R.frames ∧ 8 + (1 + 11) + 40 * 0 ≤ R.locals := ⟨by omega, by omega⟩
  intro r
  induction r with
  | zero =>
    intro i ws hi hK hT hN
    have e : i = n := by omega
    subst e
    obtain ⟨hO, hS9, hLs, hTr, hTi, hNi, hGs, hGi⟩ := id hK
    obtain ⟨mc9, he9, hL, hL2⟩ := id hLs
    refine u_iload_n hC d_D_commitRunningNumbers_2 rfl ?_
    refine u_aload_n hC d_D_commitRunningNumbers_3 rfl ?_
    refine w_get hC f_D_18 hO rfl d_D_commitRunningNumbers_4 ?_
    refine w_callVr hC (c_L_size hL) k_D_54 i_L_size hL rfl hR1 ⟨Nat.zero_le _, Nat.zero_le _⟩ rfl rfl (Nat.le_of_ble_eq_true rfl) d_D_commitRunningNumbers_7 ?_
    refine u_icmp_ge hC 60 d_D_commitRunningNumbers_10 (by decide) (fun h_10 => ?_) (fun h_10 => absurd (nI_le (Nat.le_refl _) (by omega)) h_10)
    exact exit ws hK hT hN
  | succ r ih =>
    intro i ws hi hK hT hN
    obtain ⟨hO, hS9, hLs, hTr, hTi, hNi, hGs, hGi⟩ := id hK
    obtain ⟨mc9, he9, hL, hL2⟩ := id hLs
    have hG := hGs i (by omega)
    rw [dset_at (Nat.le_refl i), dset_at (Nat.le_refl i)] at hG
    by_cases hP : d_run ro cd (nb0 0) i
    · refine u_iload_n hC d_D_commitRunningNumbers_2 rfl ?_
      refine u_aload_n hC d_D_commitRunningNumbers_3 rfl ?_
      refine w_get hC f_D_18 hO rfl d_D_commitRunningNumbers_4 ?_
      refine w_callVr hC (c_L_size hL) k_D_54 i_L_size hL rfl hR1 ⟨Nat.zero_le _, Nat.zero_le _⟩ rfl rfl (Nat.le_of_ble_eq_true rfl) d_D_commitRunningNumbers_7 ?_
      refine u_icmp_ge hC 60 d_D_commitRunningNumbers_10 (by decide) (fun h_10 => absurd h_10 (nI_ge (by omega) (by omega))) (fun h_10 => ?_)
      refine u_aload_n hC d_D_commitRunningNumbers_13 rfl ?_
      refine w_get hC f_D_18 hO rfl d_D_commitRunningNumbers_14 ?_
      refine u_iload_n hC d_D_commitRunningNumbers_17 rfl ?_
      refine w_callVr hC (c_L_get hLs hcap (by omega)) k_D_72 i_L_get hL rfl hR ⟨Nat.zero_le _, Nat.zero_le _⟩ rfl rfl (Nat.le_of_ble_eq_true rfl) d_D_commitRunningNumbers_18 ?_
      refine w_cast hC rfl l_D_76 hG d_D_commitRunningNumbers_21 ?_
      refine u_astore_n hC d_D_commitRunningNumbers_24 (by decide) ?_
      refine u_aload_n hC d_D_commitRunningNumbers_25 rfl ?_
      refine u_aload_n hC d_D_commitRunningNumbers_26 rfl ?_
      refine w_callVr hC (c_T_ownsT hT hN hG hP.1) k_D_78 i_T_owns hT rfl hR0 ⟨Nat.zero_le _, Nat.zero_le _⟩ rfl rfl (Nat.le_of_ble_eq_true rfl) d_D_commitRunningNumbers_27 ?_
      refine u_if_eq hC 54 d_D_commitRunningNumbers_30 (by decide) (fun h_30 => absurd h_30 (by decide)) (fun h_30 => ?_)
      refine u_aload_n hC d_D_commitRunningNumbers_33 rfl ?_
      refine w_get hC f_D_102 hG rfl d_D_commitRunningNumbers_34 ?_
      refine u_iconst hC (nI 1) d_D_commitRunningNumbers_37 (by decide) ?_
      refine u_icmp_ne hC 54 d_D_commitRunningNumbers_38 (by decide) (fun h_38 => absurd hP.2 h_38) (fun h_38 => ?_)
      refine u_aload_n hC d_D_commitRunningNumbers_41 rfl ?_
      refine u_iconst hC (nI 2) d_D_commitRunningNumbers_42 (by decide) ?_
      refine w_put hC f_D_102 (tt_G 2 (by decide)) rfl hG rfl rfl (Nat.le_of_ble_eq_true rfl) d_D_commitRunningNumbers_43 ?_
      have hG1 : wg (wup ws (el i) (cG (ro i) (lv i) (nI 2) (pl i))) (el i) = some (cG (ro i) (lv i) (nI 2) (pl i)) := wg_up hG
      have hO1 : wg (wup ws (el i) (cG (ro i) (lv i) (nI 2) (pl i))) h0 = some (cD hs hl cm) := by rw [wg_upN (wg_ne hO hG (by intro w; cases w))]; exact hO
      refine u_aload_n hC d_D_commitRunningNumbers_46 rfl ?_
      refine u_aload_n hC d_D_commitRunningNumbers_47 rfl ?_
      refine w_get hC f_D_22 hO1 rfl d_D_commitRunningNumbers_48 ?_
      refine w_put hC f_D_108 (tt_G 3 (by decide)) rfl hG1 rfl rfl (Nat.le_of_ble_eq_true rfl) d_D_commitRunningNumbers_51 ?_
      rw [wup_wup]
      refine u_iinc hC (nI (i + 1)) (j := 1) d_D_commitRunningNumbers_54 rfl (nI_1 i) (by decide) ?_
      refine u_goto hC 2 d_D_commitRunningNumbers_57 (by decide) ?_
      refine u_pick [0, 2, 3] rfl ?_
      refine ih (i + 1) _ (by omega) (Dk.setcp hK (by omega) hP) (by rw [wg_upN (wg_ne hT hG (by intro w; cases w))]; exact hT) (by rw [wg_upN (wg_ne hN hG (by intro w; cases w))]; exact hN)
    · by_cases ho : ro i = nb0 0
      · refine u_iload_n hC d_D_commitRunningNumbers_2 rfl ?_
        refine u_aload_n hC d_D_commitRunningNumbers_3 rfl ?_
        refine w_get hC f_D_18 hO rfl d_D_commitRunningNumbers_4 ?_
        refine w_callVr hC (c_L_size hL) k_D_54 i_L_size hL rfl hR1 ⟨Nat.zero_le _, Nat.zero_le _⟩ rfl rfl (Nat.le_of_ble_eq_true rfl) d_D_commitRunningNumbers_7 ?_
        refine u_icmp_ge hC 60 d_D_commitRunningNumbers_10 (by decide) (fun h_10 => absurd h_10 (nI_ge (by omega) (by omega))) (fun h_10 => ?_)
        refine u_aload_n hC d_D_commitRunningNumbers_13 rfl ?_
        refine w_get hC f_D_18 hO rfl d_D_commitRunningNumbers_14 ?_
        refine u_iload_n hC d_D_commitRunningNumbers_17 rfl ?_
        refine w_callVr hC (c_L_get hLs hcap (by omega)) k_D_72 i_L_get hL rfl hR ⟨Nat.zero_le _, Nat.zero_le _⟩ rfl rfl (Nat.le_of_ble_eq_true rfl) d_D_commitRunningNumbers_18 ?_
        refine w_cast hC rfl l_D_76 hG d_D_commitRunningNumbers_21 ?_
        refine u_astore_n hC d_D_commitRunningNumbers_24 (by decide) ?_
        refine u_aload_n hC d_D_commitRunningNumbers_25 rfl ?_
        refine u_aload_n hC d_D_commitRunningNumbers_26 rfl ?_
        refine w_callVr hC (c_T_ownsT hT hN hG ho) k_D_78 i_T_owns hT rfl hR0 ⟨Nat.zero_le _, Nat.zero_le _⟩ rfl rfl (Nat.le_of_ble_eq_true rfl) d_D_commitRunningNumbers_27 ?_
        refine u_if_eq hC 54 d_D_commitRunningNumbers_30 (by decide) (fun h_30 => absurd h_30 (by decide)) (fun h_30 => ?_)
        refine u_aload_n hC d_D_commitRunningNumbers_33 rfl ?_
        refine w_get hC f_D_102 hG rfl d_D_commitRunningNumbers_34 ?_
        refine u_iconst hC (nI 1) d_D_commitRunningNumbers_37 (by decide) ?_
        refine u_icmp_ne hC 54 d_D_commitRunningNumbers_38 (by decide) (fun h_38 => ?_) (fun h_38 => absurd h_38 (fun w => hP ⟨ho, w⟩))
        refine u_iinc hC (nI (i + 1)) (j := 1) d_D_commitRunningNumbers_54 rfl (nI_1 i) (by decide) ?_
        refine u_goto hC 2 d_D_commitRunningNumbers_57 (by decide) ?_
        refine u_pick [0, 2, 3] rfl ?_
        refine ih (i + 1) ws (by omega) ?_ hT hN
        rw [dset_F hP, dset_F hP] at hK
        exact hK
      · refine u_iload_n hC d_D_commitRunningNumbers_2 rfl ?_
        refine u_aload_n hC d_D_commitRunningNumbers_3 rfl ?_
        refine w_get hC f_D_18 hO rfl d_D_commitRunningNumbers_4 ?_
        refine w_callVr hC (c_L_size hL) k_D_54 i_L_size hL rfl hR1 ⟨Nat.zero_le _, Nat.zero_le _⟩ rfl rfl (Nat.le_of_ble_eq_true rfl) d_D_commitRunningNumbers_7 ?_
        refine u_icmp_ge hC 60 d_D_commitRunningNumbers_10 (by decide) (fun h_10 => absurd h_10 (nI_ge (by omega) (by omega))) (fun h_10 => ?_)
        refine u_aload_n hC d_D_commitRunningNumbers_13 rfl ?_
        refine w_get hC f_D_18 hO rfl d_D_commitRunningNumbers_14 ?_
        refine u_iload_n hC d_D_commitRunningNumbers_17 rfl ?_
        refine w_callVr hC (c_L_get hLs hcap (by omega)) k_D_72 i_L_get hL rfl hR ⟨Nat.zero_le _, Nat.zero_le _⟩ rfl rfl (Nat.le_of_ble_eq_true rfl) d_D_commitRunningNumbers_18 ?_
        refine w_cast hC rfl l_D_76 hG d_D_commitRunningNumbers_21 ?_
        refine u_astore_n hC d_D_commitRunningNumbers_24 (by decide) ?_
        refine u_aload_n hC d_D_commitRunningNumbers_25 rfl ?_
        refine u_aload_n hC d_D_commitRunningNumbers_26 rfl ?_
        refine w_callVr hC (c_T_ownsF hT hN hG ho) k_D_78 i_T_owns hT rfl hR0 ⟨Nat.zero_le _, Nat.zero_le _⟩ rfl rfl (Nat.le_of_ble_eq_true rfl) d_D_commitRunningNumbers_27 ?_
        refine u_if_eq hC 54 d_D_commitRunningNumbers_30 (by decide) (fun h_30 => ?_) (fun h_30 => absurd rfl h_30)
        refine u_iinc hC (nI (i + 1)) (j := 1) d_D_commitRunningNumbers_54 rfl (nI_1 i) (by decide) ?_
        refine u_goto hC 2 d_D_commitRunningNumbers_57 (by decide) ?_
        refine u_pick [0, 2, 3] rfl ?_
        refine ih (i + 1) ws (by omega) ?_ hT hN
        rw [dset_F hP, dset_F hP] at hK
        exact hK
set_option maxHeartbeats 4000000 in
set_option maxRecDepth 100000 in
theorem l_D_rel {t na0 : Nat} {md tp c0 s1 : Int32} {nb0 : Nat → Int32} {x : Int32} {s9 : Int32} (hn4 : n ≤ 4000) (hcap : cap ≤ 10000) (hC : vx p s0 m args meth c b_D_release 6 R_D D (gk κ, z) A) (hR : 2 + 1 ≤ R.frames ∧ 8 + (2 + 11) + 40 * 2 ≤ R.locals) (exit : ∀ ws : va_W, Dk κ z ws h0 hs hl cap cm tr na mo to co sn nb n el ro (dset (d_up ro lv (nb0 0) x) lv (x - nI 1) n) cd pl → wg ws t = some (cT md na0 tp c0 s1) → wg ws na0 = some (aI κ 8 nb0) → U p l e R s0 m args below meth c 6 D A ws 0 0 Q 81 [(4, .int (nI n)), (3, .ref t), (0, .ref h0), (1, .int s9), (2, .int x)] []) : ∀ (r i : Nat) (ws : va_W), i + r = n → Dk κ z ws h0 hs hl cap cm tr na mo to co sn nb n el ro (dset (d_up ro lv (nb0 0) x) lv (x - nI 1) i) cd pl → wg ws t = some (cT md na0 tp c0 s1) → wg ws na0 = some (aI κ 8 nb0) → U p l e R s0 m args below meth c 6 D A ws 0 0 Q 23 [(4, .int (nI i)), (3, .ref t), (0, .ref h0), (1, .int s9), (2, .int x)] [] := by
  have hR0 : 0 + 1 ≤ R.frames ∧ 8 + (2 + 11) + 40 * 0 ≤ R.locals := ⟨by omega, by omega⟩
  have hR1 : 0 + 1 ≤ R.frames ∧ 8 + (1 + 11) + 40 * 0 ≤ R.locals := ⟨by omega, by omega⟩
  intro r
  induction r with
  | zero =>
    intro i ws hi hK hT hN
    have e : i = n := by omega
    subst e
    obtain ⟨hO, hS9, hLs, hTr, hTi, hNi, hGs, hGi⟩ := id hK
    obtain ⟨mc9, he9, hL, hL2⟩ := id hLs
    refine u_iload hC d_D_release_23 rfl ?_
    refine u_aload_n hC d_D_release_25 rfl ?_
    refine w_get hC f_D_18 hO rfl d_D_release_26 ?_
    refine w_callVr hC (c_L_size hL) k_D_54 i_L_size hL rfl hR1 ⟨Nat.zero_le _, Nat.zero_le _⟩ rfl rfl (Nat.le_of_ble_eq_true rfl) d_D_release_29 ?_
    refine u_icmp_ge hC 81 d_D_release_32 (by decide) (fun h_32 => ?_) (fun h_32 => absurd (nI_le (Nat.le_refl _) (by omega)) h_32)
    exact exit ws hK hT hN
  | succ r ih =>
    intro i ws hi hK hT hN
    obtain ⟨hO, hS9, hLs, hTr, hTi, hNi, hGs, hGi⟩ := id hK
    obtain ⟨mc9, he9, hL, hL2⟩ := id hLs
    have hG := hGs i (by omega)
    rw [dset_at (Nat.le_refl i)] at hG
    by_cases hP : d_up ro lv (nb0 0) x i
    · refine u_iload hC d_D_release_23 rfl ?_
      refine u_aload_n hC d_D_release_25 rfl ?_
      refine w_get hC f_D_18 hO rfl d_D_release_26 ?_
      refine w_callVr hC (c_L_size hL) k_D_54 i_L_size hL rfl hR1 ⟨Nat.zero_le _, Nat.zero_le _⟩ rfl rfl (Nat.le_of_ble_eq_true rfl) d_D_release_29 ?_
      refine u_icmp_ge hC 81 d_D_release_32 (by decide) (fun h_32 => absurd h_32 (nI_ge (by omega) (by omega))) (fun h_32 => ?_)
      refine u_aload_n hC d_D_release_35 rfl ?_
      refine w_get hC f_D_18 hO rfl d_D_release_36 ?_
      refine u_iload hC d_D_release_39 rfl ?_
      refine w_callVr hC (c_L_get hLs hcap (by omega)) k_D_72 i_L_get hL rfl hR ⟨Nat.zero_le _, Nat.zero_le _⟩ rfl rfl (Nat.le_of_ble_eq_true rfl) d_D_release_41 ?_
      refine w_cast hC rfl l_D_76 hG d_D_release_44 ?_
      refine u_astore hC d_D_release_47 (by decide) ?_
      refine u_aload_n hC d_D_release_49 rfl ?_
      refine u_aload hC d_D_release_50 rfl ?_
      refine w_callVr hC (c_T_ownsT hT hN hG hP.1) k_D_78 i_T_owns hT rfl hR0 ⟨Nat.zero_le _, Nat.zero_le _⟩ rfl rfl (Nat.le_of_ble_eq_true rfl) d_D_release_52 ?_
      refine u_if_eq hC 75 d_D_release_55 (by decide) (fun h_55 => absurd h_55 (by decide)) (fun h_55 => ?_)
      refine u_aload hC d_D_release_58 rfl ?_
      refine w_get hC f_D_82 hG rfl d_D_release_60 ?_
      refine u_iload_n hC d_D_release_63 rfl ?_
      refine u_icmp_lt hC 75 d_D_release_64 (by decide) (fun h_64 => absurd h_64 hP.2) (fun h_64 => ?_)
      refine u_aload hC d_D_release_67 rfl ?_
      refine u_iload_n hC d_D_release_69 rfl ?_
      refine u_iconst hC (nI 1) d_D_release_70 (by decide) ?_
      refine u_isub hC d_D_release_71 ?_
      refine w_put hC f_D_82 (tt_G 1 (by decide)) rfl hG rfl rfl (Nat.le_of_ble_eq_true rfl) d_D_release_72 ?_
      refine u_iinc hC (nI (i + 1)) (j := 1) d_D_release_75 rfl (nI_1 i) (by decide) ?_
      refine u_goto hC 23 d_D_release_78 (by decide) ?_
      refine u_pick [0, 2, 3, 4, 5] rfl ?_
      refine ih (i + 1) _ (by omega) (Dk.setlv hK (by omega) hP) (by rw [wg_upN (wg_ne hT hG (by intro w; cases w))]; exact hT) (by rw [wg_upN (wg_ne hN hG (by intro w; cases w))]; exact hN)
    · by_cases ho : ro i = nb0 0
      · refine u_iload hC d_D_release_23 rfl ?_
        refine u_aload_n hC d_D_release_25 rfl ?_
        refine w_get hC f_D_18 hO rfl d_D_release_26 ?_
        refine w_callVr hC (c_L_size hL) k_D_54 i_L_size hL rfl hR1 ⟨Nat.zero_le _, Nat.zero_le _⟩ rfl rfl (Nat.le_of_ble_eq_true rfl) d_D_release_29 ?_
        refine u_icmp_ge hC 81 d_D_release_32 (by decide) (fun h_32 => absurd h_32 (nI_ge (by omega) (by omega))) (fun h_32 => ?_)
        refine u_aload_n hC d_D_release_35 rfl ?_
        refine w_get hC f_D_18 hO rfl d_D_release_36 ?_
        refine u_iload hC d_D_release_39 rfl ?_
        refine w_callVr hC (c_L_get hLs hcap (by omega)) k_D_72 i_L_get hL rfl hR ⟨Nat.zero_le _, Nat.zero_le _⟩ rfl rfl (Nat.le_of_ble_eq_true rfl) d_D_release_41 ?_
        refine w_cast hC rfl l_D_76 hG d_D_release_44 ?_
        refine u_astore hC d_D_release_47 (by decide) ?_
        refine u_aload_n hC d_D_release_49 rfl ?_
        refine u_aload hC d_D_release_50 rfl ?_
        refine w_callVr hC (c_T_ownsT hT hN hG ho) k_D_78 i_T_owns hT rfl hR0 ⟨Nat.zero_le _, Nat.zero_le _⟩ rfl rfl (Nat.le_of_ble_eq_true rfl) d_D_release_52 ?_
        refine u_if_eq hC 75 d_D_release_55 (by decide) (fun h_55 => absurd h_55 (by decide)) (fun h_55 => ?_)
        refine u_aload hC d_D_release_58 rfl ?_
        refine w_get hC f_D_82 hG rfl d_D_release_60 ?_
        refine u_iload_n hC d_D_release_63 rfl ?_
        refine u_icmp_lt hC 75 d_D_release_64 (by decide) (fun h_64 => ?_) (fun h_64 => absurd (Decidable.byContradiction (fun w => hP ⟨ho, w⟩)) h_64)
        refine u_iinc hC (nI (i + 1)) (j := 1) d_D_release_75 rfl (nI_1 i) (by decide) ?_
        refine u_goto hC 23 d_D_release_78 (by decide) ?_
        refine u_pick [0, 2, 3, 4, 5] rfl ?_
        refine ih (i + 1) ws (by omega) ?_ hT hN
        rw [dset_F hP] at hK
        exact hK
      · refine u_iload hC d_D_release_23 rfl ?_
        refine u_aload_n hC d_D_release_25 rfl ?_
        refine w_get hC f_D_18 hO rfl d_D_release_26 ?_
        refine w_callVr hC (c_L_size hL) k_D_54 i_L_size hL rfl hR1 ⟨Nat.zero_le _, Nat.zero_le _⟩ rfl rfl (Nat.le_of_ble_eq_true rfl) d_D_release_29 ?_
        refine u_icmp_ge hC 81 d_D_release_32 (by decide) (fun h_32 => absurd h_32 (nI_ge (by omega) (by omega))) (fun h_32 => ?_)
        refine u_aload_n hC d_D_release_35 rfl ?_
        refine w_get hC f_D_18 hO rfl d_D_release_36 ?_
        refine u_iload hC d_D_release_39 rfl ?_
        refine w_callVr hC (c_L_get hLs hcap (by omega)) k_D_72 i_L_get hL rfl hR ⟨Nat.zero_le _, Nat.zero_le _⟩ rfl rfl (Nat.le_of_ble_eq_true rfl) d_D_release_41 ?_
        refine w_cast hC rfl l_D_76 hG d_D_release_44 ?_
        refine u_astore hC d_D_release_47 (by decide) ?_
        refine u_aload_n hC d_D_release_49 rfl ?_
        refine u_aload hC d_D_release_50 rfl ?_
        refine w_callVr hC (c_T_ownsF hT hN hG ho) k_D_78 i_T_owns hT rfl hR0 ⟨Nat.zero_le _, Nat.zero_le _⟩ rfl rfl (Nat.le_of_ble_eq_true rfl) d_D_release_52 ?_
        refine u_if_eq hC 75 d_D_release_55 (by decide) (fun h_55 => ?_) (fun h_55 => absurd rfl h_55)
        refine u_iinc hC (nI (i + 1)) (j := 1) d_D_release_75 rfl (nI_1 i) (by decide) ?_
        refine u_goto hC 23 d_D_release_78 (by decide) ?_
        refine u_pick [0, 2, 3, 4, 5] rfl ?_
        refine ih (i + 1) ws (by omega) ?_ hT hN
        rw [dset_F hP] at hK
        exact hK
end DX0
section DX1
variable {l : Launch} {D : va_G} {κ : Nat → ClassId} {z : Nat × Nat} {ws : va_W} {h0 hs hl cap : Nat} {cm : Int32} {tr : Nat → Option Nat} {na : Nat → Nat} {mo to co sn : Nat → Int32} {nb : Nat → Nat → Int32} {n : Nat} {el : Nat → Nat} {ro lv cd pl : Nat → Int32}

set_option maxHeartbeats 4000000 in
set_option maxRecDepth 100000 in
theorem c_D_abortN {t na0 : Nat} {md tp c0 s1 : Int32} {nb0 : Nat → Int32} {x : Int32} (hK : Dk κ z ws h0 hs hl cap cm tr na mo to co sn nb n el ro lv cd pl) (hn4 : n ≤ 4000) (hcap : cap ≤ 10000) (hT : wg ws t = some (cT md na0 tp c0 s1)) (hN : wg ws na0 = some (aI κ 8 nb0)) : Ct l y_D_abortNumbersFrom b_D_abortNumbersFrom 5 none 3 0 0 D (gk κ, z) ws [.ref h0, .ref t, .int x] (fun v w' => v = none ∧ Dk κ z w' h0 hs hl cap cm tr na mo to co sn nb n el ro lv (dset (d_up ro lv (nb0 0) x) cd (nI 3) n) pl ∧ wg w' t = some (cT md na0 tp c0 s1) ∧ wg w' na0 = some (aI κ 8 nb0)) := by
  refine Ct.of (by decide) (Nat.le_of_ble_eq_true rfl) ?_
  intro p e s0 m below meth c A hC hr hn
  refine u_iconst hC (nI 0) d_D_abortNumbersFrom_0 (by decide) ?_
  refine u_istore_n hC d_D_abortNumbersFrom_1 (by decide) ?_
  refine l_D_abort (s9 := 0) hn4 hcap hC ⟨(Nat.le_of_ble_eq_true rfl), (Nat.le_of_ble_eq_true rfl)⟩ (fun w1 hK1 hT1 hN1 => ?_) n 0 ws (by omega) (by rw [dset_0]; exact hK) hT hN
  exact u_vret hC hr d_D_abortNumbersFrom_56 (Nat.le_of_ble_eq_true rfl) (Nat.le_of_ble_eq_true rfl) ⟨rfl, hK1, hT1, hN1⟩
set_option maxHeartbeats 4000000 in
set_option maxRecDepth 100000 in
theorem c_D_commitR {t na0 : Nat} {md tp c0 s1 : Int32} {nb0 : Nat → Int32} (hK : Dk κ z ws h0 hs hl cap cm tr na mo to co sn nb n el ro lv cd pl) (hn4 : n ≤ 4000) (hcap : cap ≤ 10000) (hT : wg ws t = some (cT md na0 tp c0 s1)) (hN : wg ws na0 = some (aI κ 8 nb0)) : Ct l y_D_commitRunningNumbers b_D_commitRunningNumbers 4 none 3 0 0 D (gk κ, z) ws [.ref h0, .ref t] (fun v w' => v = none ∧ Dk κ z w' h0 hs hl cap cm tr na mo to co sn nb n el ro lv (dset (d_run ro cd (nb0 0)) cd (nI 2) n) (dset (d_run ro cd (nb0 0)) pl cm n)) := by
  refine Ct.of (by decide) (Nat.le_of_ble_eq_true rfl) ?_
  intro p e s0 m below meth c A hC hr hn
  refine u_iconst hC (nI 0) d_D_commitRunningNumbers_0 (by decide) ?_
  refine u_istore_n hC d_D_commitRunningNumbers_1 (by decide) ?_
  refine l_D_commit (x := 0) (s9 := 0) (cm := cm) (ro := ro) (lv := lv) (cd := cd) (pl := pl) (hs := hs) (hl := hl) hn4 hcap hC ⟨(Nat.le_of_ble_eq_true rfl), (Nat.le_of_ble_eq_true rfl)⟩ (fun w1 hK1 hT1 hN1 => ?_) n 0 ws (by omega) (by rw [dset_0, dset_0]; exact hK) hT hN
  exact u_vret hC hr d_D_commitRunningNumbers_60 (Nat.le_of_ble_eq_true rfl) (Nat.le_of_ble_eq_true rfl) ⟨rfl, hK1⟩
set_option maxHeartbeats 4000000 in
set_option maxRecDepth 100000 in
theorem c_D_releaseF0 {s x : Int32} (hK : Dk κ z ws h0 hs hl cap cm tr na mo to co sn nb n el ro lv cd pl) (hb : ¬ ∃ j t : Nat, j < 6 ∧ s = nI j ∧ tr j = some t) : Ct l y_D_release b_D_release 6 (some .boolean) 4 0 0 D (gk κ, z) ws [.ref h0, .int s, .int x] (rt (.int 0) ws) := by
  refine Ct.of (by decide) (Nat.le_of_ble_eq_true rfl) ?_
  intro p e s0 m below meth c A hC hr hn
  obtain ⟨hO, hS9, hLs, hTr, hTi, hNi, hGs, hGi⟩ := id hK
  obtain ⟨mc9, he9, hL, hL2⟩ := id hLs
  refine u_aload_n hC d_D_release_0 rfl ?_
  refine u_iload_n hC d_D_release_1 rfl ?_
  refine w_callVr hC (c_D_trF hK hb) k_D_33 i_D_transactionOf hO rfl ⟨(Nat.le_of_ble_eq_true rfl), (Nat.le_of_ble_eq_true rfl)⟩ ⟨(Nat.le_of_ble_eq_true rfl), (Nat.le_of_ble_eq_true rfl)⟩ rfl rfl (Nat.le_of_ble_eq_true rfl) d_D_release_2 ?_
  refine u_astore_nN hC d_D_release_5 (by decide) ?_
  refine u_aload_nN hC d_D_release_6 rfl ?_
  refine u_ifnullN hC 18 d_D_release_7 (by decide) ?_
  refine u_iconst hC (nI 0) d_D_release_18 (by decide) ?_
  exact u_zret hC hr rfl d_D_release_19 (Nat.le_of_ble_eq_true rfl) (Nat.le_of_ble_eq_true rfl) ⟨rfl, rfl⟩
set_option maxHeartbeats 4000000 in
set_option maxRecDepth 100000 in
theorem c_D_releaseF1 {j t : Nat} {x : Int32} (hK : Dk κ z ws h0 hs hl cap cm tr na mo to co sn nb n el ro lv cd pl) (hj : j < 6) (ht : tr j = some t) (hx : ¬ (¬ x < nI 1 ∧ ¬ to j < x)) : Ct l y_D_release b_D_release 6 (some .boolean) 4 0 0 D (gk κ, z) ws [.ref h0, .int (nI j), .int x] (rt (.int 0) ws) := by
  refine Ct.of (by decide) (Nat.le_of_ble_eq_true rfl) ?_
  intro p e s0 m below meth c A hC hr hn
  obtain ⟨hO, hS9, hLs, hTr, hTi, hNi, hGs, hGi⟩ := id hK
  obtain ⟨mc9, he9, hL, hL2⟩ := id hLs
  obtain ⟨hT, hN⟩ := hTr j t hj ht
  refine u_aload_n hC d_D_release_0 rfl ?_
  refine u_iload_n hC d_D_release_1 rfl ?_
  refine w_callVr hC (c_D_trT hK hj ht) k_D_33 i_D_transactionOf hO rfl ⟨(Nat.le_of_ble_eq_true rfl), (Nat.le_of_ble_eq_true rfl)⟩ ⟨(Nat.le_of_ble_eq_true rfl), (Nat.le_of_ble_eq_true rfl)⟩ rfl rfl (Nat.le_of_ble_eq_true rfl) d_D_release_2 ?_
  refine u_astore_n hC d_D_release_5 (by decide) ?_
  refine u_aload_n hC d_D_release_6 rfl ?_
  refine u_ifnull hC d_D_release_7 ?_
  refine u_aload_n hC d_D_release_10 rfl ?_
  refine u_iload_n hC d_D_release_11 rfl ?_
  refine w_callVr hC (c_T_leaveF hT hx) k_D_69 i_T_canLeave hT rfl ⟨(Nat.le_of_ble_eq_true rfl), (Nat.le_of_ble_eq_true rfl)⟩ ⟨(Nat.le_of_ble_eq_true rfl), (Nat.le_of_ble_eq_true rfl)⟩ rfl rfl (Nat.le_of_ble_eq_true rfl) d_D_release_12 ?_
  refine u_if_ne hC 20 d_D_release_15 (by decide) (fun h_15 => absurd rfl h_15) (fun h_15 => ?_)
  refine u_iconst hC (nI 0) d_D_release_18 (by decide) ?_
  exact u_zret hC hr rfl d_D_release_19 (Nat.le_of_ble_eq_true rfl) (Nat.le_of_ble_eq_true rfl) ⟨rfl, rfl⟩
set_option maxHeartbeats 4000000 in
set_option maxRecDepth 100000 in
theorem c_D_backF0 {s x : Int32} (hK : Dk κ z ws h0 hs hl cap cm tr na mo to co sn nb n el ro lv cd pl) (hb : ¬ ∃ j t : Nat, j < 6 ∧ s = nI j ∧ tr j = some t) : Ct l y_D_back b_D_back 4 (some .boolean) 4 0 0 D (gk κ, z) ws [.ref h0, .int s, .int x] (rt (.int 0) ws) := by
  refine Ct.of (by decide) (Nat.le_of_ble_eq_true rfl) ?_
  intro p e s0 m below meth c A hC hr hn
  obtain ⟨hO, hS9, hLs, hTr, hTi, hNi, hGs, hGi⟩ := id hK
  obtain ⟨mc9, he9, hL, hL2⟩ := id hLs
  refine u_aload_n hC d_D_back_0 rfl ?_
  refine u_iload_n hC d_D_back_1 rfl ?_
  refine w_callVr hC (c_D_trF hK hb) k_D_33 i_D_transactionOf hO rfl ⟨(Nat.le_of_ble_eq_true rfl), (Nat.le_of_ble_eq_true rfl)⟩ ⟨(Nat.le_of_ble_eq_true rfl), (Nat.le_of_ble_eq_true rfl)⟩ rfl rfl (Nat.le_of_ble_eq_true rfl) d_D_back_2 ?_
  refine u_astore_nN hC d_D_back_5 (by decide) ?_
  refine u_aload_nN hC d_D_back_6 rfl ?_
  refine u_ifnullN hC 18 d_D_back_7 (by decide) ?_
  refine u_iconst hC (nI 0) d_D_back_18 (by decide) ?_
  exact u_zret hC hr rfl d_D_back_19 (Nat.le_of_ble_eq_true rfl) (Nat.le_of_ble_eq_true rfl) ⟨rfl, rfl⟩
set_option maxHeartbeats 4000000 in
set_option maxRecDepth 100000 in
theorem c_D_backF1 {j t : Nat} {x : Int32} (hK : Dk κ z ws h0 hs hl cap cm tr na mo to co sn nb n el ro lv cd pl) (hj : j < 6) (ht : tr j = some t) (hx : ¬ (¬ x < nI 1 ∧ ¬ to j < x)) : Ct l y_D_back b_D_back 4 (some .boolean) 4 0 0 D (gk κ, z) ws [.ref h0, .int (nI j), .int x] (rt (.int 0) ws) := by
  refine Ct.of (by decide) (Nat.le_of_ble_eq_true rfl) ?_
  intro p e s0 m below meth c A hC hr hn
  obtain ⟨hO, hS9, hLs, hTr, hTi, hNi, hGs, hGi⟩ := id hK
  obtain ⟨mc9, he9, hL, hL2⟩ := id hLs
  obtain ⟨hT, hN⟩ := hTr j t hj ht
  refine u_aload_n hC d_D_back_0 rfl ?_
  refine u_iload_n hC d_D_back_1 rfl ?_
  refine w_callVr hC (c_D_trT hK hj ht) k_D_33 i_D_transactionOf hO rfl ⟨(Nat.le_of_ble_eq_true rfl), (Nat.le_of_ble_eq_true rfl)⟩ ⟨(Nat.le_of_ble_eq_true rfl), (Nat.le_of_ble_eq_true rfl)⟩ rfl rfl (Nat.le_of_ble_eq_true rfl) d_D_back_2 ?_
  refine u_astore_n hC d_D_back_5 (by decide) ?_
  refine u_aload_n hC d_D_back_6 rfl ?_
  refine u_ifnull hC d_D_back_7 ?_
  refine u_aload_n hC d_D_back_10 rfl ?_
  refine u_iload_n hC d_D_back_11 rfl ?_
  refine w_callVr hC (c_T_leaveF hT hx) k_D_69 i_T_canLeave hT rfl ⟨(Nat.le_of_ble_eq_true rfl), (Nat.le_of_ble_eq_true rfl)⟩ ⟨(Nat.le_of_ble_eq_true rfl), (Nat.le_of_ble_eq_true rfl)⟩ rfl rfl (Nat.le_of_ble_eq_true rfl) d_D_back_12 ?_
  refine u_if_ne hC 20 d_D_back_15 (by decide) (fun h_15 => absurd rfl h_15) (fun h_15 => ?_)
  refine u_iconst hC (nI 0) d_D_back_18 (by decide) ?_
  exact u_zret hC hr rfl d_D_back_19 (Nat.le_of_ble_eq_true rfl) (Nat.le_of_ble_eq_true rfl) ⟨rfl, rfl⟩
set_option maxHeartbeats 4000000 in
set_option maxRecDepth 100000 in
theorem c_D_releaseT {j t u k : Nat} (hK : Dk κ z ws h0 hs hl cap cm tr na mo to co sn nb n el ro lv cd pl) (hn4 : n ≤ 4000) (hcap : cap ≤ 10000) (hj : j < 6) (ht : tr j = some t) (hu : to j = nI u) (hu7 : u ≤ 7) (h1 : 1 ≤ k) (h2 : k ≤ u) : Ct l y_D_release b_D_release 6 (some .boolean) 4 0 0 D (gk κ, z) ws [.ref h0, .int (nI j), .int (nI k)] (fun v w' => v = some (.int 1) ∧ Dk κ z w' h0 hs hl cap cm tr na mo (upd to j (nI (k - 1))) co sn (va_up nb j (t_clr (nb j) k 8)) n el ro (dset (d_up ro lv (nb j 0) (nI k)) lv (nI k - nI 1) n) cd pl) := by
  refine Ct.of (by decide) (Nat.le_of_ble_eq_true rfl) ?_
  intro p e s0 m below meth c A hC hr hn
  obtain ⟨hO, hS9, hLs, hTr, hTi, hNi, hGs, hGi⟩ := id hK
  obtain ⟨mc9, he9, hL, hL2⟩ := id hLs
  obtain ⟨hT, hN⟩ := hTr j t hj ht
  refine u_aload_n hC d_D_release_0 rfl ?_
  refine u_iload_n hC d_D_release_1 rfl ?_
  refine w_callVr hC (c_D_trT hK hj ht) k_D_33 i_D_transactionOf hO rfl ⟨(Nat.le_of_ble_eq_true rfl), (Nat.le_of_ble_eq_true rfl)⟩ ⟨(Nat.le_of_ble_eq_true rfl), (Nat.le_of_ble_eq_true rfl)⟩ rfl rfl (Nat.le_of_ble_eq_true rfl) d_D_release_2 ?_
  refine u_astore_n hC d_D_release_5 (by decide) ?_
  refine u_aload_n hC d_D_release_6 rfl ?_
  refine u_ifnull hC d_D_release_7 ?_
  refine u_aload_n hC d_D_release_10 rfl ?_
  refine u_iload_n hC d_D_release_11 rfl ?_
  refine w_callVr hC (c_T_leaveT hT (nI_nlt h1 (by omega)) (by rw [hu]; exact nI_nlt h2 (by omega))) k_D_69 i_T_canLeave hT rfl ⟨(Nat.le_of_ble_eq_true rfl), (Nat.le_of_ble_eq_true rfl)⟩ ⟨(Nat.le_of_ble_eq_true rfl), (Nat.le_of_ble_eq_true rfl)⟩ rfl rfl (Nat.le_of_ble_eq_true rfl) d_D_release_12 ?_
  refine u_if_ne hC 20 d_D_release_15 (by decide) (fun h_15 => ?_) (fun h_15 => absurd h_15 (by decide))
  refine u_iconst hC (nI 0) d_D_release_20 (by decide) ?_
  refine u_istore hC d_D_release_21 (by decide) ?_
  refine l_D_rel hn4 hcap hC ⟨(Nat.le_of_ble_eq_true rfl), (Nat.le_of_ble_eq_true rfl)⟩ (fun w1 hK1 hT1 hN1 => ?_) n 0 ws (by omega) (by rw [dset_0]; exact hK) hT hN
  have hT2 : wg (wup w1 (na j) (aI κ 8 (t_clr (nb j) k 8))) t = some (cT (mo j) (na j) (to j) (co j) (sn j)) := by rw [wg_upN (wg_ne hT1 hN1 (by intro w; cases w))]; exact hT1
  refine u_aload_n hC d_D_release_81 rfl ?_
  refine u_iload_n hC d_D_release_82 rfl ?_
  refine w_callVv hC (c_T_clear (by omega) hT1 hN1) k_D_85 i_T_clearLevelsFrom hT1 rfl ⟨(Nat.le_of_ble_eq_true rfl), (Nat.le_of_ble_eq_true rfl)⟩ ⟨(Nat.le_of_ble_eq_true rfl), (Nat.le_of_ble_eq_true rfl)⟩ rfl rfl (Nat.le_of_ble_eq_true rfl) d_D_release_83 ?_
  refine u_aload_n hC d_D_release_86 rfl ?_
  refine u_iload_n hC d_D_release_87 rfl ?_
  refine u_iconst hC (nI 1) d_D_release_88 (by decide) ?_
  refine u_isub hC d_D_release_89 ?_
  refine u_val (n_pred h1) ?_
  refine w_put hC f_D_66 (tt_T 2 (by decide)) rfl hT2 rfl rfl (Nat.le_of_ble_eq_true rfl) d_D_release_90 ?_
  refine u_iconst hC (nI 1) d_D_release_93 (by decide) ?_
  exact u_zret hC hr rfl d_D_release_94 (Nat.le_of_ble_eq_true rfl) (Nat.le_of_ble_eq_true rfl) ⟨rfl, by have h9 := (hK1.updN hj ht (t_clr (nb j) k 8)).updT hj ht (nI (k - 1)) (co j) (sn j); rw [m_upd_id, m_upd_id] at h9; exact h9⟩
set_option maxHeartbeats 4000000 in
set_option maxRecDepth 100000 in
theorem c_D_backT {j t u k : Nat} (hK : Dk κ z ws h0 hs hl cap cm tr na mo to co sn nb n el ro lv cd pl) (hn4 : n ≤ 4000) (hcap : cap ≤ 10000) (hj : j < 6) (ht : tr j = some t) (hu : to j = nI u) (hu7 : u ≤ 7) (h1 : 1 ≤ k) (h2 : k ≤ u) : Ct l y_D_back b_D_back 4 (some .boolean) 4 0 0 D (gk κ, z) ws [.ref h0, .int (nI j), .int (nI k)] (fun v w' => v = some (.int 1) ∧ Dk κ z w' h0 hs hl cap cm tr na mo (upd to j (nI k)) co sn (va_up nb j (t_clr (nb j) k 8)) n el ro lv (dset (d_up ro lv (nb j 0) (nI k)) cd (nI 3) n) pl) := by
  refine Ct.of (by decide) (Nat.le_of_ble_eq_true rfl) ?_
  intro p e s0 m below meth c A hC hr hn
  obtain ⟨hO, hS9, hLs, hTr, hTi, hNi, hGs, hGi⟩ := id hK
  obtain ⟨mc9, he9, hL, hL2⟩ := id hLs
  obtain ⟨hT, hN⟩ := hTr j t hj ht
  refine u_aload_n hC d_D_back_0 rfl ?_
  refine u_iload_n hC d_D_back_1 rfl ?_
  refine w_callVr hC (c_D_trT hK hj ht) k_D_33 i_D_transactionOf hO rfl ⟨(Nat.le_of_ble_eq_true rfl), (Nat.le_of_ble_eq_true rfl)⟩ ⟨(Nat.le_of_ble_eq_true rfl), (Nat.le_of_ble_eq_true rfl)⟩ rfl rfl (Nat.le_of_ble_eq_true rfl) d_D_back_2 ?_
  refine u_astore_n hC d_D_back_5 (by decide) ?_
  refine u_aload_n hC d_D_back_6 rfl ?_
  refine u_ifnull hC d_D_back_7 ?_
  refine u_aload_n hC d_D_back_10 rfl ?_
  refine u_iload_n hC d_D_back_11 rfl ?_
  refine w_callVr hC (c_T_leaveT hT (nI_nlt h1 (by omega)) (by rw [hu]; exact nI_nlt h2 (by omega))) k_D_69 i_T_canLeave hT rfl ⟨(Nat.le_of_ble_eq_true rfl), (Nat.le_of_ble_eq_true rfl)⟩ ⟨(Nat.le_of_ble_eq_true rfl), (Nat.le_of_ble_eq_true rfl)⟩ rfl rfl (Nat.le_of_ble_eq_true rfl) d_D_back_12 ?_
  refine u_if_ne hC 20 d_D_back_15 (by decide) (fun h_15 => ?_) (fun h_15 => absurd h_15 (by decide))
  refine u_aload_n hC d_D_back_20 rfl ?_
  refine u_aload_n hC d_D_back_21 rfl ?_
  refine u_iload_n hC d_D_back_22 rfl ?_
  refine w_callV hC (c_D_abortN hK hn4 hcap hT hN) k_D_88 i_D_abortNumbersFrom hO rfl ⟨(Nat.le_of_ble_eq_true rfl), (Nat.le_of_ble_eq_true rfl)⟩ ⟨(Nat.le_of_ble_eq_true rfl), (Nat.le_of_ble_eq_true rfl)⟩ rfl rfl (Nat.le_of_ble_eq_true rfl) d_D_back_23 (fun v w1 hp => ?_)
  obtain ⟨rfl, hK1, hT1, hN1⟩ := hp
  have hT2 : wg (wup w1 (na j) (aI κ 8 (t_clr (nb j) k 8))) t = some (cT (mo j) (na j) (to j) (co j) (sn j)) := by rw [wg_upN (wg_ne hT1 hN1 (by intro w; cases w))]; exact hT1
  refine u_non ?_
  refine u_aload_n hC d_D_back_26 rfl ?_
  refine u_iload_n hC d_D_back_27 rfl ?_
  refine w_callVv hC (c_T_clear (by omega) hT1 hN1) k_D_85 i_T_clearLevelsFrom hT1 rfl ⟨(Nat.le_of_ble_eq_true rfl), (Nat.le_of_ble_eq_true rfl)⟩ ⟨(Nat.le_of_ble_eq_true rfl), (Nat.le_of_ble_eq_true rfl)⟩ rfl rfl (Nat.le_of_ble_eq_true rfl) d_D_back_28 ?_
  refine u_aload_n hC d_D_back_31 rfl ?_
  refine u_iload_n hC d_D_back_32 rfl ?_
  refine w_put hC f_D_66 (tt_T 2 (by decide)) rfl hT2 rfl rfl (Nat.le_of_ble_eq_true rfl) d_D_back_33 ?_
  refine u_iconst hC (nI 1) d_D_back_36 (by decide) ?_
  exact u_zret hC hr rfl d_D_back_37 (Nat.le_of_ble_eq_true rfl) (Nat.le_of_ble_eq_true rfl) ⟨rfl, by have h9 := (hK1.updN hj ht (t_clr (nb j) k 8)).updT hj ht (nI k) (co j) (sn j); rw [m_upd_id, m_upd_id] at h9; exact h9⟩
set_option maxHeartbeats 4000000 in
set_option maxRecDepth 100000 in
theorem c_D_commitF {s : Int32} (hK : Dk κ z ws h0 hs hl cap cm tr na mo to co sn nb n el ro lv cd pl) (hb : ¬ ∃ j t : Nat, j < 6 ∧ s = nI j ∧ tr j = some t) : Ct l y_D_commit b_D_commit 3 (some .int) 4 0 0 D (gk κ, z) ws [.ref h0, .int s] (rt (.int (-1)) ws) := by
  refine Ct.of (by decide) (Nat.le_of_ble_eq_true rfl) ?_
  intro p e s0 m below meth c A hC hr hn
  obtain ⟨hO, hS9, hLs, hTr, hTi, hNi, hGs, hGi⟩ := id hK
  obtain ⟨mc9, he9, hL, hL2⟩ := id hLs
  refine u_aload_n hC d_D_commit_0 rfl ?_
  refine u_iload_n hC d_D_commit_1 rfl ?_
  refine w_callVr hC (c_D_trF hK hb) k_D_33 i_D_transactionOf hO rfl ⟨(Nat.le_of_ble_eq_true rfl), (Nat.le_of_ble_eq_true rfl)⟩ ⟨(Nat.le_of_ble_eq_true rfl), (Nat.le_of_ble_eq_true rfl)⟩ rfl rfl (Nat.le_of_ble_eq_true rfl) d_D_commit_2 ?_
  refine u_astore_nN hC d_D_commit_5 (by decide) ?_
  refine u_aload_nN hC d_D_commit_6 rfl ?_
  refine u_ifnonnullN hC d_D_commit_7 ?_
  refine u_iconst hC (-1) d_D_commit_10 (by decide) ?_
  exact u_iret hC hr d_D_commit_11 (Nat.le_of_ble_eq_true rfl) (Nat.le_of_ble_eq_true rfl) ⟨rfl, rfl⟩
set_option maxHeartbeats 4000000 in
set_option maxRecDepth 100000 in
theorem c_D_commitZ {j t : Nat} (hK : Dk κ z ws h0 hs hl cap cm tr na mo to co sn nb n el ro lv cd pl) (hj : j < 6) (ht : tr j = some t) (h0z : nb j 0 = 0) : Ct l y_D_commit b_D_commit 3 (some .int) 4 0 0 D (gk κ, z) ws [.ref h0, .int (nI j)] (fun v w' => v = some (.int 0) ∧ Dk κ z w' h0 hs hl cap cm (va_up tr j none) na mo to co sn nb n el ro lv cd pl) := by
  refine Ct.of (by decide) (Nat.le_of_ble_eq_true rfl) ?_
  intro p e s0 m below meth c A hC hr hn
  obtain ⟨hO, hS9, hLs, hTr, hTi, hNi, hGs, hGi⟩ := id hK
  obtain ⟨mc9, he9, hL, hL2⟩ := id hLs
  obtain ⟨hT, hN⟩ := hTr j t hj ht
  refine u_aload_n hC d_D_commit_0 rfl ?_
  refine u_iload_n hC d_D_commit_1 rfl ?_
  refine w_callVr hC (c_D_trT hK hj ht) k_D_33 i_D_transactionOf hO rfl ⟨(Nat.le_of_ble_eq_true rfl), (Nat.le_of_ble_eq_true rfl)⟩ ⟨(Nat.le_of_ble_eq_true rfl), (Nat.le_of_ble_eq_true rfl)⟩ rfl rfl (Nat.le_of_ble_eq_true rfl) d_D_commit_2 ?_
  refine u_astore_n hC d_D_commit_5 (by decide) ?_
  refine u_aload_n hC d_D_commit_6 rfl ?_
  refine u_ifnonnull hC 12 d_D_commit_7 (by decide) ?_
  refine u_aload_n hC d_D_commit_12 rfl ?_
  refine w_get hC f_D_11 hO rfl d_D_commit_13 ?_
  refine u_iload_n hC d_D_commit_16 rfl ?_
  refine u_null hC d_D_commit_17 ?_
  refine w_astqN hC 2 hS9 rfl j rfl hj (by decide) d_D_commit_18 ?_
  have hKd := hK.drop j
  have hTd : wg (wup ws hs (aQ κ 2 6 (va_up tr j none))) t = some (cT (mo j) (na j) (to j) (co j) (sn j)) := by rw [wg_upN (wg_ne hT hS9 (by intro w; cases w))]; exact hT
  have hNd : wg (wup ws hs (aQ κ 2 6 (va_up tr j none))) (na j) = some (aI κ 8 (nb j)) := by rw [wg_upN (wg_ne hN hS9 aIQ)]; exact hN
  have hOd : wg (wup ws hs (aQ κ 2 6 (va_up tr j none))) h0 = some (cD hs hl cm) := hKd.1
  refine u_aload_n hC d_D_commit_19 rfl ?_
  refine w_get hC f_D_62 hTd rfl d_D_commit_20 ?_
  refine u_iconst hC (nI 0) d_D_commit_23 (by decide) ?_
  refine w_iald hC 0 hNd rfl 0 rfl (by decide) (by decide) d_D_commit_24 ?_
  refine u_if_ne hC 30 d_D_commit_25 (by decide) (fun h_25 => absurd h0z h_25) (fun h_25 => ?_)
  refine u_iconst hC (nI 0) d_D_commit_28 (by decide) ?_
  exact u_iret hC hr d_D_commit_29 (Nat.le_of_ble_eq_true rfl) (Nat.le_of_ble_eq_true rfl) ⟨rfl, hKd⟩
set_option maxHeartbeats 4000000 in
set_option maxRecDepth 100000 in
theorem c_D_commitT {j t : Nat} (hK : Dk κ z ws h0 hs hl cap cm tr na mo to co sn nb n el ro lv cd pl) (hn4 : n ≤ 4000) (hcap : cap ≤ 10000) (hj : j < 6) (ht : tr j = some t) (h0z : ¬ nb j 0 = 0) : Ct l y_D_commit b_D_commit 3 (some .int) 4 0 0 D (gk κ, z) ws [.ref h0, .int (nI j)] (fun v w' => v = some (.int (cm + nI 1)) ∧ Dk κ z w' h0 hs hl cap (cm + nI 1) (va_up tr j none) na mo to co sn nb n el ro lv (dset (d_run ro cd (nb j 0)) cd (nI 2) n) (dset (d_run ro cd (nb j 0)) pl (cm + nI 1) n)) := by
  refine Ct.of (by decide) (Nat.le_of_ble_eq_true rfl) ?_
  intro p e s0 m below meth c A hC hr hn
  obtain ⟨hO, hS9, hLs, hTr, hTi, hNi, hGs, hGi⟩ := id hK
  obtain ⟨mc9, he9, hL, hL2⟩ := id hLs
  obtain ⟨hT, hN⟩ := hTr j t hj ht
  refine u_aload_n hC d_D_commit_0 rfl ?_
  refine u_iload_n hC d_D_commit_1 rfl ?_
  refine w_callVr hC (c_D_trT hK hj ht) k_D_33 i_D_transactionOf hO rfl ⟨(Nat.le_of_ble_eq_true rfl), (Nat.le_of_ble_eq_true rfl)⟩ ⟨(Nat.le_of_ble_eq_true rfl), (Nat.le_of_ble_eq_true rfl)⟩ rfl rfl (Nat.le_of_ble_eq_true rfl) d_D_commit_2 ?_
  refine u_astore_n hC d_D_commit_5 (by decide) ?_
  refine u_aload_n hC d_D_commit_6 rfl ?_
  refine u_ifnonnull hC 12 d_D_commit_7 (by decide) ?_
  refine u_aload_n hC d_D_commit_12 rfl ?_
  refine w_get hC f_D_11 hO rfl d_D_commit_13 ?_
  refine u_iload_n hC d_D_commit_16 rfl ?_
  refine u_null hC d_D_commit_17 ?_
  refine w_astqN hC 2 hS9 rfl j rfl hj (by decide) d_D_commit_18 ?_
  have hKd := hK.drop j
  have hTd : wg (wup ws hs (aQ κ 2 6 (va_up tr j none))) t = some (cT (mo j) (na j) (to j) (co j) (sn j)) := by rw [wg_upN (wg_ne hT hS9 (by intro w; cases w))]; exact hT
  have hNd : wg (wup ws hs (aQ κ 2 6 (va_up tr j none))) (na j) = some (aI κ 8 (nb j)) := by rw [wg_upN (wg_ne hN hS9 aIQ)]; exact hN
  have hOd : wg (wup ws hs (aQ κ 2 6 (va_up tr j none))) h0 = some (cD hs hl cm) := hKd.1
  refine u_aload_n hC d_D_commit_19 rfl ?_
  refine w_get hC f_D_62 hTd rfl d_D_commit_20 ?_
  refine u_iconst hC (nI 0) d_D_commit_23 (by decide) ?_
  refine w_iald hC 0 hNd rfl 0 rfl (by decide) (by decide) d_D_commit_24 ?_
  refine u_if_ne hC 30 d_D_commit_25 (by decide) (fun h_25 => ?_) (fun h_25 => absurd h_25 h0z)
  refine u_aload_n hC d_D_commit_30 rfl ?_
  refine u_dup hC d_D_commit_31 rfl ?_
  refine w_get hC f_D_22 hOd rfl d_D_commit_32 ?_
  refine u_iconst hC (nI 1) d_D_commit_35 (by decide) ?_
  refine u_iadd hC d_D_commit_36 ?_
  refine w_put hC f_D_22 (tt_D 2 (by decide)) rfl hOd rfl rfl (Nat.le_of_ble_eq_true rfl) d_D_commit_37 ?_
  have hKe := hKd.updD (cm + nI 1)
  have hTe : wg (wup (wup ws hs (aQ κ 2 6 (va_up tr j none))) h0 (cD hs hl (cm + nI 1))) t = some (cT (mo j) (na j) (to j) (co j) (sn j)) := by rw [wg_upN (wg_ne hTd hOd (by intro w; cases w))]; exact hTd
  have hNe : wg (wup (wup ws hs (aQ κ 2 6 (va_up tr j none))) h0 (cD hs hl (cm + nI 1))) (na j) = some (aI κ 8 (nb j)) := by rw [wg_upN (wg_ne hNd hOd (by intro w; cases w))]; exact hNd
  refine u_aload_n hC d_D_commit_40 rfl ?_
  refine u_aload_n hC d_D_commit_41 rfl ?_
  refine w_callV hC (c_D_commitR hKe hn4 hcap hTe hNe) k_D_92 i_D_commitRunningNumbers hKe.1 rfl ⟨(Nat.le_of_ble_eq_true rfl), (Nat.le_of_ble_eq_true rfl)⟩ ⟨(Nat.le_of_ble_eq_true rfl), (Nat.le_of_ble_eq_true rfl)⟩ rfl rfl (Nat.le_of_ble_eq_true rfl) d_D_commit_42 (fun v w1 hp => ?_)
  obtain ⟨rfl, hK1⟩ := hp
  refine u_non ?_
  refine u_aload_n hC d_D_commit_45 rfl ?_
  refine w_get hC f_D_22 hK1.1 rfl d_D_commit_46 ?_
  exact u_iret hC hr d_D_commit_49 (Nat.le_of_ble_eq_true rfl) (Nat.le_of_ble_eq_true rfl) ⟨rfl, hK1⟩
set_option maxHeartbeats 4000000 in
set_option maxRecDepth 100000 in
theorem c_D_abortF {s : Int32} (hK : Dk κ z ws h0 hs hl cap cm tr na mo to co sn nb n el ro lv cd pl) (hb : ¬ ∃ j t : Nat, j < 6 ∧ s = nI j ∧ tr j = some t) : Ct l y_D_abort b_D_abort 3 (some .boolean) 4 0 0 D (gk κ, z) ws [.ref h0, .int s] (rt (.int 0) ws) := by
  refine Ct.of (by decide) (Nat.le_of_ble_eq_true rfl) ?_
  intro p e s0 m below meth c A hC hr hn
  obtain ⟨hO, hS9, hLs, hTr, hTi, hNi, hGs, hGi⟩ := id hK
  obtain ⟨mc9, he9, hL, hL2⟩ := id hLs
  refine u_aload_n hC d_D_abort_0 rfl ?_
  refine u_iload_n hC d_D_abort_1 rfl ?_
  refine w_callVr hC (c_D_trF hK hb) k_D_33 i_D_transactionOf hO rfl ⟨(Nat.le_of_ble_eq_true rfl), (Nat.le_of_ble_eq_true rfl)⟩ ⟨(Nat.le_of_ble_eq_true rfl), (Nat.le_of_ble_eq_true rfl)⟩ rfl rfl (Nat.le_of_ble_eq_true rfl) d_D_abort_2 ?_
  refine u_astore_nN hC d_D_abort_5 (by decide) ?_
  refine u_aload_nN hC d_D_abort_6 rfl ?_
  refine u_ifnonnullN hC d_D_abort_7 ?_
  refine u_iconst hC (nI 0) d_D_abort_10 (by decide) ?_
  exact u_zret hC hr rfl d_D_abort_11 (Nat.le_of_ble_eq_true rfl) (Nat.le_of_ble_eq_true rfl) ⟨rfl, rfl⟩
set_option maxHeartbeats 4000000 in
set_option maxRecDepth 100000 in
theorem c_D_abortT {j t : Nat} (hK : Dk κ z ws h0 hs hl cap cm tr na mo to co sn nb n el ro lv cd pl) (hn4 : n ≤ 4000) (hcap : cap ≤ 10000) (hj : j < 6) (ht : tr j = some t) : Ct l y_D_abort b_D_abort 3 (some .boolean) 4 0 0 D (gk κ, z) ws [.ref h0, .int (nI j)] (fun v w' => v = some (.int 1) ∧ Dk κ z w' h0 hs hl cap cm (va_up tr j none) na mo to co sn nb n el ro lv (dset (d_up ro lv (nb j 0) (nI 0)) cd (nI 3) n) pl) := by
  refine Ct.of (by decide) (Nat.le_of_ble_eq_true rfl) ?_
  intro p e s0 m below meth c A hC hr hn
  obtain ⟨hO, hS9, hLs, hTr, hTi, hNi, hGs, hGi⟩ := id hK
  obtain ⟨mc9, he9, hL, hL2⟩ := id hLs
  obtain ⟨hT, hN⟩ := hTr j t hj ht
  refine u_aload_n hC d_D_abort_0 rfl ?_
  refine u_iload_n hC d_D_abort_1 rfl ?_
  refine w_callVr hC (c_D_trT hK hj ht) k_D_33 i_D_transactionOf hO rfl ⟨(Nat.le_of_ble_eq_true rfl), (Nat.le_of_ble_eq_true rfl)⟩ ⟨(Nat.le_of_ble_eq_true rfl), (Nat.le_of_ble_eq_true rfl)⟩ rfl rfl (Nat.le_of_ble_eq_true rfl) d_D_abort_2 ?_
  refine u_astore_n hC d_D_abort_5 (by decide) ?_
  refine u_aload_n hC d_D_abort_6 rfl ?_
  refine u_ifnonnull hC 12 d_D_abort_7 (by decide) ?_
  refine u_aload_n hC d_D_abort_12 rfl ?_
  refine u_aload_n hC d_D_abort_13 rfl ?_
  refine u_iconst hC (nI 0) d_D_abort_14 (by decide) ?_
  refine w_callV hC (c_D_abortN hK hn4 hcap hT hN) k_D_88 i_D_abortNumbersFrom hO rfl ⟨(Nat.le_of_ble_eq_true rfl), (Nat.le_of_ble_eq_true rfl)⟩ ⟨(Nat.le_of_ble_eq_true rfl), (Nat.le_of_ble_eq_true rfl)⟩ rfl rfl (Nat.le_of_ble_eq_true rfl) d_D_abort_15 (fun v w1 hp => ?_)
  obtain ⟨rfl, hK1, hT1, hN1⟩ := hp
  refine u_non ?_
  refine u_aload_n hC d_D_abort_18 rfl ?_
  refine w_get hC f_D_11 hK1.1 rfl d_D_abort_19 ?_
  refine u_iload_n hC d_D_abort_22 rfl ?_
  refine u_null hC d_D_abort_23 ?_
  refine w_astqN hC 2 hK1.2.1 rfl j rfl hj (by decide) d_D_abort_24 ?_
  refine u_iconst hC (nI 1) d_D_abort_25 (by decide) ?_
  exact u_zret hC hr rfl d_D_abort_26 (Nat.le_of_ble_eq_true rfl) (Nat.le_of_ble_eq_true rfl) ⟨rfl, hK1.drop j⟩
end DX1
end
section
/-- sessions and conditions behind aborts of the sessions k, .., k + r - 1 -/
abbrev DC : Type := (Nat → Option Nat) × (Nat → Int32)
noncomputable def d_cr (n : Nat) (ro lv : Nat → Int32) (nb : Nat → Nat → Int32) : Nat → Nat → DC → DC
  | 0, _, x => x
  | r + 1, k, x => d_cr n ro lv nb r (k + 1) (match x.1 k with
    | none => x
    | some _ => (va_up x.1 k none, dset (d_up ro lv (nb k 0) (nI 0)) x.2 (nI 3) n))
/-- how many of r levels from k on have no number -/
def d_mis (nb : Nat → Int32) : Nat → Nat → Nat
  | 0, _ => 0
  | r + 1, k => (if nb k = 0 then 1 else 0) + d_mis nb r (k + 1)
theorem d_mis_le (nb : Nat → Int32) : ∀ r k : Nat, d_mis nb r k ≤ r
  | 0, _ => Nat.le_refl _
  | r + 1, k => by
    have := d_mis_le nb r (k + 1)
    unfold d_mis
    split <;> omega
theorem d_mis_upd (nb : Nat → Int32) (q : Nat) (x : Int32) : ∀ r k : Nat, q < k → d_mis (upd nb q x) r k = d_mis nb r k
  | 0, _, _ => rfl
  | r + 1, k, h => by
    unfold d_mis
    rw [d_mis_upd nb q x r (k + 1) (by omega), pk_un (by omega)]
/-- numbers given, the transaction's numbers, roots, levels, conditions, places -/
abbrev DG : Type := Nat × (Nat → Int32) × (Nat → Int32) × (Nat → Int32) × (Nat → Int32) × (Nat → Int32)
def d_new (k : Nat) (x : DG) : DG := (x.1 + 1, upd x.2.1 k (nI (x.1 + 1)), upd x.2.2.1 x.1 (upd x.2.1 k (nI (x.1 + 1)) 0), upd x.2.2.2.1 x.1 (nI k), upd x.2.2.2.2.1 x.1 (nI 1), upd x.2.2.2.2.2 x.1 (nI 0))
def d_gv : Nat → Nat → DG → DG
  | 0, _, x => x
  | r + 1, k, x => d_gv r (k + 1) (if x.2.1 k = 0 then d_new k x else x)
/-- the list's places then -/
def d_cp (nb : Nat → Int32) : Nat → Nat → Nat → Nat → Nat
  | 0, _, _, cap => cap
  | r + 1, k, n, cap => if nb k = 0 then d_cp nb r (k + 1) (n + 1) (gcap n cap) else d_cp nb r (k + 1) n cap
theorem d_cp_upd (nb : Nat → Int32) (q : Nat) (x : Int32) : ∀ r k n cap : Nat, q < k → d_cp (upd nb q x) r k n cap = d_cp nb r k n cap
  | 0, _, _, _, _ => rfl
  | r + 1, k, n, cap, h => by
    unfold d_cp
    rw [d_cp_upd nb q x r (k + 1) (n + 1) (gcap n cap) (by omega), d_cp_upd nb q x r (k + 1) n cap (by omega), pk_un (by omega)]
theorem gcap_ge (n cap : Nat) : cap ≤ gcap n cap := by
  unfold gcap
  split
  · omega
  · split <;> omega
theorem gcap_le {n cap : Nat} (hn : n < 4000) (hc : cap ≤ 6000) : gcap n cap ≤ 6000 := by
  unfold gcap
  split
  · omega
  · split <;> omega
theorem d_cp_ge (nb : Nat → Int32) : ∀ r k n cap : Nat, cap ≤ d_cp nb r k n cap
  | 0, _, _, _ => Nat.le_refl _
  | r + 1, k, n, cap => by
    unfold d_cp
    split
    · exact Nat.le_trans (gcap_ge n cap) (d_cp_ge nb r (k + 1) (n + 1) (gcap n cap))
    · exact d_cp_ge nb r (k + 1) n cap
theorem d_cp_le (nb : Nat → Int32) : ∀ r k n cap : Nat, n + d_mis nb r k ≤ 4000 → cap ≤ 6000 → d_cp nb r k n cap ≤ 6000
  | 0, _, _, _, _, h => h
  | r + 1, k, n, cap, h, hc => by
    unfold d_mis at h
    unfold d_cp
    by_cases c : nb k = 0
    · rw [if_pos c] at h ⊢
      exact d_cp_le nb r (k + 1) (n + 1) (gcap n cap) (by omega) (gcap_le (by omega) hc)
    · rw [if_neg c] at h ⊢
      exact d_cp_le nb r (k + 1) n cap (by omega) hc
theorem gslots_le {n cap : Nat} (h : (n = 0 ∧ cap = 0) ∨ (10 ≤ cap ∧ n ≤ cap)) : gslots n cap + 4 * cap ≤ 4 * gcap n cap := by
  unfold gslots gcap
  by_cases c : n < cap
  · rw [if_pos c, if_pos c]
    omega
  · rw [if_neg c, if_neg c]
    split <;> omega
section DY
variable {l : Launch} {D : va_G} {κ : Nat → ClassId} {z : Nat × Nat} {ws : va_W} {h0 hs hl cap : Nat} {cm : Int32} {tr : Nat → Option Nat} {na : Nat → Nat} {mo to co sn : Nat → Int32} {nb : Nat → Nat → Int32} {n : Nat} {el : Nat → Nat} {ro lv cd pl : Nat → Int32}
theorem Lst_cap {ws : va_W} (h : Lst κ z ws hl n el cap) : (n = 0 ∧ cap = 0) ∨ (10 ≤ cap ∧ n ≤ cap) := by
  obtain ⟨_, _, _, h2⟩ := h
  rcases h2 with ⟨_, a, b⟩ | ⟨a, b, _⟩
  · exact Or.inl ⟨a, b⟩
  · exact Or.inr ⟨a, b⟩
theorem aQn {cap : Nat} {f g : Nat → Option Nat} (h : 6 ≠ cap) : aQ κ 2 6 f ≠ aQ κ 3 cap g := by
  intro w
  have e2 := congrArg (fun q => q.2.1) (Sum.inl.inj w)
  exact h e2
/-- one number more -/
theorem Dk.give {w' : va_W} {q c' : Nat} {r0 l0 d0 p0 : Int32} (hK : Dk κ z ws h0 hs hl cap cm tr na mo to co sn nb n el ro lv cd pl) (hq : wg ws q = some (cG r0 l0 d0 p0)) (hf : ∀ i, i < n → el i ≠ q) (hL : Lst κ z w' hl (n + 1) (va_up el n q) c') (hx : Lfr κ hl cap ws w') :
    Dk κ z w' h0 hs hl c' cm tr na mo to co sn nb (n + 1) (va_up el n q) (upd ro n r0) (upd lv n l0) (upd cd n d0) (upd pl n p0) := by
  obtain ⟨a1, a2, a3, a4, a5, a6, a7, a8⟩ := hK
  have hc6 : 6 ≠ cap := by
    have := Lst_cap a3
    omega
  obtain ⟨mc9, he9, hl9, _⟩ := id a3
  have nh : ∀ {b : Nat} {x : va_E}, wg ws b = some x → (∀ fs, x ≠ .inr (4, fs)) → b ≠ hl := fun hb h => wg_ne hb hl9 (h _)
  refine ⟨hx _ _ a1 (nh a1 (by intro fs w; cases w)) (by intro f w; cases w), hx _ _ a2 (nh a2 (by intro fs w; cases w)) (fun f => aQn hc6), hL, fun j t hj ht => ⟨hx _ _ (a4 j t hj ht).1 (nh (a4 j t hj ht).1 (by intro fs w; cases w)) (by intro f w; cases w), hx _ _ (a4 j t hj ht).2 (nh (a4 j t hj ht).2 (by intro fs w; cases w)) (fun f => aIQ)⟩, a5, a6, ?_, ?_⟩
  · intro i hi
    by_cases c : i = n
    · subst c
      rw [pk_us, pk_us, pk_us, pk_us, show va_up el i q i = q from if_pos rfl]
      exact hx _ _ hq (nh hq (by intro fs w; cases w)) (by intro f w; cases w)
    · rw [pk_un c, pk_un c, pk_un c, pk_un c, show va_up el n q i = el i from if_neg c]
      have h7 := a7 i (by omega)
      exact hx _ _ h7 (nh h7 (by intro fs w; cases w)) (by intro f w; cases w)
  · intro i j hi hj h
    by_cases c1 : i = n
    · by_cases c2 : j = n
      · rw [c1, c2]
      · rw [show va_up el n q i = q from if_pos c1, show va_up el n q j = el j from if_neg c2] at h
        exact absurd h.symm (hf j (by omega))
    · by_cases c2 : j = n
      · rw [show va_up el n q j = q from if_pos c2, show va_up el n q i = el i from if_neg c1] at h
        exact absurd h (hf i (by omega))
      · rw [show va_up el n q i = el i from if_neg c1, show va_up el n q j = el j from if_neg c2] at h
        exact a8 i j (by omega) (by omega) h
end DY
section DZ0
variable {l : Launch} {D : va_G} {κ : Nat → ClassId} {z : Nat × Nat} {h0 hs hl cap : Nat} {cm : Int32} {tr : Nat → Option Nat} {na : Nat → Nat} {mo to co sn : Nat → Int32} {nb : Nat → Nat → Int32} {n : Nat} {el : Nat → Nat} {ro lv cd pl : Nat → Int32}
variable {p : Program} {e : Env} {R : Room} {s0 : State} {m : MethodId} {args : Array Value} {below : List Frame} {meth : Method} {c : Code} {A : Nat → Prop} {Q : State → Prop}
set_option maxHeartbeats 4000000 in
set_option maxRecDepth 100000 in
theorem l_D_crash (hn4 : n ≤ 4000) (hcap : cap ≤ 10000) (hC : vx p s0 m args meth c b_D_crash 2 R_D D (gk κ, z) A) (hR : 4 + 1 ≤ R.frames ∧ 8 + (3 + 11) + 40 * 4 ≤ R.locals) : ∀ (r k : Nat) (x : DC) (ws : va_W), k + r = 6 → Dk κ z ws h0 hs hl cap cm x.1 na mo to co sn nb n el ro lv x.2 pl → (∀ ws : va_W, Dk κ z ws h0 hs hl cap cm (d_cr n ro lv nb r k x).1 na mo to co sn nb n el ro lv (d_cr n ro lv nb r k x).2 pl → U p l e R s0 m args below meth c 2 D A ws 0 0 Q 20 [(1, .int (nI 6)), (0, .ref h0)] []) → U p l e R s0 m args below meth c 2 D A ws 0 0 Q 2 [(1, .int (nI k)), (0, .ref h0)] [] := by
  intro r
  induction r with
  | zero =>
    intro k x ws hk hK exit
    have e : k = 6 := by omega
    subst e
    refine u_iload_n hC d_D_crash_2 rfl ?_
    refine u_bipush hC (nI 6) d_D_crash_3 (by decide) ?_
    refine u_icmp_ge hC 20 d_D_crash_5 (by decide) (fun h_5 => ?_) (fun h_5 => absurd (by decide) h_5)
    exact exit ws hK
  | succ r ih =>
    intro k x ws hk hK exit
    obtain ⟨tr, cd⟩ := x
    unfold d_cr at exit
    dsimp only at hK exit ⊢
    have hO := hK.1
    cases htr : tr k with
    | none =>
      rw [htr] at exit
      dsimp only at exit
      refine u_iload_n hC d_D_crash_2 rfl ?_
      refine u_bipush hC (nI 6) d_D_crash_3 (by decide) ?_
      refine u_icmp_ge hC 20 d_D_crash_5 (by decide) (fun h_5 => absurd h_5 (nI_ge (by omega) (by decide))) (fun h_5 => ?_)
      refine u_aload_n hC d_D_crash_8 rfl ?_
      refine u_iload_n hC d_D_crash_9 rfl ?_
      refine w_callVr hC (c_D_abortF hK (by rintro ⟨j, t, h1, h2, h3⟩; have e9 := (nI_eq (by omega) (by omega)).mp h2; subst e9; rw [htr] at h3; cases h3)) k_D_95 i_D_abort hO rfl hR ⟨Nat.zero_le _, Nat.zero_le _⟩ rfl rfl (Nat.le_of_ble_eq_true rfl) d_D_crash_10 ?_
      refine u_pop hC d_D_crash_13 rfl ?_
      refine u_iinc hC (nI (k + 1)) (j := 0) d_D_crash_14 rfl (nI_1 k) (by decide) ?_
      refine u_goto hC 2 d_D_crash_17 (by decide) ?_
      exact ih (k + 1) (tr, cd) ws (by omega) hK exit
    | some t =>
      rw [htr] at exit
      dsimp only at exit
      refine u_iload_n hC d_D_crash_2 rfl ?_
      refine u_bipush hC (nI 6) d_D_crash_3 (by decide) ?_
      refine u_icmp_ge hC 20 d_D_crash_5 (by decide) (fun h_5 => absurd h_5 (nI_ge (by omega) (by decide))) (fun h_5 => ?_)
      refine u_aload_n hC d_D_crash_8 rfl ?_
      refine u_iload_n hC d_D_crash_9 rfl ?_
      refine w_callV hC (c_D_abortT hK hn4 hcap (by omega) htr) k_D_95 i_D_abort hO rfl hR ⟨Nat.zero_le _, Nat.zero_le _⟩ rfl rfl (Nat.le_of_ble_eq_true rfl) d_D_crash_10 (fun v w1 hp => ?_)
      obtain ⟨rfl, hK1⟩ := hp
      refine u_top ?_
      refine u_pop hC d_D_crash_13 rfl ?_
      refine u_iinc hC (nI (k + 1)) (j := 0) d_D_crash_14 rfl (nI_1 k) (by decide) ?_
      refine u_goto hC 2 d_D_crash_17 (by decide) ?_
      exact ih (k + 1) (va_up tr k none, dset (d_up ro lv (nb k 0) (nI 0)) cd (nI 3) n) w1 (by omega) hK1 exit
set_option maxHeartbeats 4000000 in
set_option maxRecDepth 100000 in
theorem l_D_count {t na0 u : Nat} {md c0 s1 : Int32} {nb0 : Nat → Int32} (hu : u ≤ 7) {ws : va_W} (hT : wg ws t = some (cT md na0 (nI u) c0 s1)) (hN : wg ws na0 = some (aI κ 8 nb0)) (hC : vx p s0 m args meth c b_D_countLevelsWithoutNumber 3 R_D D (gk κ, z) A) : ∀ r k cn : Nat, k + r = u + 1 → U p l e R s0 m args below meth c 3 D A ws 0 0 Q 30 [(2, .int (nI (k + r))), (1, .int (nI (cn + d_mis nb0 r k))), (0, .ref t)] [] → U p l e R s0 m args below meth c 3 D A ws 0 0 Q 4 [(2, .int (nI k)), (1, .int (nI cn)), (0, .ref t)] [] := by
  intro r
  induction r with
  | zero =>
    intro k cn hk exit
    refine u_iload_n hC d_D_countLevelsWithoutNumber_4 rfl ?_
    refine u_aload_n hC d_D_countLevelsWithoutNumber_5 rfl ?_
    refine w_get hC f_D_66 hT rfl d_D_countLevelsWithoutNumber_6 ?_
    refine u_icmp_gt hC 30 d_D_countLevelsWithoutNumber_9 (by decide) (fun h_9 => ?_) (fun h_9 => absurd (nI_lt (by omega) (by omega)) h_9)
    exact exit
  | succ r ih =>
    intro k cn hk exit
    rw [show k + (r + 1) = (k + 1) + r by omega] at exit
    unfold d_mis at exit
    by_cases hz : nb0 k = 0
    · rw [if_pos hz, ← Nat.add_assoc] at exit
      refine u_iload_n hC d_D_countLevelsWithoutNumber_4 rfl ?_
      refine u_aload_n hC d_D_countLevelsWithoutNumber_5 rfl ?_
      refine w_get hC f_D_66 hT rfl d_D_countLevelsWithoutNumber_6 ?_
      refine u_icmp_gt hC 30 d_D_countLevelsWithoutNumber_9 (by decide) (fun h_9 => absurd h_9 (nI_nlt (by omega) (by omega))) (fun h_9 => ?_)
      refine u_aload_n hC d_D_countLevelsWithoutNumber_12 rfl ?_
      refine w_get hC f_D_62 hT rfl d_D_countLevelsWithoutNumber_13 ?_
      refine u_iload_n hC d_D_countLevelsWithoutNumber_16 rfl ?_
      refine w_iald hC 0 hN rfl k rfl (by omega) (by decide) d_D_countLevelsWithoutNumber_17 ?_
      refine u_if_ne hC 24 d_D_countLevelsWithoutNumber_18 (by decide) (fun h_18 => absurd hz h_18) (fun h_18 => ?_)
      refine u_iinc hC (nI (cn + 1)) (j := 1) d_D_countLevelsWithoutNumber_21 rfl (nI_1 cn) (by decide) ?_
      refine u_iinc hC (nI (k + 1)) (j := 1) d_D_countLevelsWithoutNumber_24 rfl (nI_1 k) (by decide) ?_
      refine u_goto hC 4 d_D_countLevelsWithoutNumber_27 (by decide) ?_
      exact ih (k + 1) (cn + 1) (by omega) exit
    · rw [if_neg hz, Nat.zero_add] at exit
      refine u_iload_n hC d_D_countLevelsWithoutNumber_4 rfl ?_
      refine u_aload_n hC d_D_countLevelsWithoutNumber_5 rfl ?_
      refine w_get hC f_D_66 hT rfl d_D_countLevelsWithoutNumber_6 ?_
      refine u_icmp_gt hC 30 d_D_countLevelsWithoutNumber_9 (by decide) (fun h_9 => absurd h_9 (nI_nlt (by omega) (by omega))) (fun h_9 => ?_)
      refine u_aload_n hC d_D_countLevelsWithoutNumber_12 rfl ?_
      refine w_get hC f_D_62 hT rfl d_D_countLevelsWithoutNumber_13 ?_
      refine u_iload_n hC d_D_countLevelsWithoutNumber_16 rfl ?_
      refine w_iald hC 0 hN rfl k rfl (by omega) (by decide) d_D_countLevelsWithoutNumber_17 ?_
      refine u_if_ne hC 24 d_D_countLevelsWithoutNumber_18 (by decide) (fun h_18 => ?_) (fun h_18 => absurd h_18 hz)
      refine u_iinc hC (nI (k + 1)) (j := 0) d_D_countLevelsWithoutNumber_24 rfl (nI_1 k) (by decide) ?_
      refine u_goto hC 4 d_D_countLevelsWithoutNumber_27 (by decide) ?_
      exact ih (k + 1) cn (by omega) exit
set_option maxHeartbeats 4000000 in
set_option maxRecDepth 100000 in
theorem l_D_give {KC KS j t u : Nat} (hj : j < 6) (ht : tr j = some t) (hu : to j = nI u) (hu7 : u ≤ 7) (hC : vx p s0 m args meth c b_D_giveMissingNumbers 3 R_D D (gk κ, z) A) (hR : 6 + 1 ≤ R.frames ∧ 8 + (3 + 11) + 40 * 6 ≤ R.locals) (hKC : KC ≤ R.cells) (hKS : KS ≤ R.slots) : ∀ (r k n cap kc ks : Nat) (ws : va_W) (nb : Nat → Nat → Int32) (el : Nat → Nat) (ro lv cd pl : Nat → Int32), k + r = u + 1 → Dk κ z ws h0 hs hl cap cm tr na mo to co sn nb n el ro lv cd pl → n + d_mis (nb j) r k ≤ 4000 → cap ≤ 6000 → kc + 2 * r ≤ KC → ks + 4 * r + 4 * d_cp (nb j) r k n cap ≤ KS + 4 * cap → (∀ (ws : va_W) (el : Nat → Nat), Dk κ z ws h0 hs hl (d_cp (nb j) r k n cap) cm tr na mo to co sn (va_up nb j (d_gv r k (n, nb j, ro, lv, cd, pl)).2.1) (d_gv r k (n, nb j, ro, lv, cd, pl)).1 el (d_gv r k (n, nb j, ro, lv, cd, pl)).2.2.1 (d_gv r k (n, nb j, ro, lv, cd, pl)).2.2.2.1 (d_gv r k (n, nb j, ro, lv, cd, pl)).2.2.2.2.1 (d_gv r k (n, nb j, ro, lv, cd, pl)).2.2.2.2.2 → U p l e R s0 m args below meth c 3 D A ws KC KS Q 62 [(2, .int (nI (k + r))), (0, .ref h0), (1, .ref t)] []) → U p l e R s0 m args below meth c 3 D A ws kc ks Q 2 [(2, .int (nI k)), (0, .ref h0), (1, .ref t)] [] := by
  have hR0 : 0 + 1 ≤ R.frames ∧ 8 + (1 + 11) + 40 * 0 ≤ R.locals := ⟨by omega, by omega⟩
  have hR1 : 1 + 1 ≤ R.frames ∧ 8 + (3 + 11) + 40 * 1 ≤ R.locals := ⟨by omega, by omega⟩
  have hR6 : 6 + 1 ≤ R.frames ∧ 8 + (2 + 11) + 40 * 6 ≤ R.locals := ⟨by omega, by omega⟩
  intro r
  induction r with
  | zero =>
    intro k n cap kc ks ws nb el ro lv cd pl hk hK hm hcap hkc hks exit
    have hT := (hK.2.2.2.1 j t hj ht).1
    rw [hu] at hT
    unfold d_cp at hks
    refine u_iload_n hC d_D_giveMissingNumbers_2 rfl ?_
    refine u_aload_n hC d_D_giveMissingNumbers_3 rfl ?_
    refine w_get hC f_D_66 hT rfl d_D_giveMissingNumbers_4 ?_
    refine u_icmp_gt hC 62 d_D_giveMissingNumbers_7 (by decide) (fun h_7 => ?_) (fun h_7 => absurd (nI_lt (by omega) (by omega)) h_7)
    refine u_widen (k' := KC) (n' := KS) (by omega) (by omega) ?_
    refine exit ws el ?_
    rw [show va_up nb j (d_gv 0 k (n, nb j, ro, lv, cd, pl)).2.1 = nb from by funext i; unfold va_up; split; rename_i h9; rw [h9]; rfl; rfl]
    exact hK
  | succ r ih =>
    intro k n cap kc ks ws nb el ro lv cd pl hk hK hm hcap hkc hks exit
    obtain ⟨hO, hS9, hLs, hTr, hTi, hNi, hGs, hGi⟩ := id hK
    obtain ⟨mc9, he9, hL, hL2⟩ := id hLs
    obtain ⟨hT, hN⟩ := hTr j t hj ht
    rw [hu] at hT
    rw [show k + (r + 1) = (k + 1) + r by omega] at exit
    unfold d_gv d_cp at exit
    unfold d_mis at hm
    unfold d_cp at hks
    dsimp only at exit
    by_cases hz : nb j k = 0
    · rw [if_pos hz] at hm hks
      rw [if_pos hz, if_pos hz] at exit
      have hge := d_cp_ge (nb j) r (k + 1) (n + 1) (gcap n cap)
      have hgl := gslots_le (Lst_cap hLs)
      have hK1 := hK.updN hj ht (upd (nb j) k (nI (n + 1)))
      obtain ⟨hO1, hS1, hLs1, hTr1, hTi1, hNi1, hGs1, hGi1⟩ := id hK1
      obtain ⟨mc8, he8, hL1, hL18⟩ := id hLs1
      have hT1 := (hTr1 j t hj ht).1
      have hN1 := (hTr1 j t hj ht).2
      rw [show va_up nb j (upd (nb j) k (nI (n + 1))) j = upd (nb j) k (nI (n + 1)) from if_pos rfl] at hN1
      refine u_iload_n hC d_D_giveMissingNumbers_2 rfl ?_
      refine u_aload_n hC d_D_giveMissingNumbers_3 rfl ?_
      refine w_get hC f_D_66 hT rfl d_D_giveMissingNumbers_4 ?_
      refine u_icmp_gt hC 62 d_D_giveMissingNumbers_7 (by decide) (fun h_7 => absurd h_7 (nI_nlt (by omega) (by omega))) (fun h_7 => ?_)
      refine u_aload_n hC d_D_giveMissingNumbers_10 rfl ?_
      refine w_get hC f_D_62 hT rfl d_D_giveMissingNumbers_11 ?_
      refine u_iload_n hC d_D_giveMissingNumbers_14 rfl ?_
      refine w_iald hC 0 hN rfl k rfl (by omega) (by decide) d_D_giveMissingNumbers_15 ?_
      refine u_if_ne hC 56 d_D_giveMissingNumbers_16 (by decide) (fun h_16 => absurd hz h_16) (fun h_16 => ?_)
      refine u_aload_n hC d_D_giveMissingNumbers_19 rfl ?_
      refine w_get hC f_D_62 hT rfl d_D_giveMissingNumbers_20 ?_
      refine u_iload_n hC d_D_giveMissingNumbers_23 rfl ?_
      refine u_aload_n hC d_D_giveMissingNumbers_24 rfl ?_
      refine w_get hC f_D_18 hO rfl d_D_giveMissingNumbers_25 ?_
      refine w_callVr hC (c_L_size hL) k_D_54 i_L_size hL rfl hR0 ⟨by omega, by omega⟩ rfl rfl (Nat.le_of_ble_eq_true rfl) d_D_giveMissingNumbers_28 ?_
      refine u_iconst hC (nI 1) d_D_giveMissingNumbers_31 (by decide) ?_
      refine u_iadd hC d_D_giveMissingNumbers_32 ?_
      refine u_val (nI_add n 1) ?_
      refine w_iast hC 0 hN rfl k rfl (by omega) (by decide) d_D_giveMissingNumbers_33 ?_
      refine u_aload_n hC d_D_giveMissingNumbers_34 rfl ?_
      refine w_get hC f_D_18 hO1 rfl d_D_giveMissingNumbers_35 ?_
      refine w_new hC n_D_76 (by omega) (by omega) d_D_giveMissingNumbers_38 (fun q hq => ?_)
      refine u_dup hC d_D_giveMissingNumbers_41 rfl ?_
      refine u_aload_n hC d_D_giveMissingNumbers_42 rfl ?_
      refine w_get hC f_D_62 (wg_app hT1) rfl d_D_giveMissingNumbers_43 ?_
      refine u_iconst hC (nI 0) d_D_giveMissingNumbers_46 (by decide) ?_
      refine w_iald hC 0 (wg_app hN1) rfl 0 rfl (by decide) (by decide) d_D_giveMissingNumbers_47 ?_
      refine u_iload_n hC d_D_giveMissingNumbers_48 rfl ?_
      refine u_callI hC (c_G_init (wg_push hq)) k_D_122 i_G_init rfl hR1 ⟨by omega, by omega⟩ rfl rfl (Nat.le_of_ble_eq_true rfl) d_D_giveMissingNumbers_49 (fun v w' hp => ?_)
      obtain ⟨rfl, rfl⟩ := hp
      rw [wup_last hq]
      refine u_non ?_
      have hK3 := hK1.ext (w' := ((wup ws (na j) (aI κ 8 (upd (nb j) k (nI (n + 1))))) ++ [(q, cG (upd (nb j) k (nI (n + 1)) 0) (nI k) (nI 1) (nI 0))])) (fun b x h => wg_app h)
      have hq3 : wg ((wup ws (na j) (aI κ 8 (upd (nb j) k (nI (n + 1))))) ++ [(q, cG (upd (nb j) k (nI (n + 1)) 0) (nI k) (nI 1) (nI 0))]) q = some (cG (upd (nb j) k (nI (n + 1)) 0) (nI k) (nI 1) (nI 0)) := wg_push hq
      obtain ⟨mc7, he7, hL7, hL77⟩ := id hK3.2.2.1
      have hfr : ∀ i, i < n → el i ≠ q := fun i hi w => by have h9 := hGs1 i hi; rw [w, hq] at h9; cases h9
      have hlg : Lgv ((wup ws (na j) (aI κ 8 (upd (nb j) k (nI (n + 1))))) ++ [(q, cG (upd (nb j) k (nI (n + 1)) 0) (nI k) (nI 1) (nI 0))]) n el := fun i hi => ⟨_, hK3.2.2.2.2.2.2.1 i hi⟩
      refine w_callV hC (c_L_add hK3.2.2.1 hlg (by omega) (by omega) hq3) k_D_125 i_L_add hL7 rfl hR6 ⟨by omega, by omega⟩ rfl rfl (Nat.le_of_ble_eq_true rfl) d_D_giveMissingNumbers_52 (fun v w4 hp => ?_)
      obtain ⟨rfl, hL4, hF4⟩ := hp
      have hK4 := Dk.give hK3 hq3 hfr hL4 hF4
      refine u_top ?_
      refine u_pop hC d_D_giveMissingNumbers_55 rfl ?_
      refine u_iinc hC (nI (k + 1)) (j := 0) d_D_giveMissingNumbers_56 rfl (nI_1 k) (by decide) ?_
      refine u_goto hC 2 d_D_giveMissingNumbers_59 (by decide) ?_
      have hmu := d_mis_upd (nb j) k (nI (n + 1)) r (k + 1) (by omega)
      have hcu := d_cp_upd (nb j) k (nI (n + 1)) r (k + 1) (n + 1) (gcap n cap) (by omega)
      have eself : va_up nb j (upd (nb j) k (nI (n + 1))) j = upd (nb j) k (nI (n + 1)) := if_pos rfl
      refine ih (k + 1) (n + 1) (gcap n cap) _ _ w4 (va_up nb j (upd (nb j) k (nI (n + 1)))) (va_up el n q) _ _ _ _ (by omega) hK4 (by rw [eself, hmu]; omega) (gcap_le (by omega) hcap) (by omega) (by rw [eself, hcu]; omega) ?_
      intro ws5 el5 hK5
      rw [eself, hcu] at hK5
      rw [show ∀ y : Nat → Int32, va_up (va_up nb j (upd (nb j) k (nI (n + 1)))) j y = va_up nb j y from fun y => by funext i; unfold va_up; split <;> rfl] at hK5
      exact exit ws5 el5 hK5
    · rw [if_neg hz] at hm hks
      rw [if_neg hz, if_neg hz] at exit
      refine u_iload_n hC d_D_giveMissingNumbers_2 rfl ?_
      refine u_aload_n hC d_D_giveMissingNumbers_3 rfl ?_
      refine w_get hC f_D_66 hT rfl d_D_giveMissingNumbers_4 ?_
      refine u_icmp_gt hC 62 d_D_giveMissingNumbers_7 (by decide) (fun h_7 => absurd h_7 (nI_nlt (by omega) (by omega))) (fun h_7 => ?_)
      refine u_aload_n hC d_D_giveMissingNumbers_10 rfl ?_
      refine w_get hC f_D_62 hT rfl d_D_giveMissingNumbers_11 ?_
      refine u_iload_n hC d_D_giveMissingNumbers_14 rfl ?_
      refine w_iald hC 0 hN rfl k rfl (by omega) (by decide) d_D_giveMissingNumbers_15 ?_
      refine u_if_ne hC 56 d_D_giveMissingNumbers_16 (by decide) (fun h_16 => ?_) (fun h_16 => absurd h_16 hz)
      refine u_iinc hC (nI (k + 1)) (j := 0) d_D_giveMissingNumbers_56 rfl (nI_1 k) (by decide) ?_
      refine u_goto hC 2 d_D_giveMissingNumbers_59 (by decide) ?_
      exact ih (k + 1) n cap kc ks ws nb el ro lv cd pl (by omega) hK (by omega) hcap (by omega) (by omega) exit
end DZ0
section DZ1
variable {l : Launch} {D : va_G} {κ : Nat → ClassId} {z : Nat × Nat} {ws : va_W} {h0 hs hl cap : Nat} {cm : Int32} {tr : Nat → Option Nat} {na : Nat → Nat} {mo to co sn : Nat → Int32} {nb : Nat → Nat → Int32} {n : Nat} {el : Nat → Nat} {ro lv cd pl : Nat → Int32}

set_option maxHeartbeats 4000000 in
set_option maxRecDepth 100000 in
theorem c_D_crash (hK : Dk κ z ws h0 hs hl cap cm tr na mo to co sn nb n el ro lv cd pl) (hn4 : n ≤ 4000) (hcap : cap ≤ 10000) : Ct l y_D_crash b_D_crash 2 none 5 0 0 D (gk κ, z) ws [.ref h0] (fun v w' => v = none ∧ Dk κ z w' h0 hs hl cap cm (d_cr n ro lv nb 6 0 (tr, cd)).1 na mo to co sn nb n el ro lv (d_cr n ro lv nb 6 0 (tr, cd)).2 pl) := by
  refine Ct.of (by decide) (Nat.le_of_ble_eq_true rfl) ?_
  intro p e s0 m below meth c A hC hr hn
  refine u_iconst hC (nI 0) d_D_crash_0 (by decide) ?_
  refine u_istore_n hC d_D_crash_1 (by decide) ?_
  refine l_D_crash hn4 hcap hC ⟨(Nat.le_of_ble_eq_true rfl), (Nat.le_of_ble_eq_true rfl)⟩ 6 0 (tr, cd) ws rfl hK (fun w1 hK1 => ?_)
  exact u_vret hC hr d_D_crash_20 (Nat.le_of_ble_eq_true rfl) (Nat.le_of_ble_eq_true rfl) ⟨rfl, hK1⟩
set_option maxHeartbeats 4000000 in
set_option maxRecDepth 100000 in
theorem c_D_count {t na0 u : Nat} {md c0 s1 : Int32} {nb0 : Nat → Int32} (hu : u ≤ 7) (hT : wg ws t = some (cT md na0 (nI u) c0 s1)) (hN : wg ws na0 = some (aI κ 8 nb0)) : Ct l y_D_countLevelsWithoutNumber b_D_countLevelsWithoutNumber 3 (some .int) 0 0 0 D (gk κ, z) ws [.ref t] (rt (.int (nI (d_mis nb0 (u + 1) 0))) ws) := by
  refine Ct.of (by decide) (Nat.le_of_ble_eq_true rfl) ?_
  intro p e s0 m below meth c A hC hr hn
  refine u_iconst hC (nI 0) d_D_countLevelsWithoutNumber_0 (by decide) ?_
  refine u_istore_n hC d_D_countLevelsWithoutNumber_1 (by decide) ?_
  refine u_iconst hC (nI 0) d_D_countLevelsWithoutNumber_2 (by decide) ?_
  refine u_istore_n hC d_D_countLevelsWithoutNumber_3 (by decide) ?_
  refine l_D_count hu hT hN hC (u + 1) 0 0 (by omega) ?_
  rw [Nat.zero_add, Nat.zero_add]
  refine u_iload_n hC d_D_countLevelsWithoutNumber_30 rfl ?_
  exact u_iret hC hr d_D_countLevelsWithoutNumber_31 (Nat.le_of_ble_eq_true rfl) (Nat.le_of_ble_eq_true rfl) ⟨rfl, rfl⟩
set_option maxHeartbeats 4000000 in
set_option maxRecDepth 100000 in
theorem c_D_give {j t u : Nat} (hK : Dk κ z ws h0 hs hl cap cm tr na mo to co sn nb n el ro lv cd pl) (hj : j < 6) (ht : tr j = some t) (hu : to j = nI u) (hu7 : u ≤ 7) (hm : n + d_mis (nb j) (u + 1) 0 ≤ 4000) (hcap : cap ≤ 6000) : Ct l y_D_giveMissingNumbers b_D_giveMissingNumbers 3 none 7 (2 * (u + 1)) (4 * (u + 1) + 4 * (d_cp (nb j) (u + 1) 0 n cap - cap)) D (gk κ, z) ws [.ref h0, .ref t] (fun v w' => v = none ∧ ∃ el' : Nat → Nat, Dk κ z w' h0 hs hl (d_cp (nb j) (u + 1) 0 n cap) cm tr na mo to co sn (va_up nb j (d_gv (u + 1) 0 (n, nb j, ro, lv, cd, pl)).2.1) (d_gv (u + 1) 0 (n, nb j, ro, lv, cd, pl)).1 el' (d_gv (u + 1) 0 (n, nb j, ro, lv, cd, pl)).2.2.1 (d_gv (u + 1) 0 (n, nb j, ro, lv, cd, pl)).2.2.2.1 (d_gv (u + 1) 0 (n, nb j, ro, lv, cd, pl)).2.2.2.2.1 (d_gv (u + 1) 0 (n, nb j, ro, lv, cd, pl)).2.2.2.2.2) := by
  refine Ct.of (by decide) (Nat.le_of_ble_eq_true rfl) ?_
  intro p e s0 m below meth c A hC hr hn
  refine u_iconst hC (nI 0) d_D_giveMissingNumbers_0 (by decide) ?_
  refine u_istore_n hC d_D_giveMissingNumbers_1 (by decide) ?_
  have hge := d_cp_ge (nb j) (u + 1) 0 n cap
  refine l_D_give (KC := 2 * (u + 1)) (KS := (4 * (u + 1) + 4 * (d_cp (nb j) (u + 1) 0 n cap - cap))) hj ht hu hu7 hC ⟨(Nat.le_of_ble_eq_true rfl), (Nat.le_of_ble_eq_true rfl)⟩ (Nat.le_refl _) (Nat.le_refl _) (u + 1) 0 n cap 0 0 ws nb el ro lv cd pl (by omega) hK hm hcap (by omega) (by omega) (fun w1 el1 hK1 => ?_)
  exact u_vret hC hr d_D_giveMissingNumbers_62 (Nat.le_refl _) (Nat.le_refl _) ⟨rfl, el1, hK1⟩
set_option maxHeartbeats 4000000 in
set_option maxRecDepth 100000 in
theorem c_D_numberF {s : Int32} (hK : Dk κ z ws h0 hs hl cap cm tr na mo to co sn nb n el ro lv cd pl) (hb : ¬ ∃ j t : Nat, j < 6 ∧ s = nI j ∧ tr j = some t) : Ct l y_D_number b_D_number 3 (some .int) 8 0 0 D (gk κ, z) ws [.ref h0, .int s] (rt (.int (-1)) ws) := by
  refine Ct.of (by decide) (Nat.le_of_ble_eq_true rfl) ?_
  intro p e s0 m below meth c A hC hr hn
  obtain ⟨hO, hS9, hLs, hTr, hTi, hNi, hGs, hGi⟩ := id hK
  obtain ⟨mc9, he9, hL, hL2⟩ := id hLs
  refine u_aload_n hC d_D_number_0 rfl ?_
  refine u_iload_n hC d_D_number_1 rfl ?_
  refine w_callVr hC (c_D_trF hK hb) k_D_33 i_D_transactionOf hO rfl ⟨(Nat.le_of_ble_eq_true rfl), (Nat.le_of_ble_eq_true rfl)⟩ ⟨(Nat.le_of_ble_eq_true rfl), (Nat.le_of_ble_eq_true rfl)⟩ rfl rfl (Nat.le_of_ble_eq_true rfl) d_D_number_2 ?_
  refine u_astore_nN hC d_D_number_5 (by decide) ?_
  refine u_aload_nN hC d_D_number_6 rfl ?_
  refine u_ifnullN hC 28 d_D_number_7 (by decide) ?_
  refine u_iconst hC (-1) d_D_number_28 (by decide) ?_
  exact u_iret hC hr d_D_number_29 (Nat.le_of_ble_eq_true rfl) (Nat.le_of_ble_eq_true rfl) ⟨rfl, rfl⟩
set_option maxHeartbeats 4000000 in
set_option maxRecDepth 100000 in
theorem c_D_numberN {j t u : Nat} (hK : Dk κ z ws h0 hs hl cap cm tr na mo to co sn nb n el ro lv cd pl) (hn4 : n ≤ 4000) (hj : j < 6) (ht : tr j = some t) (hu : to j = nI u) (hu7 : u ≤ 7) (hm : 4000 < n + d_mis (nb j) (u + 1) 0) : Ct l y_D_number b_D_number 3 (some .int) 8 0 0 D (gk κ, z) ws [.ref h0, .int (nI j)] (rt (.int (-1)) ws) := by
  refine Ct.of (by decide) (Nat.le_of_ble_eq_true rfl) ?_
  intro p e s0 m below meth c A hC hr hn
  obtain ⟨hO, hS9, hLs, hTr, hTi, hNi, hGs, hGi⟩ := id hK
  obtain ⟨mc9, he9, hL, hL2⟩ := id hLs
  obtain ⟨hT, hN⟩ := hTr j t hj ht
  rw [hu] at hT
  refine u_aload_n hC d_D_number_0 rfl ?_
  refine u_iload_n hC d_D_number_1 rfl ?_
  refine w_callVr hC (c_D_trT hK hj ht) k_D_33 i_D_transactionOf hO rfl ⟨(Nat.le_of_ble_eq_true rfl), (Nat.le_of_ble_eq_true rfl)⟩ ⟨(Nat.le_of_ble_eq_true rfl), (Nat.le_of_ble_eq_true rfl)⟩ rfl rfl (Nat.le_of_ble_eq_true rfl) d_D_number_2 ?_
  refine u_astore_n hC d_D_number_5 (by decide) ?_
  refine u_aload_n hC d_D_number_6 rfl ?_
  refine u_ifnull hC d_D_number_7 ?_
  refine u_aload_n hC d_D_number_10 rfl ?_
  refine u_callSr hC (c_D_count hu7 hT hN) k_D_50 s_D_countLevelsWithoutNumber ⟨(Nat.le_of_ble_eq_true rfl), (Nat.le_of_ble_eq_true rfl)⟩ ⟨(Nat.le_of_ble_eq_true rfl), (Nat.le_of_ble_eq_true rfl)⟩ rfl rfl (Nat.le_of_ble_eq_true rfl) d_D_number_11 ?_
  refine u_sipush hC (nI 4000) d_D_number_14 (by decide) ?_
  refine u_aload_n hC d_D_number_17 rfl ?_
  refine w_get hC f_D_18 hO rfl d_D_number_18 ?_
  refine w_callVr hC (c_L_size hL) k_D_54 i_L_size hL rfl ⟨(Nat.le_of_ble_eq_true rfl), (Nat.le_of_ble_eq_true rfl)⟩ ⟨(Nat.le_of_ble_eq_true rfl), (Nat.le_of_ble_eq_true rfl)⟩ rfl rfl (Nat.le_of_ble_eq_true rfl) d_D_number_21 ?_
  refine u_isub hC d_D_number_24 ?_
  refine u_val (x' := nI (4000 - n)) (pk_sub (a := 4000) hn4) ?_
  refine u_icmp_le hC 30 d_D_number_25 (by decide) (fun h_25 => absurd h_25 (nI_ge (by omega) (by have := d_mis_le (nb j) (u + 1) 0; omega))) (fun h_25 => ?_)
  refine u_iconst hC (-1) d_D_number_28 (by decide) ?_
  exact u_iret hC hr d_D_number_29 (Nat.le_of_ble_eq_true rfl) (Nat.le_of_ble_eq_true rfl) ⟨rfl, rfl⟩
set_option maxHeartbeats 4000000 in
set_option maxRecDepth 100000 in
theorem c_D_numberT {j t u : Nat} (hK : Dk κ z ws h0 hs hl cap cm tr na mo to co sn nb n el ro lv cd pl) (hn4 : n ≤ 4000) (hj : j < 6) (ht : tr j = some t) (hu : to j = nI u) (hu7 : u ≤ 7) (hm : n + d_mis (nb j) (u + 1) 0 ≤ 4000) (hcap : cap ≤ 6000) : Ct l y_D_number b_D_number 3 (some .int) 8 (2 * (u + 1)) (4 * (u + 1) + 4 * (d_cp (nb j) (u + 1) 0 n cap - cap)) D (gk κ, z) ws [.ref h0, .int (nI j)] (fun v w' => v = some (.int ((d_gv (u + 1) 0 (n, nb j, ro, lv, cd, pl)).2.1 u)) ∧ ∃ el' : Nat → Nat, Dk κ z w' h0 hs hl (d_cp (nb j) (u + 1) 0 n cap) cm tr na mo to co sn (va_up nb j (d_gv (u + 1) 0 (n, nb j, ro, lv, cd, pl)).2.1) (d_gv (u + 1) 0 (n, nb j, ro, lv, cd, pl)).1 el' (d_gv (u + 1) 0 (n, nb j, ro, lv, cd, pl)).2.2.1 (d_gv (u + 1) 0 (n, nb j, ro, lv, cd, pl)).2.2.2.1 (d_gv (u + 1) 0 (n, nb j, ro, lv, cd, pl)).2.2.2.2.1 (d_gv (u + 1) 0 (n, nb j, ro, lv, cd, pl)).2.2.2.2.2) := by
  refine Ct.of (by decide) (Nat.le_of_ble_eq_true rfl) ?_
  intro p e s0 m below meth c A hC hr hn
  obtain ⟨hO, hS9, hLs, hTr, hTi, hNi, hGs, hGi⟩ := id hK
  obtain ⟨mc9, he9, hL, hL2⟩ := id hLs
  obtain ⟨hT, hN⟩ := hTr j t hj ht
  rw [hu] at hT
  refine u_aload_n hC d_D_number_0 rfl ?_
  refine u_iload_n hC d_D_number_1 rfl ?_
  refine w_callVr hC (c_D_trT hK hj ht) k_D_33 i_D_transactionOf hO rfl ⟨(Nat.le_of_ble_eq_true rfl), (Nat.le_of_ble_eq_true rfl)⟩ ⟨(Nat.le_of_ble_eq_true rfl), (Nat.le_of_ble_eq_true rfl)⟩ rfl rfl (Nat.le_of_ble_eq_true rfl) d_D_number_2 ?_
  refine u_astore_n hC d_D_number_5 (by decide) ?_
  refine u_aload_n hC d_D_number_6 rfl ?_
  refine u_ifnull hC d_D_number_7 ?_
  refine u_aload_n hC d_D_number_10 rfl ?_
  refine u_callSr hC (c_D_count hu7 hT hN) k_D_50 s_D_countLevelsWithoutNumber ⟨(Nat.le_of_ble_eq_true rfl), (Nat.le_of_ble_eq_true rfl)⟩ ⟨(Nat.le_of_ble_eq_true rfl), (Nat.le_of_ble_eq_true rfl)⟩ rfl rfl (Nat.le_of_ble_eq_true rfl) d_D_number_11 ?_
  refine u_sipush hC (nI 4000) d_D_number_14 (by decide) ?_
  refine u_aload_n hC d_D_number_17 rfl ?_
  refine w_get hC f_D_18 hO rfl d_D_number_18 ?_
  refine w_callVr hC (c_L_size hL) k_D_54 i_L_size hL rfl ⟨(Nat.le_of_ble_eq_true rfl), (Nat.le_of_ble_eq_true rfl)⟩ ⟨(Nat.le_of_ble_eq_true rfl), (Nat.le_of_ble_eq_true rfl)⟩ rfl rfl (Nat.le_of_ble_eq_true rfl) d_D_number_21 ?_
  refine u_isub hC d_D_number_24 ?_
  refine u_val (x' := nI (4000 - n)) (pk_sub (a := 4000) hn4) ?_
  refine u_icmp_le hC 30 d_D_number_25 (by decide) (fun h_25 => ?_) (fun h_25 => absurd (nI_le (by omega) (by omega)) h_25)
  refine u_aload_n hC d_D_number_30 rfl ?_
  refine u_aload_n hC d_D_number_31 rfl ?_
  refine w_callV hC (c_D_give hK hj ht hu hu7 hm hcap) k_D_58 i_D_giveMissingNumbers hO rfl ⟨(Nat.le_of_ble_eq_true rfl), (Nat.le_of_ble_eq_true rfl)⟩ ⟨by show 0 + 0 + 0 + _ ≤ 2 * (u + 1); omega, by show 0 + 0 + 0 + _ ≤ (4 * (u + 1) + 4 * (d_cp (nb j) (u + 1) 0 n cap - cap)); omega⟩ rfl rfl (Nat.le_of_ble_eq_true rfl) d_D_number_32 (fun v w1 hp => ?_)
  obtain ⟨rfl, el1, hK1⟩ := hp
  have hT1 := (hK1.2.2.2.1 j t hj ht).1
  have hN1 := (hK1.2.2.2.1 j t hj ht).2
  rw [hu] at hT1
  rw [show va_up nb j (d_gv (u + 1) 0 (n, nb j, ro, lv, cd, pl)).2.1 j = (d_gv (u + 1) 0 (n, nb j, ro, lv, cd, pl)).2.1 from if_pos rfl] at hN1
  refine u_non ?_
  refine u_aload_n hC d_D_number_35 rfl ?_
  refine w_get hC f_D_62 hT1 rfl d_D_number_36 ?_
  refine u_aload_n hC d_D_number_39 rfl ?_
  refine w_get hC f_D_66 hT1 rfl d_D_number_40 ?_
  refine w_iald hC 0 hN1 rfl u rfl (by omega) (by decide) d_D_number_43 ?_
  exact u_iret hC hr d_D_number_44 (by omega) (by omega) ⟨rfl, el1, hK1⟩
set_option maxHeartbeats 4000000 in
set_option maxRecDepth 100000 in
theorem c_D_init (hO : wg ws h0 = some (.inr (1, [.null, .null, .int 0]))) : Ct l y_D_init b_D_init 1 none 4 2 9 D (gk κ, z) ws [.ref h0] (fun v w' => v = none ∧ ∃ hs hl : Nat, Dk κ z w' h0 hs hl 0 0 (fun _ => none) (fun _ => 0) (fun _ => 0) (fun _ => 0) (fun _ => 0) (fun _ => 0) (fun _ _ => 0) 0 (fun _ => 0) (fun _ => 0) (fun _ => 0) (fun _ => 0) (fun _ => 0)) := by
  refine Ct.of (by decide) (Nat.le_of_ble_eq_true rfl) ?_
  intro p e s0 m below meth c A hC hr hn
  refine u_aload_n hC d_D_init_0 rfl ?_
  refine u_objInit hC o_D_1 o_I o_C (Nat.le_of_ble_eq_true rfl) (Nat.le_of_ble_eq_true rfl) (Nat.le_of_ble_eq_true rfl) d_D_init_1 ?_
  refine u_aload_n hC d_D_init_4 rfl ?_
  refine u_bipush hC (nI 6) d_D_init_5 (by decide) ?_
  have hZ := hC.2.2.2.1
  refine u_newq hC (N := 6) 2 rfl l_D_9 hZ.2.2.2.2.1 (by decide) (by decide) (by decide) (Nat.le_of_ble_eq_true rfl) (Nat.le_of_ble_eq_true rfl) d_D_init_7 (fun hs => w_fresh (fun hhs => ?_))
  have hO1 := wg_app (w2 := [(hs, aQ κ 2 6 (fun _ => none))]) hO
  have hne : hs ≠ h0 := fun w => by rw [w, hO] at hhs; cases hhs
  refine w_putF hC f_D_11 (tt_D 0 (by decide)) rfl hn rfl hO1 rfl rfl (Nat.le_of_ble_eq_true rfl) d_D_init_10 ?_
  refine u_eqw (ws' := (wup (ws ++ [(hs, aQ κ 2 6 (fun _ => none))]) h0 (.inr (1, [.ref hs, .null, .int 0])))) rfl ?_
  refine u_aload_n hC d_D_init_13 rfl ?_
  have hO2 : wg (wup (ws ++ [(hs, aQ κ 2 6 (fun _ => none))]) h0 (.inr (1, [.ref hs, .null, .int 0]))) h0 = some (.inr (1, [.ref hs, .null, .int 0])) := wg_up hO1
  have hS2 : wg (wup (ws ++ [(hs, aQ κ 2 6 (fun _ => none))]) h0 (.inr (1, [.ref hs, .null, .int 0]))) hs = some (aQ κ 2 6 (fun _ => none)) := by rw [wg_upN hne]; exact wg_push hhs
  refine w_new hC n_D_15 (Nat.le_of_ble_eq_true rfl) (Nat.le_of_ble_eq_true rfl) d_D_init_14 (fun hl hhl => ?_)
  have hne2 : hl ≠ h0 := fun w => by rw [w, hO2] at hhl; cases hhl
  have hne3 : hl ≠ hs := fun w => by rw [w, hS2] at hhl; cases hhl
  refine u_dup hC d_D_init_17 rfl ?_
  refine u_callIv hC (c_L_init (wg_push hhl)) k_D_17 i_L_init rfl ⟨(Nat.le_of_ble_eq_true rfl), (Nat.le_of_ble_eq_true rfl)⟩ ⟨(Nat.le_of_ble_eq_true rfl), (Nat.le_of_ble_eq_true rfl)⟩ rfl rfl (Nat.le_of_ble_eq_true rfl) d_D_init_18 ?_
  rw [wup_last hhl]
  refine w_putF hC f_D_18 (tt_D 1 (by decide)) rfl hn rfl (wg_app hO2) rfl rfl (Nat.le_of_ble_eq_true rfl) d_D_init_21 ?_
  have hO3 := wg_up (y := (.inr (1, [.ref hs, .ref hl, .int 0]))) (wg_app (w2 := [(hl, .inr (4, [.int (nI 0), .ref z.1, .int 0]))]) hO2)
  refine u_aload_n hC d_D_init_24 rfl ?_
  refine u_iconst hC (nI 0) d_D_init_25 (by decide) ?_
  refine w_put hC f_D_22 (tt_D 2 (by decide)) rfl hO3 rfl rfl (Nat.le_of_ble_eq_true rfl) d_D_init_26 ?_
  rw [wup_wup]
  exact u_vret hC hr d_D_init_29 (Nat.le_of_ble_eq_true rfl) (Nat.le_of_ble_eq_true rfl) ⟨rfl, hs, hl, wg_up (x := (.inr (1, [.ref hs, .null, .int 0]))) (wg_app hO2), by rw [wg_upN hne]; exact wg_app hS2, ⟨nI 0, z.1, by rw [wg_upN hne2]; exact wg_push hhl, Or.inl ⟨rfl, rfl, rfl⟩⟩, (fun j t _ h => by cases h), (fun i j t _ _ h => by cases h), (fun i j s t _ _ h => by cases h), fun i h => absurd h (Nat.not_lt_zero i), fun i j h => absurd h (Nat.not_lt_zero i)⟩
end DZ1
end
section
set_option maxHeartbeats 4000000 in
set_option maxRecDepth 100000 in
theorem c_M_init {l : Launch} {D : va_G} {κ : Nat → ClassId} {z : Nat × Nat} {q0 : Nat} : Ct l y_M_init b_M_init 1 none 1 10 16082 D (gk κ, z) [(q0, .inr (0, [.int 0, .int 0, .null, .null, .null, .null, .null, .null, .null, .null, .null, .null]))] [.ref q0] (fun v w' => v = none ∧ ∃ a : Nat → Nat, a 0 = q0 ∧ w' = mw κ a 0 0 (fun _ => 0) (fun _ => 0) (fun _ => 0) (fun _ => 0) (fun _ => 0) (fun _ => 0) (fun _ => 0) (fun _ => 0) (fun _ => 0) (fun _ => 0)) := by
  refine Ct.of (by decide) (Nat.le_of_ble_eq_true rfl) ?_
  intro p e s0 m below meth c A hC hr hn
  refine u_aload_n hC d_M_init_0 rfl ?_
  refine u_objInit hC o_M_1 o_I o_C (Nat.le_of_ble_eq_true rfl) (Nat.le_of_ble_eq_true rfl) (Nat.le_of_ble_eq_true rfl) d_M_init_1 ?_
  refine u_aload_n hC d_M_init_4 rfl ?_
  refine u_sipush hC (nI 4001) d_M_init_5 (by decide) ?_
  refine u_newi hC (N := 4001) 0 rfl a_int (by decide) (by decide) (by decide) (Nat.le_of_ble_eq_true rfl) (Nat.le_of_ble_eq_true rfl) d_M_init_8 (fun q1 => ?_)
  refine u_putF hC f_M_7 (tt_M 2 (by decide)) rfl hn rfl 0 rfl rfl rfl (Nat.le_of_ble_eq_true rfl) rfl d_M_init_10 ?_
  refine u_aload_n hC d_M_init_13 rfl ?_
  refine u_sipush hC (nI 4001) d_M_init_14 (by decide) ?_
  refine u_newi hC (N := 4001) 0 rfl a_int (by decide) (by decide) (by decide) (Nat.le_of_ble_eq_true rfl) (Nat.le_of_ble_eq_true rfl) d_M_init_17 (fun q2 => ?_)
  refine u_putF hC f_M_13 (tt_M 3 (by decide)) rfl hn rfl 0 rfl rfl rfl (Nat.le_of_ble_eq_true rfl) rfl d_M_init_19 ?_
  refine u_aload_n hC d_M_init_22 rfl ?_
  refine u_sipush hC (nI 4001) d_M_init_23 (by decide) ?_
  refine u_newi hC (N := 4001) 0 rfl a_int (by decide) (by decide) (by decide) (Nat.le_of_ble_eq_true rfl) (Nat.le_of_ble_eq_true rfl) d_M_init_26 (fun q3 => ?_)
  refine u_putF hC f_M_16 (tt_M 4 (by decide)) rfl hn rfl 0 rfl rfl rfl (Nat.le_of_ble_eq_true rfl) rfl d_M_init_28 ?_
  refine u_aload_n hC d_M_init_31 rfl ?_
  refine u_sipush hC (nI 4001) d_M_init_32 (by decide) ?_
  refine u_newi hC (N := 4001) 0 rfl a_int (by decide) (by decide) (by decide) (Nat.le_of_ble_eq_true rfl) (Nat.le_of_ble_eq_true rfl) d_M_init_35 (fun q4 => ?_)
  refine u_putF hC f_M_19 (tt_M 5 (by decide)) rfl hn rfl 0 rfl rfl rfl (Nat.le_of_ble_eq_true rfl) rfl d_M_init_37 ?_
  refine u_aload_n hC d_M_init_40 rfl ?_
  refine u_bipush hC (nI 6) d_M_init_41 (by decide) ?_
  refine u_newz hC (N := 6) 1 rfl a_bool (by decide) (by decide) (by decide) (Nat.le_of_ble_eq_true rfl) (Nat.le_of_ble_eq_true rfl) d_M_init_43 (fun q5 => ?_)
  refine u_putF hC f_M_22 (tt_M 6 (by decide)) rfl hn rfl 0 rfl rfl rfl (Nat.le_of_ble_eq_true rfl) rfl d_M_init_45 ?_
  refine u_aload_n hC d_M_init_48 rfl ?_
  refine u_bipush hC (nI 6) d_M_init_49 (by decide) ?_
  refine u_newi hC (N := 6) 0 rfl a_int (by decide) (by decide) (by decide) (Nat.le_of_ble_eq_true rfl) (Nat.le_of_ble_eq_true rfl) d_M_init_51 (fun q6 => ?_)
  refine u_putF hC f_M_26 (tt_M 7 (by decide)) rfl hn rfl 0 rfl rfl rfl (Nat.le_of_ble_eq_true rfl) rfl d_M_init_53 ?_
  refine u_aload_n hC d_M_init_56 rfl ?_
  refine u_bipush hC (nI 6) d_M_init_57 (by decide) ?_
  refine u_newi hC (N := 6) 0 rfl a_int (by decide) (by decide) (by decide) (Nat.le_of_ble_eq_true rfl) (Nat.le_of_ble_eq_true rfl) d_M_init_59 (fun q7 => ?_)
  refine u_putF hC f_M_29 (tt_M 8 (by decide)) rfl hn rfl 0 rfl rfl rfl (Nat.le_of_ble_eq_true rfl) rfl d_M_init_61 ?_
  refine u_aload_n hC d_M_init_64 rfl ?_
  refine u_bipush hC (nI 6) d_M_init_65 (by decide) ?_
  refine u_newi hC (N := 6) 0 rfl a_int (by decide) (by decide) (by decide) (Nat.le_of_ble_eq_true rfl) (Nat.le_of_ble_eq_true rfl) d_M_init_67 (fun q8 => ?_)
  refine u_putF hC f_M_32 (tt_M 9 (by decide)) rfl hn rfl 0 rfl rfl rfl (Nat.le_of_ble_eq_true rfl) rfl d_M_init_69 ?_
  refine u_aload_n hC d_M_init_72 rfl ?_
  refine u_bipush hC (nI 6) d_M_init_73 (by decide) ?_
  refine u_newi hC (N := 6) 0 rfl a_int (by decide) (by decide) (by decide) (Nat.le_of_ble_eq_true rfl) (Nat.le_of_ble_eq_true rfl) d_M_init_75 (fun q9 => ?_)
  refine u_putF hC f_M_35 (tt_M 10 (by decide)) rfl hn rfl 0 rfl rfl rfl (Nat.le_of_ble_eq_true rfl) rfl d_M_init_77 ?_
  refine u_aload_n hC d_M_init_80 rfl ?_
  refine u_bipush hC (nI 48) d_M_init_81 (by decide) ?_
  refine u_newi hC (N := 48) 0 rfl a_int (by decide) (by decide) (by decide) (Nat.le_of_ble_eq_true rfl) (Nat.le_of_ble_eq_true rfl) d_M_init_83 (fun q10 => ?_)
  refine u_putF hC f_M_38 (tt_M 11 (by decide)) rfl hn rfl 0 rfl rfl rfl (Nat.le_of_ble_eq_true rfl) rfl d_M_init_85 ?_
  exact u_vret hC hr d_M_init_88 (Nat.le_of_ble_eq_true rfl) (Nat.le_of_ble_eq_true rfl) ⟨rfl, fun i => [q0, q1, q2, q3, q4, q5, q6, q7, q8, q9, q10].getD i 0, rfl, rfl⟩
end
section
/-! The program's state beside the reference's. -/
def Sim (T n C : Nat) (tr : Nat → Option Nat) (mo to co sn : Nat → Int32) (nb : Nat → Nat → Int32) (ro lv cd pl : Nat → Int32) (st be rm pm ha mm cc tm sm le : Nat → Int32) : Prop :=
  (n ≤ 4000 ∧ C ≤ T) ∧
  (∀ j, j < 6 → tr j = none → ha j = 0) ∧
  (∀ j t, j < 6 → tr j = some t → ¬ ha j = 0 ∧ mm j = mo j ∧ cc j = co j ∧ tm j = to j ∧ sm j = sn j ∧ (sn j = -1 ∨ ∃ x, x ≤ T ∧ sn j = nI x)) ∧
  (∀ j t, j < 6 → tr j = some t → ∃ u, u ≤ 7 ∧ to j = nI u ∧ (∀ k, k ≤ u → nb j k = le (8 * j + k)) ∧ ∀ k, u < k → k < 8 → nb j k = 0) ∧
  (∀ i, i < n → rm (i + 1) = ro i ∧ st (i + 1) = cd i ∧ pm (i + 1) = pl i ∧ (cd i = nI 1 ∨ cd i = nI 2 ∨ cd i = nI 3) ∧ (cd i = nI 1 → pl i = nI 0) ∧ ∃ x, 1 ≤ x ∧ x ≤ n ∧ ro i = nI x) ∧
  (∀ i, i < n → cd i = nI 1 → ∃ j t q, j < 6 ∧ q < 8 ∧ tr j = some t ∧ be (i + 1) = nI (8 * j + q) ∧ lv i = nI q ∧ ro i = nb j 0) ∧
  (∀ j t i, j < 6 → tr j = some t → i < n → ro i = nb j 0 → cd i = nI 3 ∨ (cd i = nI 1 ∧ ∃ q, q < 8 ∧ be (i + 1) = nI (8 * j + q) ∧ lv i = nI q)) ∧
  (∀ j t, j < 6 → tr j = some t → ¬ nb j 0 = 0 → ∃ i, i < n ∧ nb j 0 = nI (i + 1) ∧ cd i = nI 1 ∧ be (i + 1) = nI (8 * j + 0) ∧ lv i = nI 0)
theorem n13 : ¬ nI 1 = nI 3 := by decide
theorem n12 : ¬ nI 1 = nI 2 := by decide
theorem n23 : ¬ nI 2 = nI 3 := by decide
theorem from_iff {st be : Nat → Int32} {i j j' q k : Nat} (hb : be i = nI (8 * j' + q)) (hj : j < 6) (hj' : j' < 6) (hq : q < 8) (hk : k ≤ 8) : m_from st be i (nI j) (nI k) ↔ (st i = nI 1 ∧ j' = j ∧ k ≤ q) := by
  unfold m_from
  rw [hb, n_8r (by omega), n_8d (by omega), show (8 * j' + q) / 8 = j' by omega, show (8 * j' + q) % 8 = q by omega, nI_eq (by omega) (by omega), nI_ltI (by omega) (by omega)]
  constructor
  · rintro ⟨a, b, c⟩; exact ⟨a, b, by omega⟩
  · rintro ⟨a, b, c⟩; exact ⟨a, b, by omega⟩
theorem m_set_in {st be f : Nat → Int32} {s k x : Int32} {n i : Nat} (h1 : 1 ≤ i) (h2 : i < n) (h : m_from st be i s k) : m_set st be f s k x n i = x := if_pos ⟨h1, h2, h⟩
theorem m_set_out {st be f : Nat → Int32} {s k x : Int32} {n i : Nat} (h : ¬ m_from st be i s k) : m_set st be f s k x n i = f i := if_neg (fun q => h q.2.2)
section SI
variable {T n C : Nat} {tr : Nat → Option Nat} {mo to co sn : Nat → Int32} {nb : Nat → Nat → Int32} {ro lv cd pl st be rm pm ha mm cc tm sm le : Nat → Int32}
theorem Sim.mono {T' : Nat} (h : Sim T n C tr mo to co sn nb ro lv cd pl st be rm pm ha mm cc tm sm le) (hT : T ≤ T') : Sim T' n C tr mo to co sn nb ro lv cd pl st be rm pm ha mm cc tm sm le := by
  obtain ⟨⟨a1, a2⟩, a3, a4, a5⟩ := h
  refine ⟨⟨a1, by omega⟩, a3, fun j t hj ht => ?_, a5⟩
  obtain ⟨b1, b2, b3, b4, b5, b6⟩ := a4 j t hj ht
  refine ⟨b1, b2, b3, b4, b5, ?_⟩
  rcases b6 with b6 | ⟨x, hx, e⟩
  · exact Or.inl b6
  · exact Or.inr ⟨x, by omega, e⟩
/-- which numbers the reference takes, and which the program -/
theorem Sim.own (h : Sim T n C tr mo to co sn nb ro lv cd pl st be rm pm ha mm cc tm sm le) {j t i k : Nat} (hj : j < 6) (ht : tr j = some t) (hi : i < n) (hk : k ≤ 8) : m_from st be (i + 1) (nI j) (nI k) ↔ (cd i = nI 1 ∧ d_up ro lv (nb j 0) (nI k) i) := by
  obtain ⟨_, _, _, _, s5, s6, s7, _⟩ := h
  constructor
  · intro hf
    have hc : cd i = nI 1 := by rw [← (s5 i hi).2.1]; exact hf.1
    obtain ⟨j', t', q, b1, b2, b3, b4, b5, b6⟩ := s6 i hi hc
    obtain ⟨_, e, hq⟩ := (from_iff b4 hj b1 b2 hk).mp hf
    subst e
    exact ⟨hc, b6, by rw [b5]; exact nI_nlt hq (by omega)⟩
  · rintro ⟨hc, h1, h2⟩
    rcases s7 j t i hj ht hi h1 with w | ⟨_, q, b1, b2, b3⟩
    · rw [hc] at w; exact absurd w n13
    · rw [b3, nI_ltI (by omega) (by omega)] at h2
      exact (from_iff b2 hj hj b1 hk).mpr ⟨by rw [(s5 i hi).2.1]; exact hc, rfl, by omega⟩
/-- two transactions with a number have different roots -/
theorem Sim.root (h : Sim T n C tr mo to co sn nb ro lv cd pl st be rm pm ha mm cc tm sm le) {j t j' t' : Nat} (hj : j < 6) (ht : tr j = some t) (hj' : j' < 6) (ht' : tr j' = some t') (h0 : ¬ nb j 0 = 0) (he : nb j 0 = nb j' 0) : j = j' := by
  obtain ⟨⟨hn, _⟩, _, _, _, _, _, _, s8⟩ := h
  obtain ⟨i, a1, a2, _, a4, _⟩ := s8 j t hj ht h0
  obtain ⟨i', b1, b2, _, b4, _⟩ := s8 j' t' hj' ht' (by rw [← he]; exact h0)
  rw [a2, b2] at he
  have e : i = i' := by
    have := (nI_eq (by omega) (by omega)).mp he
    omega
  subst e
  rw [a4] at b4
  have := (nI_eq (by omega) (by omega)).mp b4
  omega
/-- the numbers' root is never 0 -/
theorem Sim.root0 (h : Sim T n C tr mo to co sn nb ro lv cd pl st be rm pm ha mm cc tm sm le) {i : Nat} (hi : i < n) : ¬ ro i = 0 := by
  obtain ⟨⟨hn, _⟩, _, _, _, s5, _⟩ := h
  obtain ⟨x, h1, h2, h3⟩ := (s5 i hi).2.2.2.2.2
  rw [h3]
  exact nI_ne0 (by omega) (by omega)
theorem Sim.stmt (h : Sim T n C tr mo to co sn nb ro lv cd pl st be rm pm ha mm cc tm sm le) {j : Nat} (hj : j < 6) {c' s' : Int32} (hs : s' = -1 ∨ ∃ x, x ≤ T ∧ s' = nI x) : Sim T n C tr mo to (upd co j c') (upd sn j s') nb ro lv cd pl st be rm pm ha mm (upd cc j c') tm (upd sm j s') le := by
  obtain ⟨a1, a2, a3, a4⟩ := h
  refine ⟨a1, a2, fun i t hi ht => ?_, a4⟩
  obtain ⟨b1, b2, b3, b4, b5, b6⟩ := a3 i t hi ht
  by_cases c : i = j
  · subst c
    rw [pk_us, pk_us, pk_us, pk_us]
    exact ⟨b1, b2, rfl, b4, rfl, hs⟩
  · rw [pk_un c, pk_un c, pk_un c, pk_un c]
    exact ⟨b1, b2, b3, b4, b5, b6⟩
theorem Sim.save (h : Sim T n C tr mo to co sn nb ro lv cd pl st be rm pm ha mm cc tm sm le) {j t u : Nat} (hj : j < 6) (ht : tr j = some t) (hu : to j = nI u) (hu7 : u < 7) : Sim T n C tr mo (upd to j (nI (u + 1))) co sn nb ro lv cd pl st be rm pm ha mm cc (upd tm j (nI (u + 1))) sm (upd le (8 * j + (u + 1)) 0) := by
  obtain ⟨a1, a2, a3, a4, a5⟩ := h
  refine ⟨a1, a2, fun i t' hi ht' => ?_, fun i t' hi ht' => ?_, a5⟩
  · obtain ⟨b1, b2, b3, b4, b5, b6⟩ := a3 i t' hi ht'
    by_cases c : i = j
    · subst c
      rw [pk_us, pk_us]
      exact ⟨b1, b2, b3, rfl, b5, b6⟩
    · rw [pk_un c, pk_un c]
      exact ⟨b1, b2, b3, b4, b5, b6⟩
  · obtain ⟨v, b1, b2, b3, b4⟩ := a4 i t' hi ht'
    by_cases c : i = j
    · subst c
      have e : v = u := (nI_eq (by omega) (by omega)).mp (b2.symm.trans hu)
      subst e
      refine ⟨v + 1, by omega, pk_us, fun k hk => ?_, fun k h1 h2 => b4 k (by omega) h2⟩
      by_cases c2 : k = v + 1
      · subst c2
        rw [pk_us]
        exact b4 (v + 1) (by omega) (by omega)
      · rw [pk_un (by omega)]
        exact b3 k (by omega)
    · refine ⟨v, b1, by rw [pk_un c]; exact b2, fun k hk => ?_, b4⟩
      rw [pk_un (by omega)]
      exact b3 k hk
theorem Sim.beg (h : Sim T n C tr mo to co sn nb ro lv cd pl st be rm pm ha mm cc tm sm le) {j t : Nat} {md : Int32} (hj : j < 6) (ht : tr j = none) : Sim T n C (va_up tr j (some t)) (upd mo j md) (upd to j (nI 0)) (upd co j (nI 0)) (upd sn j (-1)) (va_up nb j (fun _ => 0)) ro lv cd pl st be rm pm (upd ha j 1) (upd mm j md) (upd cc j 0) (upd tm j 0) (upd sm j (-1)) (upd le (8 * j) 0) := by
  have h0 := h
  obtain ⟨a1, a2, a3, a4, a5, a6, a7, a8⟩ := h
  have self : va_up tr j (some t) j = some t := if_pos rfl
  have oth : ∀ {i : Nat}, i ≠ j → va_up tr j (some t) i = tr i := fun c => if_neg c
  have nbs : va_up nb j (fun _ => 0) j = fun _ => (0 : Int32) := if_pos rfl
  have nbo : ∀ {i : Nat}, i ≠ j → va_up nb j (fun _ => (0 : Int32)) i = nb i := fun c => if_neg c
  refine ⟨a1, fun i hi hn => ?_, fun i t' hi ht' => ?_, fun i t' hi ht' => ?_, a5, fun i hi hc => ?_, fun i t' k hi ht' hk hr => ?_, fun i t' hi ht' hz => ?_⟩
  · by_cases c : i = j
    · subst c; rw [self] at hn; cases hn
    · rw [oth c] at hn
      rw [pk_un c]
      exact a2 i hi hn
  · by_cases c : i = j
    · subst c
      rw [pk_us, pk_us, pk_us, pk_us, pk_us, pk_us, pk_us, pk_us, pk_us]
      exact ⟨by decide, rfl, rfl, rfl, rfl, Or.inl rfl⟩
    · rw [oth c] at ht'
      rw [pk_un c, pk_un c, pk_un c, pk_un c, pk_un c, pk_un c, pk_un c, pk_un c, pk_un c]
      exact a3 i t' hi ht'
  · by_cases c : i = j
    · subst c
      refine ⟨0, by omega, pk_us, fun k hk => ?_, fun k _ _ => by rw [nbs]⟩
      have e : k = 0 := by omega
      subst e
      rw [nbs, Nat.add_zero, pk_us]
    · rw [oth c] at ht'
      obtain ⟨v, b1, b2, b3, b4⟩ := a4 i t' hi ht'
      refine ⟨v, b1, by rw [pk_un c]; exact b2, fun k hk => ?_, fun k h1 h2 => by rw [nbo c]; exact b4 k h1 h2⟩
      rw [nbo c, pk_un (by omega)]
      exact b3 k hk
  · obtain ⟨j', t', q, b1, b2, b3, b4, b5, b6⟩ := a6 i hi hc
    have c : j' ≠ j := fun w => by rw [w, ht] at b3; cases b3
    exact ⟨j', t', q, b1, b2, by rw [oth c]; exact b3, b4, b5, by rw [nbo c]; exact b6⟩
  · by_cases c : i = j
    · subst c
      rw [nbs] at hr
      exact absurd hr (h0.root0 hk)
    · rw [oth c] at ht'
      rw [nbo c] at hr
      exact a7 i t' k hi ht' hk hr
  · by_cases c : i = j
    · subst c
      rw [nbs] at hz
      exact absurd rfl hz
    · rw [oth c] at ht'
      rw [nbo c] at hz ⊢
      exact a8 i t' hi ht' hz
end SI
end
section
section SJ
variable {T n C : Nat} {tr : Nat → Option Nat} {mo to co sn : Nat → Int32} {nb : Nat → Nat → Int32} {ro lv cd pl st be rm pm ha mm cc tm sm le : Nat → Int32}
/-- a running number is of one transaction -/
theorem Sim.of1 (h : Sim T n C tr mo to co sn nb ro lv cd pl st be rm pm ha mm cc tm sm le) {j t i : Nat} (hj : j < 6) (ht : tr j = some t) (hi : i < n) (hc : cd i = nI 1) (hr : ro i = nb j 0) : ∃ q, q < 8 ∧ be (i + 1) = nI (8 * j + q) ∧ lv i = nI q := by
  rcases h.2.2.2.2.2.2.1 j t i hj ht hi hr with w | ⟨_, w⟩
  · rw [hc] at w; exact absurd w n13
  · exact w
theorem Sim.release (h : Sim T n C tr mo to co sn nb ro lv cd pl st be rm pm ha mm cc tm sm le) {j t u k : Nat} (hj : j < 6) (ht : tr j = some t) (hu : to j = nI u) (hu7 : u ≤ 7) (h1 : 1 ≤ k) (h2 : k ≤ u) :
    Sim T n C tr mo (upd to j (nI (k - 1))) co sn (va_up nb j (t_clr (nb j) k 8)) ro (dset (d_up ro lv (nb j 0) (nI k)) lv (nI k - nI 1) n) cd pl st (m_set st be be (nI j) (nI k) (nI (8 * j + k - 1)) (n + 1)) rm pm ha mm cc (upd tm j (nI (k - 1))) sm le := by
  have h0 := h
  obtain ⟨a1, a2, a3, a4, a5, a6, a7, a8⟩ := h
  have nb0 : ∀ i, va_up nb j (t_clr (nb j) k 8) i 0 = nb i 0 := by
    intro i
    unfold va_up
    split
    · rename_i e; rw [e]; exact if_neg (by omega)
    · rfl
  have key : ∀ i j' t' q, i < n → cd i = nI 1 → j' < 6 → q < 8 → tr j' = some t' → be (i + 1) = nI (8 * j' + q) → lv i = nI q → ro i = nb j' 0 → ∃ q', q' < 8 ∧ m_set st be be (nI j) (nI k) (nI (8 * j + k - 1)) (n + 1) (i + 1) = nI (8 * j' + q') ∧ dset (d_up ro lv (nb j 0) (nI k)) lv (nI k - nI 1) n i = nI q' ∧ (q = 0 → q' = 0) := by
    intro i j' t' q hi hc hj' hq ht' hb hl hr
    have ho := h0.own hj ht hi (k := k) (by omega)
    by_cases hf : m_from st be (i + 1) (nI j) (nI k)
    · have h3 := ho.mp hf
      obtain ⟨_, e, hkq⟩ := (from_iff hb hj hj' hq (by omega)).mp hf
      subst e
      exact ⟨k - 1, by omega, by rw [m_set_in (by omega) (by omega) hf]; congr 1; omega, by rw [dset_in hi h3.2]; exact n_pred h1, fun _ => by omega⟩
    · have h3 : ¬ d_up ro lv (nb j 0) (nI k) i := fun w => hf (ho.mpr ⟨hc, w⟩)
      exact ⟨q, hq, by rw [m_set_out hf]; exact hb, by rw [dset_out (fun w => h3 w.2)]; exact hl, fun w => w⟩
  refine ⟨a1, a2, fun i t' hi ht' => ?_, fun i t' hi ht' => ?_, a5, fun i hi hc => ?_, fun i t' k' hi ht' hk hr => ?_, fun i t' hi ht' hz => ?_⟩
  · obtain ⟨b1, b2, b3, b4, b5, b6⟩ := a3 i t' hi ht'
    by_cases c : i = j
    · subst c
      rw [pk_us, pk_us]
      exact ⟨b1, b2, b3, rfl, b5, b6⟩
    · rw [pk_un c, pk_un c]
      exact ⟨b1, b2, b3, b4, b5, b6⟩
  · obtain ⟨v, b1, b2, b3, b4⟩ := a4 i t' hi ht'
    by_cases c : i = j
    · subst c
      have e : v = u := (nI_eq (by omega) (by omega)).mp (b2.symm.trans hu)
      subst e
      rw [show va_up nb i (t_clr (nb i) k 8) i = t_clr (nb i) k 8 from if_pos rfl]
      exact ⟨k - 1, by omega, pk_us, fun q hq => (if_neg (by omega)).trans (b3 q (by omega)), fun q h3 h4 => if_pos ⟨by omega, h4⟩⟩
    · rw [show va_up nb j (t_clr (nb j) k 8) i = nb i from if_neg c, pk_un c]
      exact ⟨v, b1, b2, b3, b4⟩
  · obtain ⟨j', t', q, b1, b2, b3, b4, b5, b6⟩ := a6 i hi hc
    obtain ⟨q', c1, c2, c3, _⟩ := key i j' t' q hi hc b1 b2 b3 b4 b5 b6
    exact ⟨j', t', q', b1, c1, b3, c2, c3, by rw [nb0]; exact b6⟩
  · rw [nb0] at hr
    rcases a7 i t' k' hi ht' hk hr with w | ⟨w1, q, w2, w3, w4⟩
    · exact Or.inl w
    · obtain ⟨q', c1, c2, c3, _⟩ := key k' i t' q hk w1 hi w2 ht' w3 w4 hr
      exact Or.inr ⟨w1, q', c1, c2, c3⟩
  · rw [nb0] at hz ⊢
    obtain ⟨m, b1, b2, b3, b4, b5⟩ := a8 i t' hi ht' hz
    have hro : ro m = nb i 0 := by
      obtain ⟨j', t9, q, c1, c2, c3, c4, c5, c6⟩ := a6 m b1 b3
      rw [c4] at b4
      have := (nI_eq (by omega) (by omega)).mp b4
      have e : j' = i := by omega
      rw [← e]
      exact c6
    obtain ⟨q', c1, c2, c3, c4⟩ := key m i t' 0 b1 b3 hi (by omega) ht' b4 b5 hro
    have e := c4 rfl
    subst e
    exact ⟨m, b1, b2, b3, c2, c3⟩
/-- a property that takes all running numbers of a transaction from a level on: what is aborted -/
theorem Sim.abt (h : Sim T n C tr mo to co sn nb ro lv cd pl st be rm pm ha mm cc tm sm le) {j t k : Nat} (hj : j < 6) (ht : tr j = some t) (hk : k ≤ 8) {i : Nat} (hi : i < n) :
    m_set st be st (nI j) (nI k) (nI 3) (n + 1) (i + 1) = dset (d_up ro lv (nb j 0) (nI k)) cd (nI 3) n i ∧ (dset (d_up ro lv (nb j 0) (nI k)) cd (nI 3) n i = nI 1 → cd i = nI 1 ∧ ¬ d_up ro lv (nb j 0) (nI k) i) ∧ (¬ d_up ro lv (nb j 0) (nI k) i → dset (d_up ro lv (nb j 0) (nI k)) cd (nI 3) n i = cd i) ∧ (d_up ro lv (nb j 0) (nI k) i → dset (d_up ro lv (nb j 0) (nI k)) cd (nI 3) n i = nI 3) := by
  have h0 := h
  obtain ⟨a1, a2, a3, a4, a5, a6, a7, a8⟩ := h
  have ho := h0.own hj ht hi (k := k) hk
  by_cases hu : d_up ro lv (nb j 0) (nI k) i
  · rw [dset_in hi hu]
    refine ⟨?_, fun w => absurd w.symm n13, fun w => absurd hu w, fun _ => rfl⟩
    rcases a7 j t i hj ht hi hu.1 with w | ⟨w, _⟩
    · have hf : ¬ m_from st be (i + 1) (nI j) (nI k) := fun q => by
        have := (ho.mp q).1
        rw [w] at this
        exact n13 this.symm
      rw [m_set_out hf, (a5 i hi).2.1, w]
    · exact m_set_in (by omega) (by omega) (ho.mpr ⟨w, hu⟩)
  · rw [dset_out (fun w => hu w.2)]
    exact ⟨by rw [m_set_out (fun q => hu (ho.mp q).2)]; exact (a5 i hi).2.1, fun w => ⟨w, hu⟩, fun _ => rfl, fun w => absurd w hu⟩
theorem Sim.back (h : Sim T n C tr mo to co sn nb ro lv cd pl st be rm pm ha mm cc tm sm le) {j t u k : Nat} (hj : j < 6) (ht : tr j = some t) (hu : to j = nI u) (hu7 : u ≤ 7) (h1 : 1 ≤ k) (h2 : k ≤ u) :
    Sim T n C tr mo (upd to j (nI k)) co sn (va_up nb j (t_clr (nb j) k 8)) ro lv (dset (d_up ro lv (nb j 0) (nI k)) cd (nI 3) n) pl (m_set st be st (nI j) (nI k) (nI 3) (n + 1)) be rm pm ha mm cc (upd tm j (nI k)) sm (upd le (8 * j + k) 0) := by
  have h0 := h
  obtain ⟨a1, a2, a3, a4, a5, a6, a7, a8⟩ := h
  have nb0 : ∀ i, va_up nb j (t_clr (nb j) k 8) i 0 = nb i 0 := by
    intro i
    unfold va_up
    split
    · rename_i e; rw [e]; exact if_neg (by omega)
    · rfl
  have ab := fun i hi => h0.abt hj ht (k := k) (by omega) (i := i) hi
  refine ⟨a1, a2, fun i t' hi ht' => ?_, fun i t' hi ht' => ?_, fun i hi => ?_, fun i hi hc => ?_, fun i t' k' hi ht' hk hr => ?_, fun i t' hi ht' hz => ?_⟩
  · obtain ⟨b1, b2, b3, b4, b5, b6⟩ := a3 i t' hi ht'
    by_cases c : i = j
    · subst c
      rw [pk_us, pk_us]
      exact ⟨b1, b2, b3, rfl, b5, b6⟩
    · rw [pk_un c, pk_un c]
      exact ⟨b1, b2, b3, b4, b5, b6⟩
  · obtain ⟨v, b1, b2, b3, b4⟩ := a4 i t' hi ht'
    by_cases c : i = j
    · subst c
      have e : v = u := (nI_eq (by omega) (by omega)).mp (b2.symm.trans hu)
      subst e
      rw [show va_up nb i (t_clr (nb i) k 8) i = t_clr (nb i) k 8 from if_pos rfl]
      refine ⟨k, by omega, pk_us, fun q hq => ?_, fun q h3 h4 => if_pos ⟨by omega, h4⟩⟩
      by_cases c2 : q = k
      · subst c2
        rw [pk_us]
        exact if_pos ⟨by omega, by omega⟩
      · rw [pk_un (by omega)]
        exact (if_neg (by omega)).trans (b3 q (by omega))
    · rw [show va_up nb j (t_clr (nb j) k 8) i = nb i from if_neg c, pk_un c]
      refine ⟨v, b1, b2, fun q hq => ?_, b4⟩
      rw [pk_un (by omega)]
      exact b3 q hq
  · obtain ⟨b1, b2, b3, b4, b5, b6⟩ := a5 i hi
    obtain ⟨c1, c2, c3, c4⟩ := ab i hi
    refine ⟨b1, c1, b3, ?_, fun w => b5 (c2 w).1, b6⟩
    by_cases hd : d_up ro lv (nb j 0) (nI k) i
    · exact Or.inr (Or.inr (c4 hd))
    · rw [c3 hd]; exact b4
  · obtain ⟨c1, c2, _⟩ := ab i hi
    obtain ⟨j', t', q, b1, b2, b3, b4, b5, b6⟩ := a6 i hi (c2 hc).1
    exact ⟨j', t', q, b1, b2, b3, b4, b5, by rw [nb0]; exact b6⟩
  · rw [nb0] at hr
    obtain ⟨c1, c2, c3, c4⟩ := ab k' hk
    by_cases hd : d_up ro lv (nb j 0) (nI k) k'
    · exact Or.inl (c4 hd)
    · rw [c3 hd]; exact a7 i t' k' hi ht' hk hr
  · rw [nb0] at hz ⊢
    obtain ⟨m, b1, b2, b3, b4, b5⟩ := a8 i t' hi ht' hz
    obtain ⟨c1, c2, c3, c4⟩ := ab m b1
    refine ⟨m, b1, b2, ?_, b4, b5⟩
    rw [c3 (fun w => by
      have := w.2
      rw [b5] at this
      exact this (nI_lt (by omega) (by omega)))]
    exact b3
theorem Sim.abort (h : Sim T n C tr mo to co sn nb ro lv cd pl st be rm pm ha mm cc tm sm le) {j t : Nat} (hj : j < 6) (ht : tr j = some t) :
    Sim T n C (va_up tr j none) mo to co sn nb ro lv (dset (d_up ro lv (nb j 0) (nI 0)) cd (nI 3) n) pl (m_set st be st (nI j) (nI 0) (nI 3) (n + 1)) be rm (m_set st be pm (nI j) (nI 0) (nI 0) (n + 1)) (upd ha j 0) mm cc tm sm le := by
  have h0 := h
  obtain ⟨a1, a2, a3, a4, a5, a6, a7, a8⟩ := h
  have ab := fun i hi => h0.abt hj ht (k := 0) (by omega) (i := i) hi
  have old : ∀ {i s : Nat}, va_up tr j none i = some s → i ≠ j ∧ tr i = some s := by
    intro i s hi
    unfold va_up at hi
    by_cases c : i = j
    · rw [if_pos c] at hi; cases hi
    · rw [if_neg c] at hi; exact ⟨c, hi⟩
  refine ⟨a1, fun i hi hn => ?_, fun i t' hi ht' => ?_, fun i t' hi ht' => a4 i t' hi (old ht').2, fun i hi => ?_, fun i hi hc => ?_, fun i t' k' hi ht' hk hr => ?_, fun i t' hi ht' hz => ?_⟩
  · by_cases c : i = j
    · subst c; exact pk_us
    · rw [show va_up tr j none i = tr i from if_neg c] at hn
      rw [pk_un c]
      exact a2 i hi hn
  · rw [pk_un (old ht').1]
    exact a3 i t' hi (old ht').2
  · obtain ⟨b1, b2, b3, b4, b5, b6⟩ := a5 i hi
    obtain ⟨c1, c2, c3, c4⟩ := ab i hi
    refine ⟨b1, c1, ?_, ?_, fun w => b5 (c2 w).1, b6⟩
    · by_cases hf : m_from st be (i + 1) (nI j) (nI 0)
      · rw [m_set_in (by omega) (by omega) hf]
        exact (b5 (by rw [← b2]; exact hf.1)).symm
      · rw [m_set_out hf]; exact b3
    · by_cases hd : d_up ro lv (nb j 0) (nI 0) i
      · exact Or.inr (Or.inr (c4 hd))
      · rw [c3 hd]; exact b4
  · obtain ⟨c1, c2, _⟩ := ab i hi
    obtain ⟨d1, d2⟩ := c2 hc
    obtain ⟨j', t', q, b1, b2, b3, b4, b5, b6⟩ := a6 i hi d1
    have c : j' ≠ j := fun w => by
      subst w
      exact d2 ⟨b6, by rw [b5]; exact nI_nlt (by omega) (by omega)⟩
    exact ⟨j', t', q, b1, b2, (if_neg c).trans b3, b4, b5, b6⟩
  · obtain ⟨c, ht9⟩ := old ht'
    obtain ⟨c1, c2, c3, c4⟩ := ab k' hk
    by_cases hd : d_up ro lv (nb j 0) (nI 0) k'
    · exact Or.inl (c4 hd)
    · rw [c3 hd]; exact a7 i t' k' hi ht9 hk hr
  · obtain ⟨c, ht9⟩ := old ht'
    obtain ⟨m, b1, b2, b3, b4, b5⟩ := a8 i t' hi ht9 hz
    obtain ⟨c1, c2, c3, c4⟩ := ab m b1
    refine ⟨m, b1, b2, ?_, b4, b5⟩
    rw [c3 (fun w => by
      obtain ⟨q, e1, e2, e3⟩ := h0.of1 hj ht b1 b3 w.1
      rw [b4] at e2
      have := (nI_eq (by omega) (by omega)).mp e2
      omega)]
    exact b3
theorem Sim.commit (h : Sim T n C tr mo to co sn nb ro lv cd pl st be rm pm ha mm cc tm sm le) {j t : Nat} (hj : j < 6) (ht : tr j = some t) {x : Int32} :
    Sim (T + 1) n (C + 1) (va_up tr j none) mo to co sn nb ro lv (dset (d_run ro cd (nb j 0)) cd (nI 2) n) (dset (d_run ro cd (nb j 0)) pl x n) (m_set st be st (nI j) (nI 0) (nI 2) (n + 1)) be rm (m_set st be pm (nI j) (nI 0) x (n + 1)) (upd ha j 0) mm cc tm sm le := by
  have h0 := h.mono (Nat.le_succ T)
  obtain ⟨⟨hn4, hCT⟩, _⟩ := id h
  obtain ⟨a1, a2, a3, a4, a5, a6, a7, a8⟩ := h0
  have own : ∀ i, i < n → (m_from st be (i + 1) (nI j) (nI 0) ↔ d_run ro cd (nb j 0) i) := by
    intro i hi
    refine (h.own hj ht hi (k := 0) (by omega)).trans ⟨fun w => ⟨w.2.1, w.1⟩, fun w => ⟨w.2, w.1, ?_⟩⟩
    obtain ⟨q, e1, e2, e3⟩ := h.of1 hj ht hi w.2 w.1
    rw [e3]
    exact nI_nlt (by omega) (by omega)
  have old : ∀ {i s : Nat}, va_up tr j none i = some s → i ≠ j ∧ tr i = some s := by
    intro i s hi
    unfold va_up at hi
    by_cases c : i = j
    · rw [if_pos c] at hi; cases hi
    · rw [if_neg c] at hi; exact ⟨c, hi⟩
  have run1 : ∀ {i : Nat}, i < n → dset (d_run ro cd (nb j 0)) cd (nI 2) n i = nI 1 → cd i = nI 1 ∧ ¬ d_run ro cd (nb j 0) i := by
    intro i hi w
    by_cases hd : d_run ro cd (nb j 0) i
    · rw [dset_in hi hd] at w; exact absurd w.symm n12
    · rw [dset_out (fun q => hd q.2)] at w; exact ⟨w, hd⟩
  refine ⟨⟨hn4, by omega⟩, fun i hi hn => ?_, fun i t' hi ht' => ?_, fun i t' hi ht' => a4 i t' hi (old ht').2, fun i hi => ?_, fun i hi hc => ?_, fun i t' k' hi ht' hk hr => ?_, fun i t' hi ht' hz => ?_⟩
  · by_cases c : i = j
    · subst c; exact pk_us
    · rw [show va_up tr j none i = tr i from if_neg c] at hn
      rw [pk_un c]
      exact a2 i hi hn
  · rw [pk_un (old ht').1]
    exact a3 i t' hi (old ht').2
  · obtain ⟨b1, b2, b3, b4, b5, b6⟩ := a5 i hi
    by_cases hd : d_run ro cd (nb j 0) i
    · have hf := (own i hi).mpr hd
      rw [dset_in hi hd, dset_in hi hd, m_set_in (by omega) (by omega) hf, m_set_in (by omega) (by omega) hf]
      exact ⟨b1, rfl, rfl, Or.inr (Or.inl rfl), fun w => absurd w.symm n12, b6⟩
    · have hf : ¬ m_from st be (i + 1) (nI j) (nI 0) := fun w => hd ((own i hi).mp w)
      rw [dset_out (fun q => hd q.2), dset_out (fun q => hd q.2), m_set_out hf, m_set_out hf]
      exact ⟨b1, b2, b3, b4, b5, b6⟩
  · obtain ⟨d1, d2⟩ := run1 hi hc
    obtain ⟨j', t', q, b1, b2, b3, b4, b5, b6⟩ := a6 i hi d1
    have c : j' ≠ j := fun w => by
      subst w
      exact d2 ⟨b6, d1⟩
    exact ⟨j', t', q, b1, b2, (if_neg c).trans b3, b4, b5, b6⟩
  · obtain ⟨c, ht9⟩ := old ht'
    by_cases hd : d_run ro cd (nb j 0) k'
    · obtain ⟨q, e1, e2, e3⟩ := h.of1 hj ht hk hd.2 hd.1
      rcases a7 i t' k' hi ht9 hk hr with w | ⟨_, q', w2, w3, _⟩
      · rw [hd.2] at w; exact absurd w n13
      · rw [e2] at w3
        have := (nI_eq (by omega) (by omega)).mp w3
        omega
    · rw [dset_out (fun q => hd q.2)]; exact a7 i t' k' hi ht9 hk hr
  · obtain ⟨c, ht9⟩ := old ht'
    obtain ⟨m, b1, b2, b3, b4, b5⟩ := a8 i t' hi ht9 hz
    refine ⟨m, b1, b2, ?_, b4, b5⟩
    rw [dset_out (fun w => by
      obtain ⟨q, e1, e2, e3⟩ := h.of1 hj ht b1 b3 w.2.1
      rw [b4] at e2
      have := (nI_eq (by omega) (by omega)).mp e2
      omega)]
    exact b3
/-- how many the reference ends -/
theorem Sim.cnt0 (h : Sim T n C tr mo to co sn nb ro lv cd pl st be rm pm ha mm cc tm sm le) {j t : Nat} (hj : j < 6) (ht : tr j = some t) (hz : nb j 0 = 0) {i : Nat} (hi : i < n) : ¬ m_from st be (i + 1) (nI j) (nI 0) := by
  intro w
  have := ((h.own hj ht hi (k := 0) (by omega)).mp w).2.1
  rw [hz] at this
  exact h.root0 hi this
theorem cnt_zero {s k : Int32} : ∀ m : Nat, (∀ i, i + 1 < m → ¬ m_from st be (i + 1) s k) → m_cnt st be s k m = 0
  | 0, _ => rfl
  | m + 1, h => by
    show m_cnt st be s k m + (if 1 ≤ m ∧ m_from st be m s k then 1 else 0) = 0
    rw [cnt_zero m (fun i hi => h i (by omega)), if_neg (fun w => by
      obtain ⟨i, rfl⟩ : ∃ i, m = i + 1 := ⟨m - 1, by omega⟩
      exact h i (by omega) w.2)]
theorem cnt_pos {s k : Int32} {i : Nat} (hf : m_from st be (i + 1) s k) : ∀ m : Nat, i + 1 < m → 0 < m_cnt st be s k m
  | 0, h => by omega
  | m + 1, h => by
    show 0 < m_cnt st be s k m + (if 1 ≤ m ∧ m_from st be m s k then 1 else 0)
    by_cases c : i + 1 = m
    · subst c
      rw [if_pos ⟨by omega, hf⟩]
      omega
    · have := cnt_pos hf m (by omega)
      omega
theorem Sim.cntP (h : Sim T n C tr mo to co sn nb ro lv cd pl st be rm pm ha mm cc tm sm le) {j t : Nat} (hj : j < 6) (ht : tr j = some t) (hz : ¬ nb j 0 = 0) : 0 < m_cnt st be (nI j) (nI 0) (n + 1) := by
  obtain ⟨m, b1, b2, b3, b4, b5⟩ := h.2.2.2.2.2.2.2 j t hj ht hz
  refine cnt_pos (i := m) ?_ (n + 1) (by omega)
  exact (from_iff b4 hj hj (by omega) (by omega)).mpr ⟨by rw [(h.2.2.2.2.1 m b1).2.1]; exact b3, rfl, by omega⟩
/-- nothing runs: nothing changes -/
theorem m_set_no {f : Nat → Int32} {s k x : Int32} (h : ∀ i, i < n → ¬ m_from st be (i + 1) s k) (i : Nat) : m_set st be f s k x (n + 1) i = f i := by
  refine if_neg (fun w => ?_)
  obtain ⟨m, rfl⟩ : ∃ m, i = m + 1 := ⟨i - 1, by omega⟩
  exact h m (by omega) w.2.2
theorem Sim.gone (h : Sim T n C tr mo to co sn nb ro lv cd pl st be rm pm ha mm cc tm sm le) {j t : Nat} (hj : j < 6) (ht : tr j = some t) (hz : nb j 0 = 0) : Sim T n C (va_up tr j none) mo to co sn nb ro lv cd pl st be rm pm (upd ha j 0) mm cc tm sm le := by
  have h0 := h
  obtain ⟨a1, a2, a3, a4, a5, a6, a7, a8⟩ := h
  have old : ∀ {i s : Nat}, va_up tr j none i = some s → i ≠ j ∧ tr i = some s := by
    intro i s hi
    unfold va_up at hi
    by_cases c : i = j
    · rw [if_pos c] at hi; cases hi
    · rw [if_neg c] at hi; exact ⟨c, hi⟩
  refine ⟨a1, fun i hi hn => ?_, fun i t' hi ht' => ?_, fun i t' hi ht' => a4 i t' hi (old ht').2, a5, fun i hi hc => ?_, fun i t' k' hi ht' hk hr => a7 i t' k' hi (old ht').2 hk hr, fun i t' hi ht' hz => a8 i t' hi (old ht').2 hz⟩
  · by_cases c : i = j
    · subst c; exact pk_us
    · rw [show va_up tr j none i = tr i from if_neg c] at hn
      rw [pk_un c]
      exact a2 i hi hn
  · rw [pk_un (old ht').1]
    exact a3 i t' hi (old ht').2
  · obtain ⟨j', t', q, b1, b2, b3, b4, b5, b6⟩ := a6 i hi hc
    have c : j' ≠ j := fun w => by
      subst w
      rw [hz] at b6
      exact h0.root0 hi b6
    exact ⟨j', t', q, b1, b2, (if_neg c).trans b3, b4, b5, b6⟩
end SJ
end
section
/-- places beyond the numbers given are 0 -/
def Pz (n : Nat) (pm : Nat → Int32) : Prop := ∀ i, n < i → pm i = nI 0
theorem Pz.set {n : Nat} {pm st be : Nat → Int32} {s k x : Int32} (h : Pz n pm) : Pz n (m_set st be pm s k x (n + 1)) := fun i hi => (if_neg (fun w => by omega)).trans (h i hi)
section SK
variable {T n C : Nat} {tr : Nat → Option Nat} {mo to co sn : Nat → Int32} {nb : Nat → Nat → Int32} {ro lv cd pl st be rm pm ha mm cc tm sm le : Nat → Int32}
theorem Sim.crash (be rm mm cc tm sm le mo to co sn ro lv pl : Nat → Int32) (nb : Nat → Nat → Int32) : ∀ (r k : Nat) (tr : Nat → Option Nat) (cd st pm ha : Nat → Int32), k + r = 6 → Sim T n C tr mo to co sn nb ro lv cd pl st be rm pm ha mm cc tm sm le → Pz n pm →
    Sim T n C (d_cr n ro lv nb r k (tr, cd)).1 mo to co sn nb ro lv (d_cr n ro lv nb r k (tr, cd)).2 pl (m_cr be n r k (st, pm, ha)).1 be rm (m_cr be n r k (st, pm, ha)).2.1 (m_cr be n r k (st, pm, ha)).2.2 mm cc tm sm le ∧ Pz n (m_cr be n r k (st, pm, ha)).2.1 := by
  intro r
  induction r with
  | zero => intro k tr cd st pm ha _ h hz; exact ⟨h, hz⟩
  | succ r ih =>
    intro k tr cd st pm ha hk h hz
    unfold d_cr m_cr
    dsimp only
    cases htr : tr k with
    | none =>
      rw [if_pos (h.2.1 k (by omega) htr)]
      exact ih (k + 1) tr cd st pm ha (by omega) h hz
    | some t =>
      rw [if_neg (h.2.2.1 k t (by omega) htr).1]
      exact ih (k + 1) _ _ _ _ _ (by omega) (h.abort (by omega) htr) hz.set
theorem Sim.new (h : Sim T n C tr mo to co sn nb ro lv cd pl st be rm pm ha mm cc tm sm le) (hz : Pz n pm) {j t u k : Nat} (hj : j < 6) (ht : tr j = some t) (hu : to j = nI u) (hu7 : u ≤ 7) (hk : k ≤ u) (hz9 : nb j k = 0) (h0 : k = 0 ∨ ¬ nb j 0 = 0) (hn : n < 4000) :
    Sim T (n + 1) C tr mo to co sn (va_up nb j (upd (nb j) k (nI (n + 1)))) (upd ro n (upd (nb j) k (nI (n + 1)) 0)) (upd lv n (nI k)) (upd cd n (nI 1)) (upd pl n (nI 0)) (upd st (n + 1) (nI 1)) (upd be (n + 1) (nI (8 * j + k))) (upd rm (n + 1) (upd le (8 * j + k) (nI (n + 1)) (8 * j))) pm ha mm cc tm sm (upd le (8 * j + k) (nI (n + 1))) := by
  have hh := h
  obtain ⟨⟨a0, a1⟩, a2, a3, a4, a5, a6, a7, a8⟩ := h
  have nbs : va_up nb j (upd (nb j) k (nI (n + 1))) j = upd (nb j) k (nI (n + 1)) := if_pos rfl
  have nbo : ∀ {i : Nat}, i ≠ j → va_up nb j (upd (nb j) k (nI (n + 1))) i = nb i := fun c => if_neg c
  have root : (k = 0 ∧ upd (nb j) k (nI (n + 1)) 0 = nI (n + 1)) ∨ (k ≠ 0 ∧ ¬ nb j 0 = 0 ∧ upd (nb j) k (nI (n + 1)) 0 = nb j 0) := by
    by_cases c : k = 0
    · subst c; exact Or.inl ⟨rfl, pk_us⟩
    · exact Or.inr ⟨c, h0.resolve_left c, pk_un (Ne.symm c)⟩
  have le0 : upd le (8 * j + k) (nI (n + 1)) (8 * j) = upd (nb j) k (nI (n + 1)) 0 := by
    obtain ⟨v, b1, b2, b3, b4⟩ := a4 j t hj ht
    rcases root with ⟨c, e⟩ | ⟨c, _, e⟩
    · rw [e, c, Nat.add_zero]; exact pk_us
    · rw [e, pk_un (by omega), ← Nat.add_zero (8 * j)]
      exact (b3 0 (by omega)).symm
  have rng : ∃ x, 1 ≤ x ∧ x ≤ n + 1 ∧ upd (nb j) k (nI (n + 1)) 0 = nI x := by
    rcases root with ⟨_, e⟩ | ⟨_, c, e⟩
    · exact ⟨n + 1, by omega, by omega, e⟩
    · obtain ⟨m, b1, b2, _⟩ := a8 j t hj ht c
      exact ⟨m + 1, by omega, by omega, e.trans b2⟩
  refine ⟨⟨by omega, a1⟩, a2, a3, fun i t' hi ht' => ?_, fun i hi => ?_, fun i hi hc => ?_, fun i t' k' hi ht' hk' hr => ?_, fun i t' hi ht' hz' => ?_⟩
  · obtain ⟨v, b1, b2, b3, b4⟩ := a4 i t' hi ht'
    by_cases c : i = j
    · subst c
      have e : v = u := (nI_eq (by omega) (by omega)).mp (b2.symm.trans hu)
      subst e
      rw [nbs]
      refine ⟨v, b1, b2, fun q hq => ?_, fun q h1 h2 => ?_⟩
      · by_cases c2 : q = k
        · subst c2; rw [pk_us, pk_us]
        · rw [pk_un c2, pk_un (by omega)]; exact b3 q hq
      · rw [pk_un (by omega)]; exact b4 q h1 h2
    · rw [nbo c]
      refine ⟨v, b1, b2, fun q hq => ?_, b4⟩
      rw [pk_un (by omega)]; exact b3 q hq
  · by_cases c : i = n
    · subst c
      rw [pk_us, pk_us, pk_us, pk_us, pk_us, le0]
      obtain ⟨x, x1, x2, x3⟩ := rng
      exact ⟨rfl, rfl, hz (i + 1) (by omega), Or.inl rfl, fun _ => rfl, x, x1, x2, x3⟩
    · rw [pk_un c, pk_un c, pk_un c, pk_un (show i + 1 ≠ n + 1 by omega), pk_un (show i + 1 ≠ n + 1 by omega)]
      obtain ⟨b1, b2, b3, b4, b5, x, x1, x2, x3⟩ := a5 i (by omega)
      exact ⟨b1, b2, b3, b4, b5, x, x1, by omega, x3⟩
  · by_cases c : i = n
    · subst c
      exact ⟨j, t, k, hj, by omega, ht, pk_us, pk_us, by rw [pk_us, nbs]⟩
    · rw [pk_un c] at hc
      obtain ⟨j', t', q, b1, b2, b3, b4, b5, b6⟩ := a6 i (by omega) hc
      refine ⟨j', t', q, b1, b2, b3, by rw [pk_un (by omega)]; exact b4, by rw [pk_un c]; exact b5, ?_⟩
      rw [pk_un c, b6]
      by_cases c2 : j' = j
      · subst c2
        rw [nbs]
        rcases root with ⟨c3, e⟩ | ⟨_, _, e⟩
        · exfalso
          subst c3
          have hne : ¬ nb j' 0 = 0 := by rw [← b6]; exact hh.root0 (by omega)
          exact hne hz9
        · exact e.symm
      · rw [nbo c2]
  · by_cases c : k' = n
    · subst c
      rw [pk_us] at hr
      by_cases c2 : i = j
      · subst c2
        exact Or.inr ⟨pk_us, k, by omega, pk_us, pk_us⟩
      · exfalso
        rw [nbo c2] at hr
        rcases root with ⟨_, e⟩ | ⟨_, hne, e⟩
        · rw [e] at hr
          have hne : ¬ nb i 0 = 0 := by rw [← hr]; exact nI_ne0 (by omega) (by omega)
          obtain ⟨m, b1, b2, _⟩ := a8 i t' hi ht' hne
          rw [b2] at hr
          have := (nI_eq (by omega) (by omega)).mp hr
          omega
        · rw [e] at hr
          exact c2 (hh.root hj ht hi ht' hne hr).symm
    · rw [pk_un c] at hr
      rw [pk_un c, pk_un c, pk_un (show k' + 1 ≠ n + 1 by omega)]
      by_cases c2 : i = j
      · subst c2
        rw [nbs] at hr
        rcases root with ⟨_, e⟩ | ⟨_, _, e⟩
        · exfalso
          rw [e] at hr
          obtain ⟨x, x1, x2, x3⟩ := (a5 k' (by omega)).2.2.2.2.2
          rw [x3] at hr
          have := (nI_eq (by omega) (by omega)).mp hr
          omega
        · rw [e] at hr
          exact a7 i t' k' hi ht' (by omega) hr
      · rw [nbo c2] at hr
        exact a7 i t' k' hi ht' (by omega) hr
  · by_cases c : i = j
    · subst c
      rw [nbs] at hz' ⊢
      rcases root with ⟨c3, e⟩ | ⟨_, hne, e⟩
      · subst c3
        exact ⟨n, by omega, e, pk_us, pk_us, pk_us⟩
      · rw [e]
        obtain ⟨m, b1, b2, b3, b4, b5⟩ := a8 i t' hi ht' hne
        exact ⟨m, by omega, b2, by rw [pk_un (by omega)]; exact b3, by rw [pk_un (by omega)]; exact b4, by rw [pk_un (by omega)]; exact b5⟩
    · rw [nbo c] at hz' ⊢
      obtain ⟨m, b1, b2, b3, b4, b5⟩ := a8 i t' hi ht' hz'
      exact ⟨m, by omega, b2, by rw [pk_un (by omega)]; exact b3, by rw [pk_un (by omega)]; exact b4, by rw [pk_un (by omega)]; exact b5⟩
end SK
end
section
theorem mis_eq {j : Nat} {nb le : Nat → Int32} : ∀ r k : Nat, (∀ q, k ≤ q → q < k + r → nb q = le (8 * j + q)) → d_mis nb r k = m_mis j le r k
  | 0, _, _ => rfl
  | r + 1, k, h => by
    unfold d_mis m_mis
    rw [mis_eq r (k + 1) (fun q h1 h2 => h q (by omega) (by omega)), h k (by omega) (by omega)]
section SL
variable {T C : Nat} {tr : Nat → Option Nat} {mo to co sn : Nat → Int32} {pm ha mm cc tm sm : Nat → Int32}
theorem Sim.gv {j t u : Nat} (hj : j < 6) (ht : tr j = some t) (hu : to j = nI u) (hu7 : u ≤ 7) : ∀ (r k n : Nat) (nb : Nat → Nat → Int32) (ro lv cd pl st be rm le : Nat → Int32), k + r = u + 1 → Sim T n C tr mo to co sn nb ro lv cd pl st be rm pm ha mm cc tm sm le → Pz n pm → (k = 0 ∨ ¬ nb j 0 = 0) → n + d_mis (nb j) r k ≤ 4000 →
    (d_gv r k (n, nb j, ro, lv, cd, pl)).1 = (m_gv j r k (n, le, st, be, rm)).1 ∧ Sim T (d_gv r k (n, nb j, ro, lv, cd, pl)).1 C tr mo to co sn (va_up nb j (d_gv r k (n, nb j, ro, lv, cd, pl)).2.1) (d_gv r k (n, nb j, ro, lv, cd, pl)).2.2.1 (d_gv r k (n, nb j, ro, lv, cd, pl)).2.2.2.1 (d_gv r k (n, nb j, ro, lv, cd, pl)).2.2.2.2.1 (d_gv r k (n, nb j, ro, lv, cd, pl)).2.2.2.2.2 (m_gv j r k (n, le, st, be, rm)).2.2.1 (m_gv j r k (n, le, st, be, rm)).2.2.2.1 (m_gv j r k (n, le, st, be, rm)).2.2.2.2 pm ha mm cc tm sm (m_gv j r k (n, le, st, be, rm)).2.1 ∧ Pz (d_gv r k (n, nb j, ro, lv, cd, pl)).1 pm := by
  intro r
  induction r with
  | zero =>
    intro k n nb ro lv cd pl st be rm le _ h hz _ _
    have e : va_up nb j (nb j) = nb := by
      funext i
      unfold va_up
      split
      · rename_i h9; rw [h9]
      · rfl
    refine ⟨rfl, ?_, hz⟩
    show Sim T n C tr mo to co sn (va_up nb j (nb j)) ro lv cd pl st be rm pm ha mm cc tm sm le
    rw [e]
    exact h
  | succ r ih =>
    intro k n nb ro lv cd pl st be rm le hk h hz h0 hm
    obtain ⟨v, b1, b2, b3, b4⟩ := h.2.2.2.1 j t hj ht
    have e : v = u := (nI_eq (by omega) (by omega)).mp (b2.symm.trans hu)
    subst e
    have hnl := b3 k (by omega)
    unfold d_mis at hm
    unfold d_gv m_gv
    dsimp only
    by_cases c : nb j k = 0
    · rw [if_pos c] at hm
      rw [if_pos c, if_pos (by rw [← hnl]; exact c)]
      have hs := h.new hz hj ht hu hu7 (k := k) (by omega) c h0 (by omega)
      have eself : va_up nb j (upd (nb j) k (nI (n + 1))) j = upd (nb j) k (nI (n + 1)) := if_pos rfl
      have hmu := d_mis_upd (nb j) k (nI (n + 1)) r (k + 1) (by omega)
      have key := ih (k + 1) (n + 1) (va_up nb j (upd (nb j) k (nI (n + 1)))) _ _ _ _ _ _ _ _ (by omega) hs (fun i hi => hz i (by omega)) (Or.inr (by
        rw [eself]
        by_cases c2 : k = 0
        · subst c2
          rw [pk_us]
          exact nI_ne0 (by omega) (by omega)
        · rw [pk_un (Ne.symm c2)]
          exact h0.resolve_left c2)) (by rw [eself, hmu]; omega)
      rw [eself] at key
      rw [show ∀ y : Nat → Int32, va_up (va_up nb j (upd (nb j) k (nI (n + 1)))) j y = va_up nb j y from fun y => by funext i; unfold va_up; split <;> rfl] at key
      exact key
    · rw [if_neg c] at hm
      rw [if_neg c, if_neg (by rw [← hnl]; exact c)]
      exact ih (k + 1) n nb ro lv cd pl st be rm le (by omega) h hz (Or.inr (by
        rcases h0 with h0 | h0
        · rw [h0] at c; exact c
        · exact h0)) (by omega)
end SL
end
section
/-! Each call on both: the answers are one, and the states stay side by side. -/
def Inv (κ : Nat → ClassId) (z : Nat × Nat) (T cap : Nat) (w1 w2 : va_W) (h0 b0 : Nat) : Prop :=
  ∃ (hs hl C : Nat) (tr : Nat → Option Nat) (na : Nat → Nat) (mo to co sn : Nat → Int32) (nb : Nat → Nat → Int32) (n : Nat) (el : Nat → Nat) (ro lv cd pl : Nat → Int32) (a : Nat → Nat) (st be rm pm ha mm cc tm sm le : Nat → Int32),
    Dk κ z w1 h0 hs hl cap (nI C) tr na mo to co sn nb n el ro lv cd pl ∧ cap ≤ 6000 ∧ a 0 = b0 ∧ w2 = mw κ a (nI n) (nI C) st be rm pm ha mm cc tm sm le ∧ Sim T n C tr mo to co sn nb ro lv cd pl st be rm pm ha mm cc tm sm le ∧ Pz n pm
theorem Inv.mono {κ : Nat → ClassId} {z : Nat × Nat} {T T' cap : Nat} {w1 w2 : va_W} {h0 b0 : Nat} (h : Inv κ z T cap w1 w2 h0 b0) (hT : T ≤ T') : Inv κ z T' cap w1 w2 h0 b0 := by
  obtain ⟨hs, hl, C, tr, na, mo, to, co, sn, nb, n, el, ro, lv, cd, pl, a, st, be, rm, pm, ha, mm, cc, tm, sm, le, hK, hcap, h1, h2, hS, hz⟩ := h
  exact ⟨hs, hl, C, tr, na, mo, to, co, sn, nb, n, el, ro, lv, cd, pl, a, st, be, rm, pm, ha, mm, cc, tm, sm, le, hK, hcap, h1, h2, hS.mono hT, hz⟩
theorem Inv.cap6 {κ : Nat → ClassId} {z : Nat × Nat} {T cap : Nat} {w1 w2 : va_W} {h0 b0 : Nat} (h : Inv κ z T cap w1 w2 h0 b0) : cap ≤ 6000 := by
  obtain ⟨hs, hl, C, tr, na, mo, to, co, sn, nb, n, el, ro, lv, cd, pl, a, st, be, rm, pm, ha, mm, cc, tm, sm, le, hK, hcap, _⟩ := h
  exact hcap
def Pr (l : Launch) (D : va_G) (κ : Nat → ClassId) (z : Nat × Nat) (T cap : Nat) (w1 w2 : va_W) (h0 b0 : Nat) (yD yM : MethodName) (bD bM : ByteArray) (nD nM : Nat) (ret : Option FieldType) (hD hM : Nat) (As : List Value) : Prop :=
  ∃ (mc ms cap' : Nat) (r : Int32) (w2' : va_W), mc ≤ 16 ∧ ms + 4 * cap ≤ 4 * cap' + 48 ∧ cap' ≤ 6000 ∧ Ct l yD bD nD ret hD mc ms D (gk κ, z) w1 (.ref h0 :: As) (fun v w' => v = some (.int r) ∧ Inv κ z (T + 1) cap' w' w2' h0 b0) ∧ Ct l yM bM nM ret hM 0 0 D (gk κ, z) w2 (.ref b0 :: As) (rt (.int r) w2')
section PA
variable {l : Launch} {D : va_G} {κ : Nat → ClassId} {z : Nat × Nat} {T cap : Nat} {w1 w2 : va_W} {h0 b0 : Nat}
theorem Pr.read {yD yM : MethodName} {bD bM : ByteArray} {nD nM : Nat} {ret : Option FieldType} {hD hM : Nat} {As : List Value} {r : Int32} (hI : Inv κ z T cap w1 w2 h0 b0) (h1 : Ct l yD bD nD ret hD 0 0 D (gk κ, z) w1 (.ref h0 :: As) (rt (.int r) w1)) (h2 : Ct l yM bM nM ret hM 0 0 D (gk κ, z) w2 (.ref b0 :: As) (rt (.int r) w2)) : Pr l D κ z T cap w1 w2 h0 b0 yD yM bD bM nD nM ret hD hM As :=
  ⟨0, 0, cap, r, w2, by omega, by omega, hI.cap6, h1.mono (fun v w' hp => ⟨hp.1, by rw [hp.2]; exact hI.mono (Nat.le_succ T)⟩), h2⟩
theorem md2 {x : Int32} : ¬ nI 2 ≤ x ↔ ¬ nI 1 < x := by
  rw [Int32.le_iff_toInt_le, Int32.lt_iff_toInt_lt, nI_toInt (by decide), nI_toInt (by decide)]
  omega
variable {n C : Nat} {tr : Nat → Option Nat} {mo to co sn : Nat → Int32} {nb : Nat → Nat → Int32} {ro lv cd pl st be rm pm ha mm cc tm sm le : Nat → Int32}
theorem Sim.has (h : Sim T n C tr mo to co sn nb ro lv cd pl st be rm pm ha mm cc tm sm le) {j : Nat} (hj : j < 6) : ha j = 0 ↔ tr j = none := by
  constructor
  · intro w
    cases ht : tr j with
    | none => rfl
    | some t => exact absurd w (h.2.2.1 j t hj ht).1
  · exact h.2.1 j hj
theorem Sim.run (h : Sim T n C tr mo to co sn nb ro lv cd pl st be rm pm ha mm cc tm sm le) {s : Int32} (hb : ¬ ∃ j t : Nat, j < 6 ∧ s = nI j ∧ tr j = some t) : ¬ ∃ j : Nat, j < 6 ∧ s = nI j ∧ ¬ ha j = 0 := by
  rintro ⟨j, hj, e, hh⟩
  cases ht : tr j with
  | none => exact hh ((h.has hj).mpr ht)
  | some t => exact hb ⟨j, t, hj, e, ht⟩
theorem Sim.snap (h : Sim T n C tr mo to co sn nb ro lv cd pl st be rm pm ha mm cc tm sm le) (hT : T ≤ 600) {j t : Nat} (hj : j < 6) (ht : tr j = some t) : sm j < 0 ↔ sn j = -1 := by
  obtain ⟨_, _, _, _, e, w⟩ := h.2.2.1 j t hj ht
  rw [e]
  constructor
  · intro hlt
    rcases w with w | ⟨x, hx, w⟩
    · exact w
    · rw [w] at hlt; exact absurd hlt (nI_pos (by omega))
  · intro w; rw [w]; decide
theorem pr_begin (hI : Inv κ z T cap w1 w2 h0 b0) (s md : Int32) : Pr l D κ z T cap w1 w2 h0 b0 y_D_begin y_M_begin b_D_begin b_M_begin 3 3 (some .boolean) 2 0 [.int s, .int md] := by
  have hI0 := hI
  obtain ⟨hs, hl, C, tr, na, mo, to, co, sn, nb, n, el, ro, lv, cd, pl, a, st, be, rm, pm, ha, mm, cc, tm, sm, le, hK, hcap, rfl, rfl, hS, hz⟩ := hI
  by_cases hb : (∃ j : Nat, j < 6 ∧ s = nI j ∧ tr j = none) ∧ ¬ md < 0 ∧ ¬ nI 2 ≤ md
  · obtain ⟨⟨j, hj, rfl, ht⟩, hm0, hm1⟩ := hb
    refine ⟨2, 13, cap, 1, _, by omega, by omega, by omega, (c_D_beginT hK hj ht hm0 hm1).mono ?_, c_M_beginT hj ((hS.has hj).mpr ht) hm0 (md2.mp hm1)⟩
    rintro v w' ⟨rfl, t, q, hk⟩
    exact ⟨rfl, hs, hl, C, _, _, _, _, _, _, _, n, el, ro, lv, cd, pl, a, st, be, rm, pm, _, _, _, _, _, _, hk, hcap, rfl, rfl, (hS.beg hj ht).mono (Nat.le_succ T), hz⟩
  · refine Pr.read hI0 (r := 0) ?_ (c_M_beginF (fun w => hb ?_))
    · by_cases hs9 : ∃ j : Nat, j < 6 ∧ s = nI j
      · obtain ⟨j, hj, rfl⟩ := hs9
        by_cases hm : ¬ md < 0 ∧ ¬ nI 2 ≤ md
        · cases ht : tr j with
          | none => exact absurd ⟨⟨j, hj, rfl, ht⟩, hm.1, hm.2⟩ hb
          | some t => exact c_D_beginH hK hj ht hm.1 hm.2
        · exact c_D_beginM hj hm
      · exact c_D_beginB hs9
    · obtain ⟨⟨j, hj, e, hh⟩, a1, a2⟩ := w
      exact ⟨⟨j, hj, e, (hS.has hj).mp hh⟩, a1, md2.mpr a2⟩
theorem pr_statement (hI : Inv κ z T cap w1 w2 h0 b0) (hT : T ≤ 600) (s : Int32) : Pr l D κ z T cap w1 w2 h0 b0 y_D_statement y_M_statement b_D_statement b_M_statement 3 2 (some .int) 2 1 [.int s] := by
  have hI0 := hI
  obtain ⟨hs, hl, C, tr, na, mo, to, co, sn, nb, n, el, ro, lv, cd, pl, a, st, be, rm, pm, ha, mm, cc, tm, sm, le, hK, hcap, rfl, rfl, hS, hz⟩ := hI
  by_cases hb : ∃ j t : Nat, j < 6 ∧ s = nI j ∧ tr j = some t
  · obtain ⟨j, t, hj, rfl, ht⟩ := hb
    obtain ⟨hh, e1, e2, e3, e4, e5⟩ := hS.2.2.1 j t hj ht
    have hM := c_M_statementT (l := l) (D := D) (κ := κ) (z := z) (a := a) (g := nI n) (cm := nI C) (st := st) (be := be) (ro := rm) (pl := pm) (mo := mm) (co := cc) (to := tm) (sn := sm) (le := le) hj hh
    have hsn := hS.snap hT hj ht
    rw [e1, e2] at hM
    by_cases hm : mo j = 0 ∨ sn j = -1
    · rw [if_pos (hm.imp id hsn.mpr)] at hM
      refine ⟨0, 0, cap, co j + nI 1, _, by omega, by omega, by omega, Ct.mono (post := fun v w' => v = some (.int (co j + nI 1)) ∧ Dk κ z w' h0 hs hl cap (nI C) tr na mo to (upd co j (co j + nI 1)) (upd sn j (nI C)) nb n el ro lv cd pl) ?_ ?_, hM⟩
      · by_cases hm0 : mo j = 0
        · exact c_D_statementA1 hK hj ht hm0
        · exact c_D_statementA2 hK hj ht hm0 (hm.resolve_left hm0)
      · rintro v w' ⟨rfl, hk⟩
        exact ⟨rfl, hs, hl, C, _, _, _, _, _, _, _, n, el, ro, lv, cd, pl, a, st, be, rm, pm, _, _, _, _, _, _, hk, hcap, rfl, rfl, (hS.stmt hj (Or.inr ⟨C, hS.1.2, rfl⟩)).mono (Nat.le_succ T), hz⟩
    · rw [if_neg (fun w => hm (w.imp id hsn.mp)), m_upd_id] at hM
      refine ⟨0, 0, cap, co j + nI 1, _, by omega, by omega, by omega, (c_D_statementB hK hj ht (fun w => hm (Or.inl w)) (fun w => hm (Or.inr w))).mono ?_, hM⟩
      rintro v w' ⟨rfl, hk⟩
      have hs9 := (hS.stmt (c' := co j + nI 1) (s' := sn j) hj e5).mono (Nat.le_succ T)
      rw [m_upd_id, ← e4, m_upd_id] at hs9
      exact ⟨rfl, hs, hl, C, _, _, _, _, _, _, _, n, el, ro, lv, cd, pl, a, st, be, rm, pm, _, _, _, _, _, _, hk, hcap, rfl, rfl, hs9, hz⟩
  · exact Pr.read hI0 (c_D_statementF hK hb) (c_M_statementF (hS.run hb))
theorem pr_save (hI : Inv κ z T cap w1 w2 h0 b0) (s : Int32) : Pr l D κ z T cap w1 w2 h0 b0 y_D_save y_M_save b_D_save b_M_save 3 2 (some .int) 2 1 [.int s] := by
  have hI0 := hI
  obtain ⟨hs, hl, C, tr, na, mo, to, co, sn, nb, n, el, ro, lv, cd, pl, a, st, be, rm, pm, ha, mm, cc, tm, sm, le, hK, hcap, rfl, rfl, hS, hz⟩ := hI
  by_cases hb : ∃ j t : Nat, j < 6 ∧ s = nI j ∧ tr j = some t
  · obtain ⟨j, t, hj, rfl, ht⟩ := hb
    obtain ⟨hh, e1, e2, e3, e4, e5⟩ := hS.2.2.1 j t hj ht
    obtain ⟨u, u7, hu, _, _⟩ := hS.2.2.2.1 j t hj ht
    by_cases c : u = 7
    · subst c
      exact Pr.read hI0 (c_D_saveN hK hj ht hu) (c_M_saveN hj hh (e3.trans hu))
    · refine ⟨0, 0, cap, _, _, by omega, by omega, by omega, (c_D_saveT hK hj ht hu (by omega)).mono ?_, c_M_saveT hj hh (e3.trans hu) (by omega)⟩
      rintro v w' ⟨rfl, hk⟩
      exact ⟨rfl, hs, hl, C, _, _, _, _, _, _, _, n, el, ro, lv, cd, pl, a, st, be, rm, pm, _, _, _, _, _, _, hk, hcap, rfl, rfl, (hS.save hj ht hu (by omega)).mono (Nat.le_succ T), hz⟩
  · exact Pr.read hI0 (c_D_saveF hK hb) (c_M_saveF (hS.run hb))
theorem n_lvx {x : Int32} {u : Nat} (hu : u ≤ 7) (hk : ¬ ∃ k : Nat, 1 ≤ k ∧ k ≤ u ∧ x = nI k) : ¬ (¬ x < nI 1 ∧ ¬ nI u < x) := fun w => hk (n_rng (by omega) (by decide) w.1 w.2)
theorem pr_release (hI : Inv κ z T cap w1 w2 h0 b0) (s x : Int32) : Pr l D κ z T cap w1 w2 h0 b0 y_D_release y_M_release b_D_release b_M_release 6 4 (some .boolean) 4 1 [.int s, .int x] := by
  have hI0 := hI
  obtain ⟨hs, hl, C, tr, na, mo, to, co, sn, nb, n, el, ro, lv, cd, pl, a, st, be, rm, pm, ha, mm, cc, tm, sm, le, hK, hcap, rfl, rfl, hS, hz⟩ := hI
  by_cases hb : ∃ j t : Nat, j < 6 ∧ s = nI j ∧ tr j = some t
  · obtain ⟨j, t, hj, rfl, ht⟩ := hb
    obtain ⟨hh, e1, e2, e3, e4, e5⟩ := hS.2.2.1 j t hj ht
    obtain ⟨u, u7, hu, _, _⟩ := hS.2.2.2.1 j t hj ht
    by_cases hk : ∃ k : Nat, 1 ≤ k ∧ k ≤ u ∧ x = nI k
    · obtain ⟨k, k1, k2, rfl⟩ := hk
      refine ⟨0, 0, cap, 1, _, by omega, by omega, by omega, (c_D_releaseT hK hS.1.1 (by omega) hj ht hu u7 k1 k2).mono ?_, c_M_releaseT hj hh (e3.trans hu) u7 rfl hS.1.1 k1 k2⟩
      rintro v w' ⟨rfl, hk⟩
      exact ⟨rfl, hs, hl, C, _, _, _, _, _, _, _, n, el, _, _, _, _, a, _, _, _, _, _, _, _, _, _, _, hk, hcap, rfl, rfl, (hS.release hj ht hu u7 k1 k2).mono (Nat.le_succ T), hz⟩
    · exact Pr.read hI0 (c_D_releaseF1 hK hj ht (by rw [hu]; exact n_lvx u7 hk)) (c_M_releaseF1 hj hh (e3.trans hu) u7 hk)
  · exact Pr.read hI0 (c_D_releaseF0 hK hb) (c_M_releaseF0 (hS.run hb))
theorem pr_back (hI : Inv κ z T cap w1 w2 h0 b0) (s x : Int32) : Pr l D κ z T cap w1 w2 h0 b0 y_D_back y_M_back b_D_back b_M_back 4 4 (some .boolean) 4 1 [.int s, .int x] := by
  have hI0 := hI
  obtain ⟨hs, hl, C, tr, na, mo, to, co, sn, nb, n, el, ro, lv, cd, pl, a, st, be, rm, pm, ha, mm, cc, tm, sm, le, hK, hcap, rfl, rfl, hS, hz⟩ := hI
  by_cases hb : ∃ j t : Nat, j < 6 ∧ s = nI j ∧ tr j = some t
  · obtain ⟨j, t, hj, rfl, ht⟩ := hb
    obtain ⟨hh, e1, e2, e3, e4, e5⟩ := hS.2.2.1 j t hj ht
    obtain ⟨u, u7, hu, _, _⟩ := hS.2.2.2.1 j t hj ht
    by_cases hk : ∃ k : Nat, 1 ≤ k ∧ k ≤ u ∧ x = nI k
    · obtain ⟨k, k1, k2, rfl⟩ := hk
      refine ⟨0, 0, cap, 1, _, by omega, by omega, by omega, (c_D_backT hK hS.1.1 (by omega) hj ht hu u7 k1 k2).mono ?_, c_M_backT hj hh (e3.trans hu) u7 rfl hS.1.1 k1 k2⟩
      rintro v w' ⟨rfl, hk⟩
      exact ⟨rfl, hs, hl, C, _, _, _, _, _, _, _, n, el, _, _, _, _, a, _, _, _, _, _, _, _, _, _, _, hk, hcap, rfl, rfl, (hS.back hj ht hu u7 k1 k2).mono (Nat.le_succ T), hz⟩
    · exact Pr.read hI0 (c_D_backF1 hK hj ht (by rw [hu]; exact n_lvx u7 hk)) (c_M_backF1 hj hh (e3.trans hu) u7 hk)
  · exact Pr.read hI0 (c_D_backF0 hK hb) (c_M_backF0 (hS.run hb))
theorem pr_commit (hI : Inv κ z T cap w1 w2 h0 b0) (s : Int32) : Pr l D κ z T cap w1 w2 h0 b0 y_D_commit y_M_commit b_D_commit b_M_commit 3 3 (some .int) 4 2 [.int s] := by
  have hI0 := hI
  obtain ⟨hs, hl, C, tr, na, mo, to, co, sn, nb, n, el, ro, lv, cd, pl, a, st, be, rm, pm, ha, mm, cc, tm, sm, le, hK, hcap, rfl, rfl, hS, hz⟩ := hI
  by_cases hb : ∃ j t : Nat, j < 6 ∧ s = nI j ∧ tr j = some t
  · obtain ⟨j, t, hj, rfl, ht⟩ := hb
    obtain ⟨hh, e1, e2, e3, e4, e5⟩ := hS.2.2.1 j t hj ht
    by_cases h0z : nb j 0 = 0
    · have hno : ∀ i, i < n → ¬ m_from st be (i + 1) (nI j) (nI 0) := fun i hi => hS.cnt0 hj ht h0z hi
      have hM := c_M_commitZ (l := l) (D := D) (κ := κ) (z := z) (a := a) (g := nI n) (cm := nI C) (st := st) (be := be) (ro := rm) (pl := pm) (mo := mm) (co := cc) (to := tm) (sn := sm) (le := le) hj hh rfl hS.1.1 (cnt_zero (n + 1) (fun i hi => hno i (by omega)))
      rw [show m_set st be st (nI j) (nI 0) (nI 2) (n + 1) = st from funext (m_set_no hno), show m_set st be pm (nI j) (nI 0) (nI C + nI 1) (n + 1) = pm from funext (m_set_no hno)] at hM
      refine ⟨0, 0, cap, 0, _, by omega, by omega, by omega, (c_D_commitZ hK hj ht h0z).mono ?_, hM⟩
      rintro v w' ⟨rfl, hk⟩
      exact ⟨rfl, hs, hl, C, _, _, _, _, _, _, _, n, el, _, _, _, _, a, _, _, _, _, _, _, _, _, _, _, hk, hcap, rfl, rfl, (hS.gone hj ht h0z).mono (Nat.le_succ T), hz⟩
    · refine ⟨0, 0, cap, _, _, by omega, by omega, by omega, (c_D_commitT hK hS.1.1 (by omega) hj ht h0z).mono ?_, c_M_commitT hj hh rfl hS.1.1 (hS.cntP hj ht h0z)⟩
      rintro v w' ⟨rfl, hk⟩
      rw [nI_add] at hk
      exact ⟨rfl, hs, hl, C + 1, _, _, _, _, _, _, _, n, el, _, _, _, _, a, _, _, _, _, _, _, _, _, _, _, hk, hcap, rfl, by rw [nI_add], hS.commit hj ht, hz.set⟩
  · exact Pr.read hI0 (c_D_commitF hK hb) (c_M_commitF (hS.run hb))
theorem pr_abort (hI : Inv κ z T cap w1 w2 h0 b0) (s : Int32) : Pr l D κ z T cap w1 w2 h0 b0 y_D_abort y_M_abort b_D_abort b_M_abort 3 3 (some .boolean) 4 2 [.int s] := by
  have hI0 := hI
  obtain ⟨hs, hl, C, tr, na, mo, to, co, sn, nb, n, el, ro, lv, cd, pl, a, st, be, rm, pm, ha, mm, cc, tm, sm, le, hK, hcap, rfl, rfl, hS, hz⟩ := hI
  by_cases hb : ∃ j t : Nat, j < 6 ∧ s = nI j ∧ tr j = some t
  · obtain ⟨j, t, hj, rfl, ht⟩ := hb
    obtain ⟨hh, e1, e2, e3, e4, e5⟩ := hS.2.2.1 j t hj ht
    refine ⟨0, 0, cap, 1, _, by omega, by omega, by omega, (c_D_abortT hK hS.1.1 (by omega) hj ht).mono ?_, c_M_abortT hj hh rfl hS.1.1⟩
    rintro v w' ⟨rfl, hk⟩
    exact ⟨rfl, hs, hl, C, _, _, _, _, _, _, _, n, el, _, _, _, _, a, _, _, _, _, _, _, _, _, _, _, hk, hcap, rfl, rfl, (hS.abort hj ht).mono (Nat.le_succ T), hz.set⟩
  · exact Pr.read hI0 (c_D_abortF hK hb) (c_M_abortF (hS.run hb))
theorem pr_number (hI : Inv κ z T cap w1 w2 h0 b0) (s : Int32) : Pr l D κ z T cap w1 w2 h0 b0 y_D_number y_M_number b_D_number b_M_number 3 4 (some .int) 8 1 [.int s] := by
  have hI0 := hI
  obtain ⟨hs, hl, C, tr, na, mo, to, co, sn, nb, n, el, ro, lv, cd, pl, a, st, be, rm, pm, ha, mm, cc, tm, sm, le, hK, hcap, rfl, rfl, hS, hz⟩ := hI
  by_cases hb : ∃ j t : Nat, j < 6 ∧ s = nI j ∧ tr j = some t
  · obtain ⟨j, t, hj, rfl, ht⟩ := hb
    obtain ⟨hh, e1, e2, e3, e4, e5⟩ := hS.2.2.1 j t hj ht
    obtain ⟨u, u7, hu, hnl, hn0⟩ := hS.2.2.2.1 j t hj ht
    have hmis : d_mis (nb j) (u + 1) 0 = m_mis j le (u + 1) 0 := mis_eq (u + 1) 0 (fun q _ hq => hnl q (by omega))
    by_cases hm : n + d_mis (nb j) (u + 1) 0 ≤ 4000
    · obtain ⟨g1, g2, g3⟩ := Sim.gv hj ht hu u7 (u + 1) 0 n nb ro lv cd pl st be rm le (by omega) hS hz (Or.inl rfl) hm
      have hans : (d_gv (u + 1) 0 (n, nb j, ro, lv, cd, pl)).2.1 u = (m_gv j (u + 1) 0 (n, le, st, be, rm)).2.1 (8 * j + u) := by
        obtain ⟨v, v7, hv, hvl, _⟩ := g2.2.2.2.1 j t hj ht
        have e : v = u := (nI_eq (by omega) (by omega)).mp (hv.symm.trans hu)
        subst e
        have := hvl v (Nat.le_refl _)
        rw [show va_up nb j (d_gv (v + 1) 0 (n, nb j, ro, lv, cd, pl)).2.1 j = (d_gv (v + 1) 0 (n, nb j, ro, lv, cd, pl)).2.1 from if_pos rfl] at this
        exact this
      have hcp := d_cp_le (nb j) (u + 1) 0 n cap hm hcap
      have hge := d_cp_ge (nb j) (u + 1) 0 n cap
      have hM := c_M_numberT (l := l) (D := D) (κ := κ) (z := z) (a := a) (g := nI n) (cm := nI C) (st := st) (be := be) (ro := rm) (pl := pm) (mo := mm) (co := cc) (to := tm) (sn := sm) (le := le) hj hh (e3.trans hu) u7 rfl hS.1.1 (by rw [← hmis]; exact hm)
      rw [← hans] at hM
      refine ⟨2 * (u + 1), 4 * (u + 1) + 4 * (d_cp (nb j) (u + 1) 0 n cap - cap), d_cp (nb j) (u + 1) 0 n cap, _, _, by omega, by omega, by omega, (c_D_numberT hK hS.1.1 hj ht hu u7 hm hcap).mono ?_, hM⟩
      rintro v w' ⟨rfl, el', hk⟩
      exact ⟨rfl, hs, hl, C, _, _, _, _, _, _, _, _, el', _, _, _, _, a, _, _, _, _, _, _, _, _, _, _, hk, hcp, rfl, by rw [g1], g2.mono (Nat.le_succ T), g3⟩
    · exact Pr.read hI0 (c_D_numberN hK hS.1.1 hj ht hu u7 (by omega)) (c_M_numberN hj hh (e3.trans hu) u7 rfl hS.1.1 (by rw [← hmis]; omega))
  · exact Pr.read hI0 (c_D_numberF hK hb) (c_M_numberF (hS.run hb))
end PA
end
section
section PB
variable {l : Launch} {D : va_G} {κ : Nat → ClassId} {z : Nat × Nat} {T cap : Nat} {w1 w2 : va_W} {h0 b0 : Nat}
theorem pr_state (hI : Inv κ z T cap w1 w2 h0 b0) (x : Int32) : Pr l D κ z T cap w1 w2 h0 b0 y_D_state y_M_state b_D_state b_M_state 3 2 (some .int) 4 1 [.int x] := by
  have hI0 := hI
  obtain ⟨hs, hl, C, tr, na, mo, to, co, sn, nb, n, el, ro, lv, cd, pl, a, st, be, rm, pm, ha, mm, cc, tm, sm, le, hK, hcap, rfl, rfl, hS, hz⟩ := hI
  by_cases hx : ∃ i : Nat, 1 ≤ i ∧ i ≤ n ∧ x = nI i
  · obtain ⟨i, i1, i2, rfl⟩ := hx
    have e := (hS.2.2.2.2.1 (i - 1) (by omega)).2.1
    rw [show i - 1 + 1 = i by omega] at e
    have hM := c_M_stateT (l := l) (D := D) (κ := κ) (z := z) (a := a) (g := nI n) (cm := nI C) (st := st) (be := be) (ro := rm) (pl := pm) (ha := ha) (mo := mm) (co := cc) (to := tm) (sn := sm) (le := le) rfl hS.1.1 i1 i2
    rw [e] at hM
    exact Pr.read hI0 (c_D_stateT hK hS.1.1 (by omega) i1 i2) hM
  · exact Pr.read hI0 (c_D_stateF hK hS.1.1 (by omega) hx) (c_M_stateF rfl hS.1.1 hx)
theorem pr_root (hI : Inv κ z T cap w1 w2 h0 b0) (x : Int32) : Pr l D κ z T cap w1 w2 h0 b0 y_D_root y_M_root b_D_root b_M_root 3 2 (some .int) 4 1 [.int x] := by
  have hI0 := hI
  obtain ⟨hs, hl, C, tr, na, mo, to, co, sn, nb, n, el, ro, lv, cd, pl, a, st, be, rm, pm, ha, mm, cc, tm, sm, le, hK, hcap, rfl, rfl, hS, hz⟩ := hI
  by_cases hx : ∃ i : Nat, 1 ≤ i ∧ i ≤ n ∧ x = nI i
  · obtain ⟨i, i1, i2, rfl⟩ := hx
    have e := (hS.2.2.2.2.1 (i - 1) (by omega)).1
    rw [show i - 1 + 1 = i by omega] at e
    have hM := c_M_rootT (l := l) (D := D) (κ := κ) (z := z) (a := a) (g := nI n) (cm := nI C) (st := st) (be := be) (ro := rm) (pl := pm) (ha := ha) (mo := mm) (co := cc) (to := tm) (sn := sm) (le := le) rfl hS.1.1 i1 i2
    rw [e] at hM
    exact Pr.read hI0 (c_D_rootT hK hS.1.1 (by omega) i1 i2) hM
  · exact Pr.read hI0 (c_D_rootF hK hS.1.1 (by omega) hx) (c_M_rootF rfl hS.1.1 hx)
theorem pr_place (hI : Inv κ z T cap w1 w2 h0 b0) (x : Int32) : Pr l D κ z T cap w1 w2 h0 b0 y_D_place y_M_place b_D_place b_M_place 3 2 (some .int) 4 1 [.int x] := by
  have hI0 := hI
  obtain ⟨hs, hl, C, tr, na, mo, to, co, sn, nb, n, el, ro, lv, cd, pl, a, st, be, rm, pm, ha, mm, cc, tm, sm, le, hK, hcap, rfl, rfl, hS, hz⟩ := hI
  by_cases hx : ∃ i : Nat, 1 ≤ i ∧ i ≤ n ∧ x = nI i
  · obtain ⟨i, i1, i2, rfl⟩ := hx
    have e := (hS.2.2.2.2.1 (i - 1) (by omega)).2.2.1
    rw [show i - 1 + 1 = i by omega] at e
    have hM := c_M_placeT (l := l) (D := D) (κ := κ) (z := z) (a := a) (g := nI n) (cm := nI C) (st := st) (be := be) (ro := rm) (pl := pm) (ha := ha) (mo := mm) (co := cc) (to := tm) (sn := sm) (le := le) rfl hS.1.1 i1 i2
    rw [e] at hM
    exact Pr.read hI0 (c_D_placeT hK hS.1.1 (by omega) i1 i2) hM
  · exact Pr.read hI0 (c_D_placeF hK hS.1.1 (by omega) hx) (c_M_placeF rfl hS.1.1 hx)
variable {hs hl n C : Nat} {tr : Nat → Option Nat} {na el a : Nat → Nat} {mo to co sn : Nat → Int32} {nb : Nat → Nat → Int32} {ro lv cd pl st be rm pm ha mm cc tm sm le : Nat → Int32}
/-- what a number did in a command: seen on both sides, or on none -/
theorem seen_given (hK : Dk κ z w1 h0 hs hl cap (nI C) tr na mo to co sn nb n el ro lv cd pl) (hS : Sim T n C tr mo to co sn nb ro lv cd pl st be rm pm ha mm cc tm sm le) {j t i : Nat} (hj : j < 6) (ht : tr j = some t) (i1 : 1 ≤ i) (i2 : i ≤ n) (c : Int32) :
    ∃ v : Int32, Ct l y_D_seesDeed b_D_seesDeed 3 (some .boolean) 1 0 0 D (gk κ, z) w1 [.ref t, .ref (el (i - 1)), .int c] (rt (.int v) w1) ∧ Ct l y_M_isSeen b_M_isSeen 4 (some .boolean) 1 0 0 D (gk κ, z) (mw κ a (nI n) (nI C) st be rm pm ha mm cc tm sm le) [.ref (a 0), .int (nI j), .int (nI i), .int c] (rt (.int v) (mw κ a (nI n) (nI C) st be rm pm ha mm cc tm sm le)) := by
  obtain ⟨hT, hN⟩ := hK.2.2.2.1 j t hj ht
  have hG := hK.2.2.2.2.2.2.1 (i - 1) (by omega)
  obtain ⟨hh, e1, e2, e3, e4, e5⟩ := hS.2.2.1 j t hj ht
  obtain ⟨f1, f2, f3, f4, f5, _⟩ := hS.2.2.2.2.1 (i - 1) (by omega)
  have ei : i - 1 + 1 = i := by omega
  rw [ei] at f1 f2 f3
  have hn4 := hS.1.1
  rcases f4 with d | d | d
  · obtain ⟨j', t', q, b1, b2, b3, b4, b5, b6⟩ := hS.2.2.2.2.2.1 (i - 1) (by omega) d
    rw [ei] at b4
    have hdv : be i / nI 8 = nI j' := by rw [b4, n_8d (by omega)]; congr 1; omega
    have hM := c_M_isSeenR (l := l) (D := D) (κ := κ) (z := z) (a := a) (g := nI n) (cm := nI C) (st := st) (be := be) (ro := rm) (pl := pm) (ha := ha) (mo := mm) (co := cc) (to := tm) (sn := sm) (le := le) (cd := c) hj rfl hn4 i1 i2 (f2.trans d)
    rw [hdv, e2] at hM
    by_cases ho : ro (i - 1) = nb j 0
    · obtain ⟨q', c1, c2, c3⟩ := hS.of1 hj ht (by omega) d ho
      rw [ei, b4] at c2
      have ej : j' = j := by
        have := (nI_eq (by omega) (by omega)).mp c2
        omega
      subst ej
      refine ⟨_, c_D_sdO hT hN hG (by rw [d]; exact n13) ho, ?_⟩
      have eif : (if nI j' = nI j' ∧ c < co j' then (1 : Int32) else 0) = if c < co j' then 1 else 0 := by
        by_cases w : c < co j'
        · rw [if_pos w, if_pos ⟨rfl, w⟩]
        · rw [if_neg w, if_neg (fun q => w q.2)]
      rw [eif] at hM
      exact hM
    · have ej : ¬ nI j' = nI j := fun w => by
        have := (nI_eq (by omega) (by omega)).mp w
        subst this
        exact ho b6
      rw [if_neg (fun q => ej q.1)] at hM
      have hD := c_D_sdE (l := l) (D := D) (z := z) hT hN hG (x := c) (by rw [d]; exact n13) ho
      rw [if_neg (fun q => n12 (d.symm.trans q.1))] at hD
      exact ⟨0, hD, hM⟩
  · have ho : ¬ ro (i - 1) = nb j 0 := fun w => by
      rcases hS.2.2.2.2.2.2.1 j t (i - 1) hj ht (by omega) w with q | ⟨q, _⟩
      · exact n23 (d.symm.trans q)
      · exact n12 (q.symm.trans d)
    have hM := c_M_isSeenC (l := l) (D := D) (κ := κ) (z := z) (a := a) (g := nI n) (cm := nI C) (st := st) (be := be) (ro := rm) (pl := pm) (ha := ha) (mo := mm) (co := cc) (to := tm) (sn := sm) (le := le) (cd := c) hj rfl hn4 i1 i2 (by rw [f2, d]; exact n23) (by rw [f2, d]; exact fun q => n12 q.symm)
    have hD := c_D_sdE (l := l) (D := D) (z := z) hT hN hG (x := c) (by rw [d]; exact n23) ho
    rw [e4, f3] at hM
    refine ⟨_, hD, ?_⟩
    have eif : (if sn j < pl (i - 1) then (0 : Int32) else 1) = if cd (i - 1) = nI 2 ∧ ¬ sn j < pl (i - 1) then 1 else 0 := by
      by_cases w : sn j < pl (i - 1)
      · rw [if_pos w, if_neg (fun q => q.2 w)]
      · rw [if_neg w, if_pos ⟨d, w⟩]
    rw [eif] at hM
    exact hM
  · exact ⟨0, c_D_sdA hT hN hG d, c_M_isSeenF3 hj rfl hn4 i1 i2 (f2.trans d)⟩
theorem seen_any (hK : Dk κ z w1 h0 hs hl cap (nI C) tr na mo to co sn nb n el ro lv cd pl) (hcap : cap ≤ 6000) (hS : Sim T n C tr mo to co sn nb ro lv cd pl st be rm pm ha mm cc tm sm le) {j t : Nat} (hj : j < 6) (ht : tr j = some t) (x c : Int32) :
    ∃ (w : Value) (v : Int32), Ct l y_D_find b_D_find 2 (some (.object "SnapshotDesk$Given")) 3 0 0 D (gk κ, z) w1 [.ref h0, .int x] (rt w w1) ∧ Ct l y_D_seesDeed b_D_seesDeed 3 (some .boolean) 1 0 0 D (gk κ, z) w1 [.ref t, w, .int c] (rt (.int v) w1) ∧ Ct l y_M_isSeen b_M_isSeen 4 (some .boolean) 1 0 0 D (gk κ, z) (mw κ a (nI n) (nI C) st be rm pm ha mm cc tm sm le) [.ref (a 0), .int (nI j), .int x, .int c] (rt (.int v) (mw κ a (nI n) (nI C) st be rm pm ha mm cc tm sm le)) := by
  by_cases hx : ∃ i : Nat, 1 ≤ i ∧ i ≤ n ∧ x = nI i
  · obtain ⟨i, i1, i2, rfl⟩ := hx
    obtain ⟨v, h1, h2⟩ := seen_given (l := l) (D := D) (a := a) hK hS hj ht i1 i2 c
    exact ⟨_, v, c_D_findT hK hS.1.1 (by omega) i1 i2, h1, h2⟩
  · exact ⟨.null, 0, c_D_findF hK hS.1.1 (by omega) hx, c_D_sdN, c_M_isSeenF0 rfl hS.1.1 hx⟩
theorem pr_sees (hI : Inv κ z T cap w1 w2 h0 b0) (hT : T ≤ 600) (s x1 c1 x2 c2 : Int32) : Pr l D κ z T cap w1 w2 h0 b0 y_D_sees y_M_sees b_D_sees b_M_sees 7 6 (some .boolean) 4 2 [.int s, .int x1, .int c1, .int x2, .int c2] := by
  have hI0 := hI
  obtain ⟨hs, hl, C, tr, na, mo, to, co, sn, nb, n, el, ro, lv, cd, pl, a, st, be, rm, pm, ha, mm, cc, tm, sm, le, hK, hcap, rfl, rfl, hS, hz⟩ := hI
  by_cases hb : ∃ j t : Nat, j < 6 ∧ s = nI j ∧ tr j = some t
  · obtain ⟨j, t, hj, rfl, ht⟩ := hb
    have hh := (hS.2.2.1 j t hj ht).1
    have hsn := hS.snap hT hj ht
    by_cases h1 : sn j = -1
    · exact Pr.read hI0 (c_D_seesF1 hK hj ht h1) (c_M_seesF1 hj hh (hsn.mpr h1))
    · obtain ⟨wa, va, A1, A2, A3⟩ := seen_any (l := l) (D := D) (a := a) hK hcap hS hj ht x1 c1
      obtain ⟨wb, vb, B1, B2, B3⟩ := seen_any (l := l) (D := D) (a := a) hK hcap hS hj ht x2 c2
      exact Pr.read hI0 (c_D_seesT hK hj ht h1 A1 A2 B1 B2) (c_M_seesT hj hh (fun w => h1 (hsn.mp w)) A3 B3)
  · exact Pr.read hI0 (c_D_seesF0 hK hb) (c_M_seesF0 (hS.run hb))
theorem pr_ending (hI : Inv κ z T cap w1 w2 h0 b0) (hT : T ≤ 600) (s x c : Int32) : Pr l D κ z T cap w1 w2 h0 b0 y_D_ending y_M_ending b_D_ending b_M_ending 7 5 (some .int) 4 2 [.int s, .int x, .int c] := by
  have hI0 := hI
  obtain ⟨hs, hl, C, tr, na, mo, to, co, sn, nb, n, el, ro, lv, cd, pl, a, st, be, rm, pm, ha, mm, cc, tm, sm, le, hK, hcap, rfl, rfl, hS, hz⟩ := hI
  by_cases hb : ∃ j t : Nat, j < 6 ∧ s = nI j ∧ tr j = some t
  · obtain ⟨j, t, hj, rfl, ht⟩ := hb
    have hh := (hS.2.2.1 j t hj ht).1
    have hsn := hS.snap hT hj ht
    have hn4 := hS.1.1
    by_cases h1 : sn j = -1
    · exact Pr.read hI0 (c_D_endF1 hK hj ht h1) (c_M_endingF1 hj hh (hsn.mpr h1))
    · have h1m : ¬ sm j < 0 := fun w => h1 (hsn.mp w)
      by_cases hx : ∃ i : Nat, 1 ≤ i ∧ i ≤ n ∧ x = nI i
      · obtain ⟨i, i1, i2, rfl⟩ := hx
        have ei : i - 1 + 1 = i := by omega
        obtain ⟨f1, f2, f3, f4, f5, _⟩ := hS.2.2.2.2.1 (i - 1) (by omega)
        rw [ei] at f1 f2 f3
        obtain ⟨v, A2, A3⟩ := seen_given (l := l) (D := D) (a := a) hK hS hj ht i1 i2 c
        rcases f4 with d | d | d
        · obtain ⟨j', t', q, b1, b2, b3, b4, b5, b6⟩ := hS.2.2.2.2.2.1 (i - 1) (by omega) d
          rw [ei] at b4
          have hdv : be i / nI 8 = nI j' := by rw [b4, n_8d (by omega)]; congr 1; omega
          have hM := c_M_endingR hj hh h1m rfl hn4 i1 i2 (f2.trans d) A3
          rw [hdv] at hM
          by_cases ho : ro (i - 1) = nb j 0
          · obtain ⟨q', k1, k2, k3⟩ := hS.of1 hj ht (by omega) d ho
            rw [ei, b4] at k2
            have ej : j' = j := by
              have := (nI_eq (by omega) (by omega)).mp k2
              omega
            subst ej
            rw [if_pos rfl] at hM
            exact Pr.read hI0 (c_D_endO hK hn4 (by omega) hj ht h1 i1 i2 (by rw [d]; exact n13) A2 ho) hM
          · have ej : ¬ nI j' = nI j := fun w => by
              have := (nI_eq (by omega) (by omega)).mp w
              subst this
              exact ho b6
            rw [if_neg ej] at hM
            exact Pr.read hI0 (c_D_endR hK hn4 (by omega) hj ht h1 i1 i2 d A2 ho) hM
        · have ho : ¬ ro (i - 1) = nb j 0 := fun w => by
            rcases hS.2.2.2.2.2.2.1 j t (i - 1) hj ht (by omega) w with q | ⟨q, _⟩
            · exact n23 (d.symm.trans q)
            · exact n12 (q.symm.trans d)
          exact Pr.read hI0 (c_D_endC hK hn4 (by omega) hj ht h1 i1 i2 (by rw [d]; exact n23) (by rw [d]; exact fun q => n12 q.symm) A2 ho) (c_M_endingC hj hh h1m rfl hn4 i1 i2 (by rw [f2, d]; exact n23) (by rw [f2, d]; exact fun q => n12 q.symm) A3)
        · exact Pr.read hI0 (c_D_endA hK hn4 (by omega) hj ht h1 i1 i2 d) (c_M_endingA hj hh h1m rfl hn4 i1 i2 (f2.trans d))
      · exact Pr.read hI0 (c_D_endN hK hn4 (by omega) hj ht h1 hx) (c_M_endingN hj hh h1m rfl hn4 hx)
  · exact Pr.read hI0 (c_D_endF0 hK hb) (c_M_endingF0 (hS.run hb))
theorem ok_iff (hS : Sim T n C tr mo to co sn nb ro lv cd pl st be rm pm ha mm cc tm sm le) (hT : T ≤ 600) {q : Nat} {x : Int32} (hx : pm q = x) {s : Nat} (hs9 : s < 6) : m_ok ha sm pm q s ↔ d_ok tr sn x s := by
  unfold m_ok d_ok
  rw [hx]
  constructor
  · intro w t ht
    rcases w with w | w | w
    · exact absurd w (hS.2.2.1 s t hs9 ht).1
    · exact Or.inl ((hS.snap hT hs9 ht).mp w)
    · rw [(hS.2.2.1 s t hs9 ht).2.2.2.2.1] at w; exact Or.inr w
  · intro w
    cases ht : tr s with
    | none => exact Or.inl (hS.2.1 s hs9 ht)
    | some t =>
      rcases w t ht with w | w
      · exact Or.inr (Or.inl ((hS.snap hT hs9 ht).mpr w))
      · rw [(hS.2.2.1 s t hs9 ht).2.2.2.2.1]; exact Or.inr (Or.inr w)
theorem pr_dead (hI : Inv κ z T cap w1 w2 h0 b0) (hT : T ≤ 600) (x y : Int32) : Pr l D κ z T cap w1 w2 h0 b0 y_D_dead y_M_dead b_D_dead b_M_dead 4 5 (some .boolean) 4 1 [.int x, .int y] := by
  have hI0 := hI
  obtain ⟨hs, hl, C, tr, na, mo, to, co, sn, nb, n, el, ro, lv, cd, pl, a, st, be, rm, pm, ha, mm, cc, tm, sm, le, hK, hcap, rfl, rfl, hS, hz⟩ := hI
  have hn4 := hS.1.1
  by_cases hx : ∃ i : Nat, 1 ≤ i ∧ i ≤ n ∧ x = nI i
  · obtain ⟨i, i1, i2, rfl⟩ := hx
    have ei : i - 1 + 1 = i := by omega
    have f2 := (hS.2.2.2.2.1 (i - 1) (by omega)).2.1
    rw [ei] at f2
    have hM : ∃ r : Int32, (st i = nI 3 → r = 1) ∧ (¬ st i = nI 3 → ∃ (w : Value) (v : Int32), r = (if v = 0 then 0 else 1) ∧ Ct l y_D_find b_D_find 2 (some (.object "SnapshotDesk$Given")) 3 0 0 D (gk κ, z) w1 [.ref h0, .int y] (rt w w1) ∧ Ct l y_D_isInEveryLiveSnapshot b_D_isInEveryLiveSnapshot 4 (some .boolean) 1 0 0 D (gk κ, z) w1 [.ref h0, w] (rt (.int v) w1)) ∧ Ct l y_M_dead b_M_dead 5 (some .boolean) 1 0 0 D (gk κ, z) (mw κ a (nI n) (nI C) st be rm pm ha mm cc tm sm le) [.ref (a 0), .int (nI i), .int y] (rt (.int r) (mw κ a (nI n) (nI C) st be rm pm ha mm cc tm sm le)) := by
      by_cases hy : ∃ q : Nat, 1 ≤ q ∧ q ≤ n ∧ y = nI q
      · obtain ⟨q, q1, q2, rfl⟩ := hy
        have eq : q - 1 + 1 = q := by omega
        have g2 := (hS.2.2.2.2.1 (q - 1) (by omega)).2.1
        have g3 := (hS.2.2.2.2.1 (q - 1) (by omega)).2.2.1
        rw [eq] at g2 g3
        have hG := hK.2.2.2.2.2.2.1 (q - 1) (by omega)
        by_cases h2 : st q = nI 2
        · by_cases ho : ∀ s, s < 6 → m_ok ha sm pm q s
          · refine ⟨1, fun _ => rfl, fun _ => ⟨_, 1, rfl, c_D_findT hK hn4 (by omega) q1 q2, c_D_ieT hG hK (g2.symm.trans h2) (fun s hs9 => (ok_iff hS hT g3 hs9).mp (ho s hs9))⟩, c_M_deadY rfl hn4 i1 i2 q1 q2 h2 ho⟩
          · refine ⟨_, fun w => if_pos w, fun w => ⟨_, 0, (if_neg w).trans rfl, c_D_findT hK hn4 (by omega) q1 q2, c_D_ieF hG hK (g2.symm.trans h2) (fun w9 => ho (fun s hs9 => (ok_iff hS hT g3 hs9).mpr (w9 s hs9)))⟩, c_M_deadZ rfl hn4 i1 i2 q1 q2 h2 ho⟩
        · refine ⟨_, fun w => if_pos w, fun w => ⟨_, 0, (if_neg w).trans rfl, c_D_findT hK hn4 (by omega) q1 q2, c_D_ieU hG (fun w9 => h2 (g2.trans w9))⟩, c_M_deadU rfl hn4 i1 i2 q1 q2 h2⟩
      · refine ⟨_, fun w => if_pos w, fun w => ⟨_, 0, (if_neg w).trans rfl, c_D_findF hK hn4 (by omega) hy, c_D_ieN⟩, c_M_deadN rfl hn4 i1 i2 hy⟩
    obtain ⟨r, r1, r2, hM⟩ := hM
    by_cases h3 : cd (i - 1) = nI 3
    · have e := r1 (f2.trans h3)
      subst e
      exact Pr.read hI0 (c_D_deadA hK hn4 (by omega) i1 i2 h3) hM
    · obtain ⟨w, v, e, k1, k2⟩ := r2 (fun w => h3 (f2.symm.trans w))
      subst e
      exact Pr.read hI0 (c_D_deadE hK hn4 (by omega) i1 i2 h3 k1 k2) hM
  · exact Pr.read hI0 (c_D_deadF hK hn4 (by omega) hx) (c_M_deadF rfl hn4 hx)
theorem pr_look (hI : Inv κ z T cap w1 w2 h0 b0) (s x : Int32) : Pr l D κ z T cap w1 w2 h0 b0 y_D_look y_M_look b_D_look b_M_look 4 3 (some .int) 2 1 [.int s, .int x] := by
  have hI0 := hI
  obtain ⟨hs, hl, C, tr, na, mo, to, co, sn, nb, n, el, ro, lv, cd, pl, a, st, be, rm, pm, ha, mm, cc, tm, sm, le, hK, hcap, rfl, rfl, hS, hz⟩ := hI
  by_cases h5 : x = nI 5
  · subst h5; exact Pr.read hI0 (c_D_look5 hK) c_M_look5
  · by_cases h6 : x = nI 6
    · subst h6; exact Pr.read hI0 (c_D_look6 hK) c_M_look6
    · by_cases hb : ∃ j t : Nat, j < 6 ∧ s = nI j ∧ tr j = some t
      · obtain ⟨j, t, hj, rfl, ht⟩ := hb
        obtain ⟨hh, e1, e2, e3, e4, e5⟩ := hS.2.2.1 j t hj ht
        obtain ⟨u, u7, hu, hnl, _⟩ := hS.2.2.2.1 j t hj ht
        obtain ⟨hT, hN⟩ := hK.2.2.2.1 j t hj ht
        by_cases hx : ∃ i : Nat, i ≤ 4 ∧ x = nI i
        · obtain ⟨i, i4, rfl⟩ := hx
          have hc : i = 0 ∨ i = 1 ∨ i = 2 ∨ i = 3 ∨ i = 4 := by omega
          rcases hc with rfl | rfl | rfl | rfl | rfl
          · have hM := c_M_look0 (l := l) (D := D) (κ := κ) (z := z) (a := a) (g := nI n) (cm := nI C) (st := st) (be := be) (ro := rm) (pl := pm) (mo := mm) (co := cc) (to := tm) (sn := sm) (le := le) hj hh (e3.trans hu) u7
            rw [e1] at hM
            exact Pr.read hI0 (c_D_lookT hK hj ht h5 h6 (c_D_la0 hT hN hu u7)) hM
          · have hM := c_M_look1 (l := l) (D := D) (κ := κ) (z := z) (a := a) (g := nI n) (cm := nI C) (st := st) (be := be) (ro := rm) (pl := pm) (mo := mm) (co := cc) (to := tm) (sn := sm) (le := le) hj hh (e3.trans hu) u7
            rw [e2] at hM
            exact Pr.read hI0 (c_D_lookT hK hj ht h5 h6 (c_D_la1 hT hN hu u7)) hM
          · have hM := c_M_look2 (l := l) (D := D) (κ := κ) (z := z) (a := a) (g := nI n) (cm := nI C) (st := st) (be := be) (ro := rm) (pl := pm) (mo := mm) (co := cc) (to := tm) (sn := sm) (le := le) hj hh (e3.trans hu) u7
            rw [e3] at hM
            exact Pr.read hI0 (c_D_lookT hK hj ht h5 h6 (c_D_la2 hT hN hu u7)) hM
          · have hM := c_M_look3 (l := l) (D := D) (κ := κ) (z := z) (a := a) (g := nI n) (cm := nI C) (st := st) (be := be) (ro := rm) (pl := pm) (mo := mm) (co := cc) (to := tm) (sn := sm) (le := le) hj hh (e3.trans hu) u7
            rw [← hnl u (Nat.le_refl _)] at hM
            exact Pr.read hI0 (c_D_lookT hK hj ht h5 h6 (c_D_la3 hT hN hu u7)) hM
          · have hM := c_M_look4 (l := l) (D := D) (κ := κ) (z := z) (a := a) (g := nI n) (cm := nI C) (st := st) (be := be) (ro := rm) (pl := pm) (mo := mm) (co := cc) (to := tm) (sn := sm) (le := le) hj hh (e3.trans hu) u7
            rw [e4] at hM
            exact Pr.read hI0 (c_D_lookT hK hj ht h5 h6 (c_D_la4 hT hN hu u7)) hM
        · exact Pr.read hI0 (c_D_lookT hK hj ht h5 h6 (c_D_laX hx)) (c_M_lookF1 hj hh h5 h6 hx)
      · exact Pr.read hI0 (c_D_lookF hK hb h5 h6) (c_M_lookF0 (hS.run hb) h5 h6)
theorem pr_crash (hI : Inv κ z T cap w1 w2 h0 b0) : ∃ w2' : va_W, Ct l y_D_crash b_D_crash 2 none 5 0 0 D (gk κ, z) w1 [.ref h0] (fun v w' => v = none ∧ Inv κ z (T + 1) cap w' w2' h0 b0) ∧ Ct l y_M_crash b_M_crash 3 none 3 0 0 D (gk κ, z) w2 [.ref b0] (rtv w2') := by
  obtain ⟨hs, hl, C, tr, na, mo, to, co, sn, nb, n, el, ro, lv, cd, pl, a, st, be, rm, pm, ha, mm, cc, tm, sm, le, hK, hcap, rfl, rfl, hS, hz⟩ := hI
  obtain ⟨k1, k2⟩ := Sim.crash be rm mm cc tm sm le mo to co sn ro lv pl nb 6 0 tr cd st pm ha rfl hS hz
  refine ⟨_, (c_D_crash hK hS.1.1 (by omega)).mono ?_, c_M_crash rfl hS.1.1⟩
  rintro v w' ⟨rfl, hk⟩
  exact ⟨rfl, hs, hl, C, _, _, _, _, _, _, _, n, el, _, _, _, _, a, _, _, _, _, _, _, _, _, _, _, hk, hcap, rfl, rfl, k1.mono (Nat.le_succ T), k2⟩
end PB
end
section
/-! THE CLAIM OUT OF ONE WALK OF THE LAW'S BODY. Your part is whole_start (and what it stands on); all else here is the same for every law, but numbers. -/
def R_law : String := "SnapshotDeskLaw"
def lw_P (b : Addr) (xs : List Int32) (args : Array Value) (s : State) : Prop := args = #[.ref b] ∧ s.IntsAt b xs ∧ xs.length ≤ 3072 ∧ (Jvm.Cond.and given_1 narrow_1).before args s = true
def lw_Q (_ : Array Value) (s : State) (o : Outcome) (t : State) : Prop := o = .returned (some (.int 1)) ∧ Framed s o t [] 600000 7302250
def lw_Z (below : List Frame) (a : Array Value) (s : State) : State → Prop := fun t => ∃ o, t.status = .running ∧ Ended t below o ∧ lw_Q a s o t
/-- the law's own end, with 1 on the stack, nothing written that was there before, its room as the claim has it -/
theorem lw_ret {p : Program} {l : Launch} {e : Env} {s : State} {m : MethodId} {below : List Frame} {meth : Method} {c : Code} {b : Nat} (hx : p.tables.exec = Jvm.exec) (hb : c.code = code) (hr : meth.sig.returnType = ret) (hlocks : meth.locks = false) {pc : Nat} {H : Heap} {ls : Array Slot} (hdg : decode code pc = .ok (.ireturn, 1)) : W p l e room_1 s m #[Value.ref b] below meth c H [] 600000 7302250 (lw_Z below #[Value.ref b] s) (F0 m pc ls [.int 1]) := by
  intro T hT X
  obtain ⟨fs, hret, hrun, hended, hW, hframe⟩ := X.leave (v := some (.int 1)) (hlocks := hlocks) (fun h => by rw [hr] at h; cases h)
  have hmeth' : T.vm.method? m = some meth := X.method'
  refine ⟨T.setFrames fs, ?_, .returned (some (.int 1)), hrun, hended, rfl, ⟨_, rfl⟩, hW, hframe⟩
  jvm_step X.here [X.here.top, hx, hb, hdg, hmeth', hr, ret, narrow_b1]
  (try refine ⟨rfl, ?_⟩); (try refine ⟨rfl, ?_⟩)
  first | (intro acts; rw [hret _ acts rfl rfl rfl]) | rw [hret _ _ rfl rfl rfl]
  exact Steps.refl _
/-- what holds at the law's entry: the machine, the code, the tables' words (any of lw_tbl by 'hts w (by decide +kernel)'), the script of L ints xs at the cell b, what the Statement gives of the start (any of its parts by flat_of_before) -/
def lw_At (p : Program) (s : State) (m : MethodId) (meth : Method) (c : Code) (b L : Nat) (xs : Nat → Int32) : Prop :=
  p.tables.exec = Jvm.exec ∧ c.code = code ∧ meth.sig.returnType = ret ∧ c.maxLocals = 4 ∧ s.vm.findClass R_law = some m.cls ∧ (∀ w ∈ lw_tbl, w.before #[Value.ref b] s = true) ∧ va_X b L xs s s.heap ∧ b < s.heap.size ∧ meth.locks = false ∧ (Jvm.Cond.and given_1 narrow_1).before #[Value.ref b] s = true
end
section
/-! The law: its start and its loop. -/
section LW
variable {p : Program} {l : Launch} {e : Env} {R : Room} {s : State} {m : MethodId} {args : Array Value} {below : List Frame} {meth : Method} {c : Code} {k n : Nat} {Q : State → Prop}
variable {cc : ByteArray} {nL : Nat} {own : String} {D : va_G} {G : u_G} {A : Nat → Prop} {pc : Nat} {L0 : List (Nat × Value)} {st : List Value} {ws : va_W}
theorem u_sld (hC : vx p s m args meth c cc nL own D G A) {b L : Nat} {xs : Nat → Int32} (hX : va_X b L xs s s.heap) (hbl : b < s.heap.size) (hbA : ¬ A b) {i : Int32} (q : Nat) (hi : i = nI q) (hq : q < L) (hL : L < 2 ^ 31) (d : decode cc pc = .ok (.iaload, 1))
    (kk : U p l e R s m args below meth c nL D A ws k n Q (pc + 1) L0 (.int (xs q) :: st)) : U p l e R s m args below meth c nL D A ws k n Q pc L0 (.int i :: .ref b :: st) := by
  intro ls hl H locs hP hD hS
  subst hi
  have e9 : (nI q).toNatClampNeg = q := nI_clamp (Nat.lt_trans hq hL)
  exact va_sld hC.1.1 hC.1.2.1 hX hbl hbA hS (vp_in_nI hq hL) d (by rw [e9]; exact kk ls hl H locs hP hD hS)
theorem u_slen (hC : vx p s m args meth c cc nL own D G A) {b L : Nat} {xs : Nat → Int32} (hX : va_X b L xs s s.heap) (hbl : b < s.heap.size) (hbA : ¬ A b) (d : decode cc pc = .ok (.arraylength, 1))
    (kk : U p l e R s m args below meth c nL D A ws k n Q (pc + 1) L0 (.int (nI L) :: st)) : U p l e R s m args below meth c nL D A ws k n Q pc L0 (.ref b :: st) := by
  intro ls hl H locs hP hD hS
  exact va_slen hC.1.1 hC.1.2.1 hX hbl hbA hS d (kk ls hl H locs hP hD hS)
theorem u_lret {b : Nat} (hC : vx p s m #[Value.ref b] meth c code 4 own D G (fun q => s.heap.size ≤ q)) (hr : meth.sig.returnType = ret) (hk : k ≤ 600000) (hn : n ≤ 7302250) (d : decode code pc = .ok (.ireturn, 1)) : U p l e room_1 s m #[Value.ref b] below meth c 4 D (fun q => s.heap.size ≤ q) ws k n (lw_Z below #[Value.ref b] s) pc L0 [.int 1] := by
  intro ls hl H locs hP hD hS
  refine va_forget (fun q hq => hS.2.2 q hq) ?_
  refine W.widen hk hn ?_
  exact lw_ret hC.1.1 hC.1.2.1 hr hC.2.2.2.2 d
theorem ar_prim {ty : FieldType} (hp : ∀ C, ty ≠ .object C) (h : (Cond.arrayClass ty).before args s = true) : ∃ cA : ClassId, ArrOfT s cA ty ∧ va_RA s cA ty := by
  obtain ⟨cA, kA, comp, h1, h2, h3⟩ := Cond.arrayClass_spec h
  refine ⟨cA, fun n z => ⟨fun k h => (by cases h), kA, h2, comp, h3⟩, ?_⟩
  cases ty with
  | object C => exact absurd rfl (hp C)
  | _ => exact h1
theorem ar_obj {C : String} (h : (Cond.arrayOver (.object C)).before args s = true) : ∃ cA : ClassId, ArrOfT s cA (.object C) ∧ va_RA s cA (.object C) := by
  obtain ⟨comp, cA, kA, h1, h2, h3, h4, h5⟩ := Cond.arrayOver_spec h
  exact ⟨cA, fun n z => ⟨fun k h => (by cases h), kA, h3, comp, h4⟩, kA, comp, h3, h4, h1, h5⟩
set_option maxHeartbeats 4000000 in
set_option maxRecDepth 100000 in
theorem lw_ctx {b L : Nat} {xs : Nat → Int32} (C0 : lw_At p s m meth c b L xs) : ∃ (D : va_G) (κ : Nat → ClassId) (z : Nat × Nat), vx p s m #[Value.ref b] meth c code 4 R_W D (gk κ, z) (fun q => s.heap.size ≤ q) := by
  obtain ⟨hx, hb, hr, hml, hown, hts, hX, hbl, hlocks, hgv⟩ := id C0
  have htg : ∀ w ∈ gw, w.before #[Value.ref b] s = true := fun w h => hts w (List.mem_filter.mp h).1
  have hs := flat_of_before _ hgv
  have hA : ∀ a : Nat, a < s.heap.size → ¬ (fun q : Nat => s.heap.size ≤ q) a := fun a h => Nat.not_le.mpr h
  obtain ⟨c0, iS0, hKn0⟩ := u_known (C := R_M) (T := F_M) (N := 12) (n := 12) htg i_M (hts (.instantiable R_M 12) (List.mem_append_right _ (List.mem_of_getElem? (i := 299) (by decide +kernel))))
  obtain ⟨c1, iS1, hKn1⟩ := u_known (C := R_D) (T := F_D) (N := 3) (n := 3) htg i_D (hts (.instantiable R_D 3) (List.mem_append_right _ (List.mem_of_getElem? (i := 15) (by decide +kernel))))
  obtain ⟨c2, iS2, hKn2⟩ := u_known (C := R_G) (T := F_G) (N := 4) (n := 4) htg i_G (hts (.instantiable R_G 4) (List.mem_append_right _ (List.mem_of_getElem? (i := 122) (by decide +kernel))))
  obtain ⟨c3, iS3, hKn3⟩ := u_known (C := R_T) (T := F_T) (N := 5) (n := 5) htg i_T (hts (.instantiable R_T 5) (List.mem_append_right _ (List.mem_of_getElem? (i := 67) (by decide +kernel))))
  obtain ⟨c4, iS4, hKn4⟩ := u_known (C := R_L) (T := F_L) (N := 3) (n := 3) htg i_L (hts (.instantiable R_L 3) (List.mem_append_right _ (List.mem_of_getElem? (i := 25) (by decide +kernel))))
  obtain ⟨dC, dI, hKc⟩ : ∃ (dC : Nat → ClassId) (dI : Nat → Nat → Nat), ∀ (k : Nat) (q : vw_C), cls[k]? = some q → u_Kn s q.1 q.2.1 q.2.2 (dC k) (dI k) := by
    refine ⟨fun k => if k = 0 then c0 else if k = 1 then c1 else if k = 2 then c2 else if k = 3 then c3 else c4, fun k => if k = 0 then iS0 else if k = 1 then iS1 else if k = 2 then iS2 else if k = 3 then iS3 else iS4, ?_⟩
    intro k q hq
    match k, hq with
    | 0, hq => cases hq; exact hKn0
    | 1, hq => cases hq; exact hKn1
    | 2, hq => cases hq; exact hKn2
    | 3, hq => cases hq; exact hKn3
    | 4, hq => cases hq; exact hKn4
    | k + 5, hq => simp [cls] at hq
  obtain ⟨κ0, g0⟩ := ar_prim (s := s) (args := #[Value.ref b]) (ty := .int) (by intro C w; cases w) (htg _ a_int)
  obtain ⟨κ1, g1⟩ := ar_prim (s := s) (args := #[Value.ref b]) (ty := .boolean) (by intro C w; cases w) (htg _ a_bool)
  have hoT : (Cond.arrayOver (.object "SnapshotDesk$Transaction")).before #[Value.ref b] s = true := hts _ (List.mem_append_right _ (List.mem_of_getElem? (i := 23) (by decide +kernel)))
  have hoO : (Cond.arrayOver (.object "java/lang/Object")).before #[Value.ref b] s = true := hts _ (List.mem_append_right _ (List.mem_of_getElem? (i := 187) (by decide +kernel)))
  obtain ⟨κ2, g2⟩ := ar_obj hoT
  obtain ⟨κ3, g3⟩ := ar_obj hoO
  have hK : va_K (dC, dI) cls (gk (fun i => if i = 0 then κ0 else if i = 1 then κ1 else if i = 2 then κ2 else κ3)) s := by
    refine ⟨hKc, fun k q hq => ?_⟩
    match k, hq with
    | 0, hq => cases hq; exact g0
    | 1, hq => cases hq; exact g1
    | 2, hq => cases hq; exact g2
    | 3, hq => cases hq; exact g3
    | k + 4, hq => simp [gk] at hq
  obtain ⟨z1, hz1, hz2⟩ := va_Tof (args := #[Value.ref b]) (s := s) (tm := .static "java/util/ArrayList" "DEFAULTCAPACITY_EMPTY_ELEMENTDATA" "[Ljava/lang/Object;") (ty := .object "java/lang/Object") (N := 0) (f := fun _ => .null) (A := fun q : Nat => s.heap.size ≤ q) (by decide) (hs _ (by decide +kernel)) (va_eqt (z := 0) (hs _ (by decide +kernel))) (fun j hj => absurd hj (Nat.not_lt_zero j)) hA
  have hz3 := va_Zref (A := fun q : Nat => s.heap.size ≤ q) (hts (.laysStatic "java/util/ArrayList" "DEFAULTCAPACITY_EMPTY_ELEMENTDATA" "[Ljava/lang/Object;") (List.mem_append_right _ (List.mem_of_getElem? (i := 37) (by decide +kernel)))) (hts (.initialized "java/util/ArrayList") (List.mem_append_right _ (List.mem_of_getElem? (i := 4) (by decide +kernel)))) hz1 hA
  obtain ⟨mi, hmi⟩ := va_Mi.of (args := #[Value.ref b]) (s := s) (C := "[Ljava/lang/Object;") (hs _ (by decide +kernel))
  have hca : va_Nw (.castable R_G "java/lang/Object") s := va_Nw.of rfl (hts (.castable R_G "java/lang/Object") (List.mem_append_right _ (List.mem_of_getElem? (i := 434) (by decide +kernel))))
  have hdc : va_Dc s := va_Dc.of (hts (.declares ⟨"java/lang/Object", "getClass", "()Ljava/lang/Class;"⟩) (List.mem_append_right _ (List.mem_of_getElem? (i := 430) (by decide +kernel))))
  exact ⟨(dC, dI), (fun i => if i = 0 then κ0 else if i = 1 then κ1 else if i = 2 then κ2 else κ3), (z1, mi), ⟨hx, hb, hml, hown, htg⟩, hK, fun q h => h, ⟨hz3, hz2, hmi, hca, va_AO.of hoT, va_AO.of hoO, hdc⟩, hlocks⟩
theorem n_gt {L i : Nat} (hL : L ≤ 3072) (hi : i ≤ 3072) : nI L - nI 6 < nI i ↔ L < i + 6 := by
  rw [Int32.lt_iff_toInt_lt, pk_sub_toInt (by omega) (by omega), nI_toInt (by omega)]
  omega
end LW
end
section
set_option maxHeartbeats 8000000 in
set_option maxRecDepth 100000 in
theorem law_loop {p : Program} {l : Launch} {e : Env} {s : State} {m : MethodId} {below : List Frame} {meth : Method} {c : Code} {D : va_G} {κ : Nat → ClassId} {z : Nat × Nat} {b L h0 b0 : Nat} {xs : Nat → Int32} (hL : L ≤ 3072) (C0 : lw_At p s m meth c b L xs) (hC : vx p s m #[Value.ref b] meth c code 4 R_W D (gk κ, z) (fun q : Nat => s.heap.size ≤ q)) :
    ∀ (r T cap kc ks : Nat) (w1 w2 : va_W), 6 * T ≤ L → L < 6 * T + 6 * r → Inv κ z T cap w1 w2 h0 b0 → kc ≤ 100 + 16 * T → ks ≤ 20000 + 48 * T + 4 * cap → U p l e room_1 s m #[Value.ref b] below meth c 4 D (fun q : Nat => s.heap.size ≤ q) (w1 ++ w2) kc ks (lw_Z below #[Value.ref b] s) 18 [(3, .int (nI (6 * T))), (2, .ref b0), (1, .ref h0), (0, .ref b)] [] := by
  obtain ⟨hx, hb, hr, hml, hown, hts, hX, hbl, hlocks, hgv⟩ := id C0
  have hbA : ¬ (fun q : Nat => s.heap.size ≤ q) b := Nat.not_le.mpr hbl
  intro r
  induction r with
  | zero =>
    intro T cap kc ks w1 w2 h1 h2
    omega
  | succ r ih =>
    intro T cap kc ks w1 w2 h1 h2 hI hkc hks
    have hcap : cap ≤ 6000 := by
      obtain ⟨hs, hl, C, tr, na, mo, to, co, sn, nb, n, el, ro, lv, cd, pl, a, st, be, rm, pm, ha, mm, cc, tm, sm, le, hK, hcap, _⟩ := hI
      exact hcap
    obtain ⟨qD, fsD, heD⟩ : ∃ (q : Nat) (fs : List Value), w1[q]? = some (h0, .inr (1, fs)) := by
      obtain ⟨hs, hl, C, tr, na, mo, to, co, sn, nb, n, el, ro, lv, cd, pl, a, st, be, rm, pm, ha, mm, cc, tm, sm, le, hK, _⟩ := hI
      obtain ⟨q, hq⟩ := wg_ix hK.1
      exact ⟨q, _, hq⟩
    obtain ⟨fsM, heM⟩ : ∃ fs : List Value, w2[0]? = some (b0, .inr (0, fs)) := by
      obtain ⟨hs, hl, C, tr, na, mo, to, co, sn, nb, n, el, ro, lv, cd, pl, a, st, be, rm, pm, ha, mm, cc, tm, sm, le, hK, _, rfl, rfl, _⟩ := hI
      exact ⟨_, rfl⟩
    have hTT : T ≤ 600 := by omega
    refine u_iload_n hC d_law_18 rfl ?_
    refine u_aload_n hC d_law_19 rfl ?_
    refine u_slen hC hX hbl hbA d_law_20 ?_
    refine u_bipush hC (nI 6) d_law_21 (by decide) ?_
    refine u_isub hC d_law_23 ?_
    refine u_icmp_gt hC 584 d_law_24 (by decide) (fun c9 => ?_) (fun c9 => ?_)
    · refine u_iconst hC 1 d_law_584 (by decide) ?_
      exact u_lret hC hr (by omega) (by omega) d_law_585
    · have hin : 6 * T + 6 ≤ L := by
        have := mt (n_gt hL (by omega)).mpr c9
        omega
      refine u_aload_n hC d_law_27 rfl ?_
      refine u_iload_n hC d_law_28 rfl ?_
      refine u_sld hC hX hbl hbA (6 * T) rfl (by omega) (by omega) d_law_29 ?_
      refine u_bipush hC (nI 15) d_law_30 (by decide) ?_
      refine u_iand hC d_law_32 ?_
      obtain ⟨o9, ho9, eo9⟩ := pk_andE (xs (6 * T)) (m := nI 15) 4 (by decide)
      refine u_val eo9 ?_
      have hcs : o9 = 0 ∨ o9 = 1 ∨ o9 = 2 ∨ o9 = 3 ∨ o9 = 4 ∨ o9 = 5 ∨ o9 = 6 ∨ o9 = 7 ∨ o9 = 8 ∨ o9 = 9 ∨ o9 = 10 ∨ o9 = 11 ∨ o9 = 12 ∨ o9 = 13 ∨ o9 = 14 ∨ o9 = 15 := by omega
      rcases hcs with rfl | rfl | rfl | rfl | rfl | rfl | rfl | rfl | rfl | rfl | rfl | rfl | rfl | rfl | rfl | rfl
      · refine u_tableIn hC (off := 79) 112 d_law_33 (by decide) (by decide) (by decide) (by decide) ?_
        obtain ⟨mc, ms, cap1, rr, w2n, hmc, hms, hc1, CD, CM⟩ := pr_begin (l := l) (D := D) hI (xs (6 * T + 1)) (xs (6 * T + 2))
        refine u_aload_n hC d_law_112 rfl ?_
        refine u_aload_n hC d_law_113 rfl ?_
        refine u_iload_n hC d_law_114 rfl ?_
        refine u_iconst hC (nI 1) d_law_115 (by decide) ?_
        refine u_iadd hC d_law_116 ?_
        refine u_sld hC hX hbl hbA (6 * T + 1) (nI_add _ _) (by omega) (by omega) d_law_117 ?_
        refine u_aload_n hC d_law_118 rfl ?_
        refine u_iload_n hC d_law_119 rfl ?_
        refine u_iconst hC (nI 2) d_law_120 (by decide) ?_
        refine u_iadd hC d_law_121 ?_
        refine u_sld hC hX hbl hbA (6 * T + 2) (nI_add _ _) (by omega) (by omega) d_law_122 ?_
        refine u_callVF hC CD k_W_13 i_D_begin heD rfl ⟨(Nat.le_of_ble_eq_true rfl), (Nat.le_of_ble_eq_true rfl)⟩ ⟨by show kc + mc ≤ 600000; omega, by show ks + ms ≤ 7302250; omega⟩ rfl rfl (Nat.le_of_ble_eq_true rfl) d_law_123 (fun v w1n hp => ?_)
        obtain ⟨rfl, hIn⟩ := hp
        refine u_top ?_
        refine u_swap ?_
        refine u_aload_n hC d_law_126 rfl ?_
        refine u_aload_n hC d_law_127 rfl ?_
        refine u_iload_n hC d_law_128 rfl ?_
        refine u_iconst hC (nI 1) d_law_129 (by decide) ?_
        refine u_iadd hC d_law_130 ?_
        refine u_sld hC hX hbl hbA (6 * T + 1) (nI_add _ _) (by omega) (by omega) d_law_131 ?_
        refine u_aload_n hC d_law_132 rfl ?_
        refine u_iload_n hC d_law_133 rfl ?_
        refine u_iconst hC (nI 2) d_law_134 (by decide) ?_
        refine u_iadd hC d_law_135 ?_
        refine u_sld hC hX hbl hbA (6 * T + 2) (nI_add _ _) (by omega) (by omega) d_law_136 ?_
        refine u_callVF hC CM k_W_17 i_M_begin heM rfl ⟨(Nat.le_of_ble_eq_true rfl), (Nat.le_of_ble_eq_true rfl)⟩ ⟨by show kc + mc + 0 ≤ 600000; omega, by show ks + ms + 0 ≤ 7302250; omega⟩ rfl rfl (Nat.le_of_ble_eq_true rfl) d_law_137 (fun v w2m hp => ?_)
        obtain ⟨rfl, rfl⟩ := hp
        refine u_top ?_
        refine u_swap ?_
        refine u_icmp_eq hC 578 d_law_140 (by decide) (fun _ => ?_) (fun w => absurd rfl w)
        refine u_iinc hC (nI (6 * (T + 1))) (j := 0) d_law_578 rfl (show nI (6 * T) + nI 6 = nI (6 * (T + 1)) from by rw [nI_add]; congr 1) (by decide) ?_
        refine u_goto hC 18 d_law_581 (by decide) ?_
        exact ih (T + 1) cap1 _ _ w1n w2m (by omega) (by omega) hIn (by omega) (by omega)
      · refine u_tableIn hC (off := 112) 145 d_law_33 (by decide) (by decide) (by decide) (by decide) ?_
        obtain ⟨mc, ms, cap1, rr, w2n, hmc, hms, hc1, CD, CM⟩ := pr_statement (l := l) (D := D) hI hTT (xs (6 * T + 1))
        refine u_aload_n hC d_law_145 rfl ?_
        refine u_aload_n hC d_law_146 rfl ?_
        refine u_iload_n hC d_law_147 rfl ?_
        refine u_iconst hC (nI 1) d_law_148 (by decide) ?_
        refine u_iadd hC d_law_149 ?_
        refine u_sld hC hX hbl hbA (6 * T + 1) (nI_add _ _) (by omega) (by omega) d_law_150 ?_
        refine u_callVF hC CD k_W_18 i_D_statement heD rfl ⟨(Nat.le_of_ble_eq_true rfl), (Nat.le_of_ble_eq_true rfl)⟩ ⟨by show kc + mc ≤ 600000; omega, by show ks + ms ≤ 7302250; omega⟩ rfl rfl (Nat.le_of_ble_eq_true rfl) d_law_151 (fun v w1n hp => ?_)
        obtain ⟨rfl, hIn⟩ := hp
        refine u_top ?_
        refine u_swap ?_
        refine u_aload_n hC d_law_154 rfl ?_
        refine u_aload_n hC d_law_155 rfl ?_
        refine u_iload_n hC d_law_156 rfl ?_
        refine u_iconst hC (nI 1) d_law_157 (by decide) ?_
        refine u_iadd hC d_law_158 ?_
        refine u_sld hC hX hbl hbA (6 * T + 1) (nI_add _ _) (by omega) (by omega) d_law_159 ?_
        refine u_callVF hC CM k_W_22 i_M_statement heM rfl ⟨(Nat.le_of_ble_eq_true rfl), (Nat.le_of_ble_eq_true rfl)⟩ ⟨by show kc + mc + 0 ≤ 600000; omega, by show ks + ms + 0 ≤ 7302250; omega⟩ rfl rfl (Nat.le_of_ble_eq_true rfl) d_law_160 (fun v w2m hp => ?_)
        obtain ⟨rfl, rfl⟩ := hp
        refine u_top ?_
        refine u_swap ?_
        refine u_icmp_eq hC 578 d_law_163 (by decide) (fun _ => ?_) (fun w => absurd rfl w)
        refine u_iinc hC (nI (6 * (T + 1))) (j := 0) d_law_578 rfl (show nI (6 * T) + nI 6 = nI (6 * (T + 1)) from by rw [nI_add]; congr 1) (by decide) ?_
        refine u_goto hC 18 d_law_581 (by decide) ?_
        exact ih (T + 1) cap1 _ _ w1n w2m (by omega) (by omega) hIn (by omega) (by omega)
      · refine u_tableIn hC (off := 135) 168 d_law_33 (by decide) (by decide) (by decide) (by decide) ?_
        obtain ⟨mc, ms, cap1, rr, w2n, hmc, hms, hc1, CD, CM⟩ := pr_number (l := l) (D := D) hI (xs (6 * T + 1))
        refine u_aload_n hC d_law_168 rfl ?_
        refine u_aload_n hC d_law_169 rfl ?_
        refine u_iload_n hC d_law_170 rfl ?_
        refine u_iconst hC (nI 1) d_law_171 (by decide) ?_
        refine u_iadd hC d_law_172 ?_
        refine u_sld hC hX hbl hbA (6 * T + 1) (nI_add _ _) (by omega) (by omega) d_law_173 ?_
        refine u_callVF hC CD k_W_23 i_D_number heD rfl ⟨(Nat.le_of_ble_eq_true rfl), (Nat.le_of_ble_eq_true rfl)⟩ ⟨by show kc + mc ≤ 600000; omega, by show ks + ms ≤ 7302250; omega⟩ rfl rfl (Nat.le_of_ble_eq_true rfl) d_law_174 (fun v w1n hp => ?_)
        obtain ⟨rfl, hIn⟩ := hp
        refine u_top ?_
        refine u_swap ?_
        refine u_aload_n hC d_law_177 rfl ?_
        refine u_aload_n hC d_law_178 rfl ?_
        refine u_iload_n hC d_law_179 rfl ?_
        refine u_iconst hC (nI 1) d_law_180 (by decide) ?_
        refine u_iadd hC d_law_181 ?_
        refine u_sld hC hX hbl hbA (6 * T + 1) (nI_add _ _) (by omega) (by omega) d_law_182 ?_
        refine u_callVF hC CM k_W_26 i_M_number heM rfl ⟨(Nat.le_of_ble_eq_true rfl), (Nat.le_of_ble_eq_true rfl)⟩ ⟨by show kc + mc + 0 ≤ 600000; omega, by show ks + ms + 0 ≤ 7302250; omega⟩ rfl rfl (Nat.le_of_ble_eq_true rfl) d_law_183 (fun v w2m hp => ?_)
        obtain ⟨rfl, rfl⟩ := hp
        refine u_top ?_
        refine u_swap ?_
        refine u_icmp_eq hC 578 d_law_186 (by decide) (fun _ => ?_) (fun w => absurd rfl w)
        refine u_iinc hC (nI (6 * (T + 1))) (j := 0) d_law_578 rfl (show nI (6 * T) + nI 6 = nI (6 * (T + 1)) from by rw [nI_add]; congr 1) (by decide) ?_
        refine u_goto hC 18 d_law_581 (by decide) ?_
        exact ih (T + 1) cap1 _ _ w1n w2m (by omega) (by omega) hIn (by omega) (by omega)
      · refine u_tableIn hC (off := 158) 191 d_law_33 (by decide) (by decide) (by decide) (by decide) ?_
        obtain ⟨mc, ms, cap1, rr, w2n, hmc, hms, hc1, CD, CM⟩ := pr_save (l := l) (D := D) hI (xs (6 * T + 1))
        refine u_aload_n hC d_law_191 rfl ?_
        refine u_aload_n hC d_law_192 rfl ?_
        refine u_iload_n hC d_law_193 rfl ?_
        refine u_iconst hC (nI 1) d_law_194 (by decide) ?_
        refine u_iadd hC d_law_195 ?_
        refine u_sld hC hX hbl hbA (6 * T + 1) (nI_add _ _) (by omega) (by omega) d_law_196 ?_
        refine u_callVF hC CD k_W_27 i_D_save heD rfl ⟨(Nat.le_of_ble_eq_true rfl), (Nat.le_of_ble_eq_true rfl)⟩ ⟨by show kc + mc ≤ 600000; omega, by show ks + ms ≤ 7302250; omega⟩ rfl rfl (Nat.le_of_ble_eq_true rfl) d_law_197 (fun v w1n hp => ?_)
        obtain ⟨rfl, hIn⟩ := hp
        refine u_top ?_
        refine u_swap ?_
        refine u_aload_n hC d_law_200 rfl ?_
        refine u_aload_n hC d_law_201 rfl ?_
        refine u_iload_n hC d_law_202 rfl ?_
        refine u_iconst hC (nI 1) d_law_203 (by decide) ?_
        refine u_iadd hC d_law_204 ?_
        refine u_sld hC hX hbl hbA (6 * T + 1) (nI_add _ _) (by omega) (by omega) d_law_205 ?_
        refine u_callVF hC CM k_W_30 i_M_save heM rfl ⟨(Nat.le_of_ble_eq_true rfl), (Nat.le_of_ble_eq_true rfl)⟩ ⟨by show kc + mc + 0 ≤ 600000; omega, by show ks + ms + 0 ≤ 7302250; omega⟩ rfl rfl (Nat.le_of_ble_eq_true rfl) d_law_206 (fun v w2m hp => ?_)
        obtain ⟨rfl, rfl⟩ := hp
        refine u_top ?_
        refine u_swap ?_
        refine u_icmp_eq hC 578 d_law_209 (by decide) (fun _ => ?_) (fun w => absurd rfl w)
        refine u_iinc hC (nI (6 * (T + 1))) (j := 0) d_law_578 rfl (show nI (6 * T) + nI 6 = nI (6 * (T + 1)) from by rw [nI_add]; congr 1) (by decide) ?_
        refine u_goto hC 18 d_law_581 (by decide) ?_
        exact ih (T + 1) cap1 _ _ w1n w2m (by omega) (by omega) hIn (by omega) (by omega)
      · refine u_tableIn hC (off := 181) 214 d_law_33 (by decide) (by decide) (by decide) (by decide) ?_
        obtain ⟨mc, ms, cap1, rr, w2n, hmc, hms, hc1, CD, CM⟩ := pr_release (l := l) (D := D) hI (xs (6 * T + 1)) (xs (6 * T + 2))
        refine u_aload_n hC d_law_214 rfl ?_
        refine u_aload_n hC d_law_215 rfl ?_
        refine u_iload_n hC d_law_216 rfl ?_
        refine u_iconst hC (nI 1) d_law_217 (by decide) ?_
        refine u_iadd hC d_law_218 ?_
        refine u_sld hC hX hbl hbA (6 * T + 1) (nI_add _ _) (by omega) (by omega) d_law_219 ?_
        refine u_aload_n hC d_law_220 rfl ?_
        refine u_iload_n hC d_law_221 rfl ?_
        refine u_iconst hC (nI 2) d_law_222 (by decide) ?_
        refine u_iadd hC d_law_223 ?_
        refine u_sld hC hX hbl hbA (6 * T + 2) (nI_add _ _) (by omega) (by omega) d_law_224 ?_
        refine u_callVF hC CD k_W_31 i_D_release heD rfl ⟨(Nat.le_of_ble_eq_true rfl), (Nat.le_of_ble_eq_true rfl)⟩ ⟨by show kc + mc ≤ 600000; omega, by show ks + ms ≤ 7302250; omega⟩ rfl rfl (Nat.le_of_ble_eq_true rfl) d_law_225 (fun v w1n hp => ?_)
        obtain ⟨rfl, hIn⟩ := hp
        refine u_top ?_
        refine u_swap ?_
        refine u_aload_n hC d_law_228 rfl ?_
        refine u_aload_n hC d_law_229 rfl ?_
        refine u_iload_n hC d_law_230 rfl ?_
        refine u_iconst hC (nI 1) d_law_231 (by decide) ?_
        refine u_iadd hC d_law_232 ?_
        refine u_sld hC hX hbl hbA (6 * T + 1) (nI_add _ _) (by omega) (by omega) d_law_233 ?_
        refine u_aload_n hC d_law_234 rfl ?_
        refine u_iload_n hC d_law_235 rfl ?_
        refine u_iconst hC (nI 2) d_law_236 (by decide) ?_
        refine u_iadd hC d_law_237 ?_
        refine u_sld hC hX hbl hbA (6 * T + 2) (nI_add _ _) (by omega) (by omega) d_law_238 ?_
        refine u_callVF hC CM k_W_34 i_M_release heM rfl ⟨(Nat.le_of_ble_eq_true rfl), (Nat.le_of_ble_eq_true rfl)⟩ ⟨by show kc + mc + 0 ≤ 600000; omega, by show ks + ms + 0 ≤ 7302250; omega⟩ rfl rfl (Nat.le_of_ble_eq_true rfl) d_law_239 (fun v w2m hp => ?_)
        obtain ⟨rfl, rfl⟩ := hp
        refine u_top ?_
        refine u_swap ?_
        refine u_icmp_eq hC 578 d_law_242 (by decide) (fun _ => ?_) (fun w => absurd rfl w)
        refine u_iinc hC (nI (6 * (T + 1))) (j := 0) d_law_578 rfl (show nI (6 * T) + nI 6 = nI (6 * (T + 1)) from by rw [nI_add]; congr 1) (by decide) ?_
        refine u_goto hC 18 d_law_581 (by decide) ?_
        exact ih (T + 1) cap1 _ _ w1n w2m (by omega) (by omega) hIn (by omega) (by omega)
      · refine u_tableIn hC (off := 214) 247 d_law_33 (by decide) (by decide) (by decide) (by decide) ?_
        obtain ⟨mc, ms, cap1, rr, w2n, hmc, hms, hc1, CD, CM⟩ := pr_back (l := l) (D := D) hI (xs (6 * T + 1)) (xs (6 * T + 2))
        refine u_aload_n hC d_law_247 rfl ?_
        refine u_aload_n hC d_law_248 rfl ?_
        refine u_iload_n hC d_law_249 rfl ?_
        refine u_iconst hC (nI 1) d_law_250 (by decide) ?_
        refine u_iadd hC d_law_251 ?_
        refine u_sld hC hX hbl hbA (6 * T + 1) (nI_add _ _) (by omega) (by omega) d_law_252 ?_
        refine u_aload_n hC d_law_253 rfl ?_
        refine u_iload_n hC d_law_254 rfl ?_
        refine u_iconst hC (nI 2) d_law_255 (by decide) ?_
        refine u_iadd hC d_law_256 ?_
        refine u_sld hC hX hbl hbA (6 * T + 2) (nI_add _ _) (by omega) (by omega) d_law_257 ?_
        refine u_callVF hC CD k_W_35 i_D_back heD rfl ⟨(Nat.le_of_ble_eq_true rfl), (Nat.le_of_ble_eq_true rfl)⟩ ⟨by show kc + mc ≤ 600000; omega, by show ks + ms ≤ 7302250; omega⟩ rfl rfl (Nat.le_of_ble_eq_true rfl) d_law_258 (fun v w1n hp => ?_)
        obtain ⟨rfl, hIn⟩ := hp
        refine u_top ?_
        refine u_swap ?_
        refine u_aload_n hC d_law_261 rfl ?_
        refine u_aload_n hC d_law_262 rfl ?_
        refine u_iload_n hC d_law_263 rfl ?_
        refine u_iconst hC (nI 1) d_law_264 (by decide) ?_
        refine u_iadd hC d_law_265 ?_
        refine u_sld hC hX hbl hbA (6 * T + 1) (nI_add _ _) (by omega) (by omega) d_law_266 ?_
        refine u_aload_n hC d_law_267 rfl ?_
        refine u_iload_n hC d_law_268 rfl ?_
        refine u_iconst hC (nI 2) d_law_269 (by decide) ?_
        refine u_iadd hC d_law_270 ?_
        refine u_sld hC hX hbl hbA (6 * T + 2) (nI_add _ _) (by omega) (by omega) d_law_271 ?_
        refine u_callVF hC CM k_W_38 i_M_back heM rfl ⟨(Nat.le_of_ble_eq_true rfl), (Nat.le_of_ble_eq_true rfl)⟩ ⟨by show kc + mc + 0 ≤ 600000; omega, by show ks + ms + 0 ≤ 7302250; omega⟩ rfl rfl (Nat.le_of_ble_eq_true rfl) d_law_272 (fun v w2m hp => ?_)
        obtain ⟨rfl, rfl⟩ := hp
        refine u_top ?_
        refine u_swap ?_
        refine u_icmp_eq hC 578 d_law_275 (by decide) (fun _ => ?_) (fun w => absurd rfl w)
        refine u_iinc hC (nI (6 * (T + 1))) (j := 0) d_law_578 rfl (show nI (6 * T) + nI 6 = nI (6 * (T + 1)) from by rw [nI_add]; congr 1) (by decide) ?_
        refine u_goto hC 18 d_law_581 (by decide) ?_
        exact ih (T + 1) cap1 _ _ w1n w2m (by omega) (by omega) hIn (by omega) (by omega)
      · refine u_tableIn hC (off := 247) 280 d_law_33 (by decide) (by decide) (by decide) (by decide) ?_
        obtain ⟨mc, ms, cap1, rr, w2n, hmc, hms, hc1, CD, CM⟩ := pr_commit (l := l) (D := D) hI (xs (6 * T + 1))
        refine u_aload_n hC d_law_280 rfl ?_
        refine u_aload_n hC d_law_281 rfl ?_
        refine u_iload_n hC d_law_282 rfl ?_
        refine u_iconst hC (nI 1) d_law_283 (by decide) ?_
        refine u_iadd hC d_law_284 ?_
        refine u_sld hC hX hbl hbA (6 * T + 1) (nI_add _ _) (by omega) (by omega) d_law_285 ?_
        refine u_callVF hC CD k_W_39 i_D_commit heD rfl ⟨(Nat.le_of_ble_eq_true rfl), (Nat.le_of_ble_eq_true rfl)⟩ ⟨by show kc + mc ≤ 600000; omega, by show ks + ms ≤ 7302250; omega⟩ rfl rfl (Nat.le_of_ble_eq_true rfl) d_law_286 (fun v w1n hp => ?_)
        obtain ⟨rfl, hIn⟩ := hp
        refine u_top ?_
        refine u_swap ?_
        refine u_aload_n hC d_law_289 rfl ?_
        refine u_aload_n hC d_law_290 rfl ?_
        refine u_iload_n hC d_law_291 rfl ?_
        refine u_iconst hC (nI 1) d_law_292 (by decide) ?_
        refine u_iadd hC d_law_293 ?_
        refine u_sld hC hX hbl hbA (6 * T + 1) (nI_add _ _) (by omega) (by omega) d_law_294 ?_
        refine u_callVF hC CM k_W_42 i_M_commit heM rfl ⟨(Nat.le_of_ble_eq_true rfl), (Nat.le_of_ble_eq_true rfl)⟩ ⟨by show kc + mc + 0 ≤ 600000; omega, by show ks + ms + 0 ≤ 7302250; omega⟩ rfl rfl (Nat.le_of_ble_eq_true rfl) d_law_295 (fun v w2m hp => ?_)
        obtain ⟨rfl, rfl⟩ := hp
        refine u_top ?_
        refine u_swap ?_
        refine u_icmp_eq hC 578 d_law_298 (by decide) (fun _ => ?_) (fun w => absurd rfl w)
        refine u_iinc hC (nI (6 * (T + 1))) (j := 0) d_law_578 rfl (show nI (6 * T) + nI 6 = nI (6 * (T + 1)) from by rw [nI_add]; congr 1) (by decide) ?_
        refine u_goto hC 18 d_law_581 (by decide) ?_
        exact ih (T + 1) cap1 _ _ w1n w2m (by omega) (by omega) hIn (by omega) (by omega)
      · refine u_tableIn hC (off := 270) 303 d_law_33 (by decide) (by decide) (by decide) (by decide) ?_
        obtain ⟨mc, ms, cap1, rr, w2n, hmc, hms, hc1, CD, CM⟩ := pr_abort (l := l) (D := D) hI (xs (6 * T + 1))
        refine u_aload_n hC d_law_303 rfl ?_
        refine u_aload_n hC d_law_304 rfl ?_
        refine u_iload_n hC d_law_305 rfl ?_
        refine u_iconst hC (nI 1) d_law_306 (by decide) ?_
        refine u_iadd hC d_law_307 ?_
        refine u_sld hC hX hbl hbA (6 * T + 1) (nI_add _ _) (by omega) (by omega) d_law_308 ?_
        refine u_callVF hC CD k_W_43 i_D_abort heD rfl ⟨(Nat.le_of_ble_eq_true rfl), (Nat.le_of_ble_eq_true rfl)⟩ ⟨by show kc + mc ≤ 600000; omega, by show ks + ms ≤ 7302250; omega⟩ rfl rfl (Nat.le_of_ble_eq_true rfl) d_law_309 (fun v w1n hp => ?_)
        obtain ⟨rfl, hIn⟩ := hp
        refine u_top ?_
        refine u_swap ?_
        refine u_aload_n hC d_law_312 rfl ?_
        refine u_aload_n hC d_law_313 rfl ?_
        refine u_iload_n hC d_law_314 rfl ?_
        refine u_iconst hC (nI 1) d_law_315 (by decide) ?_
        refine u_iadd hC d_law_316 ?_
        refine u_sld hC hX hbl hbA (6 * T + 1) (nI_add _ _) (by omega) (by omega) d_law_317 ?_
        refine u_callVF hC CM k_W_47 i_M_abort heM rfl ⟨(Nat.le_of_ble_eq_true rfl), (Nat.le_of_ble_eq_true rfl)⟩ ⟨by show kc + mc + 0 ≤ 600000; omega, by show ks + ms + 0 ≤ 7302250; omega⟩ rfl rfl (Nat.le_of_ble_eq_true rfl) d_law_318 (fun v w2m hp => ?_)
        obtain ⟨rfl, rfl⟩ := hp
        refine u_top ?_
        refine u_swap ?_
        refine u_icmp_eq hC 578 d_law_321 (by decide) (fun _ => ?_) (fun w => absurd rfl w)
        refine u_iinc hC (nI (6 * (T + 1))) (j := 0) d_law_578 rfl (show nI (6 * T) + nI 6 = nI (6 * (T + 1)) from by rw [nI_add]; congr 1) (by decide) ?_
        refine u_goto hC 18 d_law_581 (by decide) ?_
        exact ih (T + 1) cap1 _ _ w1n w2m (by omega) (by omega) hIn (by omega) (by omega)
      · refine u_tableIn hC (off := 293) 326 d_law_33 (by decide) (by decide) (by decide) (by decide) ?_
        obtain ⟨w2n, CD, CM⟩ := pr_crash (l := l) (D := D) hI
        refine u_aload_n hC d_law_326 rfl ?_
        refine u_callVF hC CD k_W_48 i_D_crash heD rfl ⟨(Nat.le_of_ble_eq_true rfl), (Nat.le_of_ble_eq_true rfl)⟩ ⟨by show kc + 0 ≤ 600000; omega, by show ks + 0 ≤ 7302250; omega⟩ rfl rfl (Nat.le_of_ble_eq_true rfl) d_law_327 (fun v w1n hp => ?_)
        obtain ⟨rfl, hIn⟩ := hp
        refine u_non ?_
        refine u_swap ?_
        refine u_aload_n hC d_law_330 rfl ?_
        refine u_callVF hC CM k_W_51 i_M_crash heM rfl ⟨(Nat.le_of_ble_eq_true rfl), (Nat.le_of_ble_eq_true rfl)⟩ ⟨by show kc + 0 + 0 ≤ 600000; omega, by show ks + 0 + 0 ≤ 7302250; omega⟩ rfl rfl (Nat.le_of_ble_eq_true rfl) d_law_331 (fun v w2m hp => ?_)
        obtain ⟨rfl, rfl⟩ := hp
        refine u_non ?_
        refine u_swap ?_
        refine u_goto hC 578 d_law_334 (by decide) ?_
        refine u_iinc hC (nI (6 * (T + 1))) (j := 0) d_law_578 rfl (show nI (6 * T) + nI 6 = nI (6 * (T + 1)) from by rw [nI_add]; congr 1) (by decide) ?_
        refine u_goto hC 18 d_law_581 (by decide) ?_
        exact ih (T + 1) cap _ _ w1n w2m (by omega) (by omega) hIn (by omega) (by omega)
      · refine u_tableIn hC (off := 304) 337 d_law_33 (by decide) (by decide) (by decide) (by decide) ?_
        obtain ⟨mc, ms, cap1, rr, w2n, hmc, hms, hc1, CD, CM⟩ := pr_state (l := l) (D := D) hI (xs (6 * T + 1))
        refine u_aload_n hC d_law_337 rfl ?_
        refine u_aload_n hC d_law_338 rfl ?_
        refine u_iload_n hC d_law_339 rfl ?_
        refine u_iconst hC (nI 1) d_law_340 (by decide) ?_
        refine u_iadd hC d_law_341 ?_
        refine u_sld hC hX hbl hbA (6 * T + 1) (nI_add _ _) (by omega) (by omega) d_law_342 ?_
        refine u_callVF hC CD k_W_52 i_D_state heD rfl ⟨(Nat.le_of_ble_eq_true rfl), (Nat.le_of_ble_eq_true rfl)⟩ ⟨by show kc + mc ≤ 600000; omega, by show ks + ms ≤ 7302250; omega⟩ rfl rfl (Nat.le_of_ble_eq_true rfl) d_law_343 (fun v w1n hp => ?_)
        obtain ⟨rfl, hIn⟩ := hp
        refine u_top ?_
        refine u_swap ?_
        refine u_aload_n hC d_law_346 rfl ?_
        refine u_aload_n hC d_law_347 rfl ?_
        refine u_iload_n hC d_law_348 rfl ?_
        refine u_iconst hC (nI 1) d_law_349 (by decide) ?_
        refine u_iadd hC d_law_350 ?_
        refine u_sld hC hX hbl hbA (6 * T + 1) (nI_add _ _) (by omega) (by omega) d_law_351 ?_
        refine u_callVF hC CM k_W_55 i_M_state heM rfl ⟨(Nat.le_of_ble_eq_true rfl), (Nat.le_of_ble_eq_true rfl)⟩ ⟨by show kc + mc + 0 ≤ 600000; omega, by show ks + ms + 0 ≤ 7302250; omega⟩ rfl rfl (Nat.le_of_ble_eq_true rfl) d_law_352 (fun v w2m hp => ?_)
        obtain ⟨rfl, rfl⟩ := hp
        refine u_top ?_
        refine u_swap ?_
        refine u_icmp_eq hC 578 d_law_355 (by decide) (fun _ => ?_) (fun w => absurd rfl w)
        refine u_iinc hC (nI (6 * (T + 1))) (j := 0) d_law_578 rfl (show nI (6 * T) + nI 6 = nI (6 * (T + 1)) from by rw [nI_add]; congr 1) (by decide) ?_
        refine u_goto hC 18 d_law_581 (by decide) ?_
        exact ih (T + 1) cap1 _ _ w1n w2m (by omega) (by omega) hIn (by omega) (by omega)
      · refine u_tableIn hC (off := 327) 360 d_law_33 (by decide) (by decide) (by decide) (by decide) ?_
        obtain ⟨mc, ms, cap1, rr, w2n, hmc, hms, hc1, CD, CM⟩ := pr_root (l := l) (D := D) hI (xs (6 * T + 1))
        refine u_aload_n hC d_law_360 rfl ?_
        refine u_aload_n hC d_law_361 rfl ?_
        refine u_iload_n hC d_law_362 rfl ?_
        refine u_iconst hC (nI 1) d_law_363 (by decide) ?_
        refine u_iadd hC d_law_364 ?_
        refine u_sld hC hX hbl hbA (6 * T + 1) (nI_add _ _) (by omega) (by omega) d_law_365 ?_
        refine u_callVF hC CD k_W_56 i_D_root heD rfl ⟨(Nat.le_of_ble_eq_true rfl), (Nat.le_of_ble_eq_true rfl)⟩ ⟨by show kc + mc ≤ 600000; omega, by show ks + ms ≤ 7302250; omega⟩ rfl rfl (Nat.le_of_ble_eq_true rfl) d_law_366 (fun v w1n hp => ?_)
        obtain ⟨rfl, hIn⟩ := hp
        refine u_top ?_
        refine u_swap ?_
        refine u_aload_n hC d_law_369 rfl ?_
        refine u_aload_n hC d_law_370 rfl ?_
        refine u_iload_n hC d_law_371 rfl ?_
        refine u_iconst hC (nI 1) d_law_372 (by decide) ?_
        refine u_iadd hC d_law_373 ?_
        refine u_sld hC hX hbl hbA (6 * T + 1) (nI_add _ _) (by omega) (by omega) d_law_374 ?_
        refine u_callVF hC CM k_W_59 i_M_root heM rfl ⟨(Nat.le_of_ble_eq_true rfl), (Nat.le_of_ble_eq_true rfl)⟩ ⟨by show kc + mc + 0 ≤ 600000; omega, by show ks + ms + 0 ≤ 7302250; omega⟩ rfl rfl (Nat.le_of_ble_eq_true rfl) d_law_375 (fun v w2m hp => ?_)
        obtain ⟨rfl, rfl⟩ := hp
        refine u_top ?_
        refine u_swap ?_
        refine u_icmp_eq hC 578 d_law_378 (by decide) (fun _ => ?_) (fun w => absurd rfl w)
        refine u_iinc hC (nI (6 * (T + 1))) (j := 0) d_law_578 rfl (show nI (6 * T) + nI 6 = nI (6 * (T + 1)) from by rw [nI_add]; congr 1) (by decide) ?_
        refine u_goto hC 18 d_law_581 (by decide) ?_
        exact ih (T + 1) cap1 _ _ w1n w2m (by omega) (by omega) hIn (by omega) (by omega)
      · refine u_tableIn hC (off := 350) 383 d_law_33 (by decide) (by decide) (by decide) (by decide) ?_
        obtain ⟨mc, ms, cap1, rr, w2n, hmc, hms, hc1, CD, CM⟩ := pr_place (l := l) (D := D) hI (xs (6 * T + 1))
        refine u_aload_n hC d_law_383 rfl ?_
        refine u_aload_n hC d_law_384 rfl ?_
        refine u_iload_n hC d_law_385 rfl ?_
        refine u_iconst hC (nI 1) d_law_386 (by decide) ?_
        refine u_iadd hC d_law_387 ?_
        refine u_sld hC hX hbl hbA (6 * T + 1) (nI_add _ _) (by omega) (by omega) d_law_388 ?_
        refine u_callVF hC CD k_W_60 i_D_place heD rfl ⟨(Nat.le_of_ble_eq_true rfl), (Nat.le_of_ble_eq_true rfl)⟩ ⟨by show kc + mc ≤ 600000; omega, by show ks + ms ≤ 7302250; omega⟩ rfl rfl (Nat.le_of_ble_eq_true rfl) d_law_389 (fun v w1n hp => ?_)
        obtain ⟨rfl, hIn⟩ := hp
        refine u_top ?_
        refine u_swap ?_
        refine u_aload_n hC d_law_392 rfl ?_
        refine u_aload_n hC d_law_393 rfl ?_
        refine u_iload_n hC d_law_394 rfl ?_
        refine u_iconst hC (nI 1) d_law_395 (by decide) ?_
        refine u_iadd hC d_law_396 ?_
        refine u_sld hC hX hbl hbA (6 * T + 1) (nI_add _ _) (by omega) (by omega) d_law_397 ?_
        refine u_callVF hC CM k_W_63 i_M_place heM rfl ⟨(Nat.le_of_ble_eq_true rfl), (Nat.le_of_ble_eq_true rfl)⟩ ⟨by show kc + mc + 0 ≤ 600000; omega, by show ks + ms + 0 ≤ 7302250; omega⟩ rfl rfl (Nat.le_of_ble_eq_true rfl) d_law_398 (fun v w2m hp => ?_)
        obtain ⟨rfl, rfl⟩ := hp
        refine u_top ?_
        refine u_swap ?_
        refine u_icmp_eq hC 578 d_law_401 (by decide) (fun _ => ?_) (fun w => absurd rfl w)
        refine u_iinc hC (nI (6 * (T + 1))) (j := 0) d_law_578 rfl (show nI (6 * T) + nI 6 = nI (6 * (T + 1)) from by rw [nI_add]; congr 1) (by decide) ?_
        refine u_goto hC 18 d_law_581 (by decide) ?_
        exact ih (T + 1) cap1 _ _ w1n w2m (by omega) (by omega) hIn (by omega) (by omega)
      · refine u_tableIn hC (off := 373) 406 d_law_33 (by decide) (by decide) (by decide) (by decide) ?_
        obtain ⟨mc, ms, cap1, rr, w2n, hmc, hms, hc1, CD, CM⟩ := pr_sees (l := l) (D := D) hI hTT (xs (6 * T + 1)) (xs (6 * T + 2)) (xs (6 * T + 3)) (xs (6 * T + 4)) (xs (6 * T + 5))
        refine u_aload_n hC d_law_406 rfl ?_
        refine u_aload_n hC d_law_407 rfl ?_
        refine u_iload_n hC d_law_408 rfl ?_
        refine u_iconst hC (nI 1) d_law_409 (by decide) ?_
        refine u_iadd hC d_law_410 ?_
        refine u_sld hC hX hbl hbA (6 * T + 1) (nI_add _ _) (by omega) (by omega) d_law_411 ?_
        refine u_aload_n hC d_law_412 rfl ?_
        refine u_iload_n hC d_law_413 rfl ?_
        refine u_iconst hC (nI 2) d_law_414 (by decide) ?_
        refine u_iadd hC d_law_415 ?_
        refine u_sld hC hX hbl hbA (6 * T + 2) (nI_add _ _) (by omega) (by omega) d_law_416 ?_
        refine u_aload_n hC d_law_417 rfl ?_
        refine u_iload_n hC d_law_418 rfl ?_
        refine u_iconst hC (nI 3) d_law_419 (by decide) ?_
        refine u_iadd hC d_law_420 ?_
        refine u_sld hC hX hbl hbA (6 * T + 3) (nI_add _ _) (by omega) (by omega) d_law_421 ?_
        refine u_aload_n hC d_law_422 rfl ?_
        refine u_iload_n hC d_law_423 rfl ?_
        refine u_iconst hC (nI 4) d_law_424 (by decide) ?_
        refine u_iadd hC d_law_425 ?_
        refine u_sld hC hX hbl hbA (6 * T + 4) (nI_add _ _) (by omega) (by omega) d_law_426 ?_
        refine u_aload_n hC d_law_427 rfl ?_
        refine u_iload_n hC d_law_428 rfl ?_
        refine u_iconst hC (nI 5) d_law_429 (by decide) ?_
        refine u_iadd hC d_law_430 ?_
        refine u_sld hC hX hbl hbA (6 * T + 5) (nI_add _ _) (by omega) (by omega) d_law_431 ?_
        refine u_callVF hC CD k_W_64 i_D_sees heD rfl ⟨(Nat.le_of_ble_eq_true rfl), (Nat.le_of_ble_eq_true rfl)⟩ ⟨by show kc + mc ≤ 600000; omega, by show ks + ms ≤ 7302250; omega⟩ rfl rfl (Nat.le_of_ble_eq_true rfl) d_law_432 (fun v w1n hp => ?_)
        obtain ⟨rfl, hIn⟩ := hp
        refine u_top ?_
        refine u_swap ?_
        refine u_aload_n hC d_law_435 rfl ?_
        refine u_aload_n hC d_law_436 rfl ?_
        refine u_iload_n hC d_law_437 rfl ?_
        refine u_iconst hC (nI 1) d_law_438 (by decide) ?_
        refine u_iadd hC d_law_439 ?_
        refine u_sld hC hX hbl hbA (6 * T + 1) (nI_add _ _) (by omega) (by omega) d_law_440 ?_
        refine u_aload_n hC d_law_441 rfl ?_
        refine u_iload_n hC d_law_442 rfl ?_
        refine u_iconst hC (nI 2) d_law_443 (by decide) ?_
        refine u_iadd hC d_law_444 ?_
        refine u_sld hC hX hbl hbA (6 * T + 2) (nI_add _ _) (by omega) (by omega) d_law_445 ?_
        refine u_aload_n hC d_law_446 rfl ?_
        refine u_iload_n hC d_law_447 rfl ?_
        refine u_iconst hC (nI 3) d_law_448 (by decide) ?_
        refine u_iadd hC d_law_449 ?_
        refine u_sld hC hX hbl hbA (6 * T + 3) (nI_add _ _) (by omega) (by omega) d_law_450 ?_
        refine u_aload_n hC d_law_451 rfl ?_
        refine u_iload_n hC d_law_452 rfl ?_
        refine u_iconst hC (nI 4) d_law_453 (by decide) ?_
        refine u_iadd hC d_law_454 ?_
        refine u_sld hC hX hbl hbA (6 * T + 4) (nI_add _ _) (by omega) (by omega) d_law_455 ?_
        refine u_aload_n hC d_law_456 rfl ?_
        refine u_iload_n hC d_law_457 rfl ?_
        refine u_iconst hC (nI 5) d_law_458 (by decide) ?_
        refine u_iadd hC d_law_459 ?_
        refine u_sld hC hX hbl hbA (6 * T + 5) (nI_add _ _) (by omega) (by omega) d_law_460 ?_
        refine u_callVF hC CM k_W_68 i_M_sees heM rfl ⟨(Nat.le_of_ble_eq_true rfl), (Nat.le_of_ble_eq_true rfl)⟩ ⟨by show kc + mc + 0 ≤ 600000; omega, by show ks + ms + 0 ≤ 7302250; omega⟩ rfl rfl (Nat.le_of_ble_eq_true rfl) d_law_461 (fun v w2m hp => ?_)
        obtain ⟨rfl, rfl⟩ := hp
        refine u_top ?_
        refine u_swap ?_
        refine u_icmp_eq hC 578 d_law_464 (by decide) (fun _ => ?_) (fun w => absurd rfl w)
        refine u_iinc hC (nI (6 * (T + 1))) (j := 0) d_law_578 rfl (show nI (6 * T) + nI 6 = nI (6 * (T + 1)) from by rw [nI_add]; congr 1) (by decide) ?_
        refine u_goto hC 18 d_law_581 (by decide) ?_
        exact ih (T + 1) cap1 _ _ w1n w2m (by omega) (by omega) hIn (by omega) (by omega)
      · refine u_tableIn hC (off := 436) 469 d_law_33 (by decide) (by decide) (by decide) (by decide) ?_
        obtain ⟨mc, ms, cap1, rr, w2n, hmc, hms, hc1, CD, CM⟩ := pr_ending (l := l) (D := D) hI hTT (xs (6 * T + 1)) (xs (6 * T + 2)) (xs (6 * T + 3))
        refine u_aload_n hC d_law_469 rfl ?_
        refine u_aload_n hC d_law_470 rfl ?_
        refine u_iload_n hC d_law_471 rfl ?_
        refine u_iconst hC (nI 1) d_law_472 (by decide) ?_
        refine u_iadd hC d_law_473 ?_
        refine u_sld hC hX hbl hbA (6 * T + 1) (nI_add _ _) (by omega) (by omega) d_law_474 ?_
        refine u_aload_n hC d_law_475 rfl ?_
        refine u_iload_n hC d_law_476 rfl ?_
        refine u_iconst hC (nI 2) d_law_477 (by decide) ?_
        refine u_iadd hC d_law_478 ?_
        refine u_sld hC hX hbl hbA (6 * T + 2) (nI_add _ _) (by omega) (by omega) d_law_479 ?_
        refine u_aload_n hC d_law_480 rfl ?_
        refine u_iload_n hC d_law_481 rfl ?_
        refine u_iconst hC (nI 3) d_law_482 (by decide) ?_
        refine u_iadd hC d_law_483 ?_
        refine u_sld hC hX hbl hbA (6 * T + 3) (nI_add _ _) (by omega) (by omega) d_law_484 ?_
        refine u_callVF hC CD k_W_69 i_D_ending heD rfl ⟨(Nat.le_of_ble_eq_true rfl), (Nat.le_of_ble_eq_true rfl)⟩ ⟨by show kc + mc ≤ 600000; omega, by show ks + ms ≤ 7302250; omega⟩ rfl rfl (Nat.le_of_ble_eq_true rfl) d_law_485 (fun v w1n hp => ?_)
        obtain ⟨rfl, hIn⟩ := hp
        refine u_top ?_
        refine u_swap ?_
        refine u_aload_n hC d_law_488 rfl ?_
        refine u_aload_n hC d_law_489 rfl ?_
        refine u_iload_n hC d_law_490 rfl ?_
        refine u_iconst hC (nI 1) d_law_491 (by decide) ?_
        refine u_iadd hC d_law_492 ?_
        refine u_sld hC hX hbl hbA (6 * T + 1) (nI_add _ _) (by omega) (by omega) d_law_493 ?_
        refine u_aload_n hC d_law_494 rfl ?_
        refine u_iload_n hC d_law_495 rfl ?_
        refine u_iconst hC (nI 2) d_law_496 (by decide) ?_
        refine u_iadd hC d_law_497 ?_
        refine u_sld hC hX hbl hbA (6 * T + 2) (nI_add _ _) (by omega) (by omega) d_law_498 ?_
        refine u_aload_n hC d_law_499 rfl ?_
        refine u_iload_n hC d_law_500 rfl ?_
        refine u_iconst hC (nI 3) d_law_501 (by decide) ?_
        refine u_iadd hC d_law_502 ?_
        refine u_sld hC hX hbl hbA (6 * T + 3) (nI_add _ _) (by omega) (by omega) d_law_503 ?_
        refine u_callVF hC CM k_W_73 i_M_ending heM rfl ⟨(Nat.le_of_ble_eq_true rfl), (Nat.le_of_ble_eq_true rfl)⟩ ⟨by show kc + mc + 0 ≤ 600000; omega, by show ks + ms + 0 ≤ 7302250; omega⟩ rfl rfl (Nat.le_of_ble_eq_true rfl) d_law_504 (fun v w2m hp => ?_)
        obtain ⟨rfl, rfl⟩ := hp
        refine u_top ?_
        refine u_swap ?_
        refine u_icmp_eq hC 578 d_law_507 (by decide) (fun _ => ?_) (fun w => absurd rfl w)
        refine u_iinc hC (nI (6 * (T + 1))) (j := 0) d_law_578 rfl (show nI (6 * T) + nI 6 = nI (6 * (T + 1)) from by rw [nI_add]; congr 1) (by decide) ?_
        refine u_goto hC 18 d_law_581 (by decide) ?_
        exact ih (T + 1) cap1 _ _ w1n w2m (by omega) (by omega) hIn (by omega) (by omega)
      · refine u_tableIn hC (off := 479) 512 d_law_33 (by decide) (by decide) (by decide) (by decide) ?_
        obtain ⟨mc, ms, cap1, rr, w2n, hmc, hms, hc1, CD, CM⟩ := pr_dead (l := l) (D := D) hI hTT (xs (6 * T + 1)) (xs (6 * T + 2))
        refine u_aload_n hC d_law_512 rfl ?_
        refine u_aload_n hC d_law_513 rfl ?_
        refine u_iload_n hC d_law_514 rfl ?_
        refine u_iconst hC (nI 1) d_law_515 (by decide) ?_
        refine u_iadd hC d_law_516 ?_
        refine u_sld hC hX hbl hbA (6 * T + 1) (nI_add _ _) (by omega) (by omega) d_law_517 ?_
        refine u_aload_n hC d_law_518 rfl ?_
        refine u_iload_n hC d_law_519 rfl ?_
        refine u_iconst hC (nI 2) d_law_520 (by decide) ?_
        refine u_iadd hC d_law_521 ?_
        refine u_sld hC hX hbl hbA (6 * T + 2) (nI_add _ _) (by omega) (by omega) d_law_522 ?_
        refine u_callVF hC CD k_W_74 i_D_dead heD rfl ⟨(Nat.le_of_ble_eq_true rfl), (Nat.le_of_ble_eq_true rfl)⟩ ⟨by show kc + mc ≤ 600000; omega, by show ks + ms ≤ 7302250; omega⟩ rfl rfl (Nat.le_of_ble_eq_true rfl) d_law_523 (fun v w1n hp => ?_)
        obtain ⟨rfl, hIn⟩ := hp
        refine u_top ?_
        refine u_swap ?_
        refine u_aload_n hC d_law_526 rfl ?_
        refine u_aload_n hC d_law_527 rfl ?_
        refine u_iload_n hC d_law_528 rfl ?_
        refine u_iconst hC (nI 1) d_law_529 (by decide) ?_
        refine u_iadd hC d_law_530 ?_
        refine u_sld hC hX hbl hbA (6 * T + 1) (nI_add _ _) (by omega) (by omega) d_law_531 ?_
        refine u_aload_n hC d_law_532 rfl ?_
        refine u_iload_n hC d_law_533 rfl ?_
        refine u_iconst hC (nI 2) d_law_534 (by decide) ?_
        refine u_iadd hC d_law_535 ?_
        refine u_sld hC hX hbl hbA (6 * T + 2) (nI_add _ _) (by omega) (by omega) d_law_536 ?_
        refine u_callVF hC CM k_W_77 i_M_dead heM rfl ⟨(Nat.le_of_ble_eq_true rfl), (Nat.le_of_ble_eq_true rfl)⟩ ⟨by show kc + mc + 0 ≤ 600000; omega, by show ks + ms + 0 ≤ 7302250; omega⟩ rfl rfl (Nat.le_of_ble_eq_true rfl) d_law_537 (fun v w2m hp => ?_)
        obtain ⟨rfl, rfl⟩ := hp
        refine u_top ?_
        refine u_swap ?_
        refine u_icmp_eq hC 578 d_law_540 (by decide) (fun _ => ?_) (fun w => absurd rfl w)
        refine u_iinc hC (nI (6 * (T + 1))) (j := 0) d_law_578 rfl (show nI (6 * T) + nI 6 = nI (6 * (T + 1)) from by rw [nI_add]; congr 1) (by decide) ?_
        refine u_goto hC 18 d_law_581 (by decide) ?_
        exact ih (T + 1) cap1 _ _ w1n w2m (by omega) (by omega) hIn (by omega) (by omega)
      · refine u_tableIn hC (off := 512) 545 d_law_33 (by decide) (by decide) (by decide) (by decide) ?_
        obtain ⟨mc, ms, cap1, rr, w2n, hmc, hms, hc1, CD, CM⟩ := pr_look (l := l) (D := D) hI (xs (6 * T + 1)) (xs (6 * T + 2))
        refine u_aload_n hC d_law_545 rfl ?_
        refine u_aload_n hC d_law_546 rfl ?_
        refine u_iload_n hC d_law_547 rfl ?_
        refine u_iconst hC (nI 1) d_law_548 (by decide) ?_
        refine u_iadd hC d_law_549 ?_
        refine u_sld hC hX hbl hbA (6 * T + 1) (nI_add _ _) (by omega) (by omega) d_law_550 ?_
        refine u_aload_n hC d_law_551 rfl ?_
        refine u_iload_n hC d_law_552 rfl ?_
        refine u_iconst hC (nI 2) d_law_553 (by decide) ?_
        refine u_iadd hC d_law_554 ?_
        refine u_sld hC hX hbl hbA (6 * T + 2) (nI_add _ _) (by omega) (by omega) d_law_555 ?_
        refine u_callVF hC CD k_W_78 i_D_look heD rfl ⟨(Nat.le_of_ble_eq_true rfl), (Nat.le_of_ble_eq_true rfl)⟩ ⟨by show kc + mc ≤ 600000; omega, by show ks + ms ≤ 7302250; omega⟩ rfl rfl (Nat.le_of_ble_eq_true rfl) d_law_556 (fun v w1n hp => ?_)
        obtain ⟨rfl, hIn⟩ := hp
        refine u_top ?_
        refine u_swap ?_
        refine u_aload_n hC d_law_559 rfl ?_
        refine u_aload_n hC d_law_560 rfl ?_
        refine u_iload_n hC d_law_561 rfl ?_
        refine u_iconst hC (nI 1) d_law_562 (by decide) ?_
        refine u_iadd hC d_law_563 ?_
        refine u_sld hC hX hbl hbA (6 * T + 1) (nI_add _ _) (by omega) (by omega) d_law_564 ?_
        refine u_aload_n hC d_law_565 rfl ?_
        refine u_iload_n hC d_law_566 rfl ?_
        refine u_iconst hC (nI 2) d_law_567 (by decide) ?_
        refine u_iadd hC d_law_568 ?_
        refine u_sld hC hX hbl hbA (6 * T + 2) (nI_add _ _) (by omega) (by omega) d_law_569 ?_
        refine u_callVF hC CM k_W_82 i_M_look heM rfl ⟨(Nat.le_of_ble_eq_true rfl), (Nat.le_of_ble_eq_true rfl)⟩ ⟨by show kc + mc + 0 ≤ 600000; omega, by show ks + ms + 0 ≤ 7302250; omega⟩ rfl rfl (Nat.le_of_ble_eq_true rfl) d_law_570 (fun v w2m hp => ?_)
        obtain ⟨rfl, rfl⟩ := hp
        refine u_top ?_
        refine u_swap ?_
        refine u_icmp_eq hC 578 d_law_573 (by decide) (fun _ => ?_) (fun w => absurd rfl w)
        refine u_iinc hC (nI (6 * (T + 1))) (j := 0) d_law_578 rfl (show nI (6 * T) + nI 6 = nI (6 * (T + 1)) from by rw [nI_add]; congr 1) (by decide) ?_
        refine u_goto hC 18 d_law_581 (by decide) ?_
        exact ih (T + 1) cap1 _ _ w1n w2m (by omega) (by omega) hIn (by omega) (by omega)
end
section
set_option maxHeartbeats 4000000 in
set_option maxRecDepth 100000 in
/-- from the entry, for every script of at most 3072 ints, the law comes to its end with true -/
theorem whole_start {p : Program} {e : Env} {s : State} {m : MethodId} {below : List Frame} {meth : Method} {c : Code} (l : Launch) {b L : Nat} {xs : Nat → Int32} (hL : L ≤ 3072) (C0 : lw_At p s m meth c b L xs) : W p l e room_1 s m #[Value.ref b] below meth c s.heap [] 0 0 (lw_Z below #[Value.ref b] s) (entryFrame m ([Value.ref b] : List Value).toArray 4) := by
  obtain ⟨D, κ, z, hC⟩ := lw_ctx C0
  suffices hU : U p l e room_1 s m #[Value.ref b] below meth c 4 D (fun q : Nat => s.heap.size ≤ q) [] 0 0 (lw_Z below #[Value.ref b] s) 0 (lv_args 0 [.ref b]) [] by
    have hl := lv_entry ([.ref b]) (n := 4) (Nat.le_of_ble_eq_true rfl)
    rw [lg_entry_eq]
    exact hU _ hl s.heap [] (fun k q h => by simp at h) ⟨fun i j p q h => by simp at h, fun k q h => by simp at h⟩ va_S.rf
  refine w_new hC n_W_7 (Nat.le_of_ble_eq_true rfl) (Nat.le_of_ble_eq_true rfl) d_law_0 (fun h0 hh0 => ?_)
  refine u_dup hC d_law_3 rfl ?_
  refine u_callI hC (c_D_init (wg_push hh0)) k_W_9 i_D_init rfl ⟨(Nat.le_of_ble_eq_true rfl), (Nat.le_of_ble_eq_true rfl)⟩ ⟨(Nat.le_of_ble_eq_true rfl), (Nat.le_of_ble_eq_true rfl)⟩ rfl rfl (Nat.le_of_ble_eq_true rfl) d_law_4 (fun v w1 hp => ?_)
  obtain ⟨rfl, hs, hl, hK⟩ := hp
  refine u_non ?_
  refine u_astore_n hC d_law_7 (by decide) ?_
  refine w_new hC n_W_10 (Nat.le_of_ble_eq_true rfl) (Nat.le_of_ble_eq_true rfl) d_law_8 (fun b0 hb0 => ?_)
  refine u_dup hC d_law_11 rfl ?_
  refine u_swap ?_
  refine u_callIF hC c_M_init k_W_12 i_M_init rfl ⟨(Nat.le_of_ble_eq_true rfl), (Nat.le_of_ble_eq_true rfl)⟩ ⟨(Nat.le_of_ble_eq_true rfl), (Nat.le_of_ble_eq_true rfl)⟩ rfl rfl (Nat.le_of_ble_eq_true rfl) d_law_12 (fun v w2 hp => ?_)
  obtain ⟨rfl, a, rfl, rfl⟩ := hp
  refine u_non ?_
  refine u_swap ?_
  refine u_astore_n hC d_law_15 (by decide) ?_
  refine u_iconst hC (nI 0) d_law_16 (by decide) ?_
  refine u_istore_n hC d_law_17 (by decide) ?_
  refine u_widen (k' := 100) (n' := 20000) (Nat.le_of_ble_eq_true rfl) (Nat.le_of_ble_eq_true rfl) ?_
  refine law_loop hL C0 hC (L / 6 + 1) 0 0 100 20000 w1 _ (by omega) (by omega) ?_ (by omega) (by omega)
  refine ⟨hs, hl, 0, _, _, _, _, _, _, _, 0, _, _, _, _, _, a, _, _, _, _, _, _, _, _, _, _, hK, by omega, rfl, rfl, ⟨⟨by omega, by omega⟩, fun _ _ _ => rfl, (fun j t _ h => by cases h), (fun j t _ h => by cases h), fun i h => absurd h (Nat.not_lt_zero i), fun i h => absurd h (Nat.not_lt_zero i), (fun j t i _ h => by cases h), (fun j t _ h => by cases h)⟩, fun _ _ => rfl⟩
end
section
set_option maxHeartbeats 4000000 in
theorem lw_walk (l : Launch) (b : Addr) (xs : List Int32) : MetFree l x (headSpec (Jvm.Cond.code x code maxLocals ret :: tables_1) room_1) (lw_P b xs) (fun _ _ _ _ _ => True) lw_Q := by
  refine MetFree.of_bodyS (code := code) (maxLocals := maxLocals) (ret := ret) (by decide) ?_ ?_
  · intro args s m h hn
    obtain ⟨meth, c, h1, h2, h3, h4, h5, h6, -, -⟩ := Cond.code_spec hn (atoms_spec (ws := Jvm.Cond.code x code maxLocals ret :: tables_1) h _ List.mem_cons_self)
    exact ⟨meth, c, h1, h2, h3, h4, h5, h6⟩
  · intro p e s m args below meth c s₁ B hml0 hP _
    obtain ⟨rfl, hx, hbd, hgv⟩ := hP
    obtain ⟨scr, harrAt, hlist, hof, hsmall⟩ := hx
    obtain ⟨hcb, hkn, -, -⟩ := State.arrayAt?_spec harrAt
    have hown : s.vm.findClass R_law = some m.cls := findClass_of_methodNamed B.named
    have hts0 : ∀ c ∈ (Jvm.Cond.code x code maxLocals ret :: tables_1), c.before #[Value.ref b] s = true := atoms_spec (ws := Jvm.Cond.code x code maxLocals ret :: tables_1) B.pre
    have hts : ∀ w ∈ lw_tbl, w.before #[Value.ref b] s = true := k2_hts_sels lw_privs (fun w hw => hts0 w (List.mem_cons_of_mem _ hw)) lw_privs_ok
    have hml : c.maxLocals = 4 := B.maxLocals_eq (hts0 _ List.mem_cons_self)
    have X₀ : Stand p l e room_1 s m #[Value.ref b] below meth c s₁ [] 0 0 := Stand.of_body B
    have hh0 : s₁.heap = s.heap := by rw [B.state]; rfl
    have hsz : scr.slots.size = xs.length := by rw [← Array.length_toList, hlist, List.length_map]
    have hval : ∀ j : Nat, j < xs.length → scr.slots[j]? = some (.int (xs.getD j 0)) := fun j hj => by
      rw [← Array.getElem?_toList, hlist]
      simp [hj]
    have hbl : b < s.heap.size := (Array.getElem?_eq_some_iff.mp hcb).1
    have hX : va_X b xs.length (fun j => xs.getD j 0) s s.heap := ⟨scr, hcb, hof, hkn, hsz, hval⟩
    have K : W p l e room_1 s m #[Value.ref b] below meth c s₁.heap [] 0 0 (lw_Z below #[Value.ref b] s) (entryFrame m ([Value.ref b] : List Value).toArray 4) := by
      rw [hh0]
      exact whole_start l hbd ⟨B.exec, B.bytes, B.returns, hml, hown, hts, hX, hbl, B.notSynchronized, hgv⟩
    obtain ⟨t, a1, o, b1, b2, b3⟩ := K s₁ rfl X₀
    exact ⟨t, o, a1, b1, b2, b3⟩
theorem lw_pre_spec {args : Array Value} {s : State} (h : (Jvm.Cond.and given_1 narrow_1).before args s = true) (hr : rest_1_c.before args s = true) : ∃ (b : Addr) (xs : List Int32), lw_P b xs args s := by
  have hs := flat_of_before _ h
  have hq := flat_of_before _ hr
  have hc : (Cond.count 1).before args s = true := hs _ (by decide +kernel)
  have harr : (Cond.arrayOf (.arg 0) .int).before args s = true := hs _ (by decide +kernel)
  have hle : (Cond.le (.length (.arg 0)) (.int 3072)).before args s = true := hs _ (by decide +kernel)
  have hlen : (Cond.isInt (.length (.arg 0))).before args s = true := hq _ (by decide +kernel)
  have hall : (Cond.all (.arg 0) (.isInt (.elem (.arg 0) (.index 0)))).before args s = true := hq _ (by decide +kernel)
  obtain ⟨b, xs, hb, hx⟩ := State.ints_of_pre rfl harr hlen hall
  have hsm : xs.length < 2 ^ 31 := hx.choose_spec.2.2.2
  have hev : (Term.length (.arg 0)).eval args s none [] s = some (.int xs.length.toInt32) := hx.length_eval hb
  have hv := Cond.le_ints hev (show (Term.int 3072).eval args s none [] s = some (.int 3072) from rfl)
  have hd : xs.length.toInt32 ≤ 3072 := by
    simpa [Cond.before, Cond.holds, hv] using hle
  have hN : xs.length ≤ 3072 := (Int32.ofNat_le_ofNat hsm (by decide)).mp (show Int32.ofNat xs.length ≤ Int32.ofNat 3072 from hd)
  exact ⟨b, xs, Cond.one_arg hc (show args[0]? = some (.ref b) from hb), hx, hN, h⟩
theorem lw_comes (l : Launch) : Comes l x (Jvm.Cond.code x code maxLocals ret :: tables_1) room_1 (fun tb e args s => Calls_1 tb e args s ∧ rest_1 tb e args s ∧ Pre_1 tb e args s)
    (fun _ _ args s o t => lw_Q args s o t) := by
  intro p e ha hc hk s m args below hf hfit hheap happ hpre
  obtain ⟨b, xs, hP⟩ := lw_pre_spec hpre.2.2 hpre.2.1
  obtain ⟨k, o, h1, h2, h3, hQ⟩ := lw_walk l b xs p e ha hc hk s m args below hf ((Spec.applies_iff_loose hf).mp happ).1 hP trivial
  exact ⟨k, o, h1, h2, h3, hQ⟩
theorem lw_frame {s t : State} {o : Outcome} {args : Array Value} (h : Framed s o t [] 600000 7302250) :
    Framed s o t (fieldLocs frame_1_writes args s ++ arrayLocs frame_1_arrays args s ++ staticLocs frame_1_statics s) 600000 7302250 := h
theorem lw_limb (L : Cond) (hL : ∀ (args : Array Value) (s t : State), L.after args s (.returned (some (.int 1))) t = true) :
    ArmFor flags0 classFile x code maxLocals ret World_1 tables_1 room_1 Calls_1 rest_1 Pre_1
      (fun tb e a s o t => postC L tb e a s o t ∧ Framed s o t (fieldLocs frame_1_writes a s ++ arrayLocs frame_1_arrays a s ++ staticLocs frame_1_statics s) 600000 7302250) := by
  intro l _ _ _ p e ha hc hk s m args below hf hfit hheap happ hpre
  obtain ⟨k, o, h1, h2, h3, rfl, hF⟩ := lw_comes l p e ha hc hk s m args below hf hfit hheap happ hpre
  exact ⟨k, _, h1, h2, h3, hL args s _, lw_frame hF⟩
theorem i_vc : Claimed_1_1 ∧ Claimed_1_2 := ⟨lw_limb limb_1_1 (fun args s t => by simp [limb_1_1, Cond.after, Cond.holds, Cond.value]), lw_limb limb_1_2 (fun args s t => Cond.after_iff.mpr (by
  first | (rw [show limb_1_2 = Cond.eq .result (.int 1) from rfl, Cond.eq_ints (x := 1) (y := 1) rfl rfl]; simp; done) | (simp [limb_1_2, Cond.value, Term.eval]; done)))⟩
end
