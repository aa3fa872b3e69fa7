section
-- ===== PART A: goes FIRST, ahead of the names: the tables' words, and 'selects' of the private methods out of them =====
/-- a private method of a class that the tables say can be made, by its rows of tables_1 -/
def lw_okq (q : MethodName × Nat) : Prop := (q.1.cls ≠ "java/lang/invoke/MethodHandle" ∧ q.1.cls ≠ "java/lang/invoke/VarHandle") ∧ Cond.instantiable q.1.cls q.2 ∈ tables_1 ∧ Cond.privateMethod q.1 ∈ tables_1 ∧ Cond.instanceMethod q.1 ∈ tables_1
theorem lw_p0 : lw_okq (⟨"SnapshotDesk", "transactionOf", "(I)LSnapshotDesk$Transaction;"⟩, 3) := ⟨⟨by decide +kernel, by decide +kernel⟩, List.mem_of_getElem? (i := 15) (by decide +kernel), List.mem_of_getElem? (i := 99) (by decide +kernel), List.mem_of_getElem? (i := 100) (by decide +kernel)⟩
theorem lw_p1 : lw_okq (⟨"SnapshotDesk", "giveMissingNumbers", "(LSnapshotDesk$Transaction;)V"⟩, 3) := ⟨⟨by decide +kernel, by decide +kernel⟩, List.mem_of_getElem? (i := 15) (by decide +kernel), List.mem_of_getElem? (i := 118) (by decide +kernel), List.mem_of_getElem? (i := 119) (by decide +kernel)⟩
theorem lw_p2 : lw_okq (⟨"java/util/ArrayList", "add", "(Ljava/lang/Object;[Ljava/lang/Object;I)V"⟩, 3) := ⟨⟨by decide +kernel, by decide +kernel⟩, List.mem_of_getElem? (i := 25) (by decide +kernel), List.mem_of_getElem? (i := 150) (by decide +kernel), List.mem_of_getElem? (i := 151) (by decide +kernel)⟩
theorem lw_p3 : lw_okq (⟨"java/util/ArrayList", "grow", "()[Ljava/lang/Object;"⟩, 3) := ⟨⟨by decide +kernel, by decide +kernel⟩, List.mem_of_getElem? (i := 25) (by decide +kernel), List.mem_of_getElem? (i := 154) (by decide +kernel), List.mem_of_getElem? (i := 155) (by decide +kernel)⟩
theorem lw_p4 : lw_okq (⟨"java/util/ArrayList", "grow", "(I)[Ljava/lang/Object;"⟩, 3) := ⟨⟨by decide +kernel, by decide +kernel⟩, List.mem_of_getElem? (i := 25) (by decide +kernel), List.mem_of_getElem? (i := 158) (by decide +kernel), List.mem_of_getElem? (i := 159) (by decide +kernel)⟩
theorem lw_p5 : lw_okq (⟨"SnapshotDesk", "abortNumbersFrom", "(LSnapshotDesk$Transaction;I)V"⟩, 3) := ⟨⟨by decide +kernel, by decide +kernel⟩, List.mem_of_getElem? (i := 15) (by decide +kernel), List.mem_of_getElem? (i := 236) (by decide +kernel), List.mem_of_getElem? (i := 237) (by decide +kernel)⟩
theorem lw_p6 : lw_okq (⟨"SnapshotDesk", "commitRunningNumbers", "(LSnapshotDesk$Transaction;)V"⟩, 3) := ⟨⟨by decide +kernel, by decide +kernel⟩, List.mem_of_getElem? (i := 15) (by decide +kernel), List.mem_of_getElem? (i := 244) (by decide +kernel), List.mem_of_getElem? (i := 245) (by decide +kernel)⟩
theorem lw_p7 : lw_okq (⟨"SnapshotDesk", "find", "(I)LSnapshotDesk$Given;"⟩, 3) := ⟨⟨by decide +kernel, by decide +kernel⟩, List.mem_of_getElem? (i := 15) (by decide +kernel), List.mem_of_getElem? (i := 261) (by decide +kernel), List.mem_of_getElem? (i := 262) (by decide +kernel)⟩
theorem lw_p8 : lw_okq (⟨"SnapshotDesk", "isInEveryLiveSnapshot", "(LSnapshotDesk$Given;)Z"⟩, 3) := ⟨⟨by decide +kernel, by decide +kernel⟩, List.mem_of_getElem? (i := 15) (by decide +kernel), List.mem_of_getElem? (i := 288) (by decide +kernel), List.mem_of_getElem? (i := 289) (by decide +kernel)⟩
theorem lw_p9 : lw_okq (⟨"SnapshotDeskModel", "runs", "(I)Z"⟩, 12) := ⟨⟨by decide +kernel, by decide +kernel⟩, List.mem_of_getElem? (i := 299) (by decide +kernel), List.mem_of_getElem? (i := 351) (by decide +kernel), List.mem_of_getElem? (i := 352) (by decide +kernel)⟩
theorem lw_p10 : lw_okq (⟨"SnapshotDeskModel", "isFrom", "(III)Z"⟩, 12) := ⟨⟨by decide +kernel, by decide +kernel⟩, List.mem_of_getElem? (i := 299) (by decide +kernel), List.mem_of_getElem? (i := 367) (by decide +kernel), List.mem_of_getElem? (i := 368) (by decide +kernel)⟩
theorem lw_p11 : lw_okq (⟨"SnapshotDeskModel", "ends", "(II)I"⟩, 12) := ⟨⟨by decide +kernel, by decide +kernel⟩, List.mem_of_getElem? (i := 299) (by decide +kernel), List.mem_of_getElem? (i := 379) (by decide +kernel), List.mem_of_getElem? (i := 380) (by decide +kernel)⟩
theorem lw_p12 : lw_okq (⟨"SnapshotDeskModel", "isGiven", "(I)Z"⟩, 12) := ⟨⟨by decide +kernel, by decide +kernel⟩, List.mem_of_getElem? (i := 299) (by decide +kernel), List.mem_of_getElem? (i := 396) (by decide +kernel), List.mem_of_getElem? (i := 397) (by decide +kernel)⟩
theorem lw_p13 : lw_okq (⟨"SnapshotDeskModel", "isSeen", "(III)Z"⟩, 12) := ⟨⟨by decide +kernel, by decide +kernel⟩, List.mem_of_getElem? (i := 299) (by decide +kernel), List.mem_of_getElem? (i := 412) (by decide +kernel), List.mem_of_getElem? (i := 413) (by decide +kernel)⟩
def lw_privs_1 : List (MethodName × Nat) := [(⟨"SnapshotDesk", "transactionOf", "(I)LSnapshotDesk$Transaction;"⟩, 3), (⟨"SnapshotDesk", "giveMissingNumbers", "(LSnapshotDesk$Transaction;)V"⟩, 3), (⟨"java/util/ArrayList", "add", "(Ljava/lang/Object;[Ljava/lang/Object;I)V"⟩, 3), (⟨"java/util/ArrayList", "grow", "()[Ljava/lang/Object;"⟩, 3), (⟨"java/util/ArrayList", "grow", "(I)[Ljava/lang/Object;"⟩, 3), (⟨"SnapshotDesk", "abortNumbersFrom", "(LSnapshotDesk$Transaction;I)V"⟩, 3), (⟨"SnapshotDesk", "commitRunningNumbers", "(LSnapshotDesk$Transaction;)V"⟩, 3), (⟨"SnapshotDesk", "find", "(I)LSnapshotDesk$Given;"⟩, 3), (⟨"SnapshotDesk", "isInEveryLiveSnapshot", "(LSnapshotDesk$Given;)Z"⟩, 3), (⟨"SnapshotDeskModel", "runs", "(I)Z"⟩, 12), (⟨"SnapshotDeskModel", "isFrom", "(III)Z"⟩, 12), (⟨"SnapshotDeskModel", "ends", "(II)I"⟩, 12), (⟨"SnapshotDeskModel", "isGiven", "(I)Z"⟩, 12), (⟨"SnapshotDeskModel", "isSeen", "(III)Z"⟩, 12)]
theorem lw_r1 : ∀ q ∈ lw_privs_1, lw_okq q := List.forall_mem_cons.mpr ⟨lw_p0, List.forall_mem_cons.mpr ⟨lw_p1, List.forall_mem_cons.mpr ⟨lw_p2, List.forall_mem_cons.mpr ⟨lw_p3, List.forall_mem_cons.mpr ⟨lw_p4, List.forall_mem_cons.mpr ⟨lw_p5, List.forall_mem_cons.mpr ⟨lw_p6, List.forall_mem_cons.mpr ⟨lw_p7, List.forall_mem_cons.mpr ⟨lw_p8, List.forall_mem_cons.mpr ⟨lw_p9, List.forall_mem_cons.mpr ⟨lw_p10, List.forall_mem_cons.mpr ⟨lw_p11, List.forall_mem_cons.mpr ⟨lw_p12, List.forall_mem_cons.mpr ⟨lw_p13, fun _ h => absurd h List.not_mem_nil⟩⟩⟩⟩⟩⟩⟩⟩⟩⟩⟩⟩⟩⟩
def lw_privs : List (MethodName × Nat) := lw_privs_1
def lw_tbl : List Cond := k2_sels lw_privs ++ tables_1
theorem lw_privs_ok : ∀ q ∈ lw_privs, lw_okq q := lw_r1
/-- the words that a call carries along -/
def gw : List Cond := lw_tbl.filter goodWord
theorem gw_in {w : Cond} (h : w ∈ lw_tbl) (hg : goodWord w = true) : w ∈ gw := List.mem_filter.mpr ⟨h, hg⟩
theorem gw_good : GoodIn gw gw := fun w h => ⟨h, good_of_word (List.mem_filter.mp h).2⟩
end
section
def R_M : String := "SnapshotDeskModel"
def R_D : String := "SnapshotDesk"
def R_G : String := "SnapshotDesk$Given"
def R_T : String := "SnapshotDesk$Transaction"
def R_L : String := "java/util/ArrayList"
def R_AL : String := "java/util/AbstractList"
def R_AC : String := "java/util/AbstractCollection"
def R_O : String := "java/util/Objects"
def R_P : String := "jdk/internal/util/Preconditions"
def R_AS : String := "jdk/internal/util/ArraysSupport"
def R_AR : String := "java/util/Arrays"
def R_W : String := "SnapshotDeskLaw"
def F_M : u_T := fun k => match k with
  | 0 => ("SnapshotDeskModel", "given", "I", false)
  | 1 => ("SnapshotDeskModel", "commits", "I", false)
  | 2 => ("SnapshotDeskModel", "states", "[I", true)
  | 3 => ("SnapshotDeskModel", "belongs", "[I", true)
  | 4 => ("SnapshotDeskModel", "roots", "[I", true)
  | 5 => ("SnapshotDeskModel", "places", "[I", true)
  | 6 => ("SnapshotDeskModel", "has", "[Z", true)
  | 7 => ("SnapshotDeskModel", "modes", "[I", true)
  | 8 => ("SnapshotDeskModel", "commands", "[I", true)
  | 9 => ("SnapshotDeskModel", "tops", "[I", true)
  | 10 => ("SnapshotDeskModel", "snaps", "[I", true)
  | _ => ("SnapshotDeskModel", "levels", "[I", true)
def ty_M : Nat → FieldType := fun k => match k with
  | 0 => .int
  | 1 => .int
  | 2 => .array .int
  | 3 => .array .int
  | 4 => .array .int
  | 5 => .array .int
  | 6 => .array .boolean
  | 7 => .array .int
  | 8 => .array .int
  | 9 => .array .int
  | 10 => .array .int
  | _ => .array .int
theorem nm_M : ∀ a, a < 12 → ∀ b, b < 12 → a ≠ b → (F_M a).2.1 ≠ (F_M b).2.1 := by decide +kernel
theorem tk_M : ∀ k, k < 12 → parseFieldDescriptor (F_M k).2.2.1 = some (ty_M k) := by decide +kernel
def F_D : u_T := fun k => match k with
  | 0 => ("SnapshotDesk", "sessions", "[LSnapshotDesk$Transaction;", true)
  | 1 => ("SnapshotDesk", "given", "Ljava/util/ArrayList;", true)
  | _ => ("SnapshotDesk", "commits", "I", false)
def ty_D : Nat → FieldType := fun k => match k with
  | 0 => .array (.object "SnapshotDesk$Transaction")
  | 1 => .object "java/util/ArrayList"
  | _ => .int
theorem nm_D : ∀ a, a < 3 → ∀ b, b < 3 → a ≠ b → (F_D a).2.1 ≠ (F_D b).2.1 := by decide +kernel
theorem tk_D : ∀ k, k < 3 → parseFieldDescriptor (F_D k).2.2.1 = some (ty_D k) := by decide +kernel
def F_G : u_T := fun k => match k with
  | 0 => ("SnapshotDesk$Given", "rootNumber", "I", true)
  | 1 => ("SnapshotDesk$Given", "level", "I", false)
  | 2 => ("SnapshotDesk$Given", "condition", "I", false)
  | _ => ("SnapshotDesk$Given", "commitPlace", "I", false)
def ty_G : Nat → FieldType := fun k => match k with
  | 0 => .int
  | 1 => .int
  | 2 => .int
  | _ => .int
theorem nm_G : ∀ a, a < 4 → ∀ b, b < 4 → a ≠ b → (F_G a).2.1 ≠ (F_G b).2.1 := by decide +kernel
theorem tk_G : ∀ k, k < 4 → parseFieldDescriptor (F_G k).2.2.1 = some (ty_G k) := by decide +kernel
def F_T : u_T := fun k => match k with
  | 0 => ("SnapshotDesk$Transaction", "mode", "I", true)
  | 1 => ("SnapshotDesk$Transaction", "numbers", "[I", true)
  | 2 => ("SnapshotDesk$Transaction", "top", "I", false)
  | 3 => ("SnapshotDesk$Transaction", "command", "I", false)
  | _ => ("SnapshotDesk$Transaction", "snapshot", "I", false)
def ty_T : Nat → FieldType := fun k => match k with
  | 0 => .int
  | 1 => .array .int
  | 2 => .int
  | 3 => .int
  | _ => .int
theorem nm_T : ∀ a, a < 5 → ∀ b, b < 5 → a ≠ b → (F_T a).2.1 ≠ (F_T b).2.1 := by decide +kernel
theorem tk_T : ∀ k, k < 5 → parseFieldDescriptor (F_T k).2.2.1 = some (ty_T k) := by decide +kernel
def F_L : u_T := fun k => match k with
  | 0 => ("java/util/AbstractList", "modCount", "I", false)
  | 1 => ("java/util/ArrayList", "elementData", "[Ljava/lang/Object;", false)
  | _ => ("java/util/ArrayList", "size", "I", false)
def ty_L : Nat → FieldType := fun k => match k with
  | 0 => .int
  | 1 => .array (.object "java/lang/Object")
  | _ => .int
theorem nm_L : ∀ a, a < 3 → ∀ b, b < 3 → a ≠ b → (F_L a).2.1 ≠ (F_L b).2.1 := by decide +kernel
theorem tk_L : ∀ k, k < 3 → parseFieldDescriptor (F_L k).2.2.1 = some (ty_L k) := by decide +kernel
abbrev cls : List vw_C := [(R_M, F_M, 12), (R_D, F_D, 3), (R_G, F_G, 4), (R_T, F_T, 5), (R_L, F_L, 3)]
abbrev gk (κ : Nat → ClassId) : List (ClassId × FieldType) := [(κ 0, .int), (κ 1, .boolean), (κ 2, .object "SnapshotDesk$Transaction"), (κ 3, .object "java/lang/Object")]
def mw (κ : Nat → ClassId) (a : Nat → Nat) (g cm : Int32) (st be ro pl ha mo co to sn le : Nat → Int32) : va_W := [(a 0, .inr (0, [.int g, .int cm, .ref (a 1), .ref (a 2), .ref (a 3), .ref (a 4), .ref (a 5), .ref (a 6), .ref (a 7), .ref (a 8), .ref (a 9), .ref (a 10)])), (a 1, .inl (κ 0, 4001, .inl st)), (a 2, .inl (κ 0, 4001, .inl be)), (a 3, .inl (κ 0, 4001, .inl ro)), (a 4, .inl (κ 0, 4001, .inl pl)), (a 5, .inl (κ 1, 6, .inl ha)), (a 6, .inl (κ 0, 6, .inl mo)), (a 7, .inl (κ 0, 6, .inl co)), (a 8, .inl (κ 0, 6, .inl to)), (a 9, .inl (κ 0, 6, .inl sn)), (a 10, .inl (κ 0, 48, .inl le))]
/-! What stays as it was from the start: the list's empty array (z.1), the mirror of the array of objects (z.2), the words that no call carries along by itself. -/
def zf (z : Nat × Nat) (A : Nat → Prop) (U : State) (H : Heap) : Prop := va_Z "java/util/ArrayList" "DEFAULTCAPACITY_EMPTY_ELEMENTDATA" "[Ljava/lang/Object;" (.ref z.1) A U H ∧ va_T (.object "java/lang/Object") z.1 0 (fun _ => .null) A U H ∧ va_Mi "[Ljava/lang/Object;" z.2 U ∧ va_Nw (.castable R_G "java/lang/Object") U ∧ va_AO "SnapshotDesk$Transaction" U ∧ va_AO "java/lang/Object" U ∧ va_Dc U
theorem cast_moved {C T : String} {u U : State} (hvm : u.vm.Alike U.vm) (h : va_Nw (.castable C T) u) : va_Nw (.castable C T) U := va_tabs rfl (rfl : (u.setVm U.vm).vm = U.vm) (by rw [Cond.castable_setVm hvm]; exact h)
theorem zf.moved {z : Nat × Nat} {A : Nat → Prop} {u U : State} {H : Heap} (hvm : u.vm.Alike U.vm) (h : zf z A u H) : zf z A U H := ⟨h.1.moved hvm, h.2.1.moved hvm, h.2.2.1.moved hvm, cast_moved hvm h.2.2.2.1, h.2.2.2.2.1.moved hvm, h.2.2.2.2.2.1.moved hvm, h.2.2.2.2.2.2.moved hvm⟩
theorem zf.kept {z : Nat × Nat} {A : Nat → Prop} {U : State} {H H1 : Heap} (h : zf z A U H) (hq : ∀ a : Nat, a < H.size → ¬ A a → H1[a]? = H[a]?) : zf z A U H1 := ⟨h.1.kept hq, h.2.1.kept hq, h.2.2⟩
theorem zf.narrow {z : Nat × Nat} {A B : Nat → Prop} {U : State} {H : Heap} (h : zf z A U H) (hAB : ∀ q, B q → A q) : zf z B U H := ⟨h.1.narrow hAB, h.2.1.narrow hAB, h.2.2⟩
end
section
abbrev u_G : Type := List (ClassId × FieldType) × Nat × Nat
/-! The walk's own judgement. V: the machine at a frame, over a world ws; U: the same with the locals as a list. Rows: one an instruction, lifted from the kit's rows. -/
def u_lk (L : List (Nat × Value)) (i : Nat) : Option Value := match L with
  | [] => none
  | q :: r => if q.1 == i then some q.2 else u_lk r i
theorem u_lk_mem {v : Value} {i : Nat} : ∀ {L : List (Nat × Value)}, u_lk L i = some v → (i, v) ∈ L
  | [], h => by simp [u_lk] at h
  | q :: r, h => by
    unfold u_lk at h
    by_cases c : (q.1 == i) = true
    · rw [if_pos c] at h
      have h1 : q.1 = i := by simpa using c
      have h2 : q.2 = v := Option.some.inj h
      have h3 : q = (i, v) := by rw [← h1, ← h2]
      rw [h3]
      exact List.mem_cons_self
    · rw [if_neg c] at h
      exact List.mem_cons_of_mem _ (u_lk_mem h)
theorem u_lk_ok {ls : Array Slot} {nL i : Nat} {L : List (Nat × Value)} {v : Value} (h : lv_has ls nL L) (hx : u_lk L i = some v) : ls[i]? = some (.val v) := h.2.2 (i, v) (u_lk_mem hx)
abbrev u_st (L : List (Nat × Value)) (i : Nat) (v : Value) : List (Nat × Value) := (i, v) :: L.filter (fun q => !(q.1 == i) && !(q.1 + 1 == i && q.2.category == 2))
/-- what stays the same through a method's walk -/
def vx (p : Program) (s : State) (m : MethodId) (args : Array Value) (meth : Method) (c : Code) (cc : ByteArray) (nL : Nat) (own : String) (D : va_G) (G : u_G) (A : Nat → Prop) : Prop :=
  CallFix p m c cc nL s args gw own ∧ va_K D cls G.1 s ∧ (∀ q, s.heap.size ≤ q → A q) ∧ zf G.2 A s s.heap ∧ meth.locks = false
def V (p : Program) (l : Launch) (e : Env) (R : Room) (s : State) (m : MethodId) (args : Array Value) (below : List Frame) (meth : Method) (c : Code) (D : va_G) (A : Nat → Prop) (ws : va_W) (k n : Nat) (Q : State → Prop) (g : JFrame) : Prop :=
  ∀ (H : Heap) (locs : List Loc), va_P D cls ws H → va_D A ws → va_S A s.heap H locs → W p l e R s m args below meth c H locs k n Q g
def U (p : Program) (l : Launch) (e : Env) (R : Room) (s : State) (m : MethodId) (args : Array Value) (below : List Frame) (meth : Method) (c : Code) (nL : Nat) (D : va_G) (A : Nat → Prop) (ws : va_W) (k n : Nat) (Q : State → Prop) (pc : Nat) (L : List (Nat × Value)) (st : List Value) : Prop :=
  ∀ ls : Array Slot, lv_has ls nL L → V p l e R s m args below meth c D A ws k n Q (F0 m pc ls st)
section VL
variable {p : Program} {l : Launch} {e : Env} {R : Room} {s : State} {m : MethodId} {args : Array Value} {below : List Frame} {meth : Method} {c : Code} {k n : Nat} {Q : State → Prop}
variable {cc : ByteArray} {nL : Nat} {own : String} {D : va_G} {G : u_G} {A : Nat → Prop} {pc : Nat} {L : List (Nat × Value)} {st : List Value} {ws : va_W}
theorem u_iconst (hC : vx p s m args meth c cc nL own D G A) {z : Int} (v : Int32) (d : decode cc pc = .ok (.iconst z, 1)) (hv : Int32.ofInt z = v) (kk : U p l e R s m args below meth c nL D A ws k n Q (pc + 1) (L) (.int v :: st)) : U p l e R s m args below meth c nL D A ws k n Q (pc) (L) (st) := by
  intro ls hl H locs hP hD hS
  exact lv_iconst hC.1.1 hC.1.2.1 d hv (kk ls hl H locs hP hD hS)
theorem u_bipush (hC : vx p s m args meth c cc nL own D G A) {z : Int} (v : Int32) (d : decode cc pc = .ok (.bipush z, 2)) (hv : (Int8.ofInt z).toInt32 = v) (kk : U p l e R s m args below meth c nL D A ws k n Q (pc + 2) (L) (.int v :: st)) : U p l e R s m args below meth c nL D A ws k n Q (pc) (L) (st) := by
  intro ls hl H locs hP hD hS
  exact lv_bipush hC.1.1 hC.1.2.1 d hv (kk ls hl H locs hP hD hS)
theorem u_sipush (hC : vx p s m args meth c cc nL own D G A) {z : Int} (v : Int32) (d : decode cc pc = .ok (.sipush z, 3)) (hv : (Int16.ofInt z).toInt32 = v) (kk : U p l e R s m args below meth c nL D A ws k n Q (pc + 3) (L) (.int v :: st)) : U p l e R s m args below meth c nL D A ws k n Q (pc) (L) (st) := by
  intro ls hl H locs hP hD hS
  exact lv_sipush hC.1.1 hC.1.2.1 d hv (kk ls hl H locs hP hD hS)
theorem u_iload_n (hC : vx p s m args meth c cc nL own D G A) {i : Fin 4} {x : Int32} (d : decode cc pc = .ok (.iload_n i, 1)) (hx : u_lk L (i : Nat) = some (.int x)) (kk : U p l e R s m args below meth c nL D A ws k n Q (pc + 1) (L) (.int x :: st)) : U p l e R s m args below meth c nL D A ws k n Q (pc) (L) (st) := by
  intro ls hl H locs hP hD hS
  exact lv_iload_n hC.1.1 hC.1.2.1 d rfl (u_lk_ok hl hx) (kk ls hl H locs hP hD hS)
theorem u_iload (hC : vx p s m args meth c cc nL own D G A) {i : Nat} {x : Int32} (d : decode cc pc = .ok (.iload i, 2)) (hx : u_lk L i = some (.int x)) (kk : U p l e R s m args below meth c nL D A ws k n Q (pc + 2) (L) (.int x :: st)) : U p l e R s m args below meth c nL D A ws k n Q (pc) (L) (st) := by
  intro ls hl H locs hP hD hS
  exact lv_iload hC.1.1 hC.1.2.1 d (u_lk_ok hl hx) (kk ls hl H locs hP hD hS)
theorem u_aload_n (hC : vx p s m args meth c cc nL own D G A) {i : Fin 4} {x : Nat} (d : decode cc pc = .ok (.aload_n i, 1)) (hx : u_lk L (i : Nat) = some (.ref x)) (kk : U p l e R s m args below meth c nL D A ws k n Q (pc + 1) (L) (.ref x :: st)) : U p l e R s m args below meth c nL D A ws k n Q (pc) (L) (st) := by
  intro ls hl H locs hP hD hS
  exact lv_aload_n hC.1.1 hC.1.2.1 d rfl (u_lk_ok hl hx) (kk ls hl H locs hP hD hS)
theorem u_aload (hC : vx p s m args meth c cc nL own D G A) {i : Nat} {x : Nat} (d : decode cc pc = .ok (.aload i, 2)) (hx : u_lk L i = some (.ref x)) (kk : U p l e R s m args below meth c nL D A ws k n Q (pc + 2) (L) (.ref x :: st)) : U p l e R s m args below meth c nL D A ws k n Q (pc) (L) (st) := by
  intro ls hl H locs hP hD hS
  exact lv_aload hC.1.1 hC.1.2.1 d (u_lk_ok hl hx) (kk ls hl H locs hP hD hS)
theorem u_aload_nN (hC : vx p s m args meth c cc nL own D G A) {i : Fin 4} (d : decode cc pc = .ok (.aload_n i, 1)) (hx : u_lk L (i : Nat) = some .null) (kk : U p l e R s m args below meth c nL D A ws k n Q (pc + 1) (L) (.null :: st)) : U p l e R s m args below meth c nL D A ws k n Q (pc) (L) (st) := by
  intro ls hl H locs hP hD hS
  exact lv_aload_nN hC.1.1 hC.1.2.1 d rfl (u_lk_ok hl hx) (kk ls hl H locs hP hD hS)
theorem u_aloadN (hC : vx p s m args meth c cc nL own D G A) {i : Nat} (d : decode cc pc = .ok (.aload i, 2)) (hx : u_lk L i = some .null) (kk : U p l e R s m args below meth c nL D A ws k n Q (pc + 2) (L) (.null :: st)) : U p l e R s m args below meth c nL D A ws k n Q (pc) (L) (st) := by
  intro ls hl H locs hP hD hS
  exact lv_aloadN hC.1.1 hC.1.2.1 d (u_lk_ok hl hx) (kk ls hl H locs hP hD hS)
theorem u_istore_n (hC : vx p s m args meth c cc nL own D G A) {i : Fin 4} {x : Int32} (d : decode cc pc = .ok (.istore_n i, 1)) (hn : (i : Nat) < nL) (kk : U p l e R s m args below meth c nL D A ws k n Q (pc + 1) (u_st L (i : Nat) (.int x)) (st)) : U p l e R s m args below meth c nL D A ws k n Q (pc) (L) (.int x :: st) := by
  intro ls hl H locs hP hD hS
  exact lv_istore_n hC.1.1 hC.1.2.1 d rfl hl hn rfl (fun ls' hl' => kk ls' hl' H locs hP hD hS)
theorem u_istore (hC : vx p s m args meth c cc nL own D G A) {i : Nat} {x : Int32} (d : decode cc pc = .ok (.istore i, 2)) (hn : i < nL) (kk : U p l e R s m args below meth c nL D A ws k n Q (pc + 2) (u_st L i (.int x)) (st)) : U p l e R s m args below meth c nL D A ws k n Q (pc) (L) (.int x :: st) := by
  intro ls hl H locs hP hD hS
  exact lv_istore hC.1.1 hC.1.2.1 d hl hn rfl (fun ls' hl' => kk ls' hl' H locs hP hD hS)
theorem u_astore_n (hC : vx p s m args meth c cc nL own D G A) {i : Fin 4} {x : Nat} (d : decode cc pc = .ok (.astore_n i, 1)) (hn : (i : Nat) < nL) (kk : U p l e R s m args below meth c nL D A ws k n Q (pc + 1) (u_st L (i : Nat) (.ref x)) (st)) : U p l e R s m args below meth c nL D A ws k n Q (pc) (L) (.ref x :: st) := by
  intro ls hl H locs hP hD hS
  exact lv_astore_n hC.1.1 hC.1.2.1 d rfl hl hn rfl (fun ls' hl' => kk ls' hl' H locs hP hD hS)
theorem u_astore (hC : vx p s m args meth c cc nL own D G A) {i : Nat} {x : Nat} (d : decode cc pc = .ok (.astore i, 2)) (hn : i < nL) (kk : U p l e R s m args below meth c nL D A ws k n Q (pc + 2) (u_st L i (.ref x)) (st)) : U p l e R s m args below meth c nL D A ws k n Q (pc) (L) (.ref x :: st) := by
  intro ls hl H locs hP hD hS
  exact lv_astore hC.1.1 hC.1.2.1 d hl hn rfl (fun ls' hl' => kk ls' hl' H locs hP hD hS)
theorem u_astore_nN (hC : vx p s m args meth c cc nL own D G A) {i : Fin 4}  (d : decode cc pc = .ok (.astore_n i, 1)) (hn : (i : Nat) < nL) (kk : U p l e R s m args below meth c nL D A ws k n Q (pc + 1) (u_st L (i : Nat) (.null)) (st)) : U p l e R s m args below meth c nL D A ws k n Q (pc) (L) (.null :: st) := by
  intro ls hl H locs hP hD hS
  exact lv_astore_nN hC.1.1 hC.1.2.1 d rfl hl hn rfl (fun ls' hl' => kk ls' hl' H locs hP hD hS)
theorem u_astoreN (hC : vx p s m args meth c cc nL own D G A) {i : Nat}  (d : decode cc pc = .ok (.astore i, 2)) (hn : i < nL) (kk : U p l e R s m args below meth c nL D A ws k n Q (pc + 2) (u_st L i (.null)) (st)) : U p l e R s m args below meth c nL D A ws k n Q (pc) (L) (.null :: st) := by
  intro ls hl H locs hP hD hS
  exact lv_astoreN hC.1.1 hC.1.2.1 d hl hn rfl (fun ls' hl' => kk ls' hl' H locs hP hD hS)
theorem u_iinc (hC : vx p s m args meth c cc nL own D G A) {i j : Nat} {z : Int} {x : Int32} (v : Int32) (d : decode cc pc = .ok (.iinc i z, 3)) (hj : L[j]? = some (i, .int x)) (hv : x + Int32.ofInt z = v) (hn : i < nL) (kk : U p l e R s m args below meth c nL D A ws k n Q (pc + 3) (u_st L i (.int v)) (st)) : U p l e R s m args below meth c nL D A ws k n Q (pc) (L) (st) := by
  intro ls hl H locs hP hD hS
  exact lv_iinc hC.1.1 hC.1.2.1 d hl hj hv hn rfl (fun ls' hl' => kk ls' hl' H locs hP hD hS)
theorem u_iadd (hC : vx p s m args meth c cc nL own D G A) {x y : Int32} (d : decode cc pc = .ok (.iadd, 1)) (kk : U p l e R s m args below meth c nL D A ws k n Q (pc + 1) (L) (.int (x + y) :: st)) : U p l e R s m args below meth c nL D A ws k n Q (pc) (L) (.int y :: .int x :: st) := by
  intro ls hl H locs hP hD hS
  exact lv_iadd hC.1.1 hC.1.2.1 d (kk ls hl H locs hP hD hS)
theorem u_isub (hC : vx p s m args meth c cc nL own D G A) {x y : Int32} (d : decode cc pc = .ok (.isub, 1)) (kk : U p l e R s m args below meth c nL D A ws k n Q (pc + 1) (L) (.int (x - y) :: st)) : U p l e R s m args below meth c nL D A ws k n Q (pc) (L) (.int y :: .int x :: st) := by
  intro ls hl H locs hP hD hS
  exact lv_isub hC.1.1 hC.1.2.1 d (kk ls hl H locs hP hD hS)
theorem u_imul (hC : vx p s m args meth c cc nL own D G A) {x y : Int32} (d : decode cc pc = .ok (.imul, 1)) (kk : U p l e R s m args below meth c nL D A ws k n Q (pc + 1) (L) (.int (x * y) :: st)) : U p l e R s m args below meth c nL D A ws k n Q (pc) (L) (.int y :: .int x :: st) := by
  intro ls hl H locs hP hD hS
  exact lv_imul hC.1.1 hC.1.2.1 d (kk ls hl H locs hP hD hS)
theorem u_iand (hC : vx p s m args meth c cc nL own D G A) {x y : Int32} (d : decode cc pc = .ok (.iand, 1)) (kk : U p l e R s m args below meth c nL D A ws k n Q (pc + 1) (L) (.int (x &&& y) :: st)) : U p l e R s m args below meth c nL D A ws k n Q (pc) (L) (.int y :: .int x :: st) := by
  intro ls hl H locs hP hD hS
  exact lv_iand hC.1.1 hC.1.2.1 d (kk ls hl H locs hP hD hS)
theorem u_ishr (hC : vx p s m args meth c cc nL own D G A) {x y : Int32} (d : decode cc pc = .ok (.ishr, 1)) (kk : U p l e R s m args below meth c nL D A ws k n Q (pc + 1) (L) (.int (x >>> (y &&& 31)) :: st)) : U p l e R s m args below meth c nL D A ws k n Q (pc) (L) (.int y :: .int x :: st) := by
  intro ls hl H locs hP hD hS
  exact lv_ishr hC.1.1 hC.1.2.1 d (kk ls hl H locs hP hD hS)
theorem u_idiv (hC : vx p s m args meth c cc nL own D G A) {x y : Int32} (d : decode cc pc = .ok (.idiv, 1)) (hne : ¬ y = 0) (kk : U p l e R s m args below meth c nL D A ws k n Q (pc + 1) (L) (.int (x / y) :: st)) : U p l e R s m args below meth c nL D A ws k n Q (pc) (L) (.int y :: .int x :: st) := by
  intro ls hl H locs hP hD hS
  exact lv_idiv hC.1.1 hC.1.2.1 d hne (kk ls hl H locs hP hD hS)
theorem u_irem (hC : vx p s m args meth c cc nL own D G A) {x y : Int32} (d : decode cc pc = .ok (.irem, 1)) (hne : ¬ y = 0) (kk : U p l e R s m args below meth c nL D A ws k n Q (pc + 1) (L) (.int (x - x / y * y) :: st)) : U p l e R s m args below meth c nL D A ws k n Q (pc) (L) (.int y :: .int x :: st) := by
  intro ls hl H locs hP hD hS
  exact lv_irem hC.1.1 hC.1.2.1 d hne (kk ls hl H locs hP hD hS)
theorem u_dup (hC : vx p s m args meth c cc nL own D G A) {va : Value} (d : decode cc pc = .ok (.dup, 1)) (h1 : va.category = 1) (kk : U p l e R s m args below meth c nL D A ws k n Q (pc + 1) (L) (va :: va :: st)) : U p l e R s m args below meth c nL D A ws k n Q (pc) (L) (va :: st) := by
  intro ls hl H locs hP hD hS
  exact lv_dup hC.1.1 hC.1.2.1 d h1 (kk ls hl H locs hP hD hS)
theorem u_pop (hC : vx p s m args meth c cc nL own D G A) {va : Value} (d : decode cc pc = .ok (.pop, 1)) (h1 : va.category = 1) (kk : U p l e R s m args below meth c nL D A ws k n Q (pc + 1) (L) (st)) : U p l e R s m args below meth c nL D A ws k n Q (pc) (L) (va :: st) := by
  intro ls hl H locs hP hD hS
  exact lv_pop hC.1.1 hC.1.2.1 d h1 (kk ls hl H locs hP hD hS)
theorem u_dup_x1 (hC : vx p s m args meth c cc nL own D G A) {va vb : Value} (d : decode cc pc = .ok (.dup_x1, 1)) (h1 : va.category = 1) (h2 : vb.category = 1) (kk : U p l e R s m args below meth c nL D A ws k n Q (pc + 1) (L) (va :: vb :: va :: st)) : U p l e R s m args below meth c nL D A ws k n Q (pc) (L) (va :: vb :: st) := by
  intro ls hl H locs hP hD hS
  exact lv_dup_x1 hC.1.1 hC.1.2.1 d h1 h2 (kk ls hl H locs hP hD hS)
theorem u_dup2 (hC : vx p s m args meth c cc nL own D G A) {va vb : Value} (d : decode cc pc = .ok (.dup2, 1)) (h1 : va.category = 1) (h2 : vb.category = 1) (kk : U p l e R s m args below meth c nL D A ws k n Q (pc + 1) (L) (va :: vb :: va :: vb :: st)) : U p l e R s m args below meth c nL D A ws k n Q (pc) (L) (va :: vb :: st) := by
  intro ls hl H locs hP hD hS
  exact lv_dup2_11 hC.1.1 hC.1.2.1 d h1 h2 (kk ls hl H locs hP hD hS)
theorem u_if_eq (hC : vx p s m args meth c cc nL own D G A) {x : Int32} {off : Int} (tgt : Nat) (d : decode cc pc = .ok (.ifCond .eq off, 3)) (ht : (pc : Int) + off = (tgt : Int)) (kt : x = 0 → U p l e R s m args below meth c nL D A ws k n Q (tgt) (L) (st)) (kf : ¬ x = 0 → U p l e R s m args below meth c nL D A ws k n Q (pc + 3) (L) (st)) : U p l e R s m args below meth c nL D A ws k n Q (pc) (L) (.int x :: st) := by
  intro ls hl H locs hP hD hS
  exact lv_if_eq hC.1.1 hC.1.2.1 d ht (fun h => kt h ls hl H locs hP hD hS) (fun h => kf h ls hl H locs hP hD hS)
theorem u_icmp_eq (hC : vx p s m args meth c cc nL own D G A) {x y : Int32} {off : Int} (tgt : Nat) (d : decode cc pc = .ok (.if_icmp .eq off, 3)) (ht : (pc : Int) + off = (tgt : Int)) (kt : x = y → U p l e R s m args below meth c nL D A ws k n Q (tgt) (L) (st)) (kf : ¬ x = y → U p l e R s m args below meth c nL D A ws k n Q (pc + 3) (L) (st)) : U p l e R s m args below meth c nL D A ws k n Q (pc) (L) (.int y :: .int x :: st) := by
  intro ls hl H locs hP hD hS
  exact lv_icmp_eq hC.1.1 hC.1.2.1 d ht (fun h => kt h ls hl H locs hP hD hS) (fun h => kf h ls hl H locs hP hD hS)
theorem u_if_ne (hC : vx p s m args meth c cc nL own D G A) {x : Int32} {off : Int} (tgt : Nat) (d : decode cc pc = .ok (.ifCond .ne off, 3)) (ht : (pc : Int) + off = (tgt : Int)) (kt : ¬ x = 0 → U p l e R s m args below meth c nL D A ws k n Q (tgt) (L) (st)) (kf : x = 0 → U p l e R s m args below meth c nL D A ws k n Q (pc + 3) (L) (st)) : U p l e R s m args below meth c nL D A ws k n Q (pc) (L) (.int x :: st) := by
  intro ls hl H locs hP hD hS
  exact lv_if_ne hC.1.1 hC.1.2.1 d ht (fun h => kt h ls hl H locs hP hD hS) (fun h => kf h ls hl H locs hP hD hS)
theorem u_icmp_ne (hC : vx p s m args meth c cc nL own D G A) {x y : Int32} {off : Int} (tgt : Nat) (d : decode cc pc = .ok (.if_icmp .ne off, 3)) (ht : (pc : Int) + off = (tgt : Int)) (kt : ¬ x = y → U p l e R s m args below meth c nL D A ws k n Q (tgt) (L) (st)) (kf : x = y → U p l e R s m args below meth c nL D A ws k n Q (pc + 3) (L) (st)) : U p l e R s m args below meth c nL D A ws k n Q (pc) (L) (.int y :: .int x :: st) := by
  intro ls hl H locs hP hD hS
  exact lv_icmp_ne hC.1.1 hC.1.2.1 d ht (fun h => kt h ls hl H locs hP hD hS) (fun h => kf h ls hl H locs hP hD hS)
theorem u_if_lt (hC : vx p s m args meth c cc nL own D G A) {x : Int32} {off : Int} (tgt : Nat) (d : decode cc pc = .ok (.ifCond .lt off, 3)) (ht : (pc : Int) + off = (tgt : Int)) (kt : x < 0 → U p l e R s m args below meth c nL D A ws k n Q (tgt) (L) (st)) (kf : ¬ x < 0 → U p l e R s m args below meth c nL D A ws k n Q (pc + 3) (L) (st)) : U p l e R s m args below meth c nL D A ws k n Q (pc) (L) (.int x :: st) := by
  intro ls hl H locs hP hD hS
  exact lv_if_lt hC.1.1 hC.1.2.1 d ht (fun h => kt h ls hl H locs hP hD hS) (fun h => kf h ls hl H locs hP hD hS)
theorem u_icmp_lt (hC : vx p s m args meth c cc nL own D G A) {x y : Int32} {off : Int} (tgt : Nat) (d : decode cc pc = .ok (.if_icmp .lt off, 3)) (ht : (pc : Int) + off = (tgt : Int)) (kt : x < y → U p l e R s m args below meth c nL D A ws k n Q (tgt) (L) (st)) (kf : ¬ x < y → U p l e R s m args below meth c nL D A ws k n Q (pc + 3) (L) (st)) : U p l e R s m args below meth c nL D A ws k n Q (pc) (L) (.int y :: .int x :: st) := by
  intro ls hl H locs hP hD hS
  exact lv_icmp_lt hC.1.1 hC.1.2.1 d ht (fun h => kt h ls hl H locs hP hD hS) (fun h => kf h ls hl H locs hP hD hS)
theorem u_if_ge (hC : vx p s m args meth c cc nL own D G A) {x : Int32} {off : Int} (tgt : Nat) (d : decode cc pc = .ok (.ifCond .ge off, 3)) (ht : (pc : Int) + off = (tgt : Int)) (kt : 0 ≤ x → U p l e R s m args below meth c nL D A ws k n Q (tgt) (L) (st)) (kf : ¬ 0 ≤ x → U p l e R s m args below meth c nL D A ws k n Q (pc + 3) (L) (st)) : U p l e R s m args below meth c nL D A ws k n Q (pc) (L) (.int x :: st) := by
  intro ls hl H locs hP hD hS
  exact lv_if_ge hC.1.1 hC.1.2.1 d ht (fun h => kt h ls hl H locs hP hD hS) (fun h => kf h ls hl H locs hP hD hS)
theorem u_icmp_ge (hC : vx p s m args meth c cc nL own D G A) {x y : Int32} {off : Int} (tgt : Nat) (d : decode cc pc = .ok (.if_icmp .ge off, 3)) (ht : (pc : Int) + off = (tgt : Int)) (kt : y ≤ x → U p l e R s m args below meth c nL D A ws k n Q (tgt) (L) (st)) (kf : ¬ y ≤ x → U p l e R s m args below meth c nL D A ws k n Q (pc + 3) (L) (st)) : U p l e R s m args below meth c nL D A ws k n Q (pc) (L) (.int y :: .int x :: st) := by
  intro ls hl H locs hP hD hS
  exact lv_icmp_ge hC.1.1 hC.1.2.1 d ht (fun h => kt h ls hl H locs hP hD hS) (fun h => kf h ls hl H locs hP hD hS)
theorem u_if_gt (hC : vx p s m args meth c cc nL own D G A) {x : Int32} {off : Int} (tgt : Nat) (d : decode cc pc = .ok (.ifCond .gt off, 3)) (ht : (pc : Int) + off = (tgt : Int)) (kt : 0 < x → U p l e R s m args below meth c nL D A ws k n Q (tgt) (L) (st)) (kf : ¬ 0 < x → U p l e R s m args below meth c nL D A ws k n Q (pc + 3) (L) (st)) : U p l e R s m args below meth c nL D A ws k n Q (pc) (L) (.int x :: st) := by
  intro ls hl H locs hP hD hS
  exact lv_if_gt hC.1.1 hC.1.2.1 d ht (fun h => kt h ls hl H locs hP hD hS) (fun h => kf h ls hl H locs hP hD hS)
theorem u_icmp_gt (hC : vx p s m args meth c cc nL own D G A) {x y : Int32} {off : Int} (tgt : Nat) (d : decode cc pc = .ok (.if_icmp .gt off, 3)) (ht : (pc : Int) + off = (tgt : Int)) (kt : y < x → U p l e R s m args below meth c nL D A ws k n Q (tgt) (L) (st)) (kf : ¬ y < x → U p l e R s m args below meth c nL D A ws k n Q (pc + 3) (L) (st)) : U p l e R s m args below meth c nL D A ws k n Q (pc) (L) (.int y :: .int x :: st) := by
  intro ls hl H locs hP hD hS
  exact lv_icmp_gt hC.1.1 hC.1.2.1 d ht (fun h => kt h ls hl H locs hP hD hS) (fun h => kf h ls hl H locs hP hD hS)
theorem u_if_le (hC : vx p s m args meth c cc nL own D G A) {x : Int32} {off : Int} (tgt : Nat) (d : decode cc pc = .ok (.ifCond .le off, 3)) (ht : (pc : Int) + off = (tgt : Int)) (kt : x ≤ 0 → U p l e R s m args below meth c nL D A ws k n Q (tgt) (L) (st)) (kf : ¬ x ≤ 0 → U p l e R s m args below meth c nL D A ws k n Q (pc + 3) (L) (st)) : U p l e R s m args below meth c nL D A ws k n Q (pc) (L) (.int x :: st) := by
  intro ls hl H locs hP hD hS
  exact lv_if_le hC.1.1 hC.1.2.1 d ht (fun h => kt h ls hl H locs hP hD hS) (fun h => kf h ls hl H locs hP hD hS)
theorem u_icmp_le (hC : vx p s m args meth c cc nL own D G A) {x y : Int32} {off : Int} (tgt : Nat) (d : decode cc pc = .ok (.if_icmp .le off, 3)) (ht : (pc : Int) + off = (tgt : Int)) (kt : x ≤ y → U p l e R s m args below meth c nL D A ws k n Q (tgt) (L) (st)) (kf : ¬ x ≤ y → U p l e R s m args below meth c nL D A ws k n Q (pc + 3) (L) (st)) : U p l e R s m args below meth c nL D A ws k n Q (pc) (L) (.int y :: .int x :: st) := by
  intro ls hl H locs hP hD hS
  exact lv_icmp_le hC.1.1 hC.1.2.1 d ht (fun h => kt h ls hl H locs hP hD hS) (fun h => kf h ls hl H locs hP hD hS)
theorem u_acmp_eq (hC : vx p s m args meth c cc nL own D G A) (rx ry : Option Nat) {off : Int} (tgt : Nat) (d : decode cc pc = .ok (.if_acmp .eq off, 3)) (ht : (pc : Int) + off = (tgt : Int)) (kt : rx = ry → U p l e R s m args below meth c nL D A ws k n Q (tgt) (L) (st)) (kf : ¬ rx = ry → U p l e R s m args below meth c nL D A ws k n Q (pc + 3) (L) (st)) : U p l e R s m args below meth c nL D A ws k n Q (pc) (L) (va_rf ry :: va_rf rx :: st) := by
  intro ls hl H locs hP hD hS
  exact lv_acmp_eq hC.1.1 hC.1.2.1 d ht (fun h => kt h ls hl H locs hP hD hS) (fun h => kf h ls hl H locs hP hD hS)
theorem u_acmp_ne (hC : vx p s m args meth c cc nL own D G A) (rx ry : Option Nat) {off : Int} (tgt : Nat) (d : decode cc pc = .ok (.if_acmp .ne off, 3)) (ht : (pc : Int) + off = (tgt : Int)) (kt : ¬ rx = ry → U p l e R s m args below meth c nL D A ws k n Q (tgt) (L) (st)) (kf : rx = ry → U p l e R s m args below meth c nL D A ws k n Q (pc + 3) (L) (st)) : U p l e R s m args below meth c nL D A ws k n Q (pc) (L) (va_rf ry :: va_rf rx :: st) := by
  intro ls hl H locs hP hD hS
  exact lv_acmp_ne hC.1.1 hC.1.2.1 d ht (fun h => kt h ls hl H locs hP hD hS) (fun h => kf h ls hl H locs hP hD hS)
theorem u_goto (hC : vx p s m args meth c cc nL own D G A) {off : Int} (tgt : Nat) (d : decode cc pc = .ok (.goto off, 3)) (ht : (pc : Int) + off = (tgt : Int)) (kk : U p l e R s m args below meth c nL D A ws k n Q (tgt) (L) (st)) : U p l e R s m args below meth c nL D A ws k n Q (pc) (L) (st) := by
  intro ls hl H locs hP hD hS
  exact lv_goto hC.1.1 hC.1.2.1 d ht (kk ls hl H locs hP hD hS)
theorem u_ifnonnull (hC : vx p s m args meth c cc nL own D G A) {x : Nat} {off : Int} (tgt : Nat) (d : decode cc pc = .ok (.ifnonnull off, 3)) (ht : (pc : Int) + off = (tgt : Int)) (kk : U p l e R s m args below meth c nL D A ws k n Q (tgt) (L) (st)) : U p l e R s m args below meth c nL D A ws k n Q (pc) (L) (.ref x :: st) := by
  intro ls hl H locs hP hD hS
  exact lv_ifnonnull hC.1.1 hC.1.2.1 d ht (kk ls hl H locs hP hD hS)
theorem u_ifnull (hC : vx p s m args meth c cc nL own D G A) {x : Nat} {off : Int} (d : decode cc pc = .ok (.ifnull off, 3)) (kk : U p l e R s m args below meth c nL D A ws k n Q (pc + 3) (L) (st)) : U p l e R s m args below meth c nL D A ws k n Q (pc) (L) (.ref x :: st) := by
  intro ls hl H locs hP hD hS
  exact lv_ifnull hC.1.1 hC.1.2.1 d (kk ls hl H locs hP hD hS)
theorem u_ifnullN (hC : vx p s m args meth c cc nL own D G A) {off : Int} (tgt : Nat) (d : decode cc pc = .ok (.ifnull off, 3)) (ht : (pc : Int) + off = (tgt : Int)) (kk : U p l e R s m args below meth c nL D A ws k n Q (tgt) (L) (st)) : U p l e R s m args below meth c nL D A ws k n Q (pc) (L) (.null :: st) := by
  intro ls hl H locs hP hD hS
  exact lv_ifnullN hC.1.1 hC.1.2.1 d ht (kk ls hl H locs hP hD hS)
theorem u_ifnonnullN (hC : vx p s m args meth c cc nL own D G A) {off : Int} (d : decode cc pc = .ok (.ifnonnull off, 3)) (kk : U p l e R s m args below meth c nL D A ws k n Q (pc + 3) (L) (st)) : U p l e R s m args below meth c nL D A ws k n Q (pc) (L) (.null :: st) := by
  intro ls hl H locs hP hD hS
  exact lv_ifnonnullN hC.1.1 hC.1.2.1 d (kk ls hl H locs hP hD hS)
theorem u_null (hC : vx p s m args meth c cc nL own D G A)  (d : decode cc pc = .ok (.aconst_null, 1)) (kk : U p l e R s m args below meth c nL D A ws k n Q (pc + 1) (L) (.null :: st)) : U p l e R s m args below meth c nL D A ws k n Q (pc) (L) (st) := by
  intro ls hl H locs hP hD hS
  exact lv_null hC.1.1 hC.1.2.1 d (kk ls hl H locs hP hD hS)
theorem u_castN (hC : vx p s m args meth c cc nL own D G A) {idx : Nat} (d : decode cc pc = .ok (.checkcast idx, 3)) (kk : U p l e R s m args below meth c nL D A ws k n Q (pc + 3) (L) (.null :: st)) : U p l e R s m args below meth c nL D A ws k n Q (pc) (L) (.null :: st) := by
  intro ls hl H locs hP hD hS
  exact lv_castN hC.1.1 hC.1.2.1 d (kk ls hl H locs hP hD hS)
theorem u_tableOut (hC : vx p s m args meth c cc nL own D G A) {dflt lo hi : Int} {offs : Array Int} {len : Nat} {x : Int32} (tgt : Nat) (d : decode cc pc = .ok (.tableswitch dflt lo hi offs, len)) (h : x.toInt < lo ∨ hi < x.toInt) (ht : (pc : Int) + dflt = (tgt : Int)) (kk : U p l e R s m args below meth c nL D A ws k n Q (tgt) (L) (st)) : U p l e R s m args below meth c nL D A ws k n Q (pc) (L) (.int x :: st) := by
  intro ls hl H locs hP hD hS
  exact lv_tableOut hC.1.1 hC.1.2.1 d h ht (kk ls hl H locs hP hD hS)
theorem u_tableIn (hC : vx p s m args meth c cc nL own D G A) {dflt lo hi off : Int} {offs : Array Int} {len : Nat} {x : Int32} (tgt : Nat) (d : decode cc pc = .ok (.tableswitch dflt lo hi offs, len)) (h1 : ¬ x.toInt < lo) (h2 : ¬ hi < x.toInt) (ho : offs[(x.toInt - lo).toNat]? = some off) (ht : (pc : Int) + off = (tgt : Int)) (kk : U p l e R s m args below meth c nL D A ws k n Q (tgt) (L) (st)) : U p l e R s m args below meth c nL D A ws k n Q (pc) (L) (.int x :: st) := by
  intro ls hl H locs hP hD hS
  exact lv_tableIn hC.1.1 hC.1.2.1 d h1 h2 ho ht (kk ls hl H locs hP hD hS)
end VL
end
section
/-! Rows that touch the heap; returns; calls; contracts. -/
/-- a field of a class of the worlds, as a class's constant pool links it -/
def u_Ff (own : String) (idx ci j : Nat) (C : String) (T : u_T) (N : Nat) : Prop := cls[ci]? = some (C, T, N) ∧ j < N ∧ (∀ w ∈ u_ws C T N, w ∈ gw) ∧ ∃ ref : String, Cond.fieldLink own idx ref (T j).2.1 (T j).2.2.1 ∈ gw ∧ (ref = (T j).1 ∨ Cond.sameField ref (T j).1 (T j).2.1 (T j).2.2.1 ∈ gw)
theorem u_Fr {s : State} {args : Array Value} {ref : String} {T : u_T} {j : Nat} (hts : ∀ w ∈ gw, w.before args s = true) (h : ref = (T j).1 ∨ Cond.sameField ref (T j).1 (T j).2.1 (T j).2.2.1 ∈ gw) (x : ClassId × Class × Nat × Field) (hx : s.fieldFound? (T j).1 (T j).2.1 (T j).2.2.1 = some x) : s.fieldFound? ref (T j).2.1 (T j).2.2.1 = some x := by
  rcases h with h | h
  · rw [h]; exact hx
  · exact u_same (hts _ h) x hx
/-- its type -/
def u_Ft (j : Nat) (T : u_T) (N : Nat) (t0 : Nat → FieldType) : Prop := (∀ q, q < N → parseFieldDescriptor (T q).2.2.1 = some (t0 q)) ∧ (∀ a, a < N → ∀ b, b < N → a ≠ b → (T a).2.1 ≠ (T b).2.1) ∧ j < N
section VH
variable {p : Program} {l : Launch} {e : Env} {R : Room} {s : State} {m : MethodId} {args : Array Value} {below : List Frame} {meth : Method} {c : Code} {k n : Nat} {Q : State → Prop}
variable {cc : ByteArray} {nL : Nat} {own : String} {D : va_G} {G : u_G} {A : Nat → Prop} {pc : Nat} {L : List (Nat × Value)} {st : List Value} {ws : va_W}
theorem u_eqw {ws' : va_W} {k n pc : Nat} (h : ws = ws') (kk : U p l e R s m args below meth c nL D A ws' k n Q pc L st) : U p l e R s m args below meth c nL D A ws k n Q pc L st := h ▸ kk
theorem u_sub {L' : List (Nat × Value)} (h : ∀ q ∈ L', q ∈ L) (kk : U p l e R s m args below meth c nL D A ws k n Q pc L' st) : U p l e R s m args below meth c nL D A ws k n Q pc L st := fun ls hl => kk ls ⟨hl.1, hl.2.1, fun q hq => hl.2.2 q (h q hq)⟩
theorem u_widen {k' n' : Nat} (h1 : k ≤ k') (h2 : n ≤ n') (kk : U p l e R s m args below meth c nL D A ws k' n' Q pc L st) : U p l e R s m args below meth c nL D A ws k n Q pc L st := fun ls hl H locs hP hD hS => W.widen h1 h2 (kk ls hl H locs hP hD hS)
theorem u_get (hC : vx p s m args meth c cc nL own D G A) {idx ci j N a : Nat} {C : String} {T : u_T} {fs : List Value} {v : Value} (hf : u_Ff own idx ci j C T N) (q0 : Nat) (he : ws[q0]? = some (a, .inr (ci, fs))) (hv : fs[j]? = some v) (d : decode cc pc = .ok (.getfield idx, 3))
    (kk : U p l e R s m args below meth c nL D A ws k n Q (pc + 3) L (v :: st)) : U p l e R s m args below meth c nL D A ws k n Q pc L (.ref a :: st) := by
  intro ls hl H locs hP hD hS
  obtain ⟨ref, hl1, hl2⟩ := hf.2.2.2
  exact va_get (D := D) (cl := cls) hC.1.1 hC.1.2.1 hC.1.2.2.2.2 hf.2.2.1 hC.1.2.2.2.1 hC.2.1 hP q0 he hf.1 j hf.2.1 (hC.1.2.2.2.2 _ hl1) (u_Fr hC.1.2.2.2.2 hl2) hv d (kk ls hl H locs hP hD hS)
theorem u_put (hC : vx p s m args meth c cc nL own D G A) {idx ci j N a : Nat} {C : String} {T : u_T} {fs : List Value} {v : Value} {ws' : va_W} {t0 : Nat → FieldType} (hf : u_Ff own idx ci j C T N) (ht : u_Ft j T N t0) (hfin : (T j).2.2.2 = false) (q0 : Nat) (he : ws[q0]? = some (a, .inr (ci, fs))) (hn : narrow (t0 j) v = v) (hfit : fits (t0 j) v = true) (hl9 : j < fs.length) (hw : ws.set q0 (a, .inr (ci, fs.set j v)) = ws') (d : decode cc pc = .ok (.putfield idx, 3))
    (kk : U p l e R s m args below meth c nL D A ws' k n Q (pc + 3) L st) : U p l e R s m args below meth c nL D A ws k n Q pc L (v :: .ref a :: st) := by
  intro ls hl H locs hP hD hS
  subst hw
  obtain ⟨ref, hl1, hl2⟩ := hf.2.2.2
  exact va_put (D := D) (cl := cls) hC.1.1 hC.1.2.1 hC.1.2.2.2.2 hf.2.2.1 t0 ht.1 ht.2.1 hC.1.2.2.2.1 hC.2.1 hP hD hS q0 he hf.1 j hf.2.1 (hC.1.2.2.2.2 _ hl1) (u_Fr hC.1.2.2.2.2 hl2) hfin (ht.1 j ht.2.2) hn hfit hl9 d (fun H1 locs1 h1 h2 h3 => kk ls hl H1 locs1 h1 h2 h3)
theorem u_putF (hC : vx p s m args meth c cc nL own D G A) {idx ci j N a : Nat} {C : String} {T : u_T} {fs : List Value} {v : Value} {ws' : va_W} {t0 : Nat → FieldType} (hf : u_Ff own idx ci j C T N) (ht : u_Ft j T N t0) (hfin : (T j).2.2.2 = true) (hin : meth.name = "<init>") (hdecl : (T j).1 = own) (q0 : Nat) (he : ws[q0]? = some (a, .inr (ci, fs))) (hn : narrow (t0 j) v = v) (hfit : fits (t0 j) v = true) (hl9 : j < fs.length) (hw : ws.set q0 (a, .inr (ci, fs.set j v)) = ws') (d : decode cc pc = .ok (.putfield idx, 3))
    (kk : U p l e R s m args below meth c nL D A ws' k n Q (pc + 3) L st) : U p l e R s m args below meth c nL D A ws k n Q pc L (v :: .ref a :: st) := by
  intro ls hl H locs hP hD hS
  subst hw
  obtain ⟨ref, hl1, hl2⟩ := hf.2.2.2
  exact va_putF (D := D) (cl := cls) hC.1.1 hC.1.2.1 hC.1.2.2.2.2 hf.2.2.1 t0 ht.1 ht.2.1 hC.1.2.2.2.1 hC.2.1 hP hD hS q0 he hf.1 j hf.2.1 (hC.1.2.2.2.2 _ hl1) (u_Fr hC.1.2.2.2.2 hl2) hfin hin hdecl (ht.1 j ht.2.2) hn hfit hl9 d (fun H1 locs1 h1 h2 h3 => kk ls hl H1 locs1 h1 h2 h3)
theorem u_iald (hC : vx p s m args meth c cc nL own D G A) {a N : Nat} {cA : ClassId} {f : Nat → Int32} {i : Int32} (q0 t0 : Nat) (ha : ws[q0]? = some (a, .inl (cA, N, .inl f))) (ht : G.1[t0]? = some (cA, .int)) (hin : vp_in i N) (d : decode cc pc = .ok (.iaload, 1))
    (kk : U p l e R s m args below meth c nL D A ws k n Q (pc + 1) L (.int (f i.toNatClampNeg) :: st)) : U p l e R s m args below meth c nL D A ws k n Q pc L (.int i :: .ref a :: st) := by
  intro ls hl H locs hP hD hS
  exact va_iald hC.1.1 hC.1.2.1 hC.2.1 hP q0 t0 ha ht hin d (kk ls hl H locs hP hD hS)
theorem u_zald (hC : vx p s m args meth c cc nL own D G A) {a N : Nat} {cA : ClassId} {f : Nat → Int32} {i : Int32} (q0 t0 : Nat) (ha : ws[q0]? = some (a, .inl (cA, N, .inl f))) (ht : G.1[t0]? = some (cA, .boolean)) (hin : vp_in i N) (d : decode cc pc = .ok (.baload, 1))
    (kk : U p l e R s m args below meth c nL D A ws k n Q (pc + 1) L (.int (f i.toNatClampNeg) :: st)) : U p l e R s m args below meth c nL D A ws k n Q pc L (.int i :: .ref a :: st) := by
  intro ls hl H locs hP hD hS
  exact va_zald hC.1.1 hC.1.2.1 hC.2.1 hP q0 t0 ha ht hin d (kk ls hl H locs hP hD hS)
theorem u_iast (hC : vx p s m args meth c cc nL own D G A) {a N : Nat} {cA : ClassId} {f : Nat → Int32} {i x : Int32} {ws' : va_W} (q0 t0 : Nat) (ha : ws[q0]? = some (a, .inl (cA, N, .inl f))) (ht : G.1[t0]? = some (cA, .int)) (hin : vp_in i N) (hw : ws.set q0 (a, .inl (cA, N, .inl (upd f i.toNatClampNeg x))) = ws') (d : decode cc pc = .ok (.iastore, 1))
    (kk : U p l e R s m args below meth c nL D A ws' k n Q (pc + 1) L st) : U p l e R s m args below meth c nL D A ws k n Q pc L (.int x :: .int i :: .ref a :: st) := by
  intro ls hl H locs hP hD hS
  subst hw
  exact va_iast hC.1.1 hC.1.2.1 hC.2.1 hP hD hS q0 t0 ha ht hin d (fun H1 locs1 h1 h2 h3 => kk ls hl H1 locs1 h1 h2 h3)
theorem u_zast (hC : vx p s m args meth c cc nL own D G A) {a N : Nat} {cA : ClassId} {f : Nat → Int32} {i x : Int32} {ws' : va_W} (q0 t0 : Nat) (ha : ws[q0]? = some (a, .inl (cA, N, .inl f))) (ht : G.1[t0]? = some (cA, .boolean)) (hin : vp_in i N) (hw : ws.set q0 (a, .inl (cA, N, .inl (upd f i.toNatClampNeg (vp_nar .boolean x)))) = ws') (d : decode cc pc = .ok (.bastore, 1))
    (kk : U p l e R s m args below meth c nL D A ws' k n Q (pc + 1) L st) : U p l e R s m args below meth c nL D A ws k n Q pc L (.int x :: .int i :: .ref a :: st) := by
  intro ls hl H locs hP hD hS
  subst hw
  exact va_zast hC.1.1 hC.1.2.1 hC.2.1 hP hD hS q0 t0 ha ht hin d (fun H1 locs1 h1 h2 h3 => kk ls hl H1 locs1 h1 h2 h3)
theorem u_alen (hC : vx p s m args meth c cc nL own D G A) {a : Nat} {cA : ClassId} {x : vp_A} {ty : FieldType} (v : Int32) (q0 t0 : Nat) (ha : ws[q0]? = some (a, .inl (cA, x))) (ht : G.1[t0]? = some (cA, ty)) (hv : Int32.ofNat x.1 = v) (d : decode cc pc = .ok (.arraylength, 1))
    (kk : U p l e R s m args below meth c nL D A ws k n Q (pc + 1) L (.int v :: st)) : U p l e R s m args below meth c nL D A ws k n Q pc L (.ref a :: st) := by
  intro ls hl H locs hP hD hS
  exact va_alen hC.1.1 hC.1.2.1 hC.2.1 hP q0 t0 ha ht hv d (kk ls hl H locs hP hD hS)
theorem u_aldq (hC : vx p s m args meth c cc nL own D G A) {a N : Nat} {cA : ClassId} {C : String} {f : Nat → Option Nat} {i : Int32} (q0 t0 : Nat) (ha : ws[q0]? = some (a, .inl (cA, N, .inr (.inr (.inr (.inr f)))))) (ht : G.1[t0]? = some (cA, .object C)) (hin : vp_in i N) (d : decode cc pc = .ok (.aaload, 1))
    (kk : U p l e R s m args below meth c nL D A ws k n Q (pc + 1) L (va_rf (f i.toNatClampNeg) :: st)) : U p l e R s m args below meth c nL D A ws k n Q pc L (.int i :: .ref a :: st) := by
  intro ls hl H locs hP hD hS
  exact va_aldq hC.1.1 hC.1.2.1 hC.2.1 hP q0 t0 ha ht hin d (kk ls hl H locs hP hD hS)
theorem u_astq (hC : vx p s m args meth c cc nL own D G A) {a N v ci : Nat} {cA : ClassId} {r : vw_C} {vs : List Value} {f : Nat → Option Nat} {i : Int32} {ws' : va_W} (q0 t0 qk : Nat) (ha : ws[q0]? = some (a, .inl (cA, N, .inr (.inr (.inr (.inr f)))))) (ht : G.1[t0]? = some (cA, .object r.1)) (hv : ws[qk]? = some (v, .inr (ci, vs))) (hc : cls[ci]? = some r) (hin : vp_in i N) (hw : ws.set q0 (a, .inl (cA, N, .inr (.inr (.inr (.inr (va_up f i.toNatClampNeg (some v))))))) = ws') (d : decode cc pc = .ok (.aastore, 1))
    (kk : U p l e R s m args below meth c nL D A ws' k n Q (pc + 1) L st) : U p l e R s m args below meth c nL D A ws k n Q pc L (.ref v :: .int i :: .ref a :: st) := by
  intro ls hl H locs hP hD hS
  subst hw
  exact va_astq hC.1.1 hC.1.2.1 hC.2.1 hP hD hS q0 t0 qk ci ha ht hv hc hin d (fun H1 locs1 h1 h2 h3 => kk ls hl H1 locs1 h1 h2 h3)
theorem u_astqN (hC : vx p s m args meth c cc nL own D G A) {a N : Nat} {cA : ClassId} {C : String} {f : Nat → Option Nat} {i : Int32} {ws' : va_W} (q0 t0 : Nat) (ha : ws[q0]? = some (a, .inl (cA, N, .inr (.inr (.inr (.inr f)))))) (ht : G.1[t0]? = some (cA, .object C)) (hin : vp_in i N) (hw : ws.set q0 (a, .inl (cA, N, .inr (.inr (.inr (.inr (va_up f i.toNatClampNeg none)))))) = ws') (d : decode cc pc = .ok (.aastore, 1))
    (kk : U p l e R s m args below meth c nL D A ws' k n Q (pc + 1) L st) : U p l e R s m args below meth c nL D A ws k n Q pc L (.null :: .int i :: .ref a :: st) := by
  intro ls hl H locs hP hD hS
  subst hw
  exact va_astqN hC.1.1 hC.1.2.1 hC.2.1 hP hD hS q0 t0 ha ht hin d (fun H1 locs1 h1 h2 h3 => kk ls hl H1 locs1 h1 h2 h3)
theorem u_astqO (hC : vx p s m args meth c cc nL own D G A) {a N v ci : Nat} {E : String} {cA : ClassId} {r : vw_C} {vs : List Value} {f : Nat → Option Nat} {i : Int32} {ws' : va_W} (q0 t0 qk : Nat) (ha : ws[q0]? = some (a, .inl (cA, N, .inr (.inr (.inr (.inr f)))))) (ht : G.1[t0]? = some (cA, .object E)) (hca : va_Nw (.castable r.1 E) s) (hv : ws[qk]? = some (v, .inr (ci, vs))) (hc : cls[ci]? = some r) (hin : vp_in i N) (hw : ws.set q0 (a, .inl (cA, N, .inr (.inr (.inr (.inr (va_up f i.toNatClampNeg (some v))))))) = ws') (d : decode cc pc = .ok (.aastore, 1))
    (kk : U p l e R s m args below meth c nL D A ws' k n Q (pc + 1) L st) : U p l e R s m args below meth c nL D A ws k n Q pc L (.ref v :: .int i :: .ref a :: st) := by
  intro ls hl H locs hP hD hS
  subst hw
  exact va_astqO hC.1.1 hC.1.2.1 hC.2.1 hP hD hS q0 t0 qk ci ha ht hca hv hc hin d (fun H1 locs1 h1 h2 h3 => kk ls hl H1 locs1 h1 h2 h3)
theorem u_K1 {tys : List (ClassId × FieldType)} {cA cB : ClassId} {ty : FieldType} {i j : Nat} (hK : va_K D cls tys s) (h1 : tys[i]? = some (cA, ty)) (h2 : tys[j]? = some (cB, ty)) : cA = cB := by
  have a1 := (hK.2 i _ h1).2
  have a2 := (hK.2 j _ h2).2
  cases ty with
  | object C =>
    obtain ⟨_, _, _, _, _, e1⟩ := a1
    obtain ⟨_, _, _, _, _, e2⟩ := a2
    exact Option.some.inj (e1.symm.trans e2)
  | _ => exact Option.some.inj ((show s.vm.findClass _ = some cA from a1).symm.trans (show s.vm.findClass _ = some cB from a2))
theorem u_newi (hC : vx p s m args meth c cc nL own D G A) {cA : ClassId} {z : Int32} {N : Nat} (t0 : Nat) (ht : G.1[t0]? = some (cA, .int)) (harr : Cond.arrayClass .int ∈ gw) (hz : ¬ z < 0) (hN : z.toNatClampNeg = N) (hb : N * 4 ≤ 536870912) (hk : k + 1 ≤ R.cells) (hn : n + N ≤ R.slots) (d : decode cc pc = .ok (.newarray .int, 2))
    (kk : ∀ q : Nat, U p l e R s m args below meth c nL D A (ws ++ [(q, .inl (cA, N, .inl (fun _ => 0)))]) (k + 1) (n + N) Q (pc + 2) L (.ref q :: st)) : U p l e R s m args below meth c nL D A ws k n Q pc L (.int z :: st) := by
  intro ls hl H locs hP hD hS
  refine va_newa (atype := .int) (ty := .int) (N' := N) (a0 := (N, .inl (fun _ => 0))) hC.1.1 hC.1.2.1 (hC.1.2.2.2.2 _ harr) rfl hC.2.1 hP hD hS hC.2.2.1 (fun _ => rfl) hz hN hb hk hn d (fun q cB H1 h0 h1 h2 h3 => ?_)
  have e : cA = cB := u_K1 (i := t0) (j := G.1.length) h0 (by rw [List.getElem?_append_left (List.getElem?_eq_some_iff.mp ht).1]; exact ht) (by rw [List.getElem?_append_right (Nat.le_refl _), Nat.sub_self]; rfl)
  subst e
  exact kk q ls hl H1 locs h1 h2 h3
theorem u_newz (hC : vx p s m args meth c cc nL own D G A) {cA : ClassId} {z : Int32} {N : Nat} (t0 : Nat) (ht : G.1[t0]? = some (cA, .boolean)) (harr : Cond.arrayClass .boolean ∈ gw) (hz : ¬ z < 0) (hN : z.toNatClampNeg = N) (hb : N * 1 ≤ 536870912) (hk : k + 1 ≤ R.cells) (hn : n + N ≤ R.slots) (d : decode cc pc = .ok (.newarray .boolean, 2))
    (kk : ∀ q : Nat, U p l e R s m args below meth c nL D A (ws ++ [(q, .inl (cA, N, .inl (fun _ => 0)))]) (k + 1) (n + N) Q (pc + 2) L (.ref q :: st)) : U p l e R s m args below meth c nL D A ws k n Q pc L (.int z :: st) := by
  intro ls hl H locs hP hD hS
  refine va_newa (atype := .boolean) (ty := .boolean) (N' := N) (a0 := (N, .inl (fun _ => 0))) hC.1.1 hC.1.2.1 (hC.1.2.2.2.2 _ harr) rfl hC.2.1 hP hD hS hC.2.2.1 (fun _ => rfl) hz hN hb hk hn d (fun q cB H1 h0 h1 h2 h3 => ?_)
  have e : cA = cB := u_K1 (i := t0) (j := G.1.length) h0 (by rw [List.getElem?_append_left (List.getElem?_eq_some_iff.mp ht).1]; exact ht) (by rw [List.getElem?_append_right (Nat.le_refl _), Nat.sub_self]; rfl)
  subst e
  exact kk q ls hl H1 locs h1 h2 h3
theorem u_newq (hC : vx p s m args meth c cc nL own D G A) {cA : ClassId} {C : String} {idx : Nat} {z : Int32} {N : Nat} (t0 : Nat) (ht : G.1[t0]? = some (cA, .object C)) (hlk : Cond.classLink own idx C ∈ gw) (hao : va_AO C s) (hz : ¬ z < 0) (hN : z.toNatClampNeg = N) (hb : N * 4 ≤ 536870912) (hk : k + 1 ≤ R.cells) (hn : n + N ≤ R.slots) (d : decode cc pc = .ok (.anewarray idx, 3))
    (kk : ∀ q : Nat, U p l e R s m args below meth c nL D A (ws ++ [(q, .inl (cA, N, .inr (.inr (.inr (.inr (fun _ => none))))))]) (k + 1) (n + N) Q (pc + 3) L (.ref q :: st)) : U p l e R s m args below meth c nL D A ws k n Q pc L (.int z :: st) := by
  intro ls hl H locs hP hD hS
  refine va_newq (N' := N) hC.1.1 hC.1.2.1 hC.1.2.2.2.1 (hC.1.2.2.2.2 _ hlk) hao hC.2.1 hP hD hS hC.2.2.1 hz hN hb hk hn d (fun q cB H1 h0 h1 h2 h3 => ?_)
  have e : cA = cB := u_K1 (i := t0) (j := G.1.length) h0 (by rw [List.getElem?_append_left (List.getElem?_eq_some_iff.mp ht).1]; exact ht) (by rw [List.getElem?_append_right (Nat.le_refl _), Nat.sub_self]; rfl)
  subst e
  exact kk q ls hl H1 locs h1 h2 h3
/-- what a class must say to be made: linked, able to be made, its default fields -/
def u_Nf (own : String) (idx ci : Nat) (C : String) (T : u_T) (N : Nat) (t0 : Nat → FieldType) (fs : List Value) : Prop := cls[ci]? = some (C, T, N) ∧ (∀ w ∈ u_ws C T N, w ∈ gw) ∧ (∀ q, q < N → parseFieldDescriptor (T q).2.2.1 = some (t0 q)) ∧ Cond.classLink own idx C ∈ gw ∧ Cond.instantiable C N ∈ gw ∧ Cond.initialized C ∈ gw ∧ ∀ j, j < N → defaultValue (t0 j) = vp_V fs j
theorem u_new (hC : vx p s m args meth c cc nL own D G A) {idx ci N : Nat} {C : String} {T : u_T} {t0 : Nat → FieldType} {fs : List Value} (hf : u_Nf own idx ci C T N t0 fs) (hk : k + 1 ≤ R.cells) (hn : n + N ≤ R.slots) (d : decode cc pc = .ok (.new idx, 3))
    (kk : ∀ q : Nat, U p l e R s m args below meth c nL D A (ws ++ [(q, .inr (ci, fs))]) (k + 1) (n + N) Q (pc + 3) L (.ref q :: st)) : U p l e R s m args below meth c nL D A ws k n Q pc L st := by
  intro ls hl H locs hP hD hS
  exact va_new (D := D) (cl := cls) hC.1.1 hC.1.2.1 hC.1.2.2.2.2 hf.2.1 t0 hf.2.2.1 hC.1.2.2.2.1 (hC.1.2.2.2.2 _ hf.2.2.2.1) (hC.1.2.2.2.2 _ hf.2.2.2.2.1) (hC.1.2.2.2.2 _ hf.2.2.2.2.2.1) hC.2.1 hP hD hS hC.2.2.1 hf.1 hf.2.2.2.2.2.2 hk hn d (fun q H1 h1 h2 h3 => kk q ls hl H1 locs h1 h2 h3)
theorem u_cast (hC : vx p s m args meth c cc nL own D G A) {idx ci N a : Nat} {C : String} {T : u_T} {fs : List Value} (hc : cls[ci]? = some (C, T, N)) (hlk : Cond.classLink own idx C ∈ gw) (q0 : Nat) (he : ws[q0]? = some (a, .inr (ci, fs))) (d : decode cc pc = .ok (.checkcast idx, 3))
    (kk : U p l e R s m args below meth c nL D A ws k n Q (pc + 3) L (.ref a :: st)) : U p l e R s m args below meth c nL D A ws k n Q pc L (.ref a :: st) := by
  intro ls hl H locs hP hD hS
  have hcl := (hC.2.1.1 ci _ hc).2
  exact va_castS hC.1.1 hC.1.2.1 hC.1.2.2.2.1 (hC.1.2.2.2.2 _ hlk) hcl (va_recv hC.2.1 hP hc he) d (kk ls hl H locs hP hD hS)
theorem u_objInit (hC : vx p s m args meth c cc nL own D G A) {idx a : Nat} (h1 : Cond.methodLink own idx Lib.objectInit ∈ gw) (h2 : Cond.instanceMethod Lib.objectInit ∈ gw) (h3 : Cond.code Lib.objectInit ⟨#[0xb1]⟩ 1 none ∈ gw) (hR : 1 ≤ R.frames) (hR2 : 20 ≤ R.locals) (hst : (st.map fun v => v.category).sum ≤ 8) (d : decode cc pc = .ok (.invokespecial idx, 3))
    (kk : U p l e R s m args below meth c nL D A ws k n Q (pc + 3) L st) : U p l e R s m args below meth c nL D A ws k n Q pc L (.ref a :: st) := by
  intro ls hl H locs hP hD hS
  refine W.objInit hC.1.1 hC.1.2.1 hC.1.2.2.2.1 (hC.1.2.2.2.2 _ h1) (hC.1.2.2.2.2 _ h2) (hC.1.2.2.2.2 _ h3) rfl (by rw [hC.1.2.2.1]; exact hl.1) rfl d hR (Nat.le_trans (Nat.add_le_add_right (lv_room (m := m) (pc := pc) (ls := ls) (rest := st) hst) 12) hR2) ?_
  exact kk ls hl H locs hP hD hS
end VH
end
section
/-! Contracts over worlds: from any state whose heap holds the world ws, the method returns v and leaves a world w' with 'post v w'' . -/
def rmL (h mc ms : Nat) : Room := { frames := h, cells := mc, slots := ms, locals := 40 * h }
def Qg (D : va_G) (post : Option Value → va_W → Prop) (A : Nat → Prop) : Array Value → State → Outcome → State → Prop := fun _ st oc t => (∃ (v : Option Value) (w' : va_W), oc = .returned v ∧ post v w' ∧ va_P D cls w' t.heap ∧ va_D A w') ∧ va_F A st t
def Pg (D : va_G) (G : u_G) (ws : va_W) (sz : Nat) (U : State) : Prop := U.heap.size = sz ∧ va_P D cls ws U.heap ∧ va_K D cls G.1 U ∧ va_D (fun _ => True) ws ∧ zf G.2 (va_A ws sz) U U.heap
def Ct (l : Launch) (y : MethodName) (b : ByteArray) (nL : Nat) (ret : Option FieldType) (h mc ms : Nat) (D : va_G) (G : u_G) (ws : va_W) (av : List Value) (post : Option Value → va_W → Prop) : Prop :=
  ∀ sz : Nat, Met l y (.code y b nL ret :: gw) (rmL h mc ms) (va_Pc av (Pg D G ws sz)) (Qg D post (va_A ws sz)) mc ms (va_A ws sz)
theorem Ct.of {l : Launch} {y : MethodName} {b : ByteArray} {nL : Nat} {ret : Option FieldType} {h mc ms : Nat} {D : va_G} {G : u_G} {ws : va_W} {av : List Value} {post : Option Value → va_W → Prop} (hy : plainName y.cls = true) (hav : (lg_sl av).length ≤ nL)
    (body : ∀ (p : Program) (e : Env) (s : State) (m : MethodId) (below : List Frame) (meth : Method) (c : Code) (A : Nat → Prop), vx p s m av.toArray meth c b nL y.cls D G A → meth.sig.returnType = ret → meth.name = y.name →
      U p l e (rmL h mc ms) s m av.toArray below meth c nL D A ws 0 0 (MQ below (Qg D post A) av.toArray s mc ms A) 0 (lv_args 0 av) []) : Ct l y b nL ret h mc ms D G ws av post := by
  intro sz
  refine Met.ofW (cc := b) (maxL := nL) (ret := ret) hy rfl ?_
  intro p e s m args below meth c s₁ B hml hv
  obtain ⟨rfl, hsz, hP, hK, hD0, hZ⟩ := hv
  subst hsz
  have hts0 := atoms_spec (ws := .code y b nL ret :: gw) B.pre
  have hown : s.vm.findClass y.cls = some m.cls := findClass_of_methodNamed B.named
  have hC : vx p s m av.toArray meth c b nL y.cls D G (va_A ws s.heap.size) := ⟨⟨B.exec, B.bytes, hml, hown, fun w hw => hts0 w (List.mem_cons_of_mem _ hw)⟩, hK, fun q h => Or.inr h, hZ, B.notSynchronized⟩
  have hl := lv_entry av (n := nL) hav
  rw [lg_entry_eq]
  exact body p e s m below meth c _ hC B.returns (name_of_methodNamed B.named B.method).1 _ hl s.heap [] hP hD0.self va_S.rf
theorem u_PL {D : va_G} {w1 w2 : va_W} {H : Heap} (h : va_P D cls (w1 ++ w2) H) : va_P D cls w1 H := fun k q hk => h k q (by rw [List.getElem?_append_left (List.getElem?_eq_some_iff.mp hk).1]; exact hk)
theorem u_ixR {w1 w2 : va_W} {k : Nat} {q : Nat × va_E} (hk : w2[k]? = some q) : (w1 ++ w2)[w1.length + k]? = some q := by rw [List.getElem?_append_right (Nat.le_add_right _ _), Nat.add_sub_cancel_left]; exact hk
theorem u_ixL {w1 w2 : va_W} {k : Nat} {q : Nat × va_E} (hk : w1[k]? = some q) : (w1 ++ w2)[k]? = some q := by rw [List.getElem?_append_left (List.getElem?_eq_some_iff.mp hk).1]; exact hk
theorem u_PR {D : va_G} {w1 w2 : va_W} {H : Heap} (h : va_P D cls (w1 ++ w2) H) : va_P D cls w2 H := fun _ q hk => h _ q (u_ixR hk)
theorem u_DL {A : Nat → Prop} {w1 w2 : va_W} (h : va_D A (w1 ++ w2)) : va_D A w1 := ⟨fun i j x y hi hj e => h.1 i j x y (u_ixL hi) (u_ixL hj) e, fun _ q hk => h.2 _ q (u_ixL hk)⟩
theorem u_DR {A : Nat → Prop} {w1 w2 : va_W} (h : va_D A (w1 ++ w2)) : va_D A w2 := ⟨fun i j x y hi hj e => Nat.add_left_cancel (h.1 _ _ x y (u_ixR (w1 := w1) hi) (u_ixR (w1 := w1) hj) e), fun _ q hk => h.2 _ q (u_ixR hk)⟩
theorem u_Dx {A : Nat → Prop} {w1 w2 : va_W} (h : va_D A (w1 ++ w2)) {i j : Nat} {x y : Nat × va_E} (hi : w1[i]? = some x) (hj : w2[j]? = some y) : x.1 ≠ y.1 := by
  intro e
  have h1 := h.1 _ _ x y (u_ixL (w2 := w2) hi) (u_ixR (w1 := w1) hj) e
  have h2 := (List.getElem?_eq_some_iff.mp hi).1
  omega
section VC
variable {p : Program} {l : Launch} {e : Env} {R : Room} {s : State} {m : MethodId} {args : Array Value} {below : List Frame} {meth : Method} {c : Code} {k n : Nat} {Q : State → Prop}
variable {cc : ByteArray} {nL : Nat} {own : String} {D : va_G} {G : u_G} {A : Nat → Prop} {pc : Nat} {L : List (Nat × Value)} {st : List Value} {ws : va_W}
theorem u_swap {w1 w2 : va_W} (kk : U p l e R s m args below meth c nL D A (w2 ++ w1) k n Q pc L st) : U p l e R s m args below meth c nL D A (w1 ++ w2) k n Q pc L st := fun ls hl H locs hP hD hS =>
  kk ls hl H locs (va_P.app (u_PR hP) (u_PL hP)) (va_D.app (u_DR hD) (u_DL hD) (fun i j x y hx hy z => u_Dx hD hy hx z.symm)) hS
theorem u_drop {w1 w2 : va_W} (kk : U p l e R s m args below meth c nL D A w1 k n Q pc L st) : U p l e R s m args below meth c nL D A (w1 ++ w2) k n Q pc L st := fun ls hl H locs hP hD hS => kk ls hl H locs (u_PL hP) (u_DL hD) hS
variable {post : Option Value → va_W → Prop} {mc ms : Nat}
theorem u_iret (hC : vx p s m args meth c cc nL own D G A) (hr : meth.sig.returnType = some .int) {v : Int32} (d : decode cc pc = .ok (.ireturn, 1)) (hk : k ≤ mc) (hn : n ≤ ms) (hp : post (some (.int v)) ws) : U p l e R s m args below meth c nL D A ws k n (MQ below (Qg D post A) args s mc ms A) pc L [.int v] := by
  intro ls hl H locs hP hD hS
  exact W.widen hk hn (W.iret hC.1.1 hC.1.2.1 hr (fun t ht hW => ⟨⟨_, ws, rfl, hp, by rw [ht]; exact hP, hD⟩, hS.F ht⟩) hS.2.2 d hC.2.2.2.2)
theorem u_zret (hC : vx p s m args meth c cc nL own D G A) (hr : meth.sig.returnType = some .boolean) {v : Int32} (hv : narrow .boolean (.int v) = .int v) (d : decode cc pc = .ok (.ireturn, 1)) (hk : k ≤ mc) (hn : n ≤ ms) (hp : post (some (.int v)) ws) : U p l e R s m args below meth c nL D A ws k n (MQ below (Qg D post A) args s mc ms A) pc L [.int v] := by
  intro ls hl H locs hP hD hS
  exact W.widen hk hn (W.zret hC.1.1 hC.1.2.1 hr hv (fun t ht hW => ⟨⟨_, ws, rfl, hp, by rw [ht]; exact hP, hD⟩, hS.F ht⟩) hS.2.2 d hC.2.2.2.2)
theorem u_vret (hC : vx p s m args meth c cc nL own D G A) (hr : meth.sig.returnType = none) (d : decode cc pc = .ok (.return_, 1)) (hk : k ≤ mc) (hn : n ≤ ms) (hp : post none ws) : U p l e R s m args below meth c nL D A ws k n (MQ below (Qg D post A) args s mc ms A) pc L [] := by
  intro ls hl H locs hP hD hS
  exact W.widen hk hn (W.vret hC.1.1 hC.1.2.1 hr (fun t ht hW => ⟨⟨_, ws, rfl, hp, by rw [ht]; exact hP, hD⟩, hS.F ht⟩) hS.2.2 d hC.2.2.2.2)
theorem u_aret (hC : vx p s m args meth c cc nL own D G A) {rt : FieldType} (hr : meth.sig.returnType = some rt) (hrt : (∃ nm, rt = .object nm) ∨ ∃ t, rt = .array t) {v : Value} (hv : v = .null ∨ ∃ a, v = .ref a) (d : decode cc pc = .ok (.areturn, 1)) (hk : k ≤ mc) (hn : n ≤ ms) (hp : post (some v) ws) : U p l e R s m args below meth c nL D A ws k n (MQ below (Qg D post A) args s mc ms A) pc L [v] := by
  intro ls hl H locs hP hD hS
  exact W.widen hk hn (W.aret hC.1.1 hC.1.2.1 hr hrt hv (fun t ht hW => ⟨⟨_, ws, rfl, hp, by rw [ht]; exact hP, hD⟩, hS.F ht⟩) hS.2.2 d hC.2.2.2.2)
/-- behind a call, over a frame wr of cells that the callee doesn't get -/
theorem u_run {wc wr : va_W} {a : Array Value} {ls : Array Slot} {st0 : List Value} {H : Heap} {locs : List Loc} (hA : ∀ q, s.heap.size ≤ q → A q) (hl : lv_has ls nL L)
    (hr : va_Run p l e R s m args below meth c H locs k n mc ms (F0 m pc ls st0) st (Qg D post (va_A wc H.size) a) (va_A wc H.size)) (hP : va_P D cls (wc ++ wr) H) (hD : va_D A (wc ++ wr)) (hS : va_S A s.heap H locs)
    (kk : ∀ (v : Option Value) (w' : va_W), post v w' → U p l e R s m args below meth c nL D A (w' ++ wr) (k + mc) (n + ms) Q (pc + 3) L (v.toList ++ st)) : W p l e R s m args below meth c H locs k n Q (F0 m pc ls st0) := by
  have hF : ∀ q, va_A wc H.size q → A q := by
    intro q h
    rcases h with ⟨j, x, h⟩ | h
    · exact hD.2 j (q, x) (u_ixL h)
    · exact hA q (Nat.le_trans hS.1 h)
  have hap : ∀ (j : Nat) (q : Nat × va_E), wr[j]? = some q → q.1 < H.size ∧ ¬ va_A wc H.size q.1 := by
    intro j q hj
    have hlt : q.1 < H.size := (u_PR hP j q hj).lt
    refine ⟨hlt, fun h => ?_⟩
    rcases h with ⟨i, x, h⟩ | h
    · exact u_Dx hD h hj rfl
    · omega
  intro T hT X
  obtain ⟨v, st₀, t, T', L1, h0, X', hL, e1, e2, ⟨⟨v', w', hv, hp, hP', hD'⟩, hz, hk⟩, stp⟩ := hr T hT X
  have hvv : v = v' := Outcome.returned.inj hv
  subst hvv
  rw [h0] at hz hk
  have hP1 : va_P D cls (w' ++ wr) T'.heap := va_P.app (by rw [e1]; exact hP') (fun j q hj => (u_PR hP j q hj).kept (by rw [e1]; exact hk q.1 (hap j q hj).1 (hap j q hj).2))
  have hD1 : va_D A (w' ++ wr) := va_D.app (hD'.weaken (fun _ _ _ h => hF _ h)) (u_DR hD) (fun i j x y hx hy z => (hap j y hy).2 (by rw [← z]; exact hD'.2 i x hx))
  obtain ⟨t2, a1, b1⟩ := kk v w' hp ls hl T'.heap (locs ++ L1) hP1 hD1
    ⟨Nat.le_trans hS.1 (by rw [e1]; exact hz), fun q h1 h2 => by rw [e1, hk q (Nat.lt_of_lt_of_le h1 hS.1) (fun z => h2 (hF q z))]; exact hS.2.1 q h1 h2, fun q hq => by
      rcases List.mem_append.mp hq with h | h
      · exact hS.2.2 q h
      · exact hF _ (hL q h)⟩ T' rfl X'
  exact ⟨t2, stp t2 a1, b1⟩
/-- a callee as a class's constant pool links it -/
def u_Cb (own : String) (idx : Nat) (y : MethodName) (b : ByteArray) (yL : Nat) (ret : Option FieldType) (na : Nat) : Prop := Cond.methodLink own idx y ∈ gw ∧ Cond.initialized y.cls ∈ gw ∧ Cond.code y b yL ret ∈ gw ∧ (y.cls ≠ "java/lang/invoke/MethodHandle" ∧ y.cls ≠ "java/lang/invoke/VarHandle" ∧ (parseMethodDescriptor y.desc).map (fun d => d.parameters.length) = some na)
theorem u_CallB (hC : vx p s m args meth c cc nL own D G A) {idx yL h na : Nat} {y : MethodName} {b : ByteArray} {ret : Option FieldType} (hf : u_Cb own idx y b yL ret na) (hR : h + 1 ≤ R.frames ∧ 8 + (yL + 11) + 40 * h ≤ R.locals) : CallB R s args own idx y b yL ret (.code y b yL ret :: gw) (rmL h mc ms) mc ms na :=
  callB_of na hC.1.2.2.2.2 (fun w hw => by
    rcases List.mem_cons.mp hw with h | h
    · rw [h]; exact gw_good _ hf.2.2.1
    · exact gw_good _ h) rfl rfl rfl (hC.1.2.2.2.2 _ hf.2.1) (hC.1.2.2.2.2 _ hf.1) hf.2.2.2 hR
theorem u_PreS (hC : vx p s m args meth c cc nL own D G A) {wc wr : va_W} {av : List Value} {H : Heap} {locs : List Loc} (hP : va_P D cls (wc ++ wr) H) (hD : va_D A (wc ++ wr)) (hS : va_S A s.heap H locs) : PreS s H (va_Pc av (Pg D G wc H.size)) av := by
  refine ⟨fun a U g mk q => ⟨q.1, q.2.1, q.2.2.1, va_K.moved (u := U) (U := U.calling g mk a) (Vm.Alike.refl U.vm) q.2.2.2.1, q.2.2.2.2.1, zf.moved (u := U) (U := U.calling g mk a) (Vm.Alike.refl U.vm) q.2.2.2.2.2⟩, fun U hU hW => ⟨rfl, by rw [hU], by rw [hU]; exact u_PL hP, va_K.moved hW.alike hC.2.1, (u_DL hD).weaken (fun _ _ _ _ => trivial), ?_⟩⟩
  rw [hU]
  refine zf.moved hW.alike (zf.narrow (A := A) (zf.kept hC.2.2.2.1 (fun a h1 h2 => hS.2.1 a h1 h2)) (fun q h => ?_))
  rcases h with ⟨j, x, h⟩ | h
  · exact hD.2 j (q, x) (u_ixL h)
  · exact hC.2.2.1 q (Nat.le_trans hS.1 h)
/-- invokevirtual, framed -/
theorem u_callVF (hC : vx p s m args meth c cc nL own D G A) {idx yL h na a ci N q0 : Nat} {y : MethodName} {b : ByteArray} {ret : Option FieldType} {wc wr : va_W} {As fs : List Value} {T : u_T} {st0 : List Value} (hM : Ct l y b yL ret h mc ms D G wc (.ref a :: As) post) (hf : u_Cb own idx y b yL ret na) (hi : Cond.instanceMethod y ∈ gw ∧ Cond.selects y.cls y y ∈ gw) (he : wc[q0]? = some (a, .inr (ci, fs))) (hc : cls[ci]? = some (y.cls, T, N))
    (hR : h + 1 ≤ R.frames ∧ 8 + (yL + 11) + 40 * h ≤ R.locals) (hcs : k + mc ≤ R.cells ∧ n + ms ≤ R.slots) (hna : As.length = na) (hst : st0 = As.reverse ++ .ref a :: st) (hw8 : (st.map fun v => v.category).sum ≤ 8) (d : decode cc pc = .ok (.invokevirtual idx, 3))
    (kk : ∀ (v : Option Value) (w' : va_W), post v w' → U p l e R s m args below meth c nL D A (w' ++ wr) (k + mc) (n + ms) Q (pc + 3) L (v.toList ++ st)) : U p l e R s m args below meth c nL D A (wc ++ wr) k n Q pc L st0 := by
  intro ls hl H locs hP hD hS
  have hp := u_PreS hC (av := .ref a :: As) hP hD hS
  exact u_run hC.2.2.1 hl (va_runV (C := y.cls) (As := As) (rest := st) hC.1 (hM H.size) ⟨u_CallB hC hf hR, hC.1.2.2.2.2 _ hi.1, hC.1.2.2.2.2 _ hi.2⟩ ⟨hp.1, va_recv hC.2.1 (u_PL hP) hc he, hp.2⟩ rfl hna hl.1 hst (lv_room hw8) d hcs) hP hD hS kk
/-- invokestatic, framed -/
theorem u_callSF (hC : vx p s m args meth c cc nL own D G A) {idx yL h na : Nat} {y : MethodName} {b : ByteArray} {ret : Option FieldType} {wc wr : va_W} {As : List Value} {st0 : List Value} (hM : Ct l y b yL ret h mc ms D G wc As post) (hf : u_Cb own idx y b yL ret na) (hi : Cond.static y ∈ gw)
    (hR : h + 1 ≤ R.frames ∧ 8 + (yL + 11) + 40 * h ≤ R.locals) (hcs : k + mc ≤ R.cells ∧ n + ms ≤ R.slots) (hna : As.length = na) (hst : st0 = As.reverse ++ st) (hw8 : (st.map fun v => v.category).sum ≤ 8) (d : decode cc pc = .ok (.invokestatic idx, 3))
    (kk : ∀ (v : Option Value) (w' : va_W), post v w' → U p l e R s m args below meth c nL D A (w' ++ wr) (k + mc) (n + ms) Q (pc + 3) L (v.toList ++ st)) : U p l e R s m args below meth c nL D A (wc ++ wr) k n Q pc L st0 := by
  intro ls hl H locs hP hD hS
  exact u_run hC.2.2.1 hl (va_runS (As := As) (rest := st) hC.1 (hM H.size) ⟨u_CallB hC hf hR, hC.1.2.2.2.2 _ hi⟩ (u_PreS hC (av := As) hP hD hS) rfl hna hl.1 hst (lv_room hw8) d hcs) hP hD hS kk
/-- invokespecial of a constructor, framed -/
theorem u_callIF (hC : vx p s m args meth c cc nL own D G A) {idx yL h na a : Nat} {y : MethodName} {b : ByteArray} {wc wr : va_W} {As : List Value} {st0 : List Value} (hM : Ct l y b yL none h mc ms D G wc (.ref a :: As) post) (hf : u_Cb own idx y b yL none na) (hi : Cond.instanceMethod y ∈ gw) (hy : y.name = "<init>")
    (hR : h + 1 ≤ R.frames ∧ 8 + (yL + 11) + 40 * h ≤ R.locals) (hcs : k + mc ≤ R.cells ∧ n + ms ≤ R.slots) (hna : As.length = na) (hst : st0 = As.reverse ++ .ref a :: st) (hw8 : (st.map fun v => v.category).sum ≤ 8) (d : decode cc pc = .ok (.invokespecial idx, 3))
    (kk : ∀ (v : Option Value) (w' : va_W), post v w' → U p l e R s m args below meth c nL D A (w' ++ wr) (k + mc) (n + ms) Q (pc + 3) L (v.toList ++ st)) : U p l e R s m args below meth c nL D A (wc ++ wr) k n Q pc L st0 := by
  intro ls hl H locs hP hD hS
  exact u_run hC.2.2.1 hl (va_runI (As := As) (rest := st) hC.1 (hM H.size) ⟨u_CallB hC hf hR, hy, hC.1.2.2.2.2 _ hi⟩ (u_PreS hC (av := .ref a :: As) hP hD hS) rfl hna hl.1 hst (lv_room hw8) d hcs) hP hD hS kk
theorem u_nil {w : va_W} {k n pc : Nat} {st : List Value} (kk : U p l e R s m args below meth c nL D A w k n Q pc L st) : U p l e R s m args below meth c nL D A (w ++ []) k n Q pc L st := by rw [List.append_nil]; exact kk
theorem u_callV (hC : vx p s m args meth c cc nL own D G A) {idx yL h na a ci N q0 : Nat} {y : MethodName} {b : ByteArray} {ret : Option FieldType} {As fs : List Value} {T : u_T} {st0 : List Value} (hM : Ct l y b yL ret h mc ms D G ws (.ref a :: As) post) (hf : u_Cb own idx y b yL ret na) (hi : Cond.instanceMethod y ∈ gw ∧ Cond.selects y.cls y y ∈ gw) (he : ws[q0]? = some (a, .inr (ci, fs))) (hc : cls[ci]? = some (y.cls, T, N))
    (hR : h + 1 ≤ R.frames ∧ 8 + (yL + 11) + 40 * h ≤ R.locals) (hcs : k + mc ≤ R.cells ∧ n + ms ≤ R.slots) (hna : As.length = na) (hst : st0 = As.reverse ++ .ref a :: st) (hw8 : (st.map fun v => v.category).sum ≤ 8) (d : decode cc pc = .ok (.invokevirtual idx, 3))
    (kk : ∀ (v : Option Value) (w' : va_W), post v w' → U p l e R s m args below meth c nL D A w' (k + mc) (n + ms) Q (pc + 3) L (v.toList ++ st)) : U p l e R s m args below meth c nL D A ws k n Q pc L st0 := by
  have h := u_callVF (wr := []) (Q := Q) (n := n) (k := k) (L := L) (pc := pc) (e := e) (below := below) hC hM hf hi he hc hR hcs hna hst hw8 d (fun v w' hp => u_nil (kk v w' hp))
  rwa [List.append_nil] at h
theorem u_callS (hC : vx p s m args meth c cc nL own D G A) {idx yL h na : Nat} {y : MethodName} {b : ByteArray} {ret : Option FieldType} {As : List Value} {st0 : List Value} (hM : Ct l y b yL ret h mc ms D G ws As post) (hf : u_Cb own idx y b yL ret na) (hi : Cond.static y ∈ gw)
    (hR : h + 1 ≤ R.frames ∧ 8 + (yL + 11) + 40 * h ≤ R.locals) (hcs : k + mc ≤ R.cells ∧ n + ms ≤ R.slots) (hna : As.length = na) (hst : st0 = As.reverse ++ st) (hw8 : (st.map fun v => v.category).sum ≤ 8) (d : decode cc pc = .ok (.invokestatic idx, 3))
    (kk : ∀ (v : Option Value) (w' : va_W), post v w' → U p l e R s m args below meth c nL D A w' (k + mc) (n + ms) Q (pc + 3) L (v.toList ++ st)) : U p l e R s m args below meth c nL D A ws k n Q pc L st0 := by
  have h := u_callSF (wr := []) (Q := Q) (n := n) (k := k) (L := L) (pc := pc) (e := e) (below := below) hC hM hf hi hR hcs hna hst hw8 d (fun v w' hp => u_nil (kk v w' hp))
  rwa [List.append_nil] at h
theorem u_callI (hC : vx p s m args meth c cc nL own D G A) {idx yL h na a : Nat} {y : MethodName} {b : ByteArray} {As : List Value} {st0 : List Value} (hM : Ct l y b yL none h mc ms D G ws (.ref a :: As) post) (hf : u_Cb own idx y b yL none na) (hi : Cond.instanceMethod y ∈ gw) (hy : y.name = "<init>")
    (hR : h + 1 ≤ R.frames ∧ 8 + (yL + 11) + 40 * h ≤ R.locals) (hcs : k + mc ≤ R.cells ∧ n + ms ≤ R.slots) (hna : As.length = na) (hst : st0 = As.reverse ++ .ref a :: st) (hw8 : (st.map fun v => v.category).sum ≤ 8) (d : decode cc pc = .ok (.invokespecial idx, 3))
    (kk : ∀ (v : Option Value) (w' : va_W), post v w' → U p l e R s m args below meth c nL D A w' (k + mc) (n + ms) Q (pc + 3) L (v.toList ++ st)) : U p l e R s m args below meth c nL D A ws k n Q pc L st0 := by
  have h := u_callIF (wr := []) (Q := Q) (n := n) (k := k) (L := L) (pc := pc) (e := e) (below := below) hC hM hf hi hy hR hcs hna hst hw8 d (fun v w' hp => u_nil (kk v w' hp))
  rwa [List.append_nil] at h
end VC
end
section
/-! A world read by addresses: wg (what lies at an address), wup (another content at an address), and the rows over them: no places in lists. -/
def wg : va_W → Nat → Option va_E
  | [], _ => none
  | q :: r, a => if q.1 = a then some q.2 else wg r a
def wup (ws : va_W) (a : Nat) (x : va_E) : va_W := ws.map (fun q => if q.1 = a then (a, x) else q)
theorem wg_ix : ∀ {ws : va_W} {a : Nat} {x : va_E}, wg ws a = some x → ∃ q0 : Nat, ws[q0]? = some (a, x)
  | [], a, x, h => by simp [wg] at h
  | q :: r, a, x, h => by
    unfold wg at h
    by_cases c : q.1 = a
    · rw [if_pos c] at h
      exact ⟨0, by rw [List.getElem?_cons_zero, ← c, ← Option.some.inj h]⟩
    · rw [if_neg c] at h
      obtain ⟨i, hi⟩ := wg_ix h
      exact ⟨i + 1, by rw [List.getElem?_cons_succ]; exact hi⟩
theorem wg_app {w2 : va_W} : ∀ {w1 : va_W} {a : Nat} {x : va_E}, wg w1 a = some x → wg (w1 ++ w2) a = some x
  | [], a, x, h => by simp [wg] at h
  | q :: r, a, x, h => by
    rw [List.cons_append]
    unfold wg at h ⊢
    by_cases c : q.1 = a
    · rw [if_pos c] at h ⊢; exact h
    · rw [if_neg c] at h ⊢; exact wg_app h
theorem wg_appN {w2 : va_W} : ∀ {w1 : va_W} {a : Nat}, wg w1 a = none → wg (w1 ++ w2) a = wg w2 a
  | [], a, h => rfl
  | q :: r, a, h => by
    rw [List.cons_append]
    unfold wg at h
    by_cases c : q.1 = a
    · rw [if_pos c] at h; cases h
    · rw [if_neg c] at h
      rw [wg, if_neg c]
      exact wg_appN h
theorem wg_push {ws : va_W} {a : Nat} {x : va_E} (h : wg ws a = none) : wg (ws ++ [(a, x)]) a = some x := by
  rw [wg_appN h]; simp [wg]
theorem wg_pushN {ws : va_W} {a b : Nat} {x : va_E} (h : b ≠ a) : wg (ws ++ [(a, x)]) b = wg ws b := by
  cases hb : wg ws b with
  | some y => exact wg_app hb
  | none => rw [wg_appN hb]; simp [wg, Ne.symm h]
theorem wg_up : ∀ {ws : va_W} {a : Nat} {x y : va_E}, wg ws a = some x → wg (wup ws a y) a = some y
  | [], a, x, y, h => by simp [wg] at h
  | q :: r, a, x, y, h => by
    unfold wg at h
    unfold wup
    rw [List.map_cons]
    by_cases c : q.1 = a
    · rw [if_pos c]; simp [wg]
    · rw [if_neg c] at h ⊢
      rw [wg, if_neg c]
      exact wg_up h
theorem wg_upN : ∀ {ws : va_W} {a b : Nat} {y : va_E}, b ≠ a → wg (wup ws a y) b = wg ws b
  | [], a, b, y, h => rfl
  | q :: r, a, b, y, h => by
    unfold wup
    rw [List.map_cons]
    by_cases c : q.1 = a
    · rw [if_pos c, wg, wg, if_neg (Ne.symm h), if_neg (by rw [c]; exact Ne.symm h)]
      exact wg_upN h
    · rw [if_neg c, wg, wg]
      by_cases c2 : q.1 = b
      · rw [if_pos c2, if_pos c2]
      · rw [if_neg c2, if_neg c2]
        exact wg_upN h
/-- two contents that differ lie at two addresses -/
theorem wg_ne {ws : va_W} {a b : Nat} {x y : va_E} (h1 : wg ws a = some x) (h2 : wg ws b = some y) (h : x ≠ y) : a ≠ b := by
  intro q
  subst q
  exact h (Option.some.inj (h1.symm.trans h2))
theorem wup_noop : ∀ {ws : va_W} {a : Nat} {y : va_E}, (∀ (i : Nat) (q : Nat × va_E), ws[i]? = some q → q.1 ≠ a) → wup ws a y = ws
  | [], a, y, h => rfl
  | q :: r, a, y, h => by
    unfold wup
    rw [List.map_cons, if_neg (h 0 q rfl)]
    congr 1
    exact wup_noop (fun i x hx => h (i + 1) x (by rw [List.getElem?_cons_succ]; exact hx))
theorem wup_set : ∀ {ws : va_W} {A : Nat → Prop} {q0 a : Nat} {x y : va_E}, va_D A ws → ws[q0]? = some (a, x) → ws.set q0 (a, y) = wup ws a y
  | [], A, q0, a, x, y, hD, h => by simp at h
  | q :: r, A, 0, a, x, y, hD, h => by
    rw [List.getElem?_cons_zero] at h
    have e : q = (a, x) := Option.some.inj h
    subst e
    rw [List.set_cons_zero]
    unfold wup
    rw [List.map_cons, if_pos rfl]
    congr 1
    refine (wup_noop (fun i z hz c => ?_)).symm
    have := hD.1 (i + 1) 0 z (a, x) (by rw [List.getElem?_cons_succ]; exact hz) rfl c
    omega
  | q :: r, A, q0 + 1, a, x, y, hD, h => by
    rw [List.getElem?_cons_succ] at h
    rw [List.set_cons_succ]
    unfold wup
    rw [List.map_cons, if_neg (fun c => by
      have := hD.1 0 (q0 + 1) q (a, x) rfl (by rw [List.getElem?_cons_succ]; exact h) c
      omega)]
    congr 1
    exact wup_set (A := A) ⟨fun i j u v hi hj e => Nat.succ.inj (hD.1 (i + 1) (j + 1) u v (by rw [List.getElem?_cons_succ]; exact hi) (by rw [List.getElem?_cons_succ]; exact hj) e), fun i u hi => hD.2 (i + 1) u (by rw [List.getElem?_cons_succ]; exact hi)⟩ h
theorem wg_fresh {ws : va_W} {A : Nat → Prop} {q : Nat} {x : va_E} (hD : va_D A (ws ++ [(q, x)])) : wg ws q = none := by
  cases h : wg ws q with
  | none => rfl
  | some y =>
    obtain ⟨i, hi⟩ := wg_ix h
    exact absurd (rfl : q = q) (u_Dx hD (x := (q, y)) (y := (q, x)) (j := 0) hi rfl)
section VM
variable {p : Program} {l : Launch} {e : Env} {R : Room} {s : State} {m : MethodId} {args : Array Value} {below : List Frame} {meth : Method} {c : Code} {k n : Nat} {Q : State → Prop}
variable {cc : ByteArray} {nL : Nat} {own : String} {D : va_G} {G : u_G} {A : Nat → Prop} {pc : Nat} {L : List (Nat × Value)} {st : List Value} {ws : va_W}
/-- the addresses are apart: told to the one who asks -/
theorem u_D (kk : (∃ B : Nat → Prop, va_D B ws) → U p l e R s m args below meth c nL D A ws k n Q pc L st) : U p l e R s m args below meth c nL D A ws k n Q pc L st := fun ls hl H locs hP hD hS => kk ⟨A, hD⟩ ls hl H locs hP hD hS
theorem w_get (hC : vx p s m args meth c cc nL own D G A) {idx ci j N a : Nat} {C : String} {T : u_T} {fs : List Value} {v : Value} (hf : u_Ff own idx ci j C T N) (he : wg ws a = some (.inr (ci, fs))) (hv : fs[j]? = some v) (d : decode cc pc = .ok (.getfield idx, 3))
    (kk : U p l e R s m args below meth c nL D A ws k n Q (pc + 3) L (v :: st)) : U p l e R s m args below meth c nL D A ws k n Q pc L (.ref a :: st) := by
  obtain ⟨q0, h0⟩ := wg_ix he
  exact u_get hC hf q0 h0 hv d kk
theorem w_put (hC : vx p s m args meth c cc nL own D G A) {idx ci j N a : Nat} {C : String} {T : u_T} {fs : List Value} {v : Value} {t0 : Nat → FieldType} (hf : u_Ff own idx ci j C T N) (ht : u_Ft j T N t0) (hfin : (T j).2.2.2 = false) (he : wg ws a = some (.inr (ci, fs))) (hn : narrow (t0 j) v = v) (hfit : fits (t0 j) v = true) (hl9 : j < fs.length) (d : decode cc pc = .ok (.putfield idx, 3))
    (kk : U p l e R s m args below meth c nL D A (wup ws a (.inr (ci, fs.set j v))) k n Q (pc + 3) L st) : U p l e R s m args below meth c nL D A ws k n Q pc L (v :: .ref a :: st) := by
  obtain ⟨q0, h0⟩ := wg_ix he
  exact u_D (fun ⟨B, hD⟩ => u_put hC hf ht hfin q0 h0 hn hfit hl9 (wup_set hD h0) d kk)
theorem w_putF (hC : vx p s m args meth c cc nL own D G A) {idx ci j N a : Nat} {C : String} {T : u_T} {fs : List Value} {v : Value} {t0 : Nat → FieldType} (hf : u_Ff own idx ci j C T N) (ht : u_Ft j T N t0) (hfin : (T j).2.2.2 = true) (hin : meth.name = "<init>") (hdecl : (T j).1 = own) (he : wg ws a = some (.inr (ci, fs))) (hn : narrow (t0 j) v = v) (hfit : fits (t0 j) v = true) (hl9 : j < fs.length) (d : decode cc pc = .ok (.putfield idx, 3))
    (kk : U p l e R s m args below meth c nL D A (wup ws a (.inr (ci, fs.set j v))) k n Q (pc + 3) L st) : U p l e R s m args below meth c nL D A ws k n Q pc L (v :: .ref a :: st) := by
  obtain ⟨q0, h0⟩ := wg_ix he
  exact u_D (fun ⟨B, hD⟩ => u_putF hC hf ht hfin hin hdecl q0 h0 hn hfit hl9 (wup_set hD h0) d kk)
theorem w_iald (hC : vx p s m args meth c cc nL own D G A) {a N : Nat} {cA : ClassId} {f : Nat → Int32} {i : Int32} (t0 : Nat) (ha : wg ws a = some (.inl (cA, N, .inl f))) (ht : G.1[t0]? = some (cA, .int)) (q : Nat) (hi : i = nI q) (hq : q < N) (hN : N < 2 ^ 31) (d : decode cc pc = .ok (.iaload, 1))
    (kk : U p l e R s m args below meth c nL D A ws k n Q (pc + 1) L (.int (f q) :: st)) : U p l e R s m args below meth c nL D A ws k n Q pc L (.int i :: .ref a :: st) := by
  obtain ⟨q0, h0⟩ := wg_ix ha
  subst hi
  have e : (nI q).toNatClampNeg = q := nI_clamp (Nat.lt_trans hq hN)
  exact u_iald hC q0 t0 h0 ht (vp_in_nI hq hN) d (by rw [e]; exact kk)
theorem w_iast (hC : vx p s m args meth c cc nL own D G A) {a N : Nat} {cA : ClassId} {f : Nat → Int32} {i x : Int32} (t0 : Nat) (ha : wg ws a = some (.inl (cA, N, .inl f))) (ht : G.1[t0]? = some (cA, .int)) (q : Nat) (hi : i = nI q) (hq : q < N) (hN : N < 2 ^ 31) (d : decode cc pc = .ok (.iastore, 1))
    (kk : U p l e R s m args below meth c nL D A (wup ws a (.inl (cA, N, .inl (upd f q x)))) k n Q (pc + 1) L st) : U p l e R s m args below meth c nL D A ws k n Q pc L (.int x :: .int i :: .ref a :: st) := by
  obtain ⟨q0, h0⟩ := wg_ix ha
  subst hi
  have e : (nI q).toNatClampNeg = q := nI_clamp (Nat.lt_trans hq hN)
  exact u_D (fun ⟨B, hD⟩ => u_iast hC q0 t0 h0 ht (vp_in_nI hq hN) (by rw [e]; exact wup_set hD h0) d kk)
theorem w_aldq (hC : vx p s m args meth c cc nL own D G A) {a N : Nat} {cA : ClassId} {C : String} {f : Nat → Option Nat} {i : Int32} (t0 : Nat) (ha : wg ws a = some (.inl (cA, N, .inr (.inr (.inr (.inr f)))))) (ht : G.1[t0]? = some (cA, .object C)) (q : Nat) (hi : i = nI q) (hq : q < N) (hN : N < 2 ^ 31) (d : decode cc pc = .ok (.aaload, 1))
    (kk : U p l e R s m args below meth c nL D A ws k n Q (pc + 1) L (va_rf (f q) :: st)) : U p l e R s m args below meth c nL D A ws k n Q pc L (.int i :: .ref a :: st) := by
  obtain ⟨q0, h0⟩ := wg_ix ha
  subst hi
  have e : (nI q).toNatClampNeg = q := nI_clamp (Nat.lt_trans hq hN)
  exact u_aldq hC q0 t0 h0 ht (vp_in_nI hq hN) d (by rw [e]; exact kk)
theorem w_astq (hC : vx p s m args meth c cc nL own D G A) {a N v ci : Nat} {cA : ClassId} {r : vw_C} {vs : List Value} {f : Nat → Option Nat} {i : Int32} (t0 : Nat) (ha : wg ws a = some (.inl (cA, N, .inr (.inr (.inr (.inr f)))))) (ht : G.1[t0]? = some (cA, .object r.1)) (hv : wg ws v = some (.inr (ci, vs))) (hc : cls[ci]? = some r) (q : Nat) (hi : i = nI q) (hq : q < N) (hN : N < 2 ^ 31) (d : decode cc pc = .ok (.aastore, 1))
    (kk : U p l e R s m args below meth c nL D A (wup ws a (.inl (cA, N, .inr (.inr (.inr (.inr (va_up f q (some v)))))))) k n Q (pc + 1) L st) : U p l e R s m args below meth c nL D A ws k n Q pc L (.ref v :: .int i :: .ref a :: st) := by
  obtain ⟨q0, h0⟩ := wg_ix ha
  obtain ⟨q1, h1⟩ := wg_ix hv
  subst hi
  have e : (nI q).toNatClampNeg = q := nI_clamp (Nat.lt_trans hq hN)
  exact u_D (fun ⟨B, hD⟩ => u_astq hC q0 t0 q1 h0 ht h1 hc (vp_in_nI hq hN) (by rw [e]; exact wup_set hD h0) d kk)
theorem w_astqN (hC : vx p s m args meth c cc nL own D G A) {a N : Nat} {cA : ClassId} {C : String} {f : Nat → Option Nat} {i : Int32} (t0 : Nat) (ha : wg ws a = some (.inl (cA, N, .inr (.inr (.inr (.inr f)))))) (ht : G.1[t0]? = some (cA, .object C)) (q : Nat) (hi : i = nI q) (hq : q < N) (hN : N < 2 ^ 31) (d : decode cc pc = .ok (.aastore, 1))
    (kk : U p l e R s m args below meth c nL D A (wup ws a (.inl (cA, N, .inr (.inr (.inr (.inr (va_up f q none))))))) k n Q (pc + 1) L st) : U p l e R s m args below meth c nL D A ws k n Q pc L (.null :: .int i :: .ref a :: st) := by
  obtain ⟨q0, h0⟩ := wg_ix ha
  subst hi
  have e : (nI q).toNatClampNeg = q := nI_clamp (Nat.lt_trans hq hN)
  exact u_D (fun ⟨B, hD⟩ => u_astqN hC q0 t0 h0 ht (vp_in_nI hq hN) (by rw [e]; exact wup_set hD h0) d kk)
theorem w_astqO (hC : vx p s m args meth c cc nL own D G A) {a N v ci : Nat} {E : String} {cA : ClassId} {r : vw_C} {vs : List Value} {f : Nat → Option Nat} {i : Int32} (t0 : Nat) (ha : wg ws a = some (.inl (cA, N, .inr (.inr (.inr (.inr f)))))) (ht : G.1[t0]? = some (cA, .object E)) (hca : va_Nw (.castable r.1 E) s) (hv : wg ws v = some (.inr (ci, vs))) (hc : cls[ci]? = some r) (q : Nat) (hi : i = nI q) (hq : q < N) (hN : N < 2 ^ 31) (d : decode cc pc = .ok (.aastore, 1))
    (kk : U p l e R s m args below meth c nL D A (wup ws a (.inl (cA, N, .inr (.inr (.inr (.inr (va_up f q (some v)))))))) k n Q (pc + 1) L st) : U p l e R s m args below meth c nL D A ws k n Q pc L (.ref v :: .int i :: .ref a :: st) := by
  obtain ⟨q0, h0⟩ := wg_ix ha
  obtain ⟨q1, h1⟩ := wg_ix hv
  subst hi
  have e : (nI q).toNatClampNeg = q := nI_clamp (Nat.lt_trans hq hN)
  exact u_D (fun ⟨B, hD⟩ => u_astqO hC q0 t0 q1 h0 ht hca h1 hc (vp_in_nI hq hN) (by rw [e]; exact wup_set hD h0) d kk)
theorem w_alen (hC : vx p s m args meth c cc nL own D G A) {a N : Nat} {cA : ClassId} {x : (Nat → Int32) ⊕ (Nat → Int64) ⊕ (Nat → UInt32) ⊕ (Nat → UInt64) ⊕ (Nat → Option Nat)} {ty : FieldType} (t0 : Nat) (ha : wg ws a = some (.inl (cA, N, x))) (ht : G.1[t0]? = some (cA, ty)) (d : decode cc pc = .ok (.arraylength, 1))
    (kk : U p l e R s m args below meth c nL D A ws k n Q (pc + 1) L (.int (nI N) :: st)) : U p l e R s m args below meth c nL D A ws k n Q pc L (.ref a :: st) := by
  obtain ⟨q0, h0⟩ := wg_ix ha
  exact u_alen hC (nI N) q0 t0 h0 ht rfl d kk
theorem w_cast (hC : vx p s m args meth c cc nL own D G A) {idx ci N a : Nat} {C : String} {T : u_T} {fs : List Value} (hc : cls[ci]? = some (C, T, N)) (hlk : Cond.classLink own idx C ∈ gw) (he : wg ws a = some (.inr (ci, fs))) (d : decode cc pc = .ok (.checkcast idx, 3))
    (kk : U p l e R s m args below meth c nL D A ws k n Q (pc + 3) L (.ref a :: st)) : U p l e R s m args below meth c nL D A ws k n Q pc L (.ref a :: st) := by
  obtain ⟨q0, h0⟩ := wg_ix he
  exact u_cast hC hc hlk q0 h0 d kk
theorem w_fresh {q pc k n : Nat} {x : va_E} {st : List Value} (kk : wg ws q = none → U p l e R s m args below meth c nL D A (ws ++ [(q, x)]) k n Q pc L st) : U p l e R s m args below meth c nL D A (ws ++ [(q, x)]) k n Q pc L st := u_D (fun ⟨_, hD⟩ => kk (wg_fresh hD))
theorem w_new (hC : vx p s m args meth c cc nL own D G A) {idx ci N : Nat} {C : String} {T : u_T} {t0 : Nat → FieldType} {fs : List Value} (hf : u_Nf own idx ci C T N t0 fs) (hk : k + 1 ≤ R.cells) (hn : n + N ≤ R.slots) (d : decode cc pc = .ok (.new idx, 3))
    (kk : ∀ q : Nat, wg ws q = none → U p l e R s m args below meth c nL D A (ws ++ [(q, .inr (ci, fs))]) (k + 1) (n + N) Q (pc + 3) L (.ref q :: st)) : U p l e R s m args below meth c nL D A ws k n Q pc L st := u_new hC hf hk hn d (fun q => w_fresh (kk q))
variable {post : Option Value → va_W → Prop} {mc ms : Nat}
theorem w_callV (hC : vx p s m args meth c cc nL own D G A) {idx yL h na a ci N : Nat} {y : MethodName} {b : ByteArray} {ret : Option FieldType} {As fs : List Value} {T : u_T} {st0 : List Value} (hM : Ct l y b yL ret h mc ms D G ws (.ref a :: As) post) (hf : u_Cb own idx y b yL ret na) (hi : Cond.instanceMethod y ∈ gw ∧ Cond.selects y.cls y y ∈ gw) (he : wg ws a = some (.inr (ci, fs))) (hc : cls[ci]? = some (y.cls, T, N))
    (hR : h + 1 ≤ R.frames ∧ 8 + (yL + 11) + 40 * h ≤ R.locals) (hcs : k + mc ≤ R.cells ∧ n + ms ≤ R.slots) (hna : As.length = na) (hst : st0 = As.reverse ++ .ref a :: st) (hw8 : (st.map fun v => v.category).sum ≤ 8) (d : decode cc pc = .ok (.invokevirtual idx, 3))
    (kk : ∀ (v : Option Value) (w' : va_W), post v w' → U p l e R s m args below meth c nL D A w' (k + mc) (n + ms) Q (pc + 3) L (v.toList ++ st)) : U p l e R s m args below meth c nL D A ws k n Q pc L st0 := by
  obtain ⟨q0, h0⟩ := wg_ix he
  exact u_callV hC hM hf hi h0 hc hR hcs hna hst hw8 d kk
end VM
end
section
/-! Rows by places, with an index that is a number; small rows on numbers. -/
def rt (v : Value) (w : va_W) : Option Value → va_W → Prop := fun v' w' => v' = some v ∧ w' = w
def rtv (w : va_W) : Option Value → va_W → Prop := fun v' w' => v' = none ∧ w' = w
section VP2
variable {p : Program} {l : Launch} {e : Env} {R : Room} {s : State} {m : MethodId} {args : Array Value} {below : List Frame} {meth : Method} {c : Code} {k n : Nat} {Q : State → Prop}
variable {cc : ByteArray} {nL : Nat} {own : String} {D : va_G} {G : u_G} {A : Nat → Prop} {pc : Nat} {L : List (Nat × Value)} {st : List Value} {ws : va_W}
theorem p_iald (hC : vx p s m args meth c cc nL own D G A) {a N : Nat} {cA : ClassId} {f : Nat → Int32} {i : Int32} (q0 t0 : Nat) (ha : ws[q0]? = some (a, .inl (cA, N, .inl f))) (ht : G.1[t0]? = some (cA, .int)) (q : Nat) (hi : i = nI q) (hq : q < N) (hN : N < 2 ^ 31) (d : decode cc pc = .ok (.iaload, 1))
    (kk : U p l e R s m args below meth c nL D A ws k n Q (pc + 1) L (.int (f q) :: st)) : U p l e R s m args below meth c nL D A ws k n Q pc L (.int i :: .ref a :: st) := by
  subst hi
  have e : (nI q).toNatClampNeg = q := nI_clamp (Nat.lt_trans hq hN)
  exact u_iald hC q0 t0 ha ht (vp_in_nI hq hN) d (by rw [e]; exact kk)
theorem p_zald (hC : vx p s m args meth c cc nL own D G A) {a N : Nat} {cA : ClassId} {f : Nat → Int32} {i : Int32} (q0 t0 : Nat) (ha : ws[q0]? = some (a, .inl (cA, N, .inl f))) (ht : G.1[t0]? = some (cA, .boolean)) (q : Nat) (hi : i = nI q) (hq : q < N) (hN : N < 2 ^ 31) (d : decode cc pc = .ok (.baload, 1))
    (kk : U p l e R s m args below meth c nL D A ws k n Q (pc + 1) L (.int (f q) :: st)) : U p l e R s m args below meth c nL D A ws k n Q pc L (.int i :: .ref a :: st) := by
  subst hi
  have e : (nI q).toNatClampNeg = q := nI_clamp (Nat.lt_trans hq hN)
  exact u_zald hC q0 t0 ha ht (vp_in_nI hq hN) d (by rw [e]; exact kk)
theorem p_iast (hC : vx p s m args meth c cc nL own D G A) {a N : Nat} {cA : ClassId} {f : Nat → Int32} {i x : Int32} {ws' : va_W} (q0 t0 : Nat) (ha : ws[q0]? = some (a, .inl (cA, N, .inl f))) (ht : G.1[t0]? = some (cA, .int)) (q : Nat) (hi : i = nI q) (hq : q < N) (hN : N < 2 ^ 31) (hw : ws.set q0 (a, .inl (cA, N, .inl (upd f q x))) = ws') (d : decode cc pc = .ok (.iastore, 1))
    (kk : U p l e R s m args below meth c nL D A ws' k n Q (pc + 1) L st) : U p l e R s m args below meth c nL D A ws k n Q pc L (.int x :: .int i :: .ref a :: st) := by
  subst hi
  have e : (nI q).toNatClampNeg = q := nI_clamp (Nat.lt_trans hq hN)
  exact u_iast hC q0 t0 ha ht (vp_in_nI hq hN) (by rw [e]; exact hw) d kk
theorem p_zast (hC : vx p s m args meth c cc nL own D G A) {a N : Nat} {cA : ClassId} {f : Nat → Int32} {i x : Int32} {ws' : va_W} (q0 t0 : Nat) (ha : ws[q0]? = some (a, .inl (cA, N, .inl f))) (ht : G.1[t0]? = some (cA, .boolean)) (q : Nat) (hi : i = nI q) (hq : q < N) (hN : N < 2 ^ 31) (hw : ws.set q0 (a, .inl (cA, N, .inl (upd f q (vp_nar .boolean x)))) = ws') (d : decode cc pc = .ok (.bastore, 1))
    (kk : U p l e R s m args below meth c nL D A ws' k n Q (pc + 1) L st) : U p l e R s m args below meth c nL D A ws k n Q pc L (.int x :: .int i :: .ref a :: st) := by
  subst hi
  have e : (nI q).toNatClampNeg = q := nI_clamp (Nat.lt_trans hq hN)
  exact u_zast hC q0 t0 ha ht (vp_in_nI hq hN) (by rw [e]; exact hw) d kk
end VP2
theorem n_rng {x : Int32} {lo hi : Nat} (hh : hi < 2 ^ 31) (hlo : lo < 2 ^ 31) (h1 : ¬ x < nI lo) (h2 : ¬ nI hi < x) : ∃ i : Nat, lo ≤ i ∧ i ≤ hi ∧ x = nI i := by
  rw [Int32.lt_iff_toInt_lt, nI_toInt hlo] at h1
  rw [Int32.lt_iff_toInt_lt, nI_toInt hh] at h2
  have h0 : ¬ x < 0 := by rw [Int32.lt_iff_toInt_lt, Int32.toInt_zero]; omega
  obtain ⟨j, hj, rfl⟩ := nI_of h0
  rw [nI_toInt hj] at h1 h2
  exact ⟨j, by omega, by omega, rfl⟩
theorem n_rng0 {x : Int32} {hi : Nat} (hh : hi < 2 ^ 31) (h1 : ¬ x < 0) (h2 : ¬ nI hi ≤ x) : ∃ i : Nat, i < hi ∧ x = nI i := by
  obtain ⟨j, hj, rfl⟩ := nI_of h1
  rw [Int32.le_iff_toInt_le, nI_toInt hj, nI_toInt hh] at h2
  exact ⟨j, by omega, rfl⟩
theorem n_8 (j q : Nat) : nI 8 * nI j + nI q = nI (8 * j + q) := by rw [pk_mul, nI_add]
theorem n_8a (j : Nat) : nI 8 * nI j = nI (8 * j) := pk_mul 8 j
theorem n_8d {b : Nat} (hb : b < 2 ^ 31) : nI b / nI 8 = nI (b / 8) := pk_div hb (by decide) (by decide)
theorem n_8r {b : Nat} (hb : b < 2 ^ 31) : nI b - nI b / nI 8 * nI 8 = nI (b % 8) := pk_rem hb (by decide) (by decide)
theorem n_pred {q : Nat} (h : 0 < q) : nI q - nI 1 = nI (q - 1) := pk_sub h
section VP3
variable {p : Program} {l : Launch} {e : Env} {R : Room} {s : State} {m : MethodId} {args : Array Value} {below : List Frame} {meth : Method} {c : Code} {k n : Nat} {Q : State → Prop}
variable {cc : ByteArray} {nL : Nat} {own : String} {D : va_G} {G : u_G} {A : Nat → Prop} {pc : Nat} {L : List (Nat × Value)} {st : List Value} {ws w1 : va_W} {v1 : Value} {mc ms : Nat}
theorem u_callVr (hC : vx p s m args meth c cc nL own D G A) {idx yL h na a ci N q0 : Nat} {y : MethodName} {b : ByteArray} {ret : Option FieldType} {As fs : List Value} {T : u_T} {st0 : List Value} (hM : Ct l y b yL ret h mc ms D G ws (.ref a :: As) (rt v1 w1)) (hf : u_Cb own idx y b yL ret na) (hi : Cond.instanceMethod y ∈ gw ∧ Cond.selects y.cls y y ∈ gw) (he : ws[q0]? = some (a, .inr (ci, fs))) (hc : cls[ci]? = some (y.cls, T, N))
    (hR : h + 1 ≤ R.frames ∧ 8 + (yL + 11) + 40 * h ≤ R.locals) (hcs : k + mc ≤ R.cells ∧ n + ms ≤ R.slots) (hna : As.length = na) (hst : st0 = As.reverse ++ .ref a :: st) (hw8 : (st.map fun v => v.category).sum ≤ 8) (d : decode cc pc = .ok (.invokevirtual idx, 3))
    (kk : U p l e R s m args below meth c nL D A w1 (k + mc) (n + ms) Q (pc + 3) L (v1 :: st)) : U p l e R s m args below meth c nL D A ws k n Q pc L st0 :=
  u_callV hC hM hf hi he hc hR hcs hna hst hw8 d (fun v w' hp => by obtain ⟨rfl, rfl⟩ := hp; exact kk)
theorem u_callVv (hC : vx p s m args meth c cc nL own D G A) {idx yL h na a ci N q0 : Nat} {y : MethodName} {b : ByteArray} {ret : Option FieldType} {As fs : List Value} {T : u_T} {st0 : List Value} (hM : Ct l y b yL ret h mc ms D G ws (.ref a :: As) (rtv w1)) (hf : u_Cb own idx y b yL ret na) (hi : Cond.instanceMethod y ∈ gw ∧ Cond.selects y.cls y y ∈ gw) (he : ws[q0]? = some (a, .inr (ci, fs))) (hc : cls[ci]? = some (y.cls, T, N))
    (hR : h + 1 ≤ R.frames ∧ 8 + (yL + 11) + 40 * h ≤ R.locals) (hcs : k + mc ≤ R.cells ∧ n + ms ≤ R.slots) (hna : As.length = na) (hst : st0 = As.reverse ++ .ref a :: st) (hw8 : (st.map fun v => v.category).sum ≤ 8) (d : decode cc pc = .ok (.invokevirtual idx, 3))
    (kk : U p l e R s m args below meth c nL D A w1 (k + mc) (n + ms) Q (pc + 3) L st) : U p l e R s m args below meth c nL D A ws k n Q pc L st0 :=
  u_callV hC hM hf hi he hc hR hcs hna hst hw8 d (fun v w' hp => by obtain ⟨rfl, rfl⟩ := hp; exact kk)
theorem w_callVr (hC : vx p s m args meth c cc nL own D G A) {idx yL h na a ci N : Nat} {y : MethodName} {b : ByteArray} {ret : Option FieldType} {As fs : List Value} {T : u_T} {st0 : List Value} (hM : Ct l y b yL ret h mc ms D G ws (.ref a :: As) (rt v1 w1)) (hf : u_Cb own idx y b yL ret na) (hi : Cond.instanceMethod y ∈ gw ∧ Cond.selects y.cls y y ∈ gw) (he : wg ws a = some (.inr (ci, fs))) (hc : cls[ci]? = some (y.cls, T, N))
    (hR : h + 1 ≤ R.frames ∧ 8 + (yL + 11) + 40 * h ≤ R.locals) (hcs : k + mc ≤ R.cells ∧ n + ms ≤ R.slots) (hna : As.length = na) (hst : st0 = As.reverse ++ .ref a :: st) (hw8 : (st.map fun v => v.category).sum ≤ 8) (d : decode cc pc = .ok (.invokevirtual idx, 3))
    (kk : U p l e R s m args below meth c nL D A w1 (k + mc) (n + ms) Q (pc + 3) L (v1 :: st)) : U p l e R s m args below meth c nL D A ws k n Q pc L st0 :=
  w_callV hC hM hf hi he hc hR hcs hna hst hw8 d (fun v w' hp => by obtain ⟨rfl, rfl⟩ := hp; exact kk)
theorem w_callVv (hC : vx p s m args meth c cc nL own D G A) {idx yL h na a ci N : Nat} {y : MethodName} {b : ByteArray} {ret : Option FieldType} {As fs : List Value} {T : u_T} {st0 : List Value} (hM : Ct l y b yL ret h mc ms D G ws (.ref a :: As) (rtv w1)) (hf : u_Cb own idx y b yL ret na) (hi : Cond.instanceMethod y ∈ gw ∧ Cond.selects y.cls y y ∈ gw) (he : wg ws a = some (.inr (ci, fs))) (hc : cls[ci]? = some (y.cls, T, N))
    (hR : h + 1 ≤ R.frames ∧ 8 + (yL + 11) + 40 * h ≤ R.locals) (hcs : k + mc ≤ R.cells ∧ n + ms ≤ R.slots) (hna : As.length = na) (hst : st0 = As.reverse ++ .ref a :: st) (hw8 : (st.map fun v => v.category).sum ≤ 8) (d : decode cc pc = .ok (.invokevirtual idx, 3))
    (kk : U p l e R s m args below meth c nL D A w1 (k + mc) (n + ms) Q (pc + 3) L st) : U p l e R s m args below meth c nL D A ws k n Q pc L st0 :=
  w_callV hC hM hf hi he hc hR hcs hna hst hw8 d (fun v w' hp => by obtain ⟨rfl, rfl⟩ := hp; exact kk)
theorem u_callSr (hC : vx p s m args meth c cc nL own D G A) {idx yL h na : Nat} {y : MethodName} {b : ByteArray} {ret : Option FieldType} {As : List Value} {st0 : List Value} (hM : Ct l y b yL ret h mc ms D G ws As (rt v1 w1)) (hf : u_Cb own idx y b yL ret na) (hi : Cond.static y ∈ gw)
    (hR : h + 1 ≤ R.frames ∧ 8 + (yL + 11) + 40 * h ≤ R.locals) (hcs : k + mc ≤ R.cells ∧ n + ms ≤ R.slots) (hna : As.length = na) (hst : st0 = As.reverse ++ st) (hw8 : (st.map fun v => v.category).sum ≤ 8) (d : decode cc pc = .ok (.invokestatic idx, 3))
    (kk : U p l e R s m args below meth c nL D A w1 (k + mc) (n + ms) Q (pc + 3) L (v1 :: st)) : U p l e R s m args below meth c nL D A ws k n Q pc L st0 :=
  u_callS hC hM hf hi hR hcs hna hst hw8 d (fun v w' hp => by obtain ⟨rfl, rfl⟩ := hp; exact kk)
theorem u_callIv (hC : vx p s m args meth c cc nL own D G A) {idx yL h na a : Nat} {y : MethodName} {b : ByteArray} {As : List Value} {st0 : List Value} (hM : Ct l y b yL none h mc ms D G ws (.ref a :: As) (rtv w1)) (hf : u_Cb own idx y b yL none na) (hi : Cond.instanceMethod y ∈ gw) (hy : y.name = "<init>")
    (hR : h + 1 ≤ R.frames ∧ 8 + (yL + 11) + 40 * h ≤ R.locals) (hcs : k + mc ≤ R.cells ∧ n + ms ≤ R.slots) (hna : As.length = na) (hst : st0 = As.reverse ++ .ref a :: st) (hw8 : (st.map fun v => v.category).sum ≤ 8) (d : decode cc pc = .ok (.invokespecial idx, 3))
    (kk : U p l e R s m args below meth c nL D A w1 (k + mc) (n + ms) Q (pc + 3) L st) : U p l e R s m args below meth c nL D A ws k n Q pc L st0 :=
  u_callI hC hM hf hi hy hR hcs hna hst hw8 d (fun v w' hp => by obtain ⟨rfl, rfl⟩ := hp; exact kk)
end VP3
theorem u_pick {p : Program} {l : Launch} {e : Env} {R : Room} {s : State} {m : MethodId} {args : Array Value} {below : List Frame} {meth : Method} {c : Code} {k n : Nat} {Q : State → Prop} {nL : Nat} {D : va_G} {A : Nat → Prop} {pc : Nat} {L L' : List (Nat × Value)} {st : List Value} {ws : va_W} (ks : List Nat) (h : lv_pick L ks = L') (kk : U p l e R s m args below meth c nL D A ws k n Q pc L' st) : U p l e R s m args below meth c nL D A ws k n Q pc L st := fun ls hl => kk ls (lv_sub hl ks h)
theorem u_val {p : Program} {l : Launch} {e : Env} {R : Room} {s : State} {m : MethodId} {args : Array Value} {below : List Frame} {meth : Method} {c : Code} {k n : Nat} {Q : State → Prop} {nL : Nat} {D : va_G} {A : Nat → Prop} {pc : Nat} {L : List (Nat × Value)} {st : List Value} {ws : va_W} {x x' : Int32} (h : x = x') (kk : U p l e R s m args below meth c nL D A ws k n Q pc L (.int x' :: st)) : U p l e R s m args below meth c nL D A ws k n Q pc L (.int x :: st) := h ▸ kk
theorem n_rngl {x : Int32} {hi : Nat} (hh : hi < 2 ^ 31) (h1 : ¬ x < 0) (h2 : x ≤ nI hi) : ∃ i : Nat, i ≤ hi ∧ x = nI i := by
  obtain ⟨j, hj, rfl⟩ := nI_of h1
  rw [Int32.le_iff_toInt_le, nI_toInt hj, nI_toInt hh] at h2
  exact ⟨j, by omega, rfl⟩
theorem u_valb {p : Program} {l : Launch} {e : Env} {R : Room} {s : State} {m : MethodId} {args : Array Value} {below : List Frame} {meth : Method} {c : Code} {k n : Nat} {Q : State → Prop} {nL : Nat} {D : va_G} {A : Nat → Prop} {pc : Nat} {L : List (Nat × Value)} {st : List Value} {ws : va_W} {y : Value} {x x' : Int32} (h : x = x') (kk : U p l e R s m args below meth c nL D A ws k n Q pc L (y :: .int x' :: st)) : U p l e R s m args below meth c nL D A ws k n Q pc L (y :: .int x :: st) := h ▸ kk
end
section
/-! Rows for the list's own methods: the empty array, mirrors, max and min, arraycopy. -/
section VJ
variable {p : Program} {l : Launch} {e : Env} {R : Room} {s : State} {m : MethodId} {args : Array Value} {below : List Frame} {meth : Method} {c : Code} {k n : Nat} {Q : State → Prop}
variable {cc : ByteArray} {nL : Nat} {own : String} {D : va_G} {G : u_G} {A : Nat → Prop} {pc : Nat} {L : List (Nat × Value)} {st : List Value} {ws : va_W}
theorem u_gets (hC : vx p s m args meth c cc nL own D G A) {idx : Nat} (hl9 : Cond.fieldLink own idx "java/util/ArrayList" "DEFAULTCAPACITY_EMPTY_ELEMENTDATA" "[Ljava/lang/Object;" ∈ gw) (d : decode cc pc = .ok (.getstatic idx, 3))
    (kk : U p l e R s m args below meth c nL D A ws k n Q (pc + 3) L (.ref G.2.1 :: st)) : U p l e R s m args below meth c nL D A ws k n Q pc L st := by
  intro ls hl H locs hP hD hS
  exact va_gets hC.1.1 hC.1.2.1 hC.2.2.2.1.1 hS hC.1.2.2.2.1 (hC.1.2.2.2.2 _ hl9) (fun _ h => h) d (kk ls hl H locs hP hD hS)
theorem u_tlen (hC : vx p s m args meth c cc nL own D G A) (d : decode cc pc = .ok (.arraylength, 1))
    (kk : U p l e R s m args below meth c nL D A ws k n Q (pc + 1) L (.int (nI 0) :: st)) : U p l e R s m args below meth c nL D A ws k n Q pc L (.ref G.2.1 :: st) := by
  intro ls hl H locs hP hD hS
  exact va_tlen hC.1.1 hC.1.2.1 hC.2.2.2.1.2.1 hS rfl d (kk ls hl H locs hP hD hS)
theorem u_ldcM (hC : vx p s m args meth c cc nL own D G A) {idx : Nat} (hl9 : Cond.classLink own idx "[Ljava/lang/Object;" ∈ gw) (d : decode cc pc = .ok (.ldc idx, 2))
    (kk : U p l e R s m args below meth c nL D A ws k n Q (pc + 2) L (.ref G.2.2 :: st)) : U p l e R s m args below meth c nL D A ws k n Q pc L st := by
  intro ls hl H locs hP hD hS
  exact va_ldcM hC.1.1 hC.1.2.1 hC.1.2.2.2.1 (hC.1.2.2.2.2 _ hl9) hC.2.2.2.1.2.2.1 d (kk ls hl H locs hP hD hS)
theorem u_ldcI (hC : vx p s m args meth c cc nL own D G A) {idx : Nat} {v : Int32} (hl9 : Cond.constant own idx v ∈ gw) (d : decode cc pc = .ok (.ldc idx, 2))
    (kk : U p l e R s m args below meth c nL D A ws k n Q (pc + 2) L (.int v :: st)) : U p l e R s m args below meth c nL D A ws k n Q pc L st := by
  intro ls hl H locs hP hD hS
  exact lv_ldc hC.1.1 hC.1.2.1 hC.1.2.2.2.1 (hC.1.2.2.2.2 _ hl9) d (kk ls hl H locs hP hD hS)
theorem u_mmax (hC : vx p s m args meth c cc nL own D G A) {idx : Nat} (h1 : Cond.methodLink own idx Lib.Math.max.name ∈ gw) (h2 : Cond.static Lib.Math.max.name ∈ gw) (h3 : Cond.initialized "java/lang/Math" ∈ gw) (h4 : Cond.code Lib.Math.max.name Lib.Math.max.code 2 (some .int) ∈ gw) (hf : 1 ≤ R.frames) (hlo : 21 ≤ R.locals) (hst : (st.map fun v => v.category).sum ≤ 8) (hk : k ≤ R.cells) (hn : n ≤ R.slots) {x y : Int32} (d : decode cc pc = .ok (.invokestatic idx, 3))
    (kk : U p l e R s m args below meth c nL D A ws k n Q (pc + 3) L (.int (if x < y then y else x) :: st)) : U p l e R s m args below meth c nL D A ws k n Q pc L (.int y :: .int x :: st) := by
  intro ls hl H locs hP hD hS
  exact va_mmax hC.1.1 hC.1.2.1 (hC.1.2.2.1.trans hl.1.symm) hC.1.2.2.2.1 (hC.1.2.2.2.2 _ h1) (hC.1.2.2.2.2 _ h2) (hC.1.2.2.2.2 _ h3) (hC.1.2.2.2.2 _ h4) hf (by omega) hk hn d (kk ls hl H locs hP hD hS)
theorem u_mmin (hC : vx p s m args meth c cc nL own D G A) {idx : Nat} (h1 : Cond.methodLink own idx Lib.Math.min.name ∈ gw) (h2 : Cond.static Lib.Math.min.name ∈ gw) (h3 : Cond.initialized "java/lang/Math" ∈ gw) (h4 : Cond.code Lib.Math.min.name Lib.Math.min.code 2 (some .int) ∈ gw) (hf : 1 ≤ R.frames) (hlo : 21 ≤ R.locals) (hst : (st.map fun v => v.category).sum ≤ 8) (hk : k ≤ R.cells) (hn : n ≤ R.slots) {x y : Int32} (d : decode cc pc = .ok (.invokestatic idx, 3))
    (kk : U p l e R s m args below meth c nL D A ws k n Q (pc + 3) L (.int (if y < x then y else x) :: st)) : U p l e R s m args below meth c nL D A ws k n Q pc L (.int y :: .int x :: st) := by
  intro ls hl H locs hP hD hS
  exact va_mmin hC.1.1 hC.1.2.1 (hC.1.2.2.1.trans hl.1.symm) hC.1.2.2.2.1 (hC.1.2.2.2.2 _ h1) (hC.1.2.2.2.2 _ h2) (hC.1.2.2.2.2 _ h3) (hC.1.2.2.2.2 _ h4) hf (by omega) hk hn d (kk ls hl H locs hP hD hS)
end VJ
end
