abbrev u_G : Type := List (ClassId × FieldType) × Nat × Nat
/-! The walk's own judgement. V: the machine at a frame, over a world ws; U: the same with the locals as a list. Rows: one an instruction, lifted from the kit's rows. -/
def u_lk (L : List (Nat × Value)) (i : Nat) : Option Value := match L with
  | [] => none
  | q :: r => if q.1 == i then some q.2 else u_lk r i
theorem u_lk_mem {v : Value} {i : Nat} : ∀ {L : List (Nat × Value)}, u_lk L i = some v → (i, v) ∈ L
  | [], h => by simp [u_lk] at h
  | q :: r, h => by
    unfold u_lk at h
    by_cases c : (q.1 == i) = true
    · rw [if_pos c] at h
      have h1 : q.1 = i := by simpa using c
      have h2 : q.2 = v := Option.some.inj h
      have h3 : q = (i, v) := by rw [← h1, ← h2]
      rw [h3]
      exact List.mem_cons_self
    · rw [if_neg c] at h
      exact List.mem_cons_of_mem _ (u_lk_mem h)
theorem u_lk_ok {ls : Array Slot} {nL i : Nat} {L : List (Nat × Value)} {v : Value} (h : lv_has ls nL L) (hx : u_lk L i = some v) : ls[i]? = some (.val v) := h.2.2 (i, v) (u_lk_mem hx)
abbrev u_st (L : List (Nat × Value)) (i : Nat) (v : Value) : List (Nat × Value) := (i, v) :: L.filter (fun q => !(q.1 == i) && !(q.1 + 1 == i && q.2.category == 2))
/-- what stays the same through a method's walk -/
def vx (p : Program) (s : State) (m : MethodId) (args : Array Value) (meth : Method) (c : Code) (cc : ByteArray) (nL : Nat) (own : String) (D : va_G) (G : u_G) (A : Nat → Prop) : Prop :=
  CallFix p m c cc nL s args gw own ∧ va_K D cls G.1 s ∧ (∀ q, s.heap.size ≤ q → A q) ∧ zf G.2 A s s.heap ∧ meth.locks = false
def V (p : Program) (l : Launch) (e : Env) (R : Room) (s : State) (m : MethodId) (args : Array Value) (below : List Frame) (meth : Method) (c : Code) (D : va_G) (A : Nat → Prop) (ws : va_W) (k n : Nat) (Q : State → Prop) (g : JFrame) : Prop :=
  ∀ (H : Heap) (locs : List Loc), va_P D cls ws H → va_D A ws → va_S A s.heap H locs → W p l e R s m args below meth c H locs k n Q g
def U (p : Program) (l : Launch) (e : Env) (R : Room) (s : State) (m : MethodId) (args : Array Value) (below : List Frame) (meth : Method) (c : Code) (nL : Nat) (D : va_G) (A : Nat → Prop) (ws : va_W) (k n : Nat) (Q : State → Prop) (pc : Nat) (L : List (Nat × Value)) (st : List Value) : Prop :=
  ∀ ls : Array Slot, lv_has ls nL L → V p l e R s m args below meth c D A ws k n Q (F0 m pc ls st)
section VL
variable {p : Program} {l : Launch} {e : Env} {R : Room} {s : State} {m : MethodId} {args : Array Value} {below : List Frame} {meth : Method} {c : Code} {k n : Nat} {Q : State → Prop}
variable {cc : ByteArray} {nL : Nat} {own : String} {D : va_G} {G : u_G} {A : Nat → Prop} {pc : Nat} {L : List (Nat × Value)} {st : List Value} {ws : va_W}
theorem u_iconst (hC : vx p s m args meth c cc nL own D G A) {z : Int} (v : Int32) (d : decode cc pc = .ok (.iconst z, 1)) (hv : Int32.ofInt z = v) (kk : U p l e R s m args below meth c nL D A ws k n Q (pc + 1) (L) (.int v :: st)) : U p l e R s m args below meth c nL D A ws k n Q (pc) (L) (st) := by
  intro ls hl H locs hP hD hS
  exact lv_iconst hC.1.1 hC.1.2.1 d hv (kk ls hl H locs hP hD hS)
theorem u_bipush (hC : vx p s m args meth c cc nL own D G A) {z : Int} (v : Int32) (d : decode cc pc = .ok (.bipush z, 2)) (hv : (Int8.ofInt z).toInt32 = v) (kk : U p l e R s m args below meth c nL D A ws k n Q (pc + 2) (L) (.int v :: st)) : U p l e R s m args below meth c nL D A ws k n Q (pc) (L) (st) := by
  intro ls hl H locs hP hD hS
  exact lv_bipush hC.1.1 hC.1.2.1 d hv (kk ls hl H locs hP hD hS)
theorem u_sipush (hC : vx p s m args meth c cc nL own D G A) {z : Int} (v : Int32) (d : decode cc pc = .ok (.sipush z, 3)) (hv : (Int16.ofInt z).toInt32 = v) (kk : U p l e R s m args below meth c nL D A ws k n Q (pc + 3) (L) (.int v :: st)) : U p l e R s m args below meth c nL D A ws k n Q (pc) (L) (st) := by
  intro ls hl H locs hP hD hS
  exact lv_sipush hC.1.1 hC.1.2.1 d hv (kk ls hl H locs hP hD hS)
theorem u_iload_n (hC : vx p s m args meth c cc nL own D G A) {i : Fin 4} {x : Int32} (d : decode cc pc = .ok (.iload_n i, 1)) (hx : u_lk L (i : Nat) = some (.int x)) (kk : U p l e R s m args below meth c nL D A ws k n Q (pc + 1) (L) (.int x :: st)) : U p l e R s m args below meth c nL D A ws k n Q (pc) (L) (st) := by
  intro ls hl H locs hP hD hS
  exact lv_iload_n hC.1.1 hC.1.2.1 d rfl (u_lk_ok hl hx) (kk ls hl H locs hP hD hS)
theorem u_iload (hC : vx p s m args meth c cc nL own D G A) {i : Nat} {x : Int32} (d : decode cc pc = .ok (.iload i, 2)) (hx : u_lk L i = some (.int x)) (kk : U p l e R s m args below meth c nL D A ws k n Q (pc + 2) (L) (.int x :: st)) : U p l e R s m args below meth c nL D A ws k n Q (pc) (L) (st) := by
  intro ls hl H locs hP hD hS
  exact lv_iload hC.1.1 hC.1.2.1 d (u_lk_ok hl hx) (kk ls hl H locs hP hD hS)
theorem u_aload_n (hC : vx p s m args meth c cc nL own D G A) {i : Fin 4} {x : Nat} (d : decode cc pc = .ok (.aload_n i, 1)) (hx : u_lk L (i : Nat) = some (.ref x)) (kk : U p l e R s m args below meth c nL D A ws k n Q (pc + 1) (L) (.ref x :: st)) : U p l e R s m args below meth c nL D A ws k n Q (pc) (L) (st) := by
  intro ls hl H locs hP hD hS
  exact lv_aload_n hC.1.1 hC.1.2.1 d rfl (u_lk_ok hl hx) (kk ls hl H locs hP hD hS)
theorem u_aload (hC : vx p s m args meth c cc nL own D G A) {i : Nat} {x : Nat} (d : decode cc pc = .ok (.aload i, 2)) (hx : u_lk L i = some (.ref x)) (kk : U p l e R s m args below meth c nL D A ws k n Q (pc + 2) (L) (.ref x :: st)) : U p l e R s m args below meth c nL D A ws k n Q (pc) (L) (st) := by
  intro ls hl H locs hP hD hS
  exact lv_aload hC.1.1 hC.1.2.1 d (u_lk_ok hl hx) (kk ls hl H locs hP hD hS)
theorem u_aload_nN (hC : vx p s m args meth c cc nL own D G A) {i : Fin 4} (d : decode cc pc = .ok (.aload_n i, 1)) (hx : u_lk L (i : Nat) = some .null) (kk : U p l e R s m args below meth c nL D A ws k n Q (pc + 1) (L) (.null :: st)) : U p l e R s m args below meth c nL D A ws k n Q (pc) (L) (st) := by
  intro ls hl H locs hP hD hS
  exact lv_aload_nN hC.1.1 hC.1.2.1 d rfl (u_lk_ok hl hx) (kk ls hl H locs hP hD hS)
theorem u_aloadN (hC : vx p s m args meth c cc nL own D G A) {i : Nat} (d : decode cc pc = .ok (.aload i, 2)) (hx : u_lk L i = some .null) (kk : U p l e R s m args below meth c nL D A ws k n Q (pc + 2) (L) (.null :: st)) : U p l e R s m args below meth c nL D A ws k n Q (pc) (L) (st) := by
  intro ls hl H locs hP hD hS
  exact lv_aloadN hC.1.1 hC.1.2.1 d (u_lk_ok hl hx) (kk ls hl H locs hP hD hS)
theorem u_istore_n (hC : vx p s m args meth c cc nL own D G A) {i : Fin 4} {x : Int32} (d : decode cc pc = .ok (.istore_n i, 1)) (hn : (i : Nat) < nL) (kk : U p l e R s m args below meth c nL D A ws k n Q (pc + 1) (u_st L (i : Nat) (.int x)) (st)) : U p l e R s m args below meth c nL D A ws k n Q (pc) (L) (.int x :: st) := by
  intro ls hl H locs hP hD hS
  exact lv_istore_n hC.1.1 hC.1.2.1 d rfl hl hn rfl (fun ls' hl' => kk ls' hl' H locs hP hD hS)
theorem u_istore (hC : vx p s m args meth c cc nL own D G A) {i : Nat} {x : Int32} (d : decode cc pc = .ok (.istore i, 2)) (hn : i < nL) (kk : U p l e R s m args below meth c nL D A ws k n Q (pc + 2) (u_st L i (.int x)) (st)) : U p l e R s m args below meth c nL D A ws k n Q (pc) (L) (.int x :: st) := by
  intro ls hl H locs hP hD hS
  exact lv_istore hC.1.1 hC.1.2.1 d hl hn rfl (fun ls' hl' => kk ls' hl' H locs hP hD hS)
theorem u_astore_n (hC : vx p s m args meth c cc nL own D G A) {i : Fin 4} {x : Nat} (d : decode cc pc = .ok (.astore_n i, 1)) (hn : (i : Nat) < nL) (kk : U p l e R s m args below meth c nL D A ws k n Q (pc + 1) (u_st L (i : Nat) (.ref x)) (st)) : U p l e R s m args below meth c nL D A ws k n Q (pc) (L) (.ref x :: st) := by
  intro ls hl H locs hP hD hS
  exact lv_astore_n hC.1.1 hC.1.2.1 d rfl hl hn rfl (fun ls' hl' => kk ls' hl' H locs hP hD hS)
theorem u_astore (hC : vx p s m args meth c cc nL own D G A) {i : Nat} {x : Nat} (d : decode cc pc = .ok (.astore i, 2)) (hn : i < nL) (kk : U p l e R s m args below meth c nL D A ws k n Q (pc + 2) (u_st L i (.ref x)) (st)) : U p l e R s m args below meth c nL D A ws k n Q (pc) (L) (.ref x :: st) := by
  intro ls hl H locs hP hD hS
  exact lv_astore hC.1.1 hC.1.2.1 d hl hn rfl (fun ls' hl' => kk ls' hl' H locs hP hD hS)
theorem u_astore_nN (hC : vx p s m args meth c cc nL own D G A) {i : Fin 4}  (d : decode cc pc = .ok (.astore_n i, 1)) (hn : (i : Nat) < nL) (kk : U p l e R s m args below meth c nL D A ws k n Q (pc + 1) (u_st L (i : Nat) (.null)) (st)) : U p l e R s m args below meth c nL D A ws k n Q (pc) (L) (.null :: st) := by
  intro ls hl H locs hP hD hS
  exact lv_astore_nN hC.1.1 hC.1.2.1 d rfl hl hn rfl (fun ls' hl' => kk ls' hl' H locs hP hD hS)
theorem u_astoreN (hC : vx p s m args meth c cc nL own D G A) {i : Nat}  (d : decode cc pc = .ok (.astore i, 2)) (hn : i < nL) (kk : U p l e R s m args below meth c nL D A ws k n Q (pc + 2) (u_st L i (.null)) (st)) : U p l e R s m args below meth c nL D A ws k n Q (pc) (L) (.null :: st) := by
  intro ls hl H locs hP hD hS
  exact lv_astoreN hC.1.1 hC.1.2.1 d hl hn rfl (fun ls' hl' => kk ls' hl' H locs hP hD hS)
theorem u_iinc (hC : vx p s m args meth c cc nL own D G A) {i j : Nat} {z : Int} {x : Int32} (v : Int32) (d : decode cc pc = .ok (.iinc i z, 3)) (hj : L[j]? = some (i, .int x)) (hv : x + Int32.ofInt z = v) (hn : i < nL) (kk : U p l e R s m args below meth c nL D A ws k n Q (pc + 3) (u_st L i (.int v)) (st)) : U p l e R s m args below meth c nL D A ws k n Q (pc) (L) (st) := by
  intro ls hl H locs hP hD hS
  exact lv_iinc hC.1.1 hC.1.2.1 d hl hj hv hn rfl (fun ls' hl' => kk ls' hl' H locs hP hD hS)
theorem u_iadd (hC : vx p s m args meth c cc nL own D G A) {x y : Int32} (d : decode cc pc = .ok (.iadd, 1)) (kk : U p l e R s m args below meth c nL D A ws k n Q (pc + 1) (L) (.int (x + y) :: st)) : U p l e R s m args below meth c nL D A ws k n Q (pc) (L) (.int y :: .int x :: st) := by
  intro ls hl H locs hP hD hS
  exact lv_iadd hC.1.1 hC.1.2.1 d (kk ls hl H locs hP hD hS)
theorem u_isub (hC : vx p s m args meth c cc nL own D G A) {x y : Int32} (d : decode cc pc = .ok (.isub, 1)) (kk : U p l e R s m args below meth c nL D A ws k n Q (pc + 1) (L) (.int (x - y) :: st)) : U p l e R s m args below meth c nL D A ws k n Q (pc) (L) (.int y :: .int x :: st) := by
  intro ls hl H locs hP hD hS
  exact lv_isub hC.1.1 hC.1.2.1 d (kk ls hl H locs hP hD hS)
theorem u_imul (hC : vx p s m args meth c cc nL own D G A) {x y : Int32} (d : decode cc pc = .ok (.imul, 1)) (kk : U p l e R s m args below meth c nL D A ws k n Q (pc + 1) (L) (.int (x * y) :: st)) : U p l e R s m args below meth c nL D A ws k n Q (pc) (L) (.int y :: .int x :: st) := by
  intro ls hl H locs hP hD hS
  exact lv_imul hC.1.1 hC.1.2.1 d (kk ls hl H locs hP hD hS)
theorem u_iand (hC : vx p s m args meth c cc nL own D G A) {x y : Int32} (d : decode cc pc = .ok (.iand, 1)) (kk : U p l e R s m args below meth c nL D A ws k n Q (pc + 1) (L) (.int (x &&& y) :: st)) : U p l e R s m args below meth c nL D A ws k n Q (pc) (L) (.int y :: .int x :: st) := by
  intro ls hl H locs hP hD hS
  exact lv_iand hC.1.1 hC.1.2.1 d (kk ls hl H locs hP hD hS)
theorem u_ishr (hC : vx p s m args meth c cc nL own D G A) {x y : Int32} (d : decode cc pc = .ok (.ishr, 1)) (kk : U p l e R s m args below meth c nL D A ws k n Q (pc + 1) (L) (.int (x >>> (y &&& 31)) :: st)) : U p l e R s m args below meth c nL D A ws k n Q (pc) (L) (.int y :: .int x :: st) := by
  intro ls hl H locs hP hD hS
  exact lv_ishr hC.1.1 hC.1.2.1 d (kk ls hl H locs hP hD hS)
theorem u_idiv (hC : vx p s m args meth c cc nL own D G A) {x y : Int32} (d : decode cc pc = .ok (.idiv, 1)) (hne : ¬ y = 0) (kk : U p l e R s m args below meth c nL D A ws k n Q (pc + 1) (L) (.int (x / y) :: st)) : U p l e R s m args below meth c nL D A ws k n Q (pc) (L) (.int y :: .int x :: st) := by
  intro ls hl H locs hP hD hS
  exact lv_idiv hC.1.1 hC.1.2.1 d hne (kk ls hl H locs hP hD hS)
theorem u_irem (hC : vx p s m args meth c cc nL own D G A) {x y : Int32} (d : decode cc pc = .ok (.irem, 1)) (hne : ¬ y = 0) (kk : U p l e R s m args below meth c nL D A ws k n Q (pc + 1) (L) (.int (x - x / y * y) :: st)) : U p l e R s m args below meth c nL D A ws k n Q (pc) (L) (.int y :: .int x :: st) := by
  intro ls hl H locs hP hD hS
  exact lv_irem hC.1.1 hC.1.2.1 d hne (kk ls hl H locs hP hD hS)
theorem u_dup (hC : vx p s m args meth c cc nL own D G A) {va : Value} (d : decode cc pc = .ok (.dup, 1)) (h1 : va.category = 1) (kk : U p l e R s m args below meth c nL D A ws k n Q (pc + 1) (L) (va :: va :: st)) : U p l e R s m args below meth c nL D A ws k n Q (pc) (L) (va :: st) := by
  intro ls hl H locs hP hD hS
  exact lv_dup hC.1.1 hC.1.2.1 d h1 (kk ls hl H locs hP hD hS)
theorem u_pop (hC : vx p s m args meth c cc nL own D G A) {va : Value} (d : decode cc pc = .ok (.pop, 1)) (h1 : va.category = 1) (kk : U p l e R s m args below meth c nL D A ws k n Q (pc + 1) (L) (st)) : U p l e R s m args below meth c nL D A ws k n Q (pc) (L) (va :: st) := by
  intro ls hl H locs hP hD hS
  exact lv_pop hC.1.1 hC.1.2.1 d h1 (kk ls hl H locs hP hD hS)
theorem u_dup_x1 (hC : vx p s m args meth c cc nL own D G A) {va vb : Value} (d : decode cc pc = .ok (.dup_x1, 1)) (h1 : va.category = 1) (h2 : vb.category = 1) (kk : U p l e R s m args below meth c nL D A ws k n Q (pc + 1) (L) (va :: vb :: va :: st)) : U p l e R s m args below meth c nL D A ws k n Q (pc) (L) (va :: vb :: st) := by
  intro ls hl H locs hP hD hS
  exact lv_dup_x1 hC.1.1 hC.1.2.1 d h1 h2 (kk ls hl H locs hP hD hS)
theorem u_dup2 (hC : vx p s m args meth c cc nL own D G A) {va vb : Value} (d : decode cc pc = .ok (.dup2, 1)) (h1 : va.category = 1) (h2 : vb.category = 1) (kk : U p l e R s m args below meth c nL D A ws k n Q (pc + 1) (L) (va :: vb :: va :: vb :: st)) : U p l e R s m args below meth c nL D A ws k n Q (pc) (L) (va :: vb :: st) := by
  intro ls hl H locs hP hD hS
  exact lv_dup2_11 hC.1.1 hC.1.2.1 d h1 h2 (kk ls hl H locs hP hD hS)
theorem u_if_eq (hC : vx p s m args meth c cc nL own D G A) {x : Int32} {off : Int} (tgt : Nat) (d : decode cc pc = .ok (.ifCond .eq off, 3)) (ht : (pc : Int) + off = (tgt : Int)) (kt : x = 0 → U p l e R s m args below meth c nL D A ws k n Q (tgt) (L) (st)) (kf : ¬ x = 0 → U p l e R s m args below meth c nL D A ws k n Q (pc + 3) (L) (st)) : U p l e R s m args below meth c nL D A ws k n Q (pc) (L) (.int x :: st) := by
  intro ls hl H locs hP hD hS
  exact lv_if_eq hC.1.1 hC.1.2.1 d ht (fun h => kt h ls hl H locs hP hD hS) (fun h => kf h ls hl H locs hP hD hS)
theorem u_icmp_eq (hC : vx p s m args meth c cc nL own D G A) {x y : Int32} {off : Int} (tgt : Nat) (d : decode cc pc = .ok (.if_icmp .eq off, 3)) (ht : (pc : Int) + off = (tgt : Int)) (kt : x = y → U p l e R s m args below meth c nL D A ws k n Q (tgt) (L) (st)) (kf : ¬ x = y → U p l e R s m args below meth c nL D A ws k n Q (pc + 3) (L) (st)) : U p l e R s m args below meth c nL D A ws k n Q (pc) (L) (.int y :: .int x :: st) := by
  intro ls hl H locs hP hD hS
  exact lv_icmp_eq hC.1.1 hC.1.2.1 d ht (fun h => kt h ls hl H locs hP hD hS) (fun h => kf h ls hl H locs hP hD hS)
theorem u_if_ne (hC : vx p s m args meth c cc nL own D G A) {x : Int32} {off : Int} (tgt : Nat) (d : decode cc pc = .ok (.ifCond .ne off, 3)) (ht : (pc : Int) + off = (tgt : Int)) (kt : ¬ x = 0 → U p l e R s m args below meth c nL D A ws k n Q (tgt) (L) (st)) (kf : x = 0 → U p l e R s m args below meth c nL D A ws k n Q (pc + 3) (L) (st)) : U p l e R s m args below meth c nL D A ws k n Q (pc) (L) (.int x :: st) := by
  intro ls hl H locs hP hD hS
  exact lv_if_ne hC.1.1 hC.1.2.1 d ht (fun h => kt h ls hl H locs hP hD hS) (fun h => kf h ls hl H locs hP hD hS)
theorem u_icmp_ne (hC : vx p s m args meth c cc nL own D G A) {x y : Int32} {off : Int} (tgt : Nat) (d : decode cc pc = .ok (.if_icmp .ne off, 3)) (ht : (pc : Int) + off = (tgt : Int)) (kt : ¬ x = y → U p l e R s m args below meth c nL D A ws k n Q (tgt) (L) (st)) (kf : x = y → U p l e R s m args below meth c nL D A ws k n Q (pc + 3) (L) (st)) : U p l e R s m args below meth c nL D A ws k n Q (pc) (L) (.int y :: .int x :: st) := by
  intro ls hl H locs hP hD hS
  exact lv_icmp_ne hC.1.1 hC.1.2.1 d ht (fun h => kt h ls hl H locs hP hD hS) (fun h => kf h ls hl H locs hP hD hS)
theorem u_if_lt (hC : vx p s m args meth c cc nL own D G A) {x : Int32} {off : Int} (tgt : Nat) (d : decode cc pc = .ok (.ifCond .lt off, 3)) (ht : (pc : Int) + off = (tgt : Int)) (kt : x < 0 → U p l e R s m args below meth c nL D A ws k n Q (tgt) (L) (st)) (kf : ¬ x < 0 → U p l e R s m args below meth c nL D A ws k n Q (pc + 3) (L) (st)) : U p l e R s m args below meth c nL D A ws k n Q (pc) (L) (.int x :: st) := by
  intro ls hl H locs hP hD hS
  exact lv_if_lt hC.1.1 hC.1.2.1 d ht (fun h => kt h ls hl H locs hP hD hS) (fun h => kf h ls hl H locs hP hD hS)
theorem u_icmp_lt (hC : vx p s m args meth c cc nL own D G A) {x y : Int32} {off : Int} (tgt : Nat) (d : decode cc pc = .ok (.if_icmp .lt off, 3)) (ht : (pc : Int) + off = (tgt : Int)) (kt : x < y → U p l e R s m args below meth c nL D A ws k n Q (tgt) (L) (st)) (kf : ¬ x < y → U p l e R s m args below meth c nL D A ws k n Q (pc + 3) (L) (st)) : U p l e R s m args below meth c nL D A ws k n Q (pc) (L) (.int y :: .int x :: st) := by
  intro ls hl H locs hP hD hS
  exact lv_icmp_lt hC.1.1 hC.1.2.1 d ht (fun h => kt h ls hl H locs hP hD hS) (fun h => kf h ls hl H locs hP hD hS)
theorem u_if_ge (hC : vx p s m args meth c cc nL own D G A) {x : Int32} {off : Int} (tgt : Nat) (d : decode cc pc = .ok (.ifCond .ge off, 3)) (ht : (pc : Int) + off = (tgt : Int)) (kt : 0 ≤ x → U p l e R s m args below meth c nL D A ws k n Q (tgt) (L) (st)) (kf : ¬ 0 ≤ x → U p l e R s m args below meth c nL D A ws k n Q (pc + 3) (L) (st)) : U p l e R s m args below meth c nL D A ws k n Q (pc) (L) (.int x :: st) := by
  intro ls hl H locs hP hD hS
  exact lv_if_ge hC.1.1 hC.1.2.1 d ht (fun h => kt h ls hl H locs hP hD hS) (fun h => kf h ls hl H locs hP hD hS)
theorem u_icmp_ge (hC : vx p s m args meth c cc nL own D G A) {x y : Int32} {off : Int} (tgt : Nat) (d : decode cc pc = .ok (.if_icmp .ge off, 3)) (ht : (pc : Int) + off = (tgt : Int)) (kt : y ≤ x → U p l e R s m args below meth c nL D A ws k n Q (tgt) (L) (st)) (kf : ¬ y ≤ x → U p l e R s m args below meth c nL D A ws k n Q (pc + 3) (L) (st)) : U p l e R s m args below meth c nL D A ws k n Q (pc) (L) (.int y :: .int x :: st) := by
  intro ls hl H locs hP hD hS
  exact lv_icmp_ge hC.1.1 hC.1.2.1 d ht (fun h => kt h ls hl H locs hP hD hS) (fun h => kf h ls hl H locs hP hD hS)
theorem u_if_gt (hC : vx p s m args meth c cc nL own D G A) {x : Int32} {off : Int} (tgt : Nat) (d : decode cc pc = .ok (.ifCond .gt off, 3)) (ht : (pc : Int) + off = (tgt : Int)) (kt : 0 < x → U p l e R s m args below meth c nL D A ws k n Q (tgt) (L) (st)) (kf : ¬ 0 < x → U p l e R s m args below meth c nL D A ws k n Q (pc + 3) (L) (st)) : U p l e R s m args below meth c nL D A ws k n Q (pc) (L) (.int x :: st) := by
  intro ls hl H locs hP hD hS
  exact lv_if_gt hC.1.1 hC.1.2.1 d ht (fun h => kt h ls hl H locs hP hD hS) (fun h => kf h ls hl H locs hP hD hS)
theorem u_icmp_gt (hC : vx p s m args meth c cc nL own D G A) {x y : Int32} {off : Int} (tgt : Nat) (d : decode cc pc = .ok (.if_icmp .gt off, 3)) (ht : (pc : Int) + off = (tgt : Int)) (kt : y < x → U p l e R s m args below meth c nL D A ws k n Q (tgt) (L) (st)) (kf : ¬ y < x → U p l e R s m args below meth c nL D A ws k n Q (pc + 3) (L) (st)) : U p l e R s m args below meth c nL D A ws k n Q (pc) (L) (.int y :: .int x :: st) := by
  intro ls hl H locs hP hD hS
  exact lv_icmp_gt hC.1.1 hC.1.2.1 d ht (fun h => kt h ls hl H locs hP hD hS) (fun h => kf h ls hl H locs hP hD hS)
theorem u_if_le (hC : vx p s m args meth c cc nL own D G A) {x : Int32} {off : Int} (tgt : Nat) (d : decode cc pc = .ok (.ifCond .le off, 3)) (ht : (pc : Int) + off = (tgt : Int)) (kt : x ≤ 0 → U p l e R s m args below meth c nL D A ws k n Q (tgt) (L) (st)) (kf : ¬ x ≤ 0 → U p l e R s m args below meth c nL D A ws k n Q (pc + 3) (L) (st)) : U p l e R s m args below meth c nL D A ws k n Q (pc) (L) (.int x :: st) := by
  intro ls hl H locs hP hD hS
  exact lv_if_le hC.1.1 hC.1.2.1 d ht (fun h => kt h ls hl H locs hP hD hS) (fun h => kf h ls hl H locs hP hD hS)
theorem u_icmp_le (hC : vx p s m args meth c cc nL own D G A) {x y : Int32} {off : Int} (tgt : Nat) (d : decode cc pc = .ok (.if_icmp .le off, 3)) (ht : (pc : Int) + off = (tgt : Int)) (kt : x ≤ y → U p l e R s m args below meth c nL D A ws k n Q (tgt) (L) (st)) (kf : ¬ x ≤ y → U p l e R s m args below meth c nL D A ws k n Q (pc + 3) (L) (st)) : U p l e R s m args below meth c nL D A ws k n Q (pc) (L) (.int y :: .int x :: st) := by
  intro ls hl H locs hP hD hS
  exact lv_icmp_le hC.1.1 hC.1.2.1 d ht (fun h => kt h ls hl H locs hP hD hS) (fun h => kf h ls hl H locs hP hD hS)
theorem u_acmp_eq (hC : vx p s m args meth c cc nL own D G A) (rx ry : Option Nat) {off : Int} (tgt : Nat) (d : decode cc pc = .ok (.if_acmp .eq off, 3)) (ht : (pc : Int) + off = (tgt : Int)) (kt : rx = ry → U p l e R s m args below meth c nL D A ws k n Q (tgt) (L) (st)) (kf : ¬ rx = ry → U p l e R s m args below meth c nL D A ws k n Q (pc + 3) (L) (st)) : U p l e R s m args below meth c nL D A ws k n Q (pc) (L) (va_rf ry :: va_rf rx :: st) := by
  intro ls hl H locs hP hD hS
  exact lv_acmp_eq hC.1.1 hC.1.2.1 d ht (fun h => kt h ls hl H locs hP hD hS) (fun h => kf h ls hl H locs hP hD hS)
theorem u_acmp_ne (hC : vx p s m args meth c cc nL own D G A) (rx ry : Option Nat) {off : Int} (tgt : Nat) (d : decode cc pc = .ok (.if_acmp .ne off, 3)) (ht : (pc : Int) + off = (tgt : Int)) (kt : ¬ rx = ry → U p l e R s m args below meth c nL D A ws k n Q (tgt) (L) (st)) (kf : rx = ry → U p l e R s m args below meth c nL D A ws k n Q (pc + 3) (L) (st)) : U p l e R s m args below meth c nL D A ws k n Q (pc) (L) (va_rf ry :: va_rf rx :: st) := by
  intro ls hl H locs hP hD hS
  exact lv_acmp_ne hC.1.1 hC.1.2.1 d ht (fun h => kt h ls hl H locs hP hD hS) (fun h => kf h ls hl H locs hP hD hS)
theorem u_goto (hC : vx p s m args meth c cc nL own D G A) {off : Int} (tgt : Nat) (d : decode cc pc = .ok (.goto off, 3)) (ht : (pc : Int) + off = (tgt : Int)) (kk : U p l e R s m args below meth c nL D A ws k n Q (tgt) (L) (st)) : U p l e R s m args below meth c nL D A ws k n Q (pc) (L) (st) := by
  intro ls hl H locs hP hD hS
  exact lv_goto hC.1.1 hC.1.2.1 d ht (kk ls hl H locs hP hD hS)
theorem u_ifnonnull (hC : vx p s m args meth c cc nL own D G A) {x : Nat} {off : Int} (tgt : Nat) (d : decode cc pc = .ok (.ifnonnull off, 3)) (ht : (pc : Int) + off = (tgt : Int)) (kk : U p l e R s m args below meth c nL D A ws k n Q (tgt) (L) (st)) : U p l e R s m args below meth c nL D A ws k n Q (pc) (L) (.ref x :: st) := by
  intro ls hl H locs hP hD hS
  exact lv_ifnonnull hC.1.1 hC.1.2.1 d ht (kk ls hl H locs hP hD hS)
theorem u_ifnull (hC : vx p s m args meth c cc nL own D G A) {x : Nat} {off : Int} (d : decode cc pc = .ok (.ifnull off, 3)) (kk : U p l e R s m args below meth c nL D A ws k n Q (pc + 3) (L) (st)) : U p l e R s m args below meth c nL D A ws k n Q (pc) (L) (.ref x :: st) := by
  intro ls hl H locs hP hD hS
  exact lv_ifnull hC.1.1 hC.1.2.1 d (kk ls hl H locs hP hD hS)
theorem u_ifnullN (hC : vx p s m args meth c cc nL own D G A) {off : Int} (tgt : Nat) (d : decode cc pc = .ok (.ifnull off, 3)) (ht : (pc : Int) + off = (tgt : Int)) (kk : U p l e R s m args below meth c nL D A ws k n Q (tgt) (L) (st)) : U p l e R s m args below meth c nL D A ws k n Q (pc) (L) (.null :: st) := by
  intro ls hl H locs hP hD hS
  exact lv_ifnullN hC.1.1 hC.1.2.1 d ht (kk ls hl H locs hP hD hS)
theorem u_ifnonnullN (hC : vx p s m args meth c cc nL own D G A) {off : Int} (d : decode cc pc = .ok (.ifnonnull off, 3)) (kk : U p l e R s m args below meth c nL D A ws k n Q (pc + 3) (L) (st)) : U p l e R s m args below meth c nL D A ws k n Q (pc) (L) (.null :: st) := by
  intro ls hl H locs hP hD hS
  exact lv_ifnonnullN hC.1.1 hC.1.2.1 d (kk ls hl H locs hP hD hS)
theorem u_null (hC : vx p s m args meth c cc nL own D G A)  (d : decode cc pc = .ok (.aconst_null, 1)) (kk : U p l e R s m args below meth c nL D A ws k n Q (pc + 1) (L) (.null :: st)) : U p l e R s m args below meth c nL D A ws k n Q (pc) (L) (st) := by
  intro ls hl H locs hP hD hS
  exact lv_null hC.1.1 hC.1.2.1 d (kk ls hl H locs hP hD hS)
theorem u_castN (hC : vx p s m args meth c cc nL own D G A) {idx : Nat} (d : decode cc pc = .ok (.checkcast idx, 3)) (kk : U p l e R s m args below meth c nL D A ws k n Q (pc + 3) (L) (.null :: st)) : U p l e R s m args below meth c nL D A ws k n Q (pc) (L) (.null :: st) := by
  intro ls hl H locs hP hD hS
  exact lv_castN hC.1.1 hC.1.2.1 d (kk ls hl H locs hP hD hS)
theorem u_tableOut (hC : vx p s m args meth c cc nL own D G A) {dflt lo hi : Int} {offs : Array Int} {len : Nat} {x : Int32} (tgt : Nat) (d : decode cc pc = .ok (.tableswitch dflt lo hi offs, len)) (h : x.toInt < lo ∨ hi < x.toInt) (ht : (pc : Int) + dflt = (tgt : Int)) (kk : U p l e R s m args below meth c nL D A ws k n Q (tgt) (L) (st)) : U p l e R s m args below meth c nL D A ws k n Q (pc) (L) (.int x :: st) := by
  intro ls hl H locs hP hD hS
  exact lv_tableOut hC.1.1 hC.1.2.1 d h ht (kk ls hl H locs hP hD hS)
theorem u_tableIn (hC : vx p s m args meth c cc nL own D G A) {dflt lo hi off : Int} {offs : Array Int} {len : Nat} {x : Int32} (tgt : Nat) (d : decode cc pc = .ok (.tableswitch dflt lo hi offs, len)) (h1 : ¬ x.toInt < lo) (h2 : ¬ hi < x.toInt) (ho : offs[(x.toInt - lo).toNat]? = some off) (ht : (pc : Int) + off = (tgt : Int)) (kk : U p l e R s m args below meth c nL D A ws k n Q (tgt) (L) (st)) : U p l e R s m args below meth c nL D A ws k n Q (pc) (L) (.int x :: st) := by
  intro ls hl H locs hP hD hS
  exact lv_tableIn hC.1.1 hC.1.2.1 d h1 h2 ho ht (kk ls hl H locs hP hD hS)
end VL
