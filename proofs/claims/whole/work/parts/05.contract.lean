/-! Contracts over worlds: from any state whose heap holds the world ws, the method returns v and leaves a world w' with 'post v w'' . -/
def rmL (h mc ms : Nat) : Room := { frames := h, cells := mc, slots := ms, locals := 40 * h }
def Qg (D : va_G) (post : Option Value → va_W → Prop) (A : Nat → Prop) : Array Value → State → Outcome → State → Prop := fun _ st oc t => (∃ (v : Option Value) (w' : va_W), oc = .returned v ∧ post v w' ∧ va_P D cls w' t.heap ∧ va_D A w') ∧ va_F A st t
def Pg (D : va_G) (G : u_G) (ws : va_W) (sz : Nat) (U : State) : Prop := U.heap.size = sz ∧ va_P D cls ws U.heap ∧ va_K D cls G.1 U ∧ va_D (fun _ => True) ws ∧ zf G.2 (va_A ws sz) U U.heap
def Ct (l : Launch) (y : MethodName) (b : ByteArray) (nL : Nat) (ret : Option FieldType) (h mc ms : Nat) (D : va_G) (G : u_G) (ws : va_W) (av : List Value) (post : Option Value → va_W → Prop) : Prop :=
  ∀ sz : Nat, Met l y (.code y b nL ret :: gw) (rmL h mc ms) (va_Pc av (Pg D G ws sz)) (Qg D post (va_A ws sz)) mc ms (va_A ws sz)
theorem Ct.of {l : Launch} {y : MethodName} {b : ByteArray} {nL : Nat} {ret : Option FieldType} {h mc ms : Nat} {D : va_G} {G : u_G} {ws : va_W} {av : List Value} {post : Option Value → va_W → Prop} (hy : plainName y.cls = true) (hav : (lg_sl av).length ≤ nL)
    (body : ∀ (p : Program) (e : Env) (s : State) (m : MethodId) (below : List Frame) (meth : Method) (c : Code) (A : Nat → Prop), vx p s m av.toArray meth c b nL y.cls D G A → meth.sig.returnType = ret → meth.name = y.name →
      U p l e (rmL h mc ms) s m av.toArray below meth c nL D A ws 0 0 (MQ below (Qg D post A) av.toArray s mc ms A) 0 (lv_args 0 av) []) : Ct l y b nL ret h mc ms D G ws av post := by
  intro sz
  refine Met.ofW (cc := b) (maxL := nL) (ret := ret) hy rfl ?_
  intro p e s m args below meth c s₁ B hml hv
  obtain ⟨rfl, hsz, hP, hK, hD0, hZ⟩ := hv
  subst hsz
  have hts0 := atoms_spec (ws := .code y b nL ret :: gw) B.pre
  have hown : s.vm.findClass y.cls = some m.cls := findClass_of_methodNamed B.named
  have hC : vx p s m av.toArray meth c b nL y.cls D G (va_A ws s.heap.size) := ⟨⟨B.exec, B.bytes, hml, hown, fun w hw => hts0 w (List.mem_cons_of_mem _ hw)⟩, hK, fun q h => Or.inr h, hZ, B.notSynchronized⟩
  have hl := lv_entry av (n := nL) hav
  rw [lg_entry_eq]
  exact body p e s m below meth c _ hC B.returns (name_of_methodNamed B.named B.method).1 _ hl s.heap [] hP hD0.self va_S.rf
theorem u_PL {D : va_G} {w1 w2 : va_W} {H : Heap} (h : va_P D cls (w1 ++ w2) H) : va_P D cls w1 H := fun k q hk => h k q (by rw [List.getElem?_append_left (List.getElem?_eq_some_iff.mp hk).1]; exact hk)
theorem u_ixR {w1 w2 : va_W} {k : Nat} {q : Nat × va_E} (hk : w2[k]? = some q) : (w1 ++ w2)[w1.length + k]? = some q := by rw [List.getElem?_append_right (Nat.le_add_right _ _), Nat.add_sub_cancel_left]; exact hk
theorem u_ixL {w1 w2 : va_W} {k : Nat} {q : Nat × va_E} (hk : w1[k]? = some q) : (w1 ++ w2)[k]? = some q := by rw [List.getElem?_append_left (List.getElem?_eq_some_iff.mp hk).1]; exact hk
theorem u_PR {D : va_G} {w1 w2 : va_W} {H : Heap} (h : va_P D cls (w1 ++ w2) H) : va_P D cls w2 H := fun _ q hk => h _ q (u_ixR hk)
theorem u_DL {A : Nat → Prop} {w1 w2 : va_W} (h : va_D A (w1 ++ w2)) : va_D A w1 := ⟨fun i j x y hi hj e => h.1 i j x y (u_ixL hi) (u_ixL hj) e, fun _ q hk => h.2 _ q (u_ixL hk)⟩
theorem u_DR {A : Nat → Prop} {w1 w2 : va_W} (h : va_D A (w1 ++ w2)) : va_D A w2 := ⟨fun i j x y hi hj e => Nat.add_left_cancel (h.1 _ _ x y (u_ixR (w1 := w1) hi) (u_ixR (w1 := w1) hj) e), fun _ q hk => h.2 _ q (u_ixR hk)⟩
theorem u_Dx {A : Nat → Prop} {w1 w2 : va_W} (h : va_D A (w1 ++ w2)) {i j : Nat} {x y : Nat × va_E} (hi : w1[i]? = some x) (hj : w2[j]? = some y) : x.1 ≠ y.1 := by
  intro e
  have h1 := h.1 _ _ x y (u_ixL (w2 := w2) hi) (u_ixR (w1 := w1) hj) e
  have h2 := (List.getElem?_eq_some_iff.mp hi).1
  omega
section VC
variable {p : Program} {l : Launch} {e : Env} {R : Room} {s : State} {m : MethodId} {args : Array Value} {below : List Frame} {meth : Method} {c : Code} {k n : Nat} {Q : State → Prop}
variable {cc : ByteArray} {nL : Nat} {own : String} {D : va_G} {G : u_G} {A : Nat → Prop} {pc : Nat} {L : List (Nat × Value)} {st : List Value} {ws : va_W}
theorem u_swap {w1 w2 : va_W} (kk : U p l e R s m args below meth c nL D A (w2 ++ w1) k n Q pc L st) : U p l e R s m args below meth c nL D A (w1 ++ w2) k n Q pc L st := fun ls hl H locs hP hD hS =>
  kk ls hl H locs (va_P.app (u_PR hP) (u_PL hP)) (va_D.app (u_DR hD) (u_DL hD) (fun i j x y hx hy z => u_Dx hD hy hx z.symm)) hS
theorem u_drop {w1 w2 : va_W} (kk : U p l e R s m args below meth c nL D A w1 k n Q pc L st) : U p l e R s m args below meth c nL D A (w1 ++ w2) k n Q pc L st := fun ls hl H locs hP hD hS => kk ls hl H locs (u_PL hP) (u_DL hD) hS
variable {post : Option Value → va_W → Prop} {mc ms : Nat}
theorem u_iret (hC : vx p s m args meth c cc nL own D G A) (hr : meth.sig.returnType = some .int) {v : Int32} (d : decode cc pc = .ok (.ireturn, 1)) (hk : k ≤ mc) (hn : n ≤ ms) (hp : post (some (.int v)) ws) : U p l e R s m args below meth c nL D A ws k n (MQ below (Qg D post A) args s mc ms A) pc L [.int v] := by
  intro ls hl H locs hP hD hS
  exact W.widen hk hn (W.iret hC.1.1 hC.1.2.1 hr (fun t ht hW => ⟨⟨_, ws, rfl, hp, by rw [ht]; exact hP, hD⟩, hS.F ht⟩) hS.2.2 d hC.2.2.2.2)
theorem u_zret (hC : vx p s m args meth c cc nL own D G A) (hr : meth.sig.returnType = some .boolean) {v : Int32} (hv : narrow .boolean (.int v) = .int v) (d : decode cc pc = .ok (.ireturn, 1)) (hk : k ≤ mc) (hn : n ≤ ms) (hp : post (some (.int v)) ws) : U p l e R s m args below meth c nL D A ws k n (MQ below (Qg D post A) args s mc ms A) pc L [.int v] := by
  intro ls hl H locs hP hD hS
  exact W.widen hk hn (W.zret hC.1.1 hC.1.2.1 hr hv (fun t ht hW => ⟨⟨_, ws, rfl, hp, by rw [ht]; exact hP, hD⟩, hS.F ht⟩) hS.2.2 d hC.2.2.2.2)
theorem u_vret (hC : vx p s m args meth c cc nL own D G A) (hr : meth.sig.returnType = none) (d : decode cc pc = .ok (.return_, 1)) (hk : k ≤ mc) (hn : n ≤ ms) (hp : post none ws) : U p l e R s m args below meth c nL D A ws k n (MQ below (Qg D post A) args s mc ms A) pc L [] := by
  intro ls hl H locs hP hD hS
  exact W.widen hk hn (W.vret hC.1.1 hC.1.2.1 hr (fun t ht hW => ⟨⟨_, ws, rfl, hp, by rw [ht]; exact hP, hD⟩, hS.F ht⟩) hS.2.2 d hC.2.2.2.2)
theorem u_aret (hC : vx p s m args meth c cc nL own D G A) {rt : FieldType} (hr : meth.sig.returnType = some rt) (hrt : (∃ nm, rt = .object nm) ∨ ∃ t, rt = .array t) {v : Value} (hv : v = .null ∨ ∃ a, v = .ref a) (d : decode cc pc = .ok (.areturn, 1)) (hk : k ≤ mc) (hn : n ≤ ms) (hp : post (some v) ws) : U p l e R s m args below meth c nL D A ws k n (MQ below (Qg D post A) args s mc ms A) pc L [v] := by
  intro ls hl H locs hP hD hS
  exact W.widen hk hn (W.aret hC.1.1 hC.1.2.1 hr hrt hv (fun t ht hW => ⟨⟨_, ws, rfl, hp, by rw [ht]; exact hP, hD⟩, hS.F ht⟩) hS.2.2 d hC.2.2.2.2)
/-- behind a call, over a frame wr of cells that the callee doesn't get -/
theorem u_run {wc wr : va_W} {a : Array Value} {ls : Array Slot} {st0 : List Value} {H : Heap} {locs : List Loc} (hA : ∀ q, s.heap.size ≤ q → A q) (hl : lv_has ls nL L)
    (hr : va_Run p l e R s m args below meth c H locs k n mc ms (F0 m pc ls st0) st (Qg D post (va_A wc H.size) a) (va_A wc H.size)) (hP : va_P D cls (wc ++ wr) H) (hD : va_D A (wc ++ wr)) (hS : va_S A s.heap H locs)
    (kk : ∀ (v : Option Value) (w' : va_W), post v w' → U p l e R s m args below meth c nL D A (w' ++ wr) (k + mc) (n + ms) Q (pc + 3) L (v.toList ++ st)) : W p l e R s m args below meth c H locs k n Q (F0 m pc ls st0) := by
  have hF : ∀ q, va_A wc H.size q → A q := by
    intro q h
    rcases h with ⟨j, x, h⟩ | h
    · exact hD.2 j (q, x) (u_ixL h)
    · exact hA q (Nat.le_trans hS.1 h)
  have hap : ∀ (j : Nat) (q : Nat × va_E), wr[j]? = some q → q.1 < H.size ∧ ¬ va_A wc H.size q.1 := by
    intro j q hj
    have hlt : q.1 < H.size := (u_PR hP j q hj).lt
    refine ⟨hlt, fun h => ?_⟩
    rcases h with ⟨i, x, h⟩ | h
    · exact u_Dx hD h hj rfl
    · omega
  intro T hT X
  obtain ⟨v, st₀, t, T', L1, h0, X', hL, e1, e2, ⟨⟨v', w', hv, hp, hP', hD'⟩, hz, hk⟩, stp⟩ := hr T hT X
  have hvv : v = v' := Outcome.returned.inj hv
  subst hvv
  rw [h0] at hz hk
  have hP1 : va_P D cls (w' ++ wr) T'.heap := va_P.app (by rw [e1]; exact hP') (fun j q hj => (u_PR hP j q hj).kept (by rw [e1]; exact hk q.1 (hap j q hj).1 (hap j q hj).2))
  have hD1 : va_D A (w' ++ wr) := va_D.app (hD'.weaken (fun _ _ _ h => hF _ h)) (u_DR hD) (fun i j x y hx hy z => (hap j y hy).2 (by rw [← z]; exact hD'.2 i x hx))
  obtain ⟨t2, a1, b1⟩ := kk v w' hp ls hl T'.heap (locs ++ L1) hP1 hD1
    ⟨Nat.le_trans hS.1 (by rw [e1]; exact hz), fun q h1 h2 => by rw [e1, hk q (Nat.lt_of_lt_of_le h1 hS.1) (fun z => h2 (hF q z))]; exact hS.2.1 q h1 h2, fun q hq => by
      rcases List.mem_append.mp hq with h | h
      · exact hS.2.2 q h
      · exact hF _ (hL q h)⟩ T' rfl X'
  exact ⟨t2, stp t2 a1, b1⟩
/-- a callee as a class's constant pool links it -/
def u_Cb (own : String) (idx : Nat) (y : MethodName) (b : ByteArray) (yL : Nat) (ret : Option FieldType) (na : Nat) : Prop := Cond.methodLink own idx y ∈ gw ∧ Cond.initialized y.cls ∈ gw ∧ Cond.code y b yL ret ∈ gw ∧ (y.cls ≠ "java/lang/invoke/MethodHandle" ∧ y.cls ≠ "java/lang/invoke/VarHandle" ∧ (parseMethodDescriptor y.desc).map (fun d => d.parameters.length) = some na)
theorem u_CallB (hC : vx p s m args meth c cc nL own D G A) {idx yL h na : Nat} {y : MethodName} {b : ByteArray} {ret : Option FieldType} (hf : u_Cb own idx y b yL ret na) (hR : h + 1 ≤ R.frames ∧ 8 + (yL + 11) + 40 * h ≤ R.locals) : CallB R s args own idx y b yL ret (.code y b yL ret :: gw) (rmL h mc ms) mc ms na :=
  callB_of na hC.1.2.2.2.2 (fun w hw => by
    rcases List.mem_cons.mp hw with h | h
    · rw [h]; exact gw_good _ hf.2.2.1
    · exact gw_good _ h) rfl rfl rfl (hC.1.2.2.2.2 _ hf.2.1) (hC.1.2.2.2.2 _ hf.1) hf.2.2.2 hR
theorem u_PreS (hC : vx p s m args meth c cc nL own D G A) {wc wr : va_W} {av : List Value} {H : Heap} {locs : List Loc} (hP : va_P D cls (wc ++ wr) H) (hD : va_D A (wc ++ wr)) (hS : va_S A s.heap H locs) : PreS s H (va_Pc av (Pg D G wc H.size)) av := by
  refine ⟨fun a U g mk q => ⟨q.1, q.2.1, q.2.2.1, va_K.moved (u := U) (U := U.calling g mk a) (Vm.Alike.refl U.vm) q.2.2.2.1, q.2.2.2.2.1, zf.moved (u := U) (U := U.calling g mk a) (Vm.Alike.refl U.vm) q.2.2.2.2.2⟩, fun U hU hW => ⟨rfl, by rw [hU], by rw [hU]; exact u_PL hP, va_K.moved hW.alike hC.2.1, (u_DL hD).weaken (fun _ _ _ _ => trivial), ?_⟩⟩
  rw [hU]
  refine zf.moved hW.alike (zf.narrow (A := A) (zf.kept hC.2.2.2.1 (fun a h1 h2 => hS.2.1 a h1 h2)) (fun q h => ?_))
  rcases h with ⟨j, x, h⟩ | h
  · exact hD.2 j (q, x) (u_ixL h)
  · exact hC.2.2.1 q (Nat.le_trans hS.1 h)
/-- invokevirtual, framed -/
theorem u_callVF (hC : vx p s m args meth c cc nL own D G A) {idx yL h na a ci N q0 : Nat} {y : MethodName} {b : ByteArray} {ret : Option FieldType} {wc wr : va_W} {As fs : List Value} {T : u_T} {st0 : List Value} (hM : Ct l y b yL ret h mc ms D G wc (.ref a :: As) post) (hf : u_Cb own idx y b yL ret na) (hi : Cond.instanceMethod y ∈ gw ∧ Cond.selects y.cls y y ∈ gw) (he : wc[q0]? = some (a, .inr (ci, fs))) (hc : cls[ci]? = some (y.cls, T, N))
    (hR : h + 1 ≤ R.frames ∧ 8 + (yL + 11) + 40 * h ≤ R.locals) (hcs : k + mc ≤ R.cells ∧ n + ms ≤ R.slots) (hna : As.length = na) (hst : st0 = As.reverse ++ .ref a :: st) (hw8 : (st.map fun v => v.category).sum ≤ 8) (d : decode cc pc = .ok (.invokevirtual idx, 3))
    (kk : ∀ (v : Option Value) (w' : va_W), post v w' → U p l e R s m args below meth c nL D A (w' ++ wr) (k + mc) (n + ms) Q (pc + 3) L (v.toList ++ st)) : U p l e R s m args below meth c nL D A (wc ++ wr) k n Q pc L st0 := by
  intro ls hl H locs hP hD hS
  have hp := u_PreS hC (av := .ref a :: As) hP hD hS
  exact u_run hC.2.2.1 hl (va_runV (C := y.cls) (As := As) (rest := st) hC.1 (hM H.size) ⟨u_CallB hC hf hR, hC.1.2.2.2.2 _ hi.1, hC.1.2.2.2.2 _ hi.2⟩ ⟨hp.1, va_recv hC.2.1 (u_PL hP) hc he, hp.2⟩ rfl hna hl.1 hst (lv_room hw8) d hcs) hP hD hS kk
/-- invokestatic, framed -/
theorem u_callSF (hC : vx p s m args meth c cc nL own D G A) {idx yL h na : Nat} {y : MethodName} {b : ByteArray} {ret : Option FieldType} {wc wr : va_W} {As : List Value} {st0 : List Value} (hM : Ct l y b yL ret h mc ms D G wc As post) (hf : u_Cb own idx y b yL ret na) (hi : Cond.static y ∈ gw)
    (hR : h + 1 ≤ R.frames ∧ 8 + (yL + 11) + 40 * h ≤ R.locals) (hcs : k + mc ≤ R.cells ∧ n + ms ≤ R.slots) (hna : As.length = na) (hst : st0 = As.reverse ++ st) (hw8 : (st.map fun v => v.category).sum ≤ 8) (d : decode cc pc = .ok (.invokestatic idx, 3))
    (kk : ∀ (v : Option Value) (w' : va_W), post v w' → U p l e R s m args below meth c nL D A (w' ++ wr) (k + mc) (n + ms) Q (pc + 3) L (v.toList ++ st)) : U p l e R s m args below meth c nL D A (wc ++ wr) k n Q pc L st0 := by
  intro ls hl H locs hP hD hS
  exact u_run hC.2.2.1 hl (va_runS (As := As) (rest := st) hC.1 (hM H.size) ⟨u_CallB hC hf hR, hC.1.2.2.2.2 _ hi⟩ (u_PreS hC (av := As) hP hD hS) rfl hna hl.1 hst (lv_room hw8) d hcs) hP hD hS kk
/-- invokespecial of a constructor, framed -/
theorem u_callIF (hC : vx p s m args meth c cc nL own D G A) {idx yL h na a : Nat} {y : MethodName} {b : ByteArray} {wc wr : va_W} {As : List Value} {st0 : List Value} (hM : Ct l y b yL none h mc ms D G wc (.ref a :: As) post) (hf : u_Cb own idx y b yL none na) (hi : Cond.instanceMethod y ∈ gw) (hy : y.name = "<init>")
    (hR : h + 1 ≤ R.frames ∧ 8 + (yL + 11) + 40 * h ≤ R.locals) (hcs : k + mc ≤ R.cells ∧ n + ms ≤ R.slots) (hna : As.length = na) (hst : st0 = As.reverse ++ .ref a :: st) (hw8 : (st.map fun v => v.category).sum ≤ 8) (d : decode cc pc = .ok (.invokespecial idx, 3))
    (kk : ∀ (v : Option Value) (w' : va_W), post v w' → U p l e R s m args below meth c nL D A (w' ++ wr) (k + mc) (n + ms) Q (pc + 3) L (v.toList ++ st)) : U p l e R s m args below meth c nL D A (wc ++ wr) k n Q pc L st0 := by
  intro ls hl H locs hP hD hS
  exact u_run hC.2.2.1 hl (va_runI (As := As) (rest := st) hC.1 (hM H.size) ⟨u_CallB hC hf hR, hy, hC.1.2.2.2.2 _ hi⟩ (u_PreS hC (av := .ref a :: As) hP hD hS) rfl hna hl.1 hst (lv_room hw8) d hcs) hP hD hS kk
theorem u_nil {w : va_W} {k n pc : Nat} {st : List Value} (kk : U p l e R s m args below meth c nL D A w k n Q pc L st) : U p l e R s m args below meth c nL D A (w ++ []) k n Q pc L st := by rw [List.append_nil]; exact kk
theorem u_callV (hC : vx p s m args meth c cc nL own D G A) {idx yL h na a ci N q0 : Nat} {y : MethodName} {b : ByteArray} {ret : Option FieldType} {As fs : List Value} {T : u_T} {st0 : List Value} (hM : Ct l y b yL ret h mc ms D G ws (.ref a :: As) post) (hf : u_Cb own idx y b yL ret na) (hi : Cond.instanceMethod y ∈ gw ∧ Cond.selects y.cls y y ∈ gw) (he : ws[q0]? = some (a, .inr (ci, fs))) (hc : cls[ci]? = some (y.cls, T, N))
    (hR : h + 1 ≤ R.frames ∧ 8 + (yL + 11) + 40 * h ≤ R.locals) (hcs : k + mc ≤ R.cells ∧ n + ms ≤ R.slots) (hna : As.length = na) (hst : st0 = As.reverse ++ .ref a :: st) (hw8 : (st.map fun v => v.category).sum ≤ 8) (d : decode cc pc = .ok (.invokevirtual idx, 3))
    (kk : ∀ (v : Option Value) (w' : va_W), post v w' → U p l e R s m args below meth c nL D A w' (k + mc) (n + ms) Q (pc + 3) L (v.toList ++ st)) : U p l e R s m args below meth c nL D A ws k n Q pc L st0 := by
  have h := u_callVF (wr := []) (Q := Q) (n := n) (k := k) (L := L) (pc := pc) (e := e) (below := below) hC hM hf hi he hc hR hcs hna hst hw8 d (fun v w' hp => u_nil (kk v w' hp))
  rwa [List.append_nil] at h
theorem u_callS (hC : vx p s m args meth c cc nL own D G A) {idx yL h na : Nat} {y : MethodName} {b : ByteArray} {ret : Option FieldType} {As : List Value} {st0 : List Value} (hM : Ct l y b yL ret h mc ms D G ws As post) (hf : u_Cb own idx y b yL ret na) (hi : Cond.static y ∈ gw)
    (hR : h + 1 ≤ R.frames ∧ 8 + (yL + 11) + 40 * h ≤ R.locals) (hcs : k + mc ≤ R.cells ∧ n + ms ≤ R.slots) (hna : As.length = na) (hst : st0 = As.reverse ++ st) (hw8 : (st.map fun v => v.category).sum ≤ 8) (d : decode cc pc = .ok (.invokestatic idx, 3))
    (kk : ∀ (v : Option Value) (w' : va_W), post v w' → U p l e R s m args below meth c nL D A w' (k + mc) (n + ms) Q (pc + 3) L (v.toList ++ st)) : U p l e R s m args below meth c nL D A ws k n Q pc L st0 := by
  have h := u_callSF (wr := []) (Q := Q) (n := n) (k := k) (L := L) (pc := pc) (e := e) (below := below) hC hM hf hi hR hcs hna hst hw8 d (fun v w' hp => u_nil (kk v w' hp))
  rwa [List.append_nil] at h
theorem u_callI (hC : vx p s m args meth c cc nL own D G A) {idx yL h na a : Nat} {y : MethodName} {b : ByteArray} {As : List Value} {st0 : List Value} (hM : Ct l y b yL none h mc ms D G ws (.ref a :: As) post) (hf : u_Cb own idx y b yL none na) (hi : Cond.instanceMethod y ∈ gw) (hy : y.name = "<init>")
    (hR : h + 1 ≤ R.frames ∧ 8 + (yL + 11) + 40 * h ≤ R.locals) (hcs : k + mc ≤ R.cells ∧ n + ms ≤ R.slots) (hna : As.length = na) (hst : st0 = As.reverse ++ .ref a :: st) (hw8 : (st.map fun v => v.category).sum ≤ 8) (d : decode cc pc = .ok (.invokespecial idx, 3))
    (kk : ∀ (v : Option Value) (w' : va_W), post v w' → U p l e R s m args below meth c nL D A w' (k + mc) (n + ms) Q (pc + 3) L (v.toList ++ st)) : U p l e R s m args below meth c nL D A ws k n Q pc L st0 := by
  have h := u_callIF (wr := []) (Q := Q) (n := n) (k := k) (L := L) (pc := pc) (e := e) (below := below) hC hM hf hi hy hR hcs hna hst hw8 d (fun v w' hp => u_nil (kk v w' hp))
  rwa [List.append_nil] at h
end VC
