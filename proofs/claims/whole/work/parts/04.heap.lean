/-! Rows that touch the heap; returns; calls; contracts. -/
/-- a field of a class of the worlds, as a class's constant pool links it -/
def u_Ff (own : String) (idx ci j : Nat) (C : String) (T : u_T) (N : Nat) : Prop := cls[ci]? = some (C, T, N) ∧ j < N ∧ (∀ w ∈ u_ws C T N, w ∈ gw) ∧ ∃ ref : String, Cond.fieldLink own idx ref (T j).2.1 (T j).2.2.1 ∈ gw ∧ (ref = (T j).1 ∨ Cond.sameField ref (T j).1 (T j).2.1 (T j).2.2.1 ∈ gw)
theorem u_Fr {s : State} {args : Array Value} {ref : String} {T : u_T} {j : Nat} (hts : ∀ w ∈ gw, w.before args s = true) (h : ref = (T j).1 ∨ Cond.sameField ref (T j).1 (T j).2.1 (T j).2.2.1 ∈ gw) (x : ClassId × Class × Nat × Field) (hx : s.fieldFound? (T j).1 (T j).2.1 (T j).2.2.1 = some x) : s.fieldFound? ref (T j).2.1 (T j).2.2.1 = some x := by
  rcases h with h | h
  · rw [h]; exact hx
  · exact u_same (hts _ h) x hx
/-- its type -/
def u_Ft (j : Nat) (T : u_T) (N : Nat) (t0 : Nat → FieldType) : Prop := (∀ q, q < N → parseFieldDescriptor (T q).2.2.1 = some (t0 q)) ∧ (∀ a, a < N → ∀ b, b < N → a ≠ b → (T a).2.1 ≠ (T b).2.1) ∧ j < N
section VH
variable {p : Program} {l : Launch} {e : Env} {R : Room} {s : State} {m : MethodId} {args : Array Value} {below : List Frame} {meth : Method} {c : Code} {k n : Nat} {Q : State → Prop}
variable {cc : ByteArray} {nL : Nat} {own : String} {D : va_G} {G : u_G} {A : Nat → Prop} {pc : Nat} {L : List (Nat × Value)} {st : List Value} {ws : va_W}
theorem u_eqw {ws' : va_W} {k n pc : Nat} (h : ws = ws') (kk : U p l e R s m args below meth c nL D A ws' k n Q pc L st) : U p l e R s m args below meth c nL D A ws k n Q pc L st := h ▸ kk
theorem u_sub {L' : List (Nat × Value)} (h : ∀ q ∈ L', q ∈ L) (kk : U p l e R s m args below meth c nL D A ws k n Q pc L' st) : U p l e R s m args below meth c nL D A ws k n Q pc L st := fun ls hl => kk ls ⟨hl.1, hl.2.1, fun q hq => hl.2.2 q (h q hq)⟩
theorem u_widen {k' n' : Nat} (h1 : k ≤ k') (h2 : n ≤ n') (kk : U p l e R s m args below meth c nL D A ws k' n' Q pc L st) : U p l e R s m args below meth c nL D A ws k n Q pc L st := fun ls hl H locs hP hD hS => W.widen h1 h2 (kk ls hl H locs hP hD hS)
theorem u_get (hC : vx p s m args meth c cc nL own D G A) {idx ci j N a : Nat} {C : String} {T : u_T} {fs : List Value} {v : Value} (hf : u_Ff own idx ci j C T N) (q0 : Nat) (he : ws[q0]? = some (a, .inr (ci, fs))) (hv : fs[j]? = some v) (d : decode cc pc = .ok (.getfield idx, 3))
    (kk : U p l e R s m args below meth c nL D A ws k n Q (pc + 3) L (v :: st)) : U p l e R s m args below meth c nL D A ws k n Q pc L (.ref a :: st) := by
  intro ls hl H locs hP hD hS
  obtain ⟨ref, hl1, hl2⟩ := hf.2.2.2
  exact va_get (D := D) (cl := cls) hC.1.1 hC.1.2.1 hC.1.2.2.2.2 hf.2.2.1 hC.1.2.2.2.1 hC.2.1 hP q0 he hf.1 j hf.2.1 (hC.1.2.2.2.2 _ hl1) (u_Fr hC.1.2.2.2.2 hl2) hv d (kk ls hl H locs hP hD hS)
theorem u_put (hC : vx p s m args meth c cc nL own D G A) {idx ci j N a : Nat} {C : String} {T : u_T} {fs : List Value} {v : Value} {ws' : va_W} {t0 : Nat → FieldType} (hf : u_Ff own idx ci j C T N) (ht : u_Ft j T N t0) (hfin : (T j).2.2.2 = false) (q0 : Nat) (he : ws[q0]? = some (a, .inr (ci, fs))) (hn : narrow (t0 j) v = v) (hfit : fits (t0 j) v = true) (hl9 : j < fs.length) (hw : ws.set q0 (a, .inr (ci, fs.set j v)) = ws') (d : decode cc pc = .ok (.putfield idx, 3))
    (kk : U p l e R s m args below meth c nL D A ws' k n Q (pc + 3) L st) : U p l e R s m args below meth c nL D A ws k n Q pc L (v :: .ref a :: st) := by
  intro ls hl H locs hP hD hS
  subst hw
  obtain ⟨ref, hl1, hl2⟩ := hf.2.2.2
  exact va_put (D := D) (cl := cls) hC.1.1 hC.1.2.1 hC.1.2.2.2.2 hf.2.2.1 t0 ht.1 ht.2.1 hC.1.2.2.2.1 hC.2.1 hP hD hS q0 he hf.1 j hf.2.1 (hC.1.2.2.2.2 _ hl1) (u_Fr hC.1.2.2.2.2 hl2) hfin (ht.1 j ht.2.2) hn hfit hl9 d (fun H1 locs1 h1 h2 h3 => kk ls hl H1 locs1 h1 h2 h3)
theorem u_putF (hC : vx p s m args meth c cc nL own D G A) {idx ci j N a : Nat} {C : String} {T : u_T} {fs : List Value} {v : Value} {ws' : va_W} {t0 : Nat → FieldType} (hf : u_Ff own idx ci j C T N) (ht : u_Ft j T N t0) (hfin : (T j).2.2.2 = true) (hin : meth.name = "<init>") (hdecl : (T j).1 = own) (q0 : Nat) (he : ws[q0]? = some (a, .inr (ci, fs))) (hn : narrow (t0 j) v = v) (hfit : fits (t0 j) v = true) (hl9 : j < fs.length) (hw : ws.set q0 (a, .inr (ci, fs.set j v)) = ws') (d : decode cc pc = .ok (.putfield idx, 3))
    (kk : U p l e R s m args below meth c nL D A ws' k n Q (pc + 3) L st) : U p l e R s m args below meth c nL D A ws k n Q pc L (v :: .ref a :: st) := by
  intro ls hl H locs hP hD hS
  subst hw
  obtain ⟨ref, hl1, hl2⟩ := hf.2.2.2
  exact va_putF (D := D) (cl := cls) hC.1.1 hC.1.2.1 hC.1.2.2.2.2 hf.2.2.1 t0 ht.1 ht.2.1 hC.1.2.2.2.1 hC.2.1 hP hD hS q0 he hf.1 j hf.2.1 (hC.1.2.2.2.2 _ hl1) (u_Fr hC.1.2.2.2.2 hl2) hfin hin hdecl (ht.1 j ht.2.2) hn hfit hl9 d (fun H1 locs1 h1 h2 h3 => kk ls hl H1 locs1 h1 h2 h3)
theorem u_iald (hC : vx p s m args meth c cc nL own D G A) {a N : Nat} {cA : ClassId} {f : Nat → Int32} {i : Int32} (q0 t0 : Nat) (ha : ws[q0]? = some (a, .inl (cA, N, .inl f))) (ht : G.1[t0]? = some (cA, .int)) (hin : vp_in i N) (d : decode cc pc = .ok (.iaload, 1))
    (kk : U p l e R s m args below meth c nL D A ws k n Q (pc + 1) L (.int (f i.toNatClampNeg) :: st)) : U p l e R s m args below meth c nL D A ws k n Q pc L (.int i :: .ref a :: st) := by
  intro ls hl H locs hP hD hS
  exact va_iald hC.1.1 hC.1.2.1 hC.2.1 hP q0 t0 ha ht hin d (kk ls hl H locs hP hD hS)
theorem u_zald (hC : vx p s m args meth c cc nL own D G A) {a N : Nat} {cA : ClassId} {f : Nat → Int32} {i : Int32} (q0 t0 : Nat) (ha : ws[q0]? = some (a, .inl (cA, N, .inl f))) (ht : G.1[t0]? = some (cA, .boolean)) (hin : vp_in i N) (d : decode cc pc = .ok (.baload, 1))
    (kk : U p l e R s m args below meth c nL D A ws k n Q (pc + 1) L (.int (f i.toNatClampNeg) :: st)) : U p l e R s m args below meth c nL D A ws k n Q pc L (.int i :: .ref a :: st) := by
  intro ls hl H locs hP hD hS
  exact va_zald hC.1.1 hC.1.2.1 hC.2.1 hP q0 t0 ha ht hin d (kk ls hl H locs hP hD hS)
theorem u_iast (hC : vx p s m args meth c cc nL own D G A) {a N : Nat} {cA : ClassId} {f : Nat → Int32} {i x : Int32} {ws' : va_W} (q0 t0 : Nat) (ha : ws[q0]? = some (a, .inl (cA, N, .inl f))) (ht : G.1[t0]? = some (cA, .int)) (hin : vp_in i N) (hw : ws.set q0 (a, .inl (cA, N, .inl (upd f i.toNatClampNeg x))) = ws') (d : decode cc pc = .ok (.iastore, 1))
    (kk : U p l e R s m args below meth c nL D A ws' k n Q (pc + 1) L st) : U p l e R s m args below meth c nL D A ws k n Q pc L (.int x :: .int i :: .ref a :: st) := by
  intro ls hl H locs hP hD hS
  subst hw
  exact va_iast hC.1.1 hC.1.2.1 hC.2.1 hP hD hS q0 t0 ha ht hin d (fun H1 locs1 h1 h2 h3 => kk ls hl H1 locs1 h1 h2 h3)
theorem u_zast (hC : vx p s m args meth c cc nL own D G A) {a N : Nat} {cA : ClassId} {f : Nat → Int32} {i x : Int32} {ws' : va_W} (q0 t0 : Nat) (ha : ws[q0]? = some (a, .inl (cA, N, .inl f))) (ht : G.1[t0]? = some (cA, .boolean)) (hin : vp_in i N) (hw : ws.set q0 (a, .inl (cA, N, .inl (upd f i.toNatClampNeg (vp_nar .boolean x)))) = ws') (d : decode cc pc = .ok (.bastore, 1))
    (kk : U p l e R s m args below meth c nL D A ws' k n Q (pc + 1) L st) : U p l e R s m args below meth c nL D A ws k n Q pc L (.int x :: .int i :: .ref a :: st) := by
  intro ls hl H locs hP hD hS
  subst hw
  exact va_zast hC.1.1 hC.1.2.1 hC.2.1 hP hD hS q0 t0 ha ht hin d (fun H1 locs1 h1 h2 h3 => kk ls hl H1 locs1 h1 h2 h3)
theorem u_alen (hC : vx p s m args meth c cc nL own D G A) {a : Nat} {cA : ClassId} {x : vp_A} {ty : FieldType} (v : Int32) (q0 t0 : Nat) (ha : ws[q0]? = some (a, .inl (cA, x))) (ht : G.1[t0]? = some (cA, ty)) (hv : Int32.ofNat x.1 = v) (d : decode cc pc = .ok (.arraylength, 1))
    (kk : U p l e R s m args below meth c nL D A ws k n Q (pc + 1) L (.int v :: st)) : U p l e R s m args below meth c nL D A ws k n Q pc L (.ref a :: st) := by
  intro ls hl H locs hP hD hS
  exact va_alen hC.1.1 hC.1.2.1 hC.2.1 hP q0 t0 ha ht hv d (kk ls hl H locs hP hD hS)
theorem u_aldq (hC : vx p s m args meth c cc nL own D G A) {a N : Nat} {cA : ClassId} {C : String} {f : Nat → Option Nat} {i : Int32} (q0 t0 : Nat) (ha : ws[q0]? = some (a, .inl (cA, N, .inr (.inr (.inr (.inr f)))))) (ht : G.1[t0]? = some (cA, .object C)) (hin : vp_in i N) (d : decode cc pc = .ok (.aaload, 1))
    (kk : U p l e R s m args below meth c nL D A ws k n Q (pc + 1) L (va_rf (f i.toNatClampNeg) :: st)) : U p l e R s m args below meth c nL D A ws k n Q pc L (.int i :: .ref a :: st) := by
  intro ls hl H locs hP hD hS
  exact va_aldq hC.1.1 hC.1.2.1 hC.2.1 hP q0 t0 ha ht hin d (kk ls hl H locs hP hD hS)
theorem u_astq (hC : vx p s m args meth c cc nL own D G A) {a N v ci : Nat} {cA : ClassId} {r : vw_C} {vs : List Value} {f : Nat → Option Nat} {i : Int32} {ws' : va_W} (q0 t0 qk : Nat) (ha : ws[q0]? = some (a, .inl (cA, N, .inr (.inr (.inr (.inr f)))))) (ht : G.1[t0]? = some (cA, .object r.1)) (hv : ws[qk]? = some (v, .inr (ci, vs))) (hc : cls[ci]? = some r) (hin : vp_in i N) (hw : ws.set q0 (a, .inl (cA, N, .inr (.inr (.inr (.inr (va_up f i.toNatClampNeg (some v))))))) = ws') (d : decode cc pc = .ok (.aastore, 1))
    (kk : U p l e R s m args below meth c nL D A ws' k n Q (pc + 1) L st) : U p l e R s m args below meth c nL D A ws k n Q pc L (.ref v :: .int i :: .ref a :: st) := by
  intro ls hl H locs hP hD hS
  subst hw
  exact va_astq hC.1.1 hC.1.2.1 hC.2.1 hP hD hS q0 t0 qk ci ha ht hv hc hin d (fun H1 locs1 h1 h2 h3 => kk ls hl H1 locs1 h1 h2 h3)
theorem u_astqN (hC : vx p s m args meth c cc nL own D G A) {a N : Nat} {cA : ClassId} {C : String} {f : Nat → Option Nat} {i : Int32} {ws' : va_W} (q0 t0 : Nat) (ha : ws[q0]? = some (a, .inl (cA, N, .inr (.inr (.inr (.inr f)))))) (ht : G.1[t0]? = some (cA, .object C)) (hin : vp_in i N) (hw : ws.set q0 (a, .inl (cA, N, .inr (.inr (.inr (.inr (va_up f i.toNatClampNeg none)))))) = ws') (d : decode cc pc = .ok (.aastore, 1))
    (kk : U p l e R s m args below meth c nL D A ws' k n Q (pc + 1) L st) : U p l e R s m args below meth c nL D A ws k n Q pc L (.null :: .int i :: .ref a :: st) := by
  intro ls hl H locs hP hD hS
  subst hw
  exact va_astqN hC.1.1 hC.1.2.1 hC.2.1 hP hD hS q0 t0 ha ht hin d (fun H1 locs1 h1 h2 h3 => kk ls hl H1 locs1 h1 h2 h3)
theorem u_astqO (hC : vx p s m args meth c cc nL own D G A) {a N v ci : Nat} {E : String} {cA : ClassId} {r : vw_C} {vs : List Value} {f : Nat → Option Nat} {i : Int32} {ws' : va_W} (q0 t0 qk : Nat) (ha : ws[q0]? = some (a, .inl (cA, N, .inr (.inr (.inr (.inr f)))))) (ht : G.1[t0]? = some (cA, .object E)) (hca : va_Nw (.castable r.1 E) s) (hv : ws[qk]? = some (v, .inr (ci, vs))) (hc : cls[ci]? = some r) (hin : vp_in i N) (hw : ws.set q0 (a, .inl (cA, N, .inr (.inr (.inr (.inr (va_up f i.toNatClampNeg (some v))))))) = ws') (d : decode cc pc = .ok (.aastore, 1))
    (kk : U p l e R s m args below meth c nL D A ws' k n Q (pc + 1) L st) : U p l e R s m args below meth c nL D A ws k n Q pc L (.ref v :: .int i :: .ref a :: st) := by
  intro ls hl H locs hP hD hS
  subst hw
  exact va_astqO hC.1.1 hC.1.2.1 hC.2.1 hP hD hS q0 t0 qk ci ha ht hca hv hc hin d (fun H1 locs1 h1 h2 h3 => kk ls hl H1 locs1 h1 h2 h3)
theorem u_K1 {tys : List (ClassId × FieldType)} {cA cB : ClassId} {ty : FieldType} {i j : Nat} (hK : va_K D cls tys s) (h1 : tys[i]? = some (cA, ty)) (h2 : tys[j]? = some (cB, ty)) : cA = cB := by
  have a1 := (hK.2 i _ h1).2
  have a2 := (hK.2 j _ h2).2
  cases ty with
  | object C =>
    obtain ⟨_, _, _, _, _, e1⟩ := a1
    obtain ⟨_, _, _, _, _, e2⟩ := a2
    exact Option.some.inj (e1.symm.trans e2)
  | _ => exact Option.some.inj ((show s.vm.findClass _ = some cA from a1).symm.trans (show s.vm.findClass _ = some cB from a2))
theorem u_newi (hC : vx p s m args meth c cc nL own D G A) {cA : ClassId} {z : Int32} {N : Nat} (t0 : Nat) (ht : G.1[t0]? = some (cA, .int)) (harr : Cond.arrayClass .int ∈ gw) (hz : ¬ z < 0) (hN : z.toNatClampNeg = N) (hb : N * 4 ≤ 536870912) (hk : k + 1 ≤ R.cells) (hn : n + N ≤ R.slots) (d : decode cc pc = .ok (.newarray .int, 2))
    (kk : ∀ q : Nat, U p l e R s m args below meth c nL D A (ws ++ [(q, .inl (cA, N, .inl (fun _ => 0)))]) (k + 1) (n + N) Q (pc + 2) L (.ref q :: st)) : U p l e R s m args below meth c nL D A ws k n Q pc L (.int z :: st) := by
  intro ls hl H locs hP hD hS
  refine va_newa (atype := .int) (ty := .int) (N' := N) (a0 := (N, .inl (fun _ => 0))) hC.1.1 hC.1.2.1 (hC.1.2.2.2.2 _ harr) rfl hC.2.1 hP hD hS hC.2.2.1 (fun _ => rfl) hz hN hb hk hn d (fun q cB H1 h0 h1 h2 h3 => ?_)
  have e : cA = cB := u_K1 (i := t0) (j := G.1.length) h0 (by rw [List.getElem?_append_left (List.getElem?_eq_some_iff.mp ht).1]; exact ht) (by rw [List.getElem?_append_right (Nat.le_refl _), Nat.sub_self]; rfl)
  subst e
  exact kk q ls hl H1 locs h1 h2 h3
theorem u_newz (hC : vx p s m args meth c cc nL own D G A) {cA : ClassId} {z : Int32} {N : Nat} (t0 : Nat) (ht : G.1[t0]? = some (cA, .boolean)) (harr : Cond.arrayClass .boolean ∈ gw) (hz : ¬ z < 0) (hN : z.toNatClampNeg = N) (hb : N * 1 ≤ 536870912) (hk : k + 1 ≤ R.cells) (hn : n + N ≤ R.slots) (d : decode cc pc = .ok (.newarray .boolean, 2))
    (kk : ∀ q : Nat, U p l e R s m args below meth c nL D A (ws ++ [(q, .inl (cA, N, .inl (fun _ => 0)))]) (k + 1) (n + N) Q (pc + 2) L (.ref q :: st)) : U p l e R s m args below meth c nL D A ws k n Q pc L (.int z :: st) := by
  intro ls hl H locs hP hD hS
  refine va_newa (atype := .boolean) (ty := .boolean) (N' := N) (a0 := (N, .inl (fun _ => 0))) hC.1.1 hC.1.2.1 (hC.1.2.2.2.2 _ harr) rfl hC.2.1 hP hD hS hC.2.2.1 (fun _ => rfl) hz hN hb hk hn d (fun q cB H1 h0 h1 h2 h3 => ?_)
  have e : cA = cB := u_K1 (i := t0) (j := G.1.length) h0 (by rw [List.getElem?_append_left (List.getElem?_eq_some_iff.mp ht).1]; exact ht) (by rw [List.getElem?_append_right (Nat.le_refl _), Nat.sub_self]; rfl)
  subst e
  exact kk q ls hl H1 locs h1 h2 h3
theorem u_newq (hC : vx p s m args meth c cc nL own D G A) {cA : ClassId} {C : String} {idx : Nat} {z : Int32} {N : Nat} (t0 : Nat) (ht : G.1[t0]? = some (cA, .object C)) (hlk : Cond.classLink own idx C ∈ gw) (hao : va_AO C s) (hz : ¬ z < 0) (hN : z.toNatClampNeg = N) (hb : N * 4 ≤ 536870912) (hk : k + 1 ≤ R.cells) (hn : n + N ≤ R.slots) (d : decode cc pc = .ok (.anewarray idx, 3))
    (kk : ∀ q : Nat, U p l e R s m args below meth c nL D A (ws ++ [(q, .inl (cA, N, .inr (.inr (.inr (.inr (fun _ => none))))))]) (k + 1) (n + N) Q (pc + 3) L (.ref q :: st)) : U p l e R s m args below meth c nL D A ws k n Q pc L (.int z :: st) := by
  intro ls hl H locs hP hD hS
  refine va_newq (N' := N) hC.1.1 hC.1.2.1 hC.1.2.2.2.1 (hC.1.2.2.2.2 _ hlk) hao hC.2.1 hP hD hS hC.2.2.1 hz hN hb hk hn d (fun q cB H1 h0 h1 h2 h3 => ?_)
  have e : cA = cB := u_K1 (i := t0) (j := G.1.length) h0 (by rw [List.getElem?_append_left (List.getElem?_eq_some_iff.mp ht).1]; exact ht) (by rw [List.getElem?_append_right (Nat.le_refl _), Nat.sub_self]; rfl)
  subst e
  exact kk q ls hl H1 locs h1 h2 h3
/-- what a class must say to be made: linked, able to be made, its default fields -/
def u_Nf (own : String) (idx ci : Nat) (C : String) (T : u_T) (N : Nat) (t0 : Nat → FieldType) (fs : List Value) : Prop := cls[ci]? = some (C, T, N) ∧ (∀ w ∈ u_ws C T N, w ∈ gw) ∧ (∀ q, q < N → parseFieldDescriptor (T q).2.2.1 = some (t0 q)) ∧ Cond.classLink own idx C ∈ gw ∧ Cond.instantiable C N ∈ gw ∧ Cond.initialized C ∈ gw ∧ ∀ j, j < N → defaultValue (t0 j) = vp_V fs j
theorem u_new (hC : vx p s m args meth c cc nL own D G A) {idx ci N : Nat} {C : String} {T : u_T} {t0 : Nat → FieldType} {fs : List Value} (hf : u_Nf own idx ci C T N t0 fs) (hk : k + 1 ≤ R.cells) (hn : n + N ≤ R.slots) (d : decode cc pc = .ok (.new idx, 3))
    (kk : ∀ q : Nat, U p l e R s m args below meth c nL D A (ws ++ [(q, .inr (ci, fs))]) (k + 1) (n + N) Q (pc + 3) L (.ref q :: st)) : U p l e R s m args below meth c nL D A ws k n Q pc L st := by
  intro ls hl H locs hP hD hS
  exact va_new (D := D) (cl := cls) hC.1.1 hC.1.2.1 hC.1.2.2.2.2 hf.2.1 t0 hf.2.2.1 hC.1.2.2.2.1 (hC.1.2.2.2.2 _ hf.2.2.2.1) (hC.1.2.2.2.2 _ hf.2.2.2.2.1) (hC.1.2.2.2.2 _ hf.2.2.2.2.2.1) hC.2.1 hP hD hS hC.2.2.1 hf.1 hf.2.2.2.2.2.2 hk hn d (fun q H1 h1 h2 h3 => kk q ls hl H1 locs h1 h2 h3)
theorem u_cast (hC : vx p s m args meth c cc nL own D G A) {idx ci N a : Nat} {C : String} {T : u_T} {fs : List Value} (hc : cls[ci]? = some (C, T, N)) (hlk : Cond.classLink own idx C ∈ gw) (q0 : Nat) (he : ws[q0]? = some (a, .inr (ci, fs))) (d : decode cc pc = .ok (.checkcast idx, 3))
    (kk : U p l e R s m args below meth c nL D A ws k n Q (pc + 3) L (.ref a :: st)) : U p l e R s m args below meth c nL D A ws k n Q pc L (.ref a :: st) := by
  intro ls hl H locs hP hD hS
  have hcl := (hC.2.1.1 ci _ hc).2
  exact va_castS hC.1.1 hC.1.2.1 hC.1.2.2.2.1 (hC.1.2.2.2.2 _ hlk) hcl (va_recv hC.2.1 hP hc he) d (kk ls hl H locs hP hD hS)
theorem u_objInit (hC : vx p s m args meth c cc nL own D G A) {idx a : Nat} (h1 : Cond.methodLink own idx Lib.objectInit ∈ gw) (h2 : Cond.instanceMethod Lib.objectInit ∈ gw) (h3 : Cond.code Lib.objectInit ⟨#[0xb1]⟩ 1 none ∈ gw) (hR : 1 ≤ R.frames) (hR2 : 20 ≤ R.locals) (hst : (st.map fun v => v.category).sum ≤ 8) (d : decode cc pc = .ok (.invokespecial idx, 3))
    (kk : U p l e R s m args below meth c nL D A ws k n Q (pc + 3) L st) : U p l e R s m args below meth c nL D A ws k n Q pc L (.ref a :: st) := by
  intro ls hl H locs hP hD hS
  refine W.objInit hC.1.1 hC.1.2.1 hC.1.2.2.2.1 (hC.1.2.2.2.2 _ h1) (hC.1.2.2.2.2 _ h2) (hC.1.2.2.2.2 _ h3) rfl (by rw [hC.1.2.2.1]; exact hl.1) rfl d hR (Nat.le_trans (Nat.add_le_add_right (lv_room (m := m) (pc := pc) (ls := ls) (rest := st) hst) 12) hR2) ?_
  exact kk ls hl H locs hP hD hS
end VH
