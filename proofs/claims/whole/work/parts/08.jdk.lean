/-! Rows for the list's own methods: the empty array, mirrors, max and min, arraycopy. -/
section VJ
variable {p : Program} {l : Launch} {e : Env} {R : Room} {s : State} {m : MethodId} {args : Array Value} {below : List Frame} {meth : Method} {c : Code} {k n : Nat} {Q : State → Prop}
variable {cc : ByteArray} {nL : Nat} {own : String} {D : va_G} {G : u_G} {A : Nat → Prop} {pc : Nat} {L : List (Nat × Value)} {st : List Value} {ws : va_W}
theorem u_gets (hC : vx p s m args meth c cc nL own D G A) {idx : Nat} (hl9 : Cond.fieldLink own idx "java/util/ArrayList" "DEFAULTCAPACITY_EMPTY_ELEMENTDATA" "[Ljava/lang/Object;" ∈ gw) (d : decode cc pc = .ok (.getstatic idx, 3))
    (kk : U p l e R s m args below meth c nL D A ws k n Q (pc + 3) L (.ref G.2.1 :: st)) : U p l e R s m args below meth c nL D A ws k n Q pc L st := by
  intro ls hl H locs hP hD hS
  exact va_gets hC.1.1 hC.1.2.1 hC.2.2.2.1.1 hS hC.1.2.2.2.1 (hC.1.2.2.2.2 _ hl9) (fun _ h => h) d (kk ls hl H locs hP hD hS)
theorem u_tlen (hC : vx p s m args meth c cc nL own D G A) (d : decode cc pc = .ok (.arraylength, 1))
    (kk : U p l e R s m args below meth c nL D A ws k n Q (pc + 1) L (.int (nI 0) :: st)) : U p l e R s m args below meth c nL D A ws k n Q pc L (.ref G.2.1 :: st) := by
  intro ls hl H locs hP hD hS
  exact va_tlen hC.1.1 hC.1.2.1 hC.2.2.2.1.2.1 hS rfl d (kk ls hl H locs hP hD hS)
theorem u_ldcM (hC : vx p s m args meth c cc nL own D G A) {idx : Nat} (hl9 : Cond.classLink own idx "[Ljava/lang/Object;" ∈ gw) (d : decode cc pc = .ok (.ldc idx, 2))
    (kk : U p l e R s m args below meth c nL D A ws k n Q (pc + 2) L (.ref G.2.2 :: st)) : U p l e R s m args below meth c nL D A ws k n Q pc L st := by
  intro ls hl H locs hP hD hS
  exact va_ldcM hC.1.1 hC.1.2.1 hC.1.2.2.2.1 (hC.1.2.2.2.2 _ hl9) hC.2.2.2.1.2.2.1 d (kk ls hl H locs hP hD hS)
theorem u_ldcI (hC : vx p s m args meth c cc nL own D G A) {idx : Nat} {v : Int32} (hl9 : Cond.constant own idx v ∈ gw) (d : decode cc pc = .ok (.ldc idx, 2))
    (kk : U p l e R s m args below meth c nL D A ws k n Q (pc + 2) L (.int v :: st)) : U p l e R s m args below meth c nL D A ws k n Q pc L st := by
  intro ls hl H locs hP hD hS
  exact lv_ldc hC.1.1 hC.1.2.1 hC.1.2.2.2.1 (hC.1.2.2.2.2 _ hl9) d (kk ls hl H locs hP hD hS)
theorem u_mmax (hC : vx p s m args meth c cc nL own D G A) {idx : Nat} (h1 : Cond.methodLink own idx Lib.Math.max.name ∈ gw) (h2 : Cond.static Lib.Math.max.name ∈ gw) (h3 : Cond.initialized "java/lang/Math" ∈ gw) (h4 : Cond.code Lib.Math.max.name Lib.Math.max.code 2 (some .int) ∈ gw) (hf : 1 ≤ R.frames) (hlo : 21 ≤ R.locals) (hst : (st.map fun v => v.category).sum ≤ 8) (hk : k ≤ R.cells) (hn : n ≤ R.slots) {x y : Int32} (d : decode cc pc = .ok (.invokestatic idx, 3))
    (kk : U p l e R s m args below meth c nL D A ws k n Q (pc + 3) L (.int (if x < y then y else x) :: st)) : U p l e R s m args below meth c nL D A ws k n Q pc L (.int y :: .int x :: st) := by
  intro ls hl H locs hP hD hS
  exact va_mmax hC.1.1 hC.1.2.1 (hC.1.2.2.1.trans hl.1.symm) hC.1.2.2.2.1 (hC.1.2.2.2.2 _ h1) (hC.1.2.2.2.2 _ h2) (hC.1.2.2.2.2 _ h3) (hC.1.2.2.2.2 _ h4) hf (by omega) hk hn d (kk ls hl H locs hP hD hS)
theorem u_mmin (hC : vx p s m args meth c cc nL own D G A) {idx : Nat} (h1 : Cond.methodLink own idx Lib.Math.min.name ∈ gw) (h2 : Cond.static Lib.Math.min.name ∈ gw) (h3 : Cond.initialized "java/lang/Math" ∈ gw) (h4 : Cond.code Lib.Math.min.name Lib.Math.min.code 2 (some .int) ∈ gw) (hf : 1 ≤ R.frames) (hlo : 21 ≤ R.locals) (hst : (st.map fun v => v.category).sum ≤ 8) (hk : k ≤ R.cells) (hn : n ≤ R.slots) {x y : Int32} (d : decode cc pc = .ok (.invokestatic idx, 3))
    (kk : U p l e R s m args below meth c nL D A ws k n Q (pc + 3) L (.int (if y < x then y else x) :: st)) : U p l e R s m args below meth c nL D A ws k n Q pc L (.int y :: .int x :: st) := by
  intro ls hl H locs hP hD hS
  exact va_mmin hC.1.1 hC.1.2.1 (hC.1.2.2.1.trans hl.1.symm) hC.1.2.2.2.1 (hC.1.2.2.2.2 _ h1) (hC.1.2.2.2.2 _ h2) (hC.1.2.2.2.2 _ h3) (hC.1.2.2.2.2 _ h4) hf (by omega) hk hn d (kk ls hl H locs hP hD hS)
end VJ
