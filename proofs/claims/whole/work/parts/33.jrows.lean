/-! Rows for arraycopy and the mirror, by addresses. -/
theorem wup_last {ws : va_W} {q : Nat} {x y : va_E} (h : wg ws q = none) : wup (ws ++ [(q, x)]) q y = ws ++ [(q, y)] := by
  unfold wup
  rw [List.map_append]
  congr 1
  · exact wup_noop (a := q) (y := y) (fun i z hz c => by
      have : ∀ {w : va_W} {i : Nat} {z : Nat × va_E}, w[i]? = some z → z.1 = q → ∃ u, wg w q = some u := by
        intro w
        induction w with
        | nil => intro i z h1 _; simp at h1
        | cons b r ih =>
          intro i z h1 h2
          by_cases c9 : b.1 = q
          · exact ⟨b.2, by rw [wg, if_pos c9]⟩
          · cases i with
            | zero =>
              rw [List.getElem?_cons_zero] at h1
              cases h1
              exact absurd h2 c9
            | succ i =>
              rw [List.getElem?_cons_succ] at h1
              obtain ⟨u, hu⟩ := ih h1 h2
              exact ⟨u, by rw [wg, if_neg c9]; exact hu⟩
      obtain ⟨u, hu⟩ := this hz c
      rw [h] at hu
      cases hu)
  · rw [List.map_cons, List.map_nil, if_pos rfl]
section VJ2
variable {p : Program} {l : Launch} {e : Env} {R : Room} {s : State} {m : MethodId} {args : Array Value} {below : List Frame} {meth : Method} {c : Code} {k n : Nat} {Q : State → Prop}
variable {cc : ByteArray} {nL : Nat} {own : String} {D : va_G} {κ : Nat → ClassId} {z : Nat × Nat} {A : Nat → Prop} {pc : Nat} {L : List (Nat × Value)} {st : List Value} {ws : va_W}
theorem u_getC (hC : vx p s m args meth c cc nL own D (gk κ, z) A) {idx a N : Nat} {f : Nat → Option Nat} (hl9 : Cond.methodLink own idx ⟨"java/lang/Object", "getClass", "()Ljava/lang/Class;"⟩ ∈ gw) (ha : wg ws a = some (.inl (κ 3, N, .inr (.inr (.inr (.inr f)))))) (hf : 1 ≤ R.frames) (hlo : 22 ≤ R.locals) (hst : (st.map fun v => v.category).sum ≤ 8) (d : decode cc pc = .ok (.invokevirtual idx, 3))
    (kk : U p l e R s m args below meth c nL D A ws k n Q (pc + 3) L (.ref z.2 :: st)) : U p l e R s m args below meth c nL D A ws k n Q pc L (.ref a :: st) := by
  intro ls hl H locs hP hD hS
  obtain ⟨q0, h0⟩ := wg_ix ha
  have hZ := hC.2.2.2.1
  have hK3 := (hC.2.1.2 3 (κ 3, .object "java/lang/Object") rfl).2
  refine va_getC hC.1.1 hC.1.2.1 (hC.1.2.2.1.trans hl.1.symm) hC.1.2.2.2.1 (hC.1.2.2.2.2 _ hl9) (va_Dc.use hZ.2.2.2.2.2.2) (hC.1.2.2.2.2 _ gc_s) (hC.1.2.2.2.2 _ gc_i) (hC.1.2.2.2.2 _ gc_n) hZ.2.2.1 ⟨_, hP q0 _ h0, rfl, ?_⟩ hf (by omega) d (kk ls hl H locs hP hD hS)
  exact va_nmO hK3 rfl
theorem w_copyq (hC : vx p s m args meth c cc nL own D (gk κ, z) A) {idx a0 a n0 n1 N : Nat} {f g : Nat → Option Nat} (hl9 : Cond.methodLink own idx arraycopyName ∈ gw) (ha0 : wg ws a0 = some (.inl (κ 3, n0, .inr (.inr (.inr (.inr f)))))) (ha1 : wg ws a = some (.inl (κ 3, n1, .inr (.inr (.inr (.inr g)))))) (hn0 : N ≤ n0) (hn1 : N ≤ n1) (hN : N < 2 ^ 31)
    (hel : ∀ i : Nat, i < N → ∀ y : Nat, f i = some y → ∃ fs : List Value, wg ws y = some (.inr (2, fs))) (hf : 1 ≤ R.frames) (hlo : 40 ≤ R.locals) (hst : (st.map fun v => v.category).sum ≤ 8) (d : decode cc pc = .ok (.invokestatic idx, 3))
    (kk : U p l e R s m args below meth c nL D A (wup ws a (.inl (κ 3, n1, .inr (.inr (.inr (.inr (va_cpy f g 0 0 N))))))) k n Q (pc + 3) L st) : U p l e R s m args below meth c nL D A ws k n Q pc L (.int (nI N) :: .int (nI 0) :: .ref a :: .int (nI 0) :: .ref a0 :: st) := by
  intro ls hl H locs hP hD hS
  obtain ⟨q0, h0⟩ := wg_ix ha0
  obtain ⟨q1, h1⟩ := wg_ix ha1
  have e0 : (nI 0).toNatClampNeg = 0 := nI_clamp (by decide)
  have eN : (nI N).toNatClampNeg = N := nI_clamp hN
  have hZ := hC.2.2.2.1
  refine va_copyq (C := R_G) (E0 := "java/lang/Object") (E1 := "java/lang/Object") hC.1.1 hC.1.2.1 (hC.1.2.2.1.trans hl.1.symm) hC.1.2.2.2.1 (hC.1.2.2.2.2 _ hl9) (hC.1.2.2.2.2 _ ac_n) (hC.1.2.2.2.2 _ ac_s) (hC.1.2.2.2.2 _ ac_i) hC.2.1 hP hD hS q0 q1 3 3 h0 h1 rfl rfl (nI_pos (by decide)) (nI_pos (by decide)) (nI_pos hN) (by rw [e0, eN]; omega) (by rw [e0, eN]; omega) ?_ ?_ hf ?_ d ?_
  · intro i hi y hy
    rw [eN] at hi
    rw [e0, Nat.zero_add] at hy
    obtain ⟨fs, hfs⟩ := hel i hi y hy
    obtain ⟨q2, h2⟩ := wg_ix hfs
    exact va_recv hC.2.1 hP (ci := 2) rfl h2
  · intro comp c0 h2 h3
    obtain ⟨c1, t1, f1, f2, f3⟩ := Cond.castable_spec (va_Nw.use (A := args) rfl hZ.2.2.2.1)
    cases h3.symm.trans f1
    cases h2.symm.trans f2
    exact f3
  · have : nativeFrameWords "java/lang/System" "arraycopy" 5 = 7 := by decide
    omega
  · intro H1 locs1 g1 g2 g3
    rw [e0, eN] at g1 g2
    rw [wup_set hD h1] at g1 g2
    exact kk ls hl H1 locs1 g1 g2 g3
end VJ2
