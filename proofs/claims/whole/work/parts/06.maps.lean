/-! A world read by addresses: wg (what lies at an address), wup (another content at an address), and the rows over them: no places in lists. -/
def wg : va_W → Nat → Option va_E
  | [], _ => none
  | q :: r, a => if q.1 = a then some q.2 else wg r a
def wup (ws : va_W) (a : Nat) (x : va_E) : va_W := ws.map (fun q => if q.1 = a then (a, x) else q)
theorem wg_ix : ∀ {ws : va_W} {a : Nat} {x : va_E}, wg ws a = some x → ∃ q0 : Nat, ws[q0]? = some (a, x)
  | [], a, x, h => by simp [wg] at h
  | q :: r, a, x, h => by
    unfold wg at h
    by_cases c : q.1 = a
    · rw [if_pos c] at h
      exact ⟨0, by rw [List.getElem?_cons_zero, ← c, ← Option.some.inj h]⟩
    · rw [if_neg c] at h
      obtain ⟨i, hi⟩ := wg_ix h
      exact ⟨i + 1, by rw [List.getElem?_cons_succ]; exact hi⟩
theorem wg_app {w2 : va_W} : ∀ {w1 : va_W} {a : Nat} {x : va_E}, wg w1 a = some x → wg (w1 ++ w2) a = some x
  | [], a, x, h => by simp [wg] at h
  | q :: r, a, x, h => by
    rw [List.cons_append]
    unfold wg at h ⊢
    by_cases c : q.1 = a
    · rw [if_pos c] at h ⊢; exact h
    · rw [if_neg c] at h ⊢; exact wg_app h
theorem wg_appN {w2 : va_W} : ∀ {w1 : va_W} {a : Nat}, wg w1 a = none → wg (w1 ++ w2) a = wg w2 a
  | [], a, h => rfl
  | q :: r, a, h => by
    rw [List.cons_append]
    unfold wg at h
    by_cases c : q.1 = a
    · rw [if_pos c] at h; cases h
    · rw [if_neg c] at h
      rw [wg, if_neg c]
      exact wg_appN h
theorem wg_push {ws : va_W} {a : Nat} {x : va_E} (h : wg ws a = none) : wg (ws ++ [(a, x)]) a = some x := by
  rw [wg_appN h]; simp [wg]
theorem wg_pushN {ws : va_W} {a b : Nat} {x : va_E} (h : b ≠ a) : wg (ws ++ [(a, x)]) b = wg ws b := by
  cases hb : wg ws b with
  | some y => exact wg_app hb
  | none => rw [wg_appN hb]; simp [wg, Ne.symm h]
theorem wg_up : ∀ {ws : va_W} {a : Nat} {x y : va_E}, wg ws a = some x → wg (wup ws a y) a = some y
  | [], a, x, y, h => by simp [wg] at h
  | q :: r, a, x, y, h => by
    unfold wg at h
    unfold wup
    rw [List.map_cons]
    by_cases c : q.1 = a
    · rw [if_pos c]; simp [wg]
    · rw [if_neg c] at h ⊢
      rw [wg, if_neg c]
      exact wg_up h
theorem wg_upN : ∀ {ws : va_W} {a b : Nat} {y : va_E}, b ≠ a → wg (wup ws a y) b = wg ws b
  | [], a, b, y, h => rfl
  | q :: r, a, b, y, h => by
    unfold wup
    rw [List.map_cons]
    by_cases c : q.1 = a
    · rw [if_pos c, wg, wg, if_neg (Ne.symm h), if_neg (by rw [c]; exact Ne.symm h)]
      exact wg_upN h
    · rw [if_neg c, wg, wg]
      by_cases c2 : q.1 = b
      · rw [if_pos c2, if_pos c2]
      · rw [if_neg c2, if_neg c2]
        exact wg_upN h
/-- two contents that differ lie at two addresses -/
theorem wg_ne {ws : va_W} {a b : Nat} {x y : va_E} (h1 : wg ws a = some x) (h2 : wg ws b = some y) (h : x ≠ y) : a ≠ b := by
  intro q
  subst q
  exact h (Option.some.inj (h1.symm.trans h2))
theorem wup_noop : ∀ {ws : va_W} {a : Nat} {y : va_E}, (∀ (i : Nat) (q : Nat × va_E), ws[i]? = some q → q.1 ≠ a) → wup ws a y = ws
  | [], a, y, h => rfl
  | q :: r, a, y, h => by
    unfold wup
    rw [List.map_cons, if_neg (h 0 q rfl)]
    congr 1
    exact wup_noop (fun i x hx => h (i + 1) x (by rw [List.getElem?_cons_succ]; exact hx))
theorem wup_set : ∀ {ws : va_W} {A : Nat → Prop} {q0 a : Nat} {x y : va_E}, va_D A ws → ws[q0]? = some (a, x) → ws.set q0 (a, y) = wup ws a y
  | [], A, q0, a, x, y, hD, h => by simp at h
  | q :: r, A, 0, a, x, y, hD, h => by
    rw [List.getElem?_cons_zero] at h
    have e : q = (a, x) := Option.some.inj h
    subst e
    rw [List.set_cons_zero]
    unfold wup
    rw [List.map_cons, if_pos rfl]
    congr 1
    refine (wup_noop (fun i z hz c => ?_)).symm
    have := hD.1 (i + 1) 0 z (a, x) (by rw [List.getElem?_cons_succ]; exact hz) rfl c
    omega
  | q :: r, A, q0 + 1, a, x, y, hD, h => by
    rw [List.getElem?_cons_succ] at h
    rw [List.set_cons_succ]
    unfold wup
    rw [List.map_cons, if_neg (fun c => by
      have := hD.1 0 (q0 + 1) q (a, x) rfl (by rw [List.getElem?_cons_succ]; exact h) c
      omega)]
    congr 1
    exact wup_set (A := A) ⟨fun i j u v hi hj e => Nat.succ.inj (hD.1 (i + 1) (j + 1) u v (by rw [List.getElem?_cons_succ]; exact hi) (by rw [List.getElem?_cons_succ]; exact hj) e), fun i u hi => hD.2 (i + 1) u (by rw [List.getElem?_cons_succ]; exact hi)⟩ h
theorem wg_fresh {ws : va_W} {A : Nat → Prop} {q : Nat} {x : va_E} (hD : va_D A (ws ++ [(q, x)])) : wg ws q = none := by
  cases h : wg ws q with
  | none => rfl
  | some y =>
    obtain ⟨i, hi⟩ := wg_ix h
    exact absurd (rfl : q = q) (u_Dx hD (x := (q, y)) (y := (q, x)) (j := 0) hi rfl)
section VM
variable {p : Program} {l : Launch} {e : Env} {R : Room} {s : State} {m : MethodId} {args : Array Value} {below : List Frame} {meth : Method} {c : Code} {k n : Nat} {Q : State → Prop}
variable {cc : ByteArray} {nL : Nat} {own : String} {D : va_G} {G : u_G} {A : Nat → Prop} {pc : Nat} {L : List (Nat × Value)} {st : List Value} {ws : va_W}
/-- the addresses are apart: told to the one who asks -/
theorem u_D (kk : (∃ B : Nat → Prop, va_D B ws) → U p l e R s m args below meth c nL D A ws k n Q pc L st) : U p l e R s m args below meth c nL D A ws k n Q pc L st := fun ls hl H locs hP hD hS => kk ⟨A, hD⟩ ls hl H locs hP hD hS
theorem w_get (hC : vx p s m args meth c cc nL own D G A) {idx ci j N a : Nat} {C : String} {T : u_T} {fs : List Value} {v : Value} (hf : u_Ff own idx ci j C T N) (he : wg ws a = some (.inr (ci, fs))) (hv : fs[j]? = some v) (d : decode cc pc = .ok (.getfield idx, 3))
    (kk : U p l e R s m args below meth c nL D A ws k n Q (pc + 3) L (v :: st)) : U p l e R s m args below meth c nL D A ws k n Q pc L (.ref a :: st) := by
  obtain ⟨q0, h0⟩ := wg_ix he
  exact u_get hC hf q0 h0 hv d kk
theorem w_put (hC : vx p s m args meth c cc nL own D G A) {idx ci j N a : Nat} {C : String} {T : u_T} {fs : List Value} {v : Value} {t0 : Nat → FieldType} (hf : u_Ff own idx ci j C T N) (ht : u_Ft j T N t0) (hfin : (T j).2.2.2 = false) (he : wg ws a = some (.inr (ci, fs))) (hn : narrow (t0 j) v = v) (hfit : fits (t0 j) v = true) (hl9 : j < fs.length) (d : decode cc pc = .ok (.putfield idx, 3))
    (kk : U p l e R s m args below meth c nL D A (wup ws a (.inr (ci, fs.set j v))) k n Q (pc + 3) L st) : U p l e R s m args below meth c nL D A ws k n Q pc L (v :: .ref a :: st) := by
  obtain ⟨q0, h0⟩ := wg_ix he
  exact u_D (fun ⟨B, hD⟩ => u_put hC hf ht hfin q0 h0 hn hfit hl9 (wup_set hD h0) d kk)
theorem w_putF (hC : vx p s m args meth c cc nL own D G A) {idx ci j N a : Nat} {C : String} {T : u_T} {fs : List Value} {v : Value} {t0 : Nat → FieldType} (hf : u_Ff own idx ci j C T N) (ht : u_Ft j T N t0) (hfin : (T j).2.2.2 = true) (hin : meth.name = "<init>") (hdecl : (T j).1 = own) (he : wg ws a = some (.inr (ci, fs))) (hn : narrow (t0 j) v = v) (hfit : fits (t0 j) v = true) (hl9 : j < fs.length) (d : decode cc pc = .ok (.putfield idx, 3))
    (kk : U p l e R s m args below meth c nL D A (wup ws a (.inr (ci, fs.set j v))) k n Q (pc + 3) L st) : U p l e R s m args below meth c nL D A ws k n Q pc L (v :: .ref a :: st) := by
  obtain ⟨q0, h0⟩ := wg_ix he
  exact u_D (fun ⟨B, hD⟩ => u_putF hC hf ht hfin hin hdecl q0 h0 hn hfit hl9 (wup_set hD h0) d kk)
theorem w_iald (hC : vx p s m args meth c cc nL own D G A) {a N : Nat} {cA : ClassId} {f : Nat → Int32} {i : Int32} (t0 : Nat) (ha : wg ws a = some (.inl (cA, N, .inl f))) (ht : G.1[t0]? = some (cA, .int)) (q : Nat) (hi : i = nI q) (hq : q < N) (hN : N < 2 ^ 31) (d : decode cc pc = .ok (.iaload, 1))
    (kk : U p l e R s m args below meth c nL D A ws k n Q (pc + 1) L (.int (f q) :: st)) : U p l e R s m args below meth c nL D A ws k n Q pc L (.int i :: .ref a :: st) := by
  obtain ⟨q0, h0⟩ := wg_ix ha
  subst hi
  have e : (nI q).toNatClampNeg = q := nI_clamp (Nat.lt_trans hq hN)
  exact u_iald hC q0 t0 h0 ht (vp_in_nI hq hN) d (by rw [e]; exact kk)
theorem w_iast (hC : vx p s m args meth c cc nL own D G A) {a N : Nat} {cA : ClassId} {f : Nat → Int32} {i x : Int32} (t0 : Nat) (ha : wg ws a = some (.inl (cA, N, .inl f))) (ht : G.1[t0]? = some (cA, .int)) (q : Nat) (hi : i = nI q) (hq : q < N) (hN : N < 2 ^ 31) (d : decode cc pc = .ok (.iastore, 1))
    (kk : U p l e R s m args below meth c nL D A (wup ws a (.inl (cA, N, .inl (upd f q x)))) k n Q (pc + 1) L st) : U p l e R s m args below meth c nL D A ws k n Q pc L (.int x :: .int i :: .ref a :: st) := by
  obtain ⟨q0, h0⟩ := wg_ix ha
  subst hi
  have e : (nI q).toNatClampNeg = q := nI_clamp (Nat.lt_trans hq hN)
  exact u_D (fun ⟨B, hD⟩ => u_iast hC q0 t0 h0 ht (vp_in_nI hq hN) (by rw [e]; exact wup_set hD h0) d kk)
theorem w_aldq (hC : vx p s m args meth c cc nL own D G A) {a N : Nat} {cA : ClassId} {C : String} {f : Nat → Option Nat} {i : Int32} (t0 : Nat) (ha : wg ws a = some (.inl (cA, N, .inr (.inr (.inr (.inr f)))))) (ht : G.1[t0]? = some (cA, .object C)) (q : Nat) (hi : i = nI q) (hq : q < N) (hN : N < 2 ^ 31) (d : decode cc pc = .ok (.aaload, 1))
    (kk : U p l e R s m args below meth c nL D A ws k n Q (pc + 1) L (va_rf (f q) :: st)) : U p l e R s m args below meth c nL D A ws k n Q pc L (.int i :: .ref a :: st) := by
  obtain ⟨q0, h0⟩ := wg_ix ha
  subst hi
  have e : (nI q).toNatClampNeg = q := nI_clamp (Nat.lt_trans hq hN)
  exact u_aldq hC q0 t0 h0 ht (vp_in_nI hq hN) d (by rw [e]; exact kk)
theorem w_astq (hC : vx p s m args meth c cc nL own D G A) {a N v ci : Nat} {cA : ClassId} {r : vw_C} {vs : List Value} {f : Nat → Option Nat} {i : Int32} (t0 : Nat) (ha : wg ws a = some (.inl (cA, N, .inr (.inr (.inr (.inr f)))))) (ht : G.1[t0]? = some (cA, .object r.1)) (hv : wg ws v = some (.inr (ci, vs))) (hc : cls[ci]? = some r) (q : Nat) (hi : i = nI q) (hq : q < N) (hN : N < 2 ^ 31) (d : decode cc pc = .ok (.aastore, 1))
    (kk : U p l e R s m args below meth c nL D A (wup ws a (.inl (cA, N, .inr (.inr (.inr (.inr (va_up f q (some v)))))))) k n Q (pc + 1) L st) : U p l e R s m args below meth c nL D A ws k n Q pc L (.ref v :: .int i :: .ref a :: st) := by
  obtain ⟨q0, h0⟩ := wg_ix ha
  obtain ⟨q1, h1⟩ := wg_ix hv
  subst hi
  have e : (nI q).toNatClampNeg = q := nI_clamp (Nat.lt_trans hq hN)
  exact u_D (fun ⟨B, hD⟩ => u_astq hC q0 t0 q1 h0 ht h1 hc (vp_in_nI hq hN) (by rw [e]; exact wup_set hD h0) d kk)
theorem w_astqN (hC : vx p s m args meth c cc nL own D G A) {a N : Nat} {cA : ClassId} {C : String} {f : Nat → Option Nat} {i : Int32} (t0 : Nat) (ha : wg ws a = some (.inl (cA, N, .inr (.inr (.inr (.inr f)))))) (ht : G.1[t0]? = some (cA, .object C)) (q : Nat) (hi : i = nI q) (hq : q < N) (hN : N < 2 ^ 31) (d : decode cc pc = .ok (.aastore, 1))
    (kk : U p l e R s m args below meth c nL D A (wup ws a (.inl (cA, N, .inr (.inr (.inr (.inr (va_up f q none))))))) k n Q (pc + 1) L st) : U p l e R s m args below meth c nL D A ws k n Q pc L (.null :: .int i :: .ref a :: st) := by
  obtain ⟨q0, h0⟩ := wg_ix ha
  subst hi
  have e : (nI q).toNatClampNeg = q := nI_clamp (Nat.lt_trans hq hN)
  exact u_D (fun ⟨B, hD⟩ => u_astqN hC q0 t0 h0 ht (vp_in_nI hq hN) (by rw [e]; exact wup_set hD h0) d kk)
theorem w_astqO (hC : vx p s m args meth c cc nL own D G A) {a N v ci : Nat} {E : String} {cA : ClassId} {r : vw_C} {vs : List Value} {f : Nat → Option Nat} {i : Int32} (t0 : Nat) (ha : wg ws a = some (.inl (cA, N, .inr (.inr (.inr (.inr f)))))) (ht : G.1[t0]? = some (cA, .object E)) (hca : va_Nw (.castable r.1 E) s) (hv : wg ws v = some (.inr (ci, vs))) (hc : cls[ci]? = some r) (q : Nat) (hi : i = nI q) (hq : q < N) (hN : N < 2 ^ 31) (d : decode cc pc = .ok (.aastore, 1))
    (kk : U p l e R s m args below meth c nL D A (wup ws a (.inl (cA, N, .inr (.inr (.inr (.inr (va_up f q (some v)))))))) k n Q (pc + 1) L st) : U p l e R s m args below meth c nL D A ws k n Q pc L (.ref v :: .int i :: .ref a :: st) := by
  obtain ⟨q0, h0⟩ := wg_ix ha
  obtain ⟨q1, h1⟩ := wg_ix hv
  subst hi
  have e : (nI q).toNatClampNeg = q := nI_clamp (Nat.lt_trans hq hN)
  exact u_D (fun ⟨B, hD⟩ => u_astqO hC q0 t0 q1 h0 ht hca h1 hc (vp_in_nI hq hN) (by rw [e]; exact wup_set hD h0) d kk)
theorem w_alen (hC : vx p s m args meth c cc nL own D G A) {a N : Nat} {cA : ClassId} {x : (Nat → Int32) ⊕ (Nat → Int64) ⊕ (Nat → UInt32) ⊕ (Nat → UInt64) ⊕ (Nat → Option Nat)} {ty : FieldType} (t0 : Nat) (ha : wg ws a = some (.inl (cA, N, x))) (ht : G.1[t0]? = some (cA, ty)) (d : decode cc pc = .ok (.arraylength, 1))
    (kk : U p l e R s m args below meth c nL D A ws k n Q (pc + 1) L (.int (nI N) :: st)) : U p l e R s m args below meth c nL D A ws k n Q pc L (.ref a :: st) := by
  obtain ⟨q0, h0⟩ := wg_ix ha
  exact u_alen hC (nI N) q0 t0 h0 ht rfl d kk
theorem w_cast (hC : vx p s m args meth c cc nL own D G A) {idx ci N a : Nat} {C : String} {T : u_T} {fs : List Value} (hc : cls[ci]? = some (C, T, N)) (hlk : Cond.classLink own idx C ∈ gw) (he : wg ws a = some (.inr (ci, fs))) (d : decode cc pc = .ok (.checkcast idx, 3))
    (kk : U p l e R s m args below meth c nL D A ws k n Q (pc + 3) L (.ref a :: st)) : U p l e R s m args below meth c nL D A ws k n Q pc L (.ref a :: st) := by
  obtain ⟨q0, h0⟩ := wg_ix he
  exact u_cast hC hc hlk q0 h0 d kk
theorem w_fresh {q pc k n : Nat} {x : va_E} {st : List Value} (kk : wg ws q = none → U p l e R s m args below meth c nL D A (ws ++ [(q, x)]) k n Q pc L st) : U p l e R s m args below meth c nL D A (ws ++ [(q, x)]) k n Q pc L st := u_D (fun ⟨_, hD⟩ => kk (wg_fresh hD))
theorem w_new (hC : vx p s m args meth c cc nL own D G A) {idx ci N : Nat} {C : String} {T : u_T} {t0 : Nat → FieldType} {fs : List Value} (hf : u_Nf own idx ci C T N t0 fs) (hk : k + 1 ≤ R.cells) (hn : n + N ≤ R.slots) (d : decode cc pc = .ok (.new idx, 3))
    (kk : ∀ q : Nat, wg ws q = none → U p l e R s m args below meth c nL D A (ws ++ [(q, .inr (ci, fs))]) (k + 1) (n + N) Q (pc + 3) L (.ref q :: st)) : U p l e R s m args below meth c nL D A ws k n Q pc L st := u_new hC hf hk hn d (fun q => w_fresh (kk q))
variable {post : Option Value → va_W → Prop} {mc ms : Nat}
theorem w_callV (hC : vx p s m args meth c cc nL own D G A) {idx yL h na a ci N : Nat} {y : MethodName} {b : ByteArray} {ret : Option FieldType} {As fs : List Value} {T : u_T} {st0 : List Value} (hM : Ct l y b yL ret h mc ms D G ws (.ref a :: As) post) (hf : u_Cb own idx y b yL ret na) (hi : Cond.instanceMethod y ∈ gw ∧ Cond.selects y.cls y y ∈ gw) (he : wg ws a = some (.inr (ci, fs))) (hc : cls[ci]? = some (y.cls, T, N))
    (hR : h + 1 ≤ R.frames ∧ 8 + (yL + 11) + 40 * h ≤ R.locals) (hcs : k + mc ≤ R.cells ∧ n + ms ≤ R.slots) (hna : As.length = na) (hst : st0 = As.reverse ++ .ref a :: st) (hw8 : (st.map fun v => v.category).sum ≤ 8) (d : decode cc pc = .ok (.invokevirtual idx, 3))
    (kk : ∀ (v : Option Value) (w' : va_W), post v w' → U p l e R s m args below meth c nL D A w' (k + mc) (n + ms) Q (pc + 3) L (v.toList ++ st)) : U p l e R s m args below meth c nL D A ws k n Q pc L st0 := by
  obtain ⟨q0, h0⟩ := wg_ix he
  exact u_callV hC hM hf hi h0 hc hR hcs hna hst hw8 d kk
end VM
