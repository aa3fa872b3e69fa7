/-! Rows by places, with an index that is a number; small rows on numbers. -/
def rt (v : Value) (w : va_W) : Option Value → va_W → Prop := fun v' w' => v' = some v ∧ w' = w
def rtv (w : va_W) : Option Value → va_W → Prop := fun v' w' => v' = none ∧ w' = w
section VP2
variable {p : Program} {l : Launch} {e : Env} {R : Room} {s : State} {m : MethodId} {args : Array Value} {below : List Frame} {meth : Method} {c : Code} {k n : Nat} {Q : State → Prop}
variable {cc : ByteArray} {nL : Nat} {own : String} {D : va_G} {G : u_G} {A : Nat → Prop} {pc : Nat} {L : List (Nat × Value)} {st : List Value} {ws : va_W}
theorem p_iald (hC : vx p s m args meth c cc nL own D G A) {a N : Nat} {cA : ClassId} {f : Nat → Int32} {i : Int32} (q0 t0 : Nat) (ha : ws[q0]? = some (a, .inl (cA, N, .inl f))) (ht : G.1[t0]? = some (cA, .int)) (q : Nat) (hi : i = nI q) (hq : q < N) (hN : N < 2 ^ 31) (d : decode cc pc = .ok (.iaload, 1))
    (kk : U p l e R s m args below meth c nL D A ws k n Q (pc + 1) L (.int (f q) :: st)) : U p l e R s m args below meth c nL D A ws k n Q pc L (.int i :: .ref a :: st) := by
  subst hi
  have e : (nI q).toNatClampNeg = q := nI_clamp (Nat.lt_trans hq hN)
  exact u_iald hC q0 t0 ha ht (vp_in_nI hq hN) d (by rw [e]; exact kk)
theorem p_zald (hC : vx p s m args meth c cc nL own D G A) {a N : Nat} {cA : ClassId} {f : Nat → Int32} {i : Int32} (q0 t0 : Nat) (ha : ws[q0]? = some (a, .inl (cA, N, .inl f))) (ht : G.1[t0]? = some (cA, .boolean)) (q : Nat) (hi : i = nI q) (hq : q < N) (hN : N < 2 ^ 31) (d : decode cc pc = .ok (.baload, 1))
    (kk : U p l e R s m args below meth c nL D A ws k n Q (pc + 1) L (.int (f q) :: st)) : U p l e R s m args below meth c nL D A ws k n Q pc L (.int i :: .ref a :: st) := by
  subst hi
  have e : (nI q).toNatClampNeg = q := nI_clamp (Nat.lt_trans hq hN)
  exact u_zald hC q0 t0 ha ht (vp_in_nI hq hN) d (by rw [e]; exact kk)
theorem p_iast (hC : vx p s m args meth c cc nL own D G A) {a N : Nat} {cA : ClassId} {f : Nat → Int32} {i x : Int32} {ws' : va_W} (q0 t0 : Nat) (ha : ws[q0]? = some (a, .inl (cA, N, .inl f))) (ht : G.1[t0]? = some (cA, .int)) (q : Nat) (hi : i = nI q) (hq : q < N) (hN : N < 2 ^ 31) (hw : ws.set q0 (a, .inl (cA, N, .inl (upd f q x))) = ws') (d : decode cc pc = .ok (.iastore, 1))
    (kk : U p l e R s m args below meth c nL D A ws' k n Q (pc + 1) L st) : U p l e R s m args below meth c nL D A ws k n Q pc L (.int x :: .int i :: .ref a :: st) := by
  subst hi
  have e : (nI q).toNatClampNeg = q := nI_clamp (Nat.lt_trans hq hN)
  exact u_iast hC q0 t0 ha ht (vp_in_nI hq hN) (by rw [e]; exact hw) d kk
theorem p_zast (hC : vx p s m args meth c cc nL own D G A) {a N : Nat} {cA : ClassId} {f : Nat → Int32} {i x : Int32} {ws' : va_W} (q0 t0 : Nat) (ha : ws[q0]? = some (a, .inl (cA, N, .inl f))) (ht : G.1[t0]? = some (cA, .boolean)) (q : Nat) (hi : i = nI q) (hq : q < N) (hN : N < 2 ^ 31) (hw : ws.set q0 (a, .inl (cA, N, .inl (upd f q (vp_nar .boolean x)))) = ws') (d : decode cc pc = .ok (.bastore, 1))
    (kk : U p l e R s m args below meth c nL D A ws' k n Q (pc + 1) L st) : U p l e R s m args below meth c nL D A ws k n Q pc L (.int x :: .int i :: .ref a :: st) := by
  subst hi
  have e : (nI q).toNatClampNeg = q := nI_clamp (Nat.lt_trans hq hN)
  exact u_zast hC q0 t0 ha ht (vp_in_nI hq hN) (by rw [e]; exact hw) d kk
end VP2
theorem n_rng {x : Int32} {lo hi : Nat} (hh : hi < 2 ^ 31) (hlo : lo < 2 ^ 31) (h1 : ¬ x < nI lo) (h2 : ¬ nI hi < x) : ∃ i : Nat, lo ≤ i ∧ i ≤ hi ∧ x = nI i := by
  rw [Int32.lt_iff_toInt_lt, nI_toInt hlo] at h1
  rw [Int32.lt_iff_toInt_lt, nI_toInt hh] at h2
  have h0 : ¬ x < 0 := by rw [Int32.lt_iff_toInt_lt, Int32.toInt_zero]; omega
  obtain ⟨j, hj, rfl⟩ := nI_of h0
  rw [nI_toInt hj] at h1 h2
  exact ⟨j, by omega, by omega, rfl⟩
theorem n_rng0 {x : Int32} {hi : Nat} (hh : hi < 2 ^ 31) (h1 : ¬ x < 0) (h2 : ¬ nI hi ≤ x) : ∃ i : Nat, i < hi ∧ x = nI i := by
  obtain ⟨j, hj, rfl⟩ := nI_of h1
  rw [Int32.le_iff_toInt_le, nI_toInt hj, nI_toInt hh] at h2
  exact ⟨j, by omega, rfl⟩
theorem n_8 (j q : Nat) : nI 8 * nI j + nI q = nI (8 * j + q) := by rw [pk_mul, nI_add]
theorem n_8a (j : Nat) : nI 8 * nI j = nI (8 * j) := pk_mul 8 j
theorem n_8d {b : Nat} (hb : b < 2 ^ 31) : nI b / nI 8 = nI (b / 8) := pk_div hb (by decide) (by decide)
theorem n_8r {b : Nat} (hb : b < 2 ^ 31) : nI b - nI b / nI 8 * nI 8 = nI (b % 8) := pk_rem hb (by decide) (by decide)
theorem n_pred {q : Nat} (h : 0 < q) : nI q - nI 1 = nI (q - 1) := pk_sub h
section VP3
variable {p : Program} {l : Launch} {e : Env} {R : Room} {s : State} {m : MethodId} {args : Array Value} {below : List Frame} {meth : Method} {c : Code} {k n : Nat} {Q : State → Prop}
variable {cc : ByteArray} {nL : Nat} {own : String} {D : va_G} {G : u_G} {A : Nat → Prop} {pc : Nat} {L : List (Nat × Value)} {st : List Value} {ws w1 : va_W} {v1 : Value} {mc ms : Nat}
theorem u_callVr (hC : vx p s m args meth c cc nL own D G A) {idx yL h na a ci N q0 : Nat} {y : MethodName} {b : ByteArray} {ret : Option FieldType} {As fs : List Value} {T : u_T} {st0 : List Value} (hM : Ct l y b yL ret h mc ms D G ws (.ref a :: As) (rt v1 w1)) (hf : u_Cb own idx y b yL ret na) (hi : Cond.instanceMethod y ∈ gw ∧ Cond.selects y.cls y y ∈ gw) (he : ws[q0]? = some (a, .inr (ci, fs))) (hc : cls[ci]? = some (y.cls, T, N))
    (hR : h + 1 ≤ R.frames ∧ 8 + (yL + 11) + 40 * h ≤ R.locals) (hcs : k + mc ≤ R.cells ∧ n + ms ≤ R.slots) (hna : As.length = na) (hst : st0 = As.reverse ++ .ref a :: st) (hw8 : (st.map fun v => v.category).sum ≤ 8) (d : decode cc pc = .ok (.invokevirtual idx, 3))
    (kk : U p l e R s m args below meth c nL D A w1 (k + mc) (n + ms) Q (pc + 3) L (v1 :: st)) : U p l e R s m args below meth c nL D A ws k n Q pc L st0 :=
  u_callV hC hM hf hi he hc hR hcs hna hst hw8 d (fun v w' hp => by obtain ⟨rfl, rfl⟩ := hp; exact kk)
theorem u_callVv (hC : vx p s m args meth c cc nL own D G A) {idx yL h na a ci N q0 : Nat} {y : MethodName} {b : ByteArray} {ret : Option FieldType} {As fs : List Value} {T : u_T} {st0 : List Value} (hM : Ct l y b yL ret h mc ms D G ws (.ref a :: As) (rtv w1)) (hf : u_Cb own idx y b yL ret na) (hi : Cond.instanceMethod y ∈ gw ∧ Cond.selects y.cls y y ∈ gw) (he : ws[q0]? = some (a, .inr (ci, fs))) (hc : cls[ci]? = some (y.cls, T, N))
    (hR : h + 1 ≤ R.frames ∧ 8 + (yL + 11) + 40 * h ≤ R.locals) (hcs : k + mc ≤ R.cells ∧ n + ms ≤ R.slots) (hna : As.length = na) (hst : st0 = As.reverse ++ .ref a :: st) (hw8 : (st.map fun v => v.category).sum ≤ 8) (d : decode cc pc = .ok (.invokevirtual idx, 3))
    (kk : U p l e R s m args below meth c nL D A w1 (k + mc) (n + ms) Q (pc + 3) L st) : U p l e R s m args below meth c nL D A ws k n Q pc L st0 :=
  u_callV hC hM hf hi he hc hR hcs hna hst hw8 d (fun v w' hp => by obtain ⟨rfl, rfl⟩ := hp; exact kk)
theorem w_callVr (hC : vx p s m args meth c cc nL own D G A) {idx yL h na a ci N : Nat} {y : MethodName} {b : ByteArray} {ret : Option FieldType} {As fs : List Value} {T : u_T} {st0 : List Value} (hM : Ct l y b yL ret h mc ms D G ws (.ref a :: As) (rt v1 w1)) (hf : u_Cb own idx y b yL ret na) (hi : Cond.instanceMethod y ∈ gw ∧ Cond.selects y.cls y y ∈ gw) (he : wg ws a = some (.inr (ci, fs))) (hc : cls[ci]? = some (y.cls, T, N))
    (hR : h + 1 ≤ R.frames ∧ 8 + (yL + 11) + 40 * h ≤ R.locals) (hcs : k + mc ≤ R.cells ∧ n + ms ≤ R.slots) (hna : As.length = na) (hst : st0 = As.reverse ++ .ref a :: st) (hw8 : (st.map fun v => v.category).sum ≤ 8) (d : decode cc pc = .ok (.invokevirtual idx, 3))
    (kk : U p l e R s m args below meth c nL D A w1 (k + mc) (n + ms) Q (pc + 3) L (v1 :: st)) : U p l e R s m args below meth c nL D A ws k n Q pc L st0 :=
  w_callV hC hM hf hi he hc hR hcs hna hst hw8 d (fun v w' hp => by obtain ⟨rfl, rfl⟩ := hp; exact kk)
theorem w_callVv (hC : vx p s m args meth c cc nL own D G A) {idx yL h na a ci N : Nat} {y : MethodName} {b : ByteArray} {ret : Option FieldType} {As fs : List Value} {T : u_T} {st0 : List Value} (hM : Ct l y b yL ret h mc ms D G ws (.ref a :: As) (rtv w1)) (hf : u_Cb own idx y b yL ret na) (hi : Cond.instanceMethod y ∈ gw ∧ Cond.selects y.cls y y ∈ gw) (he : wg ws a = some (.inr (ci, fs))) (hc : cls[ci]? = some (y.cls, T, N))
    (hR : h + 1 ≤ R.frames ∧ 8 + (yL + 11) + 40 * h ≤ R.locals) (hcs : k + mc ≤ R.cells ∧ n + ms ≤ R.slots) (hna : As.length = na) (hst : st0 = As.reverse ++ .ref a :: st) (hw8 : (st.map fun v => v.category).sum ≤ 8) (d : decode cc pc = .ok (.invokevirtual idx, 3))
    (kk : U p l e R s m args below meth c nL D A w1 (k + mc) (n + ms) Q (pc + 3) L st) : U p l e R s m args below meth c nL D A ws k n Q pc L st0 :=
  w_callV hC hM hf hi he hc hR hcs hna hst hw8 d (fun v w' hp => by obtain ⟨rfl, rfl⟩ := hp; exact kk)
theorem u_callSr (hC : vx p s m args meth c cc nL own D G A) {idx yL h na : Nat} {y : MethodName} {b : ByteArray} {ret : Option FieldType} {As : List Value} {st0 : List Value} (hM : Ct l y b yL ret h mc ms D G ws As (rt v1 w1)) (hf : u_Cb own idx y b yL ret na) (hi : Cond.static y ∈ gw)
    (hR : h + 1 ≤ R.frames ∧ 8 + (yL + 11) + 40 * h ≤ R.locals) (hcs : k + mc ≤ R.cells ∧ n + ms ≤ R.slots) (hna : As.length = na) (hst : st0 = As.reverse ++ st) (hw8 : (st.map fun v => v.category).sum ≤ 8) (d : decode cc pc = .ok (.invokestatic idx, 3))
    (kk : U p l e R s m args below meth c nL D A w1 (k + mc) (n + ms) Q (pc + 3) L (v1 :: st)) : U p l e R s m args below meth c nL D A ws k n Q pc L st0 :=
  u_callS hC hM hf hi hR hcs hna hst hw8 d (fun v w' hp => by obtain ⟨rfl, rfl⟩ := hp; exact kk)
theorem u_callIv (hC : vx p s m args meth c cc nL own D G A) {idx yL h na a : Nat} {y : MethodName} {b : ByteArray} {As : List Value} {st0 : List Value} (hM : Ct l y b yL none h mc ms D G ws (.ref a :: As) (rtv w1)) (hf : u_Cb own idx y b yL none na) (hi : Cond.instanceMethod y ∈ gw) (hy : y.name = "<init>")
    (hR : h + 1 ≤ R.frames ∧ 8 + (yL + 11) + 40 * h ≤ R.locals) (hcs : k + mc ≤ R.cells ∧ n + ms ≤ R.slots) (hna : As.length = na) (hst : st0 = As.reverse ++ .ref a :: st) (hw8 : (st.map fun v => v.category).sum ≤ 8) (d : decode cc pc = .ok (.invokespecial idx, 3))
    (kk : U p l e R s m args below meth c nL D A w1 (k + mc) (n + ms) Q (pc + 3) L st) : U p l e R s m args below meth c nL D A ws k n Q pc L st0 :=
  u_callI hC hM hf hi hy hR hcs hna hst hw8 d (fun v w' hp => by obtain ⟨rfl, rfl⟩ := hp; exact kk)
end VP3
theorem u_pick {p : Program} {l : Launch} {e : Env} {R : Room} {s : State} {m : MethodId} {args : Array Value} {below : List Frame} {meth : Method} {c : Code} {k n : Nat} {Q : State → Prop} {nL : Nat} {D : va_G} {A : Nat → Prop} {pc : Nat} {L L' : List (Nat × Value)} {st : List Value} {ws : va_W} (ks : List Nat) (h : lv_pick L ks = L') (kk : U p l e R s m args below meth c nL D A ws k n Q pc L' st) : U p l e R s m args below meth c nL D A ws k n Q pc L st := fun ls hl => kk ls (lv_sub hl ks h)
theorem u_val {p : Program} {l : Launch} {e : Env} {R : Room} {s : State} {m : MethodId} {args : Array Value} {below : List Frame} {meth : Method} {c : Code} {k n : Nat} {Q : State → Prop} {nL : Nat} {D : va_G} {A : Nat → Prop} {pc : Nat} {L : List (Nat × Value)} {st : List Value} {ws : va_W} {x x' : Int32} (h : x = x') (kk : U p l e R s m args below meth c nL D A ws k n Q pc L (.int x' :: st)) : U p l e R s m args below meth c nL D A ws k n Q pc L (.int x :: st) := h ▸ kk
theorem n_rngl {x : Int32} {hi : Nat} (hh : hi < 2 ^ 31) (h1 : ¬ x < 0) (h2 : x ≤ nI hi) : ∃ i : Nat, i ≤ hi ∧ x = nI i := by
  obtain ⟨j, hj, rfl⟩ := nI_of h1
  rw [Int32.le_iff_toInt_le, nI_toInt hj, nI_toInt hh] at h2
  exact ⟨j, by omega, rfl⟩
theorem u_valb {p : Program} {l : Launch} {e : Env} {R : Room} {s : State} {m : MethodId} {args : Array Value} {below : List Frame} {meth : Method} {c : Code} {k n : Nat} {Q : State → Prop} {nL : Nat} {D : va_G} {A : Nat → Prop} {pc : Nat} {L : List (Nat × Value)} {st : List Value} {ws : va_W} {y : Value} {x x' : Int32} (h : x = x') (kk : U p l e R s m args below meth c nL D A ws k n Q pc L (y :: .int x' :: st)) : U p l e R s m args below meth c nL D A ws k n Q pc L (y :: .int x :: st) := h ▸ kk
