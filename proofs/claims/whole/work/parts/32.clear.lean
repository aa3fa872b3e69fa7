/-- levels k0, .., k - 1 have no number -/
def t_clr (nb : Nat → Int32) (k0 k : Nat) : Nat → Int32 := fun i => if k0 ≤ i ∧ i < k then nI 0 else nb i
theorem t_clr_0 {nb : Nat → Int32} {k0 : Nat} : t_clr nb k0 k0 = nb := by
  funext i
  exact if_neg (fun h => by omega)
theorem t_clr_s {nb : Nat → Int32} {k0 k : Nat} (h : k0 ≤ k) : upd (t_clr nb k0 k) k (nI 0) = t_clr nb k0 (k + 1) := by
  funext i
  unfold upd t_clr
  by_cases c : i = k
  · rw [if_pos c, if_pos ⟨by omega, by omega⟩]
  · rw [if_neg c]
    by_cases c2 : k0 ≤ i ∧ i < k
    · rw [if_pos c2, if_pos ⟨c2.1, by omega⟩]
    · rw [if_neg c2, if_neg (fun q => c2 ⟨q.1, by omega⟩)]
theorem wup_self : ∀ {ws : va_W} {A : Nat → Prop} {a : Nat} {x : va_E}, va_D A ws → wg ws a = some x → wup ws a x = ws := by
  intro ws A a x hD h
  obtain ⟨q0, h0⟩ := wg_ix h
  have key : ∀ q ∈ ws, (fun q : Nat × va_E => if q.1 = a then (a, x) else q) q = id q := by
    intro q hq
    obtain ⟨i, hi⟩ := List.getElem?_of_mem hq
    show (if q.1 = a then (a, x) else q) = q
    by_cases c : q.1 = a
    · have e := hD.1 i q0 q (a, x) hi h0 c
      subst e
      rw [if_pos c]
      exact Option.some.inj (h0.symm.trans hi)
    · rw [if_neg c]
  unfold wup
  rw [List.map_congr_left key, List.map_id]
section TC0
variable {l : Launch} {D : va_G} {κ : Nat → ClassId} {z : Nat × Nat} {ws : va_W}
variable {p : Program} {e : Env} {R : Room} {s0 : State} {m : MethodId} {args : Array Value} {below : List Frame} {meth : Method} {c : Code} {A : Nat → Prop} {Q : State → Prop} {k9 n9 : Nat}
set_option maxHeartbeats 4000000 in
set_option maxRecDepth 100000 in
theorem l_T_clear {t na k0 : Nat} {md tp co sn x : Int32} {nb : Nat → Int32} (hT : wg ws t = some (cT md na tp co sn)) (hN : wg ws na = some (aI κ 8 nb)) (hC : vx p s0 m args meth c b_T_clearLevelsFrom 3 R_T D (gk κ, z) A) (exit : U p l e R s0 m args below meth c 3 D A (wup ws na (aI κ 8 (t_clr nb k0 8))) k9 n9 Q 21 [(2, .int (nI 8)), (0, .ref t), (1, .int x)] []) : ∀ r k : Nat, k + r = 8 → k0 ≤ k → U p l e R s0 m args below meth c 3 D A (wup ws na (aI κ 8 (t_clr nb k0 k))) k9 n9 Q 2 [(2, .int (nI k)), (0, .ref t), (1, .int x)] [] := by
  intro r
  induction r with
  | zero =>
    intro k hk h0
    have e : k = 8 := by omega
    subst e
    refine u_iload_n hC d_T_clearLevelsFrom_2 rfl ?_
    refine u_bipush hC (nI 8) d_T_clearLevelsFrom_3 (by decide) ?_
    refine u_icmp_ge hC 21 d_T_clearLevelsFrom_5 (by decide) (fun h_5 => ?_) (fun h_5 => absurd (by decide) h_5)
    exact exit
  | succ r ih =>
    intro k hk h0
    have hT2 : wg (wup ws na (aI κ 8 (t_clr nb k0 k))) t = some (cT md na tp co sn) := by rw [wg_upN (wg_ne hT hN (by intro q; cases q))]; exact hT
    have hN2 : wg (wup ws na (aI κ 8 (t_clr nb k0 k))) na = some (aI κ 8 (t_clr nb k0 k)) := wg_up hN
    refine u_iload_n hC d_T_clearLevelsFrom_2 rfl ?_
    refine u_bipush hC (nI 8) d_T_clearLevelsFrom_3 (by decide) ?_
    refine u_icmp_ge hC 21 d_T_clearLevelsFrom_5 (by decide) (fun h_5 => absurd h_5 (nI_ge (by omega) (by decide))) (fun h_5 => ?_)
    refine u_aload_n hC d_T_clearLevelsFrom_8 rfl ?_
    refine w_get hC f_T_9 hT2 rfl d_T_clearLevelsFrom_9 ?_
    refine u_iload_n hC d_T_clearLevelsFrom_12 rfl ?_
    refine u_iconst hC (nI 0) d_T_clearLevelsFrom_13 (by decide) ?_
    refine w_iast hC 0 hN2 rfl k rfl (by omega) (by decide) d_T_clearLevelsFrom_14 ?_
    rw [wup_wup, t_clr_s h0]
    refine u_iinc hC (nI (k + 1)) (j := 0) d_T_clearLevelsFrom_15 rfl (nI_1 k) (by decide) ?_
    refine u_goto hC 2 d_T_clearLevelsFrom_18 (by decide) ?_
    exact ih (k + 1) (by omega) (by omega)
end TC0
section TC1
variable {l : Launch} {D : va_G} {κ : Nat → ClassId} {z : Nat × Nat} {ws : va_W}
set_option maxHeartbeats 4000000 in
set_option maxRecDepth 100000 in
theorem c_T_clear {t na k0 : Nat} {md tp co sn : Int32} {nb : Nat → Int32} (hk : k0 ≤ 8) (hT : wg ws t = some (cT md na tp co sn)) (hN : wg ws na = some (aI κ 8 nb)) : Ct l y_T_clearLevelsFrom b_T_clearLevelsFrom 3 none 0 0 0 D (gk κ, z) ws [.ref t, .int (nI k0)] (rtv (wup ws na (aI κ 8 (t_clr nb k0 8)))) := by
  refine Ct.of (by decide) (Nat.le_of_ble_eq_true rfl) ?_
  intro p e s0 m below meth c A hC hr hn
  refine u_iload_n hC d_T_clearLevelsFrom_0 rfl ?_
  refine u_istore_n hC d_T_clearLevelsFrom_1 (by decide) ?_
  refine u_D (fun ⟨B, hB⟩ => ?_)
  refine u_eqw (ws' := wup ws na (aI κ 8 (t_clr nb k0 k0))) (by rw [t_clr_0, wup_self hB hN]) ?_
  refine l_T_clear hT hN hC ?_ (8 - k0) k0 (by omega) (Nat.le_refl _)
  exact u_vret hC hr d_T_clearLevelsFrom_21 (Nat.le_of_ble_eq_true rfl) (Nat.le_of_ble_eq_true rfl) ⟨rfl, rfl⟩
end TC1
