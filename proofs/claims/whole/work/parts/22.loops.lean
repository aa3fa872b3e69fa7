/-! What the reference does, as functions. -/
/-- behind the numbers below n: those that are from session s at level k on hold x in place of what they held -/
def m_set (st be f : Nat → Int32) (s k x : Int32) (n : Nat) : Nat → Int32 := fun i => if 1 ≤ i ∧ i < n ∧ m_from st be i s k then x else f i
theorem m_set_1 {st be f : Nat → Int32} {s k x : Int32} : m_set st be f s k x 1 = f := by
  funext i
  exact if_neg (fun h => by omega)
theorem m_set_T {st be f : Nat → Int32} {s k x : Int32} {n : Nat} (h1 : 1 ≤ n) (h : m_from st be n s k) : upd (m_set st be f s k x n) n x = m_set st be f s k x (n + 1) := by
  funext i
  unfold upd m_set
  by_cases c : i = n
  · subst c
    rw [if_pos rfl, if_pos ⟨h1, by omega, h⟩]
  · rw [if_neg c]
    by_cases c2 : 1 ≤ i ∧ i < n ∧ m_from st be i s k
    · rw [if_pos c2, if_pos ⟨c2.1, by omega, c2.2.2⟩]
    · rw [if_neg c2, if_neg (fun q => c2 ⟨q.1, by omega, q.2.2⟩)]
theorem m_set_F {st be f : Nat → Int32} {s k x : Int32} {n : Nat} (h : ¬ m_from st be n s k) : m_set st be f s k x n = m_set st be f s k x (n + 1) := by
  funext i
  unfold m_set
  by_cases c2 : 1 ≤ i ∧ i < n ∧ m_from st be i s k
  · rw [if_pos c2, if_pos ⟨c2.1, by omega, c2.2.2⟩]
  · rw [if_neg c2, if_neg (fun q => c2 ⟨q.1, by
      rcases Nat.lt_or_ge i n with w | w
      · exact w
      · have e : i = n := by omega
        rw [e] at q
        exact absurd q.2.2 h, q.2.2⟩)]
theorem m_set_at {st be f : Nat → Int32} {s k x : Int32} {n i : Nat} (h : n ≤ i) : m_set st be f s k x n i = f i := if_neg (fun q => by omega)
def m_cnt (st be : Nat → Int32) (s k : Int32) : Nat → Nat
  | 0 => 0
  | n + 1 => m_cnt st be s k n + if 1 ≤ n ∧ m_from st be n s k then 1 else 0
theorem m_cnt_T {st be : Nat → Int32} {s k : Int32} {n : Nat} (h1 : 1 ≤ n) (h : m_from st be n s k) : m_cnt st be s k (n + 1) = m_cnt st be s k n + 1 := by
  show m_cnt st be s k n + (if 1 ≤ n ∧ m_from st be n s k then 1 else 0) = _
  rw [if_pos ⟨h1, h⟩]
theorem m_cnt_F {st be : Nat → Int32} {s k : Int32} {n : Nat} (h : ¬ m_from st be n s k) : m_cnt st be s k (n + 1) = m_cnt st be s k n := by
  show m_cnt st be s k n + (if 1 ≤ n ∧ m_from st be n s k then 1 else 0) = _
  rw [if_neg (fun q => h q.2), Nat.add_zero]
theorem m_cnt_le (st be : Nat → Int32) (s k : Int32) : ∀ n : Nat, m_cnt st be s k n ≤ n
  | 0 => Nat.le_refl _
  | n + 1 => by
    have := m_cnt_le st be s k n
    unfold m_cnt
    split <;> omega
theorem m_upd_id {f : Nat → Int32} {n : Nat} : upd f n (f n) = f := by
  funext i
  unfold upd
  by_cases c : i = n
  · rw [if_pos c, c]
  · rw [if_neg c]
section ML
variable {l : Launch} {D : va_G} {κ : Nat → ClassId} {z : Nat × Nat} {a : Nat → Nat} {g cm : Int32} {st be ro pl ha mo co to sn le : Nat → Int32}
variable {p : Program} {e : Env} {R : Room} {s0 : State} {m : MethodId} {args : Array Value} {below : List Frame} {meth : Method} {c : Code} {A : Nat → Prop} {Q : State → Prop}
set_option maxHeartbeats 4000000 in
set_option maxRecDepth 100000 in
theorem l_M_release {j k G0 : Nat} (hC : vx p s0 m args meth c b_M_release 4 R_M D (gk κ, z) A) (hR : 0 + 1 ≤ R.frames ∧ 8 + (4 + 11) + 40 * 0 ≤ R.locals) (hg : g = nI G0) (hG : G0 ≤ 4000) (hk : 1 ≤ k) (exit : U p l e R s0 m args below meth c 4 D A (mw κ a g cm st (m_set st be be (nI j) (nI k) (nI (8 * j + k - 1)) (G0 + 1)) ro pl ha mo co to sn le) 0 0 Q 74 [(3, .int (nI (G0 + 1))), (0, .ref (a 0)), (1, .int (nI j)), (2, .int (nI k))] []) :
    ∀ r i : Nat, i + r = G0 + 1 → 1 ≤ i → U p l e R s0 m args below meth c 4 D A (mw κ a g cm st (m_set st be be (nI j) (nI k) (nI (8 * j + k - 1)) i) ro pl ha mo co to sn le) 0 0 Q 27 [(3, .int (nI i)), (0, .ref (a 0)), (1, .int (nI j)), (2, .int (nI k))] [] := by
  intro r
  induction r with
  | zero =>
    intro i hi h1
    have hi2 : i = G0 + 1 := by omega
    subst hi2
    refine u_iload_n hC d_M_release_27 rfl ?_
    refine u_aload_n hC d_M_release_28 rfl ?_
    refine u_get hC f_M_41 0 rfl rfl d_M_release_29 ?_
    refine u_icmp_gt hC 74 d_M_release_32 (by decide) (fun h_32 => ?_) (fun h_32 => absurd (by rw [hg]; exact nI_lt (by omega) (by omega)) h_32)
    exact exit
  | succ r ih =>
    intro i hi h1
    by_cases hf : m_from st be i (nI j) (nI k)
    · refine u_iload_n hC d_M_release_27 rfl ?_
      refine u_aload_n hC d_M_release_28 rfl ?_
      refine u_get hC f_M_41 0 rfl rfl d_M_release_29 ?_
      refine u_icmp_gt hC 74 d_M_release_32 (by decide) (fun h_32 => absurd h_32 (by rw [hg]; exact nI_nlt (by omega) (by omega))) (fun h_32 => ?_)
      refine u_aload_n hC d_M_release_35 rfl ?_
      refine u_get hC f_M_13 0 rfl rfl d_M_release_36 ?_
      refine u_iload_n hC d_M_release_39 rfl ?_
      refine u_aload_n hC d_M_release_40 rfl ?_
      refine u_iload_n hC d_M_release_41 rfl ?_
      refine u_iload_n hC d_M_release_42 rfl ?_
      refine u_iload_n hC d_M_release_43 rfl ?_
      refine u_callVr hC (c_M_isFromT (by omega) (by unfold m_from at hf ⊢; rw [m_set_at (Nat.le_refl _)]; exact hf)) k_M_52 i_M_isFrom (q0 := 0) rfl rfl hR ⟨Nat.zero_le _, Nat.zero_le _⟩ rfl rfl (Nat.le_of_ble_eq_true rfl) d_M_release_44 ?_
      refine u_if_eq hC 61 d_M_release_47 (by decide) (fun h_47 => absurd h_47 (by decide)) (fun h_47 => ?_)
      refine u_bipush hC (nI 8) d_M_release_50 (by decide) ?_
      refine u_iload_n hC d_M_release_52 rfl ?_
      refine u_imul hC d_M_release_53 ?_
      refine u_iload_n hC d_M_release_54 rfl ?_
      refine u_iadd hC d_M_release_55 ?_
      refine u_iconst hC (nI 1) d_M_release_56 (by decide) ?_
      refine u_isub hC d_M_release_57 ?_
      refine u_val (x' := nI (8 * j + k - 1)) (by rw [n_8, pk_sub (by omega)]) ?_
      refine u_goto hC 67 d_M_release_58 (by decide) ?_
      refine p_iast hC 2 0 rfl rfl i rfl (by omega) (by decide) rfl d_M_release_67 ?_
      refine u_iinc hC (nI (i + 1)) (j := 0) d_M_release_68 rfl (nI_1 i) (by decide) ?_
      refine u_eqw (ws' := (mw κ a g cm st (m_set st be be (nI j) (nI k) (nI (8 * j + k - 1)) (i + 1)) ro pl ha mo co to sn le)) (congrArg (fun f => (mw κ a g cm st f ro pl ha mo co to sn le)) (m_set_T h1 hf)) ?_
      refine u_goto hC 27 d_M_release_71 (by decide) ?_
      exact ih (i + 1) (by omega) (by omega)
    · refine u_iload_n hC d_M_release_27 rfl ?_
      refine u_aload_n hC d_M_release_28 rfl ?_
      refine u_get hC f_M_41 0 rfl rfl d_M_release_29 ?_
      refine u_icmp_gt hC 74 d_M_release_32 (by decide) (fun h_32 => absurd h_32 (by rw [hg]; exact nI_nlt (by omega) (by omega))) (fun h_32 => ?_)
      refine u_aload_n hC d_M_release_35 rfl ?_
      refine u_get hC f_M_13 0 rfl rfl d_M_release_36 ?_
      refine u_iload_n hC d_M_release_39 rfl ?_
      refine u_aload_n hC d_M_release_40 rfl ?_
      refine u_iload_n hC d_M_release_41 rfl ?_
      refine u_iload_n hC d_M_release_42 rfl ?_
      refine u_iload_n hC d_M_release_43 rfl ?_
      refine u_callVr hC (c_M_isFromF (by omega) (by unfold m_from at hf ⊢; rw [m_set_at (Nat.le_refl _)]; exact hf)) k_M_52 i_M_isFrom (q0 := 0) rfl rfl hR ⟨Nat.zero_le _, Nat.zero_le _⟩ rfl rfl (Nat.le_of_ble_eq_true rfl) d_M_release_44 ?_
      refine u_if_eq hC 61 d_M_release_47 (by decide) (fun h_47 => ?_) (fun h_47 => absurd rfl h_47)
      refine u_aload_n hC d_M_release_61 rfl ?_
      refine u_get hC f_M_13 0 rfl rfl d_M_release_62 ?_
      refine u_iload_n hC d_M_release_65 rfl ?_
      refine p_iald hC 2 0 rfl rfl i rfl (by omega) (by decide) d_M_release_66 ?_
      refine p_iast hC 2 0 rfl rfl i rfl (by omega) (by decide) rfl d_M_release_67 ?_
      refine u_iinc hC (nI (i + 1)) (j := 0) d_M_release_68 rfl (nI_1 i) (by decide) ?_
      refine u_eqw (ws' := (mw κ a g cm st (m_set st be be (nI j) (nI k) (nI (8 * j + k - 1)) (i + 1)) ro pl ha mo co to sn le)) (congrArg (fun f => (mw κ a g cm st f ro pl ha mo co to sn le)) (m_upd_id.trans (m_set_F hf))) ?_
      refine u_goto hC 27 d_M_release_71 (by decide) ?_
      exact ih (i + 1) (by omega) (by omega)
set_option maxHeartbeats 4000000 in
set_option maxRecDepth 100000 in
theorem l_M_back {j k G0 : Nat} (hC : vx p s0 m args meth c b_M_back 4 R_M D (gk κ, z) A) (hR : 0 + 1 ≤ R.frames ∧ 8 + (4 + 11) + 40 * 0 ≤ R.locals) (hg : g = nI G0) (hG : G0 ≤ 4000) (hk : 1 ≤ k) (exit : U p l e R s0 m args below meth c 4 D A (mw κ a g cm (m_set st be st (nI j) (nI k) (nI 3) (G0 + 1)) be ro pl ha mo co to sn le) 0 0 Q 67 [(3, .int (nI (G0 + 1))), (0, .ref (a 0)), (1, .int (nI j)), (2, .int (nI k))] []) :
    ∀ r i : Nat, i + r = G0 + 1 → 1 ≤ i → U p l e R s0 m args below meth c 4 D A (mw κ a g cm (m_set st be st (nI j) (nI k) (nI 3) i) be ro pl ha mo co to sn le) 0 0 Q 27 [(3, .int (nI i)), (0, .ref (a 0)), (1, .int (nI j)), (2, .int (nI k))] [] := by
  intro r
  induction r with
  | zero =>
    intro i hi h1
    have hi2 : i = G0 + 1 := by omega
    subst hi2
    refine u_iload_n hC d_M_back_27 rfl ?_
    refine u_aload_n hC d_M_back_28 rfl ?_
    refine u_get hC f_M_41 0 rfl rfl d_M_back_29 ?_
    refine u_icmp_gt hC 67 d_M_back_32 (by decide) (fun h_32 => ?_) (fun h_32 => absurd (by rw [hg]; exact nI_lt (by omega) (by omega)) h_32)
    exact exit
  | succ r ih =>
    intro i hi h1
    by_cases hf : m_from st be i (nI j) (nI k)
    · refine u_iload_n hC d_M_back_27 rfl ?_
      refine u_aload_n hC d_M_back_28 rfl ?_
      refine u_get hC f_M_41 0 rfl rfl d_M_back_29 ?_
      refine u_icmp_gt hC 67 d_M_back_32 (by decide) (fun h_32 => absurd h_32 (by rw [hg]; exact nI_nlt (by omega) (by omega))) (fun h_32 => ?_)
      refine u_aload_n hC d_M_back_35 rfl ?_
      refine u_get hC f_M_7 0 rfl rfl d_M_back_36 ?_
      refine u_iload_n hC d_M_back_39 rfl ?_
      refine u_aload_n hC d_M_back_40 rfl ?_
      refine u_iload_n hC d_M_back_41 rfl ?_
      refine u_iload_n hC d_M_back_42 rfl ?_
      refine u_iload_n hC d_M_back_43 rfl ?_
      refine u_callVr hC (c_M_isFromT (by omega) (by unfold m_from at hf ⊢; rw [m_set_at (Nat.le_refl _)]; exact hf)) k_M_52 i_M_isFrom (q0 := 0) rfl rfl hR ⟨Nat.zero_le _, Nat.zero_le _⟩ rfl rfl (Nat.le_of_ble_eq_true rfl) d_M_back_44 ?_
      refine u_if_eq hC 54 d_M_back_47 (by decide) (fun h_47 => absurd h_47 (by decide)) (fun h_47 => ?_)
      refine u_iconst hC (nI 3) d_M_back_50 (by decide) ?_
      refine u_goto hC 60 d_M_back_51 (by decide) ?_
      refine p_iast hC 1 0 rfl rfl i rfl (by omega) (by decide) rfl d_M_back_60 ?_
      refine u_iinc hC (nI (i + 1)) (j := 0) d_M_back_61 rfl (nI_1 i) (by decide) ?_
      refine u_eqw (ws' := (mw κ a g cm (m_set st be st (nI j) (nI k) (nI 3) (i + 1)) be ro pl ha mo co to sn le)) (congrArg (fun f => (mw κ a g cm f be ro pl ha mo co to sn le)) (m_set_T h1 hf)) ?_
      refine u_goto hC 27 d_M_back_64 (by decide) ?_
      exact ih (i + 1) (by omega) (by omega)
    · refine u_iload_n hC d_M_back_27 rfl ?_
      refine u_aload_n hC d_M_back_28 rfl ?_
      refine u_get hC f_M_41 0 rfl rfl d_M_back_29 ?_
      refine u_icmp_gt hC 67 d_M_back_32 (by decide) (fun h_32 => absurd h_32 (by rw [hg]; exact nI_nlt (by omega) (by omega))) (fun h_32 => ?_)
      refine u_aload_n hC d_M_back_35 rfl ?_
      refine u_get hC f_M_7 0 rfl rfl d_M_back_36 ?_
      refine u_iload_n hC d_M_back_39 rfl ?_
      refine u_aload_n hC d_M_back_40 rfl ?_
      refine u_iload_n hC d_M_back_41 rfl ?_
      refine u_iload_n hC d_M_back_42 rfl ?_
      refine u_iload_n hC d_M_back_43 rfl ?_
      refine u_callVr hC (c_M_isFromF (by omega) (by unfold m_from at hf ⊢; rw [m_set_at (Nat.le_refl _)]; exact hf)) k_M_52 i_M_isFrom (q0 := 0) rfl rfl hR ⟨Nat.zero_le _, Nat.zero_le _⟩ rfl rfl (Nat.le_of_ble_eq_true rfl) d_M_back_44 ?_
      refine u_if_eq hC 54 d_M_back_47 (by decide) (fun h_47 => ?_) (fun h_47 => absurd rfl h_47)
      refine u_aload_n hC d_M_back_54 rfl ?_
      refine u_get hC f_M_7 0 rfl rfl d_M_back_55 ?_
      refine u_iload_n hC d_M_back_58 rfl ?_
      refine p_iald hC 1 0 rfl rfl i rfl (by omega) (by decide) d_M_back_59 ?_
      refine p_iast hC 1 0 rfl rfl i rfl (by omega) (by decide) rfl d_M_back_60 ?_
      refine u_iinc hC (nI (i + 1)) (j := 0) d_M_back_61 rfl (nI_1 i) (by decide) ?_
      refine u_eqw (ws' := (mw κ a g cm (m_set st be st (nI j) (nI k) (nI 3) (i + 1)) be ro pl ha mo co to sn le)) (congrArg (fun f => (mw κ a g cm f be ro pl ha mo co to sn le)) (m_upd_id.trans (m_set_F hf))) ?_
      refine u_goto hC 27 d_M_back_64 (by decide) ?_
      exact ih (i + 1) (by omega) (by omega)
set_option maxHeartbeats 4000000 in
set_option maxRecDepth 100000 in
theorem l_M_ends2 {j G0 : Nat} (hC : vx p s0 m args meth c b_M_ends 5 R_M D (gk κ, z) A) (hR : 0 + 1 ≤ R.frames ∧ 8 + (4 + 11) + 40 * 0 ≤ R.locals) (hg : g = nI G0) (hG : G0 ≤ 4000) (exit : U p l e R s0 m args below meth c 5 D A (mw κ a g cm (m_set st be st (nI j) (nI 0) (nI 2) (G0 + 1)) be ro (m_set st be pl (nI j) (nI 0) (cm + nI 1) (G0 + 1)) ha mo co to sn le) 0 0 Q 64 [(4, .int (nI (G0 + 1))), (3, .int (nI (m_cnt st be (nI j) (nI 0) (G0 + 1)))), (0, .ref (a 0)), (1, .int (nI j)), (2, .int (nI 2))] []) :
    ∀ r i : Nat, i + r = G0 + 1 → 1 ≤ i → U p l e R s0 m args below meth c 5 D A (mw κ a g cm (m_set st be st (nI j) (nI 0) (nI 2) i) be ro (m_set st be pl (nI j) (nI 0) (cm + nI 1) i) ha mo co to sn le) 0 0 Q 5 [(4, .int (nI i)), (3, .int (nI (m_cnt st be (nI j) (nI 0) i))), (0, .ref (a 0)), (1, .int (nI j)), (2, .int (nI 2))] [] := by
  intro r
  induction r with
  | zero =>
    intro i hi h1
    have hi2 : i = G0 + 1 := by omega
    subst hi2
    refine u_iload hC d_M_ends_5 rfl ?_
    refine u_aload_n hC d_M_ends_7 rfl ?_
    refine u_get hC f_M_41 0 rfl rfl d_M_ends_8 ?_
    refine u_icmp_gt hC 64 d_M_ends_11 (by decide) (fun h_11 => ?_) (fun h_11 => absurd (by rw [hg]; exact nI_lt (by omega) (by omega)) h_11)
    exact exit
  | succ r ih =>
    intro i hi h1
    by_cases hf : m_from st be i (nI j) (nI 0)
    · refine u_iload hC d_M_ends_5 rfl ?_
      refine u_aload_n hC d_M_ends_7 rfl ?_
      refine u_get hC f_M_41 0 rfl rfl d_M_ends_8 ?_
      refine u_icmp_gt hC 64 d_M_ends_11 (by decide) (fun h_11 => absurd h_11 (by rw [hg]; exact nI_nlt (by omega) (by omega))) (fun h_11 => ?_)
      refine u_aload_n hC d_M_ends_14 rfl ?_
      refine u_iload hC d_M_ends_15 rfl ?_
      refine u_iload_n hC d_M_ends_17 rfl ?_
      refine u_iconst hC (nI 0) d_M_ends_18 (by decide) ?_
      refine u_callVr hC (c_M_isFromT (by omega) (by unfold m_from at hf ⊢; rw [m_set_at (Nat.le_refl _)]; exact hf)) k_M_52 i_M_isFrom (q0 := 0) rfl rfl hR ⟨Nat.zero_le _, Nat.zero_le _⟩ rfl rfl (Nat.le_of_ble_eq_true rfl) d_M_ends_19 ?_
      refine u_if_eq hC 58 d_M_ends_22 (by decide) (fun h_22 => absurd h_22 (by decide)) (fun h_22 => ?_)
      refine u_aload_n hC d_M_ends_25 rfl ?_
      refine u_get hC f_M_7 0 rfl rfl d_M_ends_26 ?_
      refine u_iload hC d_M_ends_29 rfl ?_
      refine u_iload_n hC d_M_ends_31 rfl ?_
      refine p_iast hC 1 0 rfl rfl i rfl (by omega) (by decide) rfl d_M_ends_32 ?_
      refine u_aload_n hC d_M_ends_33 rfl ?_
      refine u_get hC f_M_19 0 rfl rfl d_M_ends_34 ?_
      refine u_iload hC d_M_ends_37 rfl ?_
      refine u_iload_n hC d_M_ends_39 rfl ?_
      refine u_iconst hC (nI 2) d_M_ends_40 (by decide) ?_
      refine u_icmp_ne hC 53 d_M_ends_41 (by decide) (fun h_41 => absurd rfl h_41) (fun h_41 => ?_)
      refine u_aload_n hC d_M_ends_44 rfl ?_
      refine u_get hC f_M_49 0 rfl rfl d_M_ends_45 ?_
      refine u_iconst hC (nI 1) d_M_ends_48 (by decide) ?_
      refine u_iadd hC d_M_ends_49 ?_
      refine u_goto hC 54 d_M_ends_50 (by decide) ?_
      refine p_iast hC 4 0 rfl rfl i rfl (by omega) (by decide) rfl d_M_ends_54 ?_
      refine u_iinc hC (nI (m_cnt st be (nI j) (nI 0) (i + 1))) (j := 1) d_M_ends_55 rfl (by rw [m_cnt_T h1 hf]; exact nI_1 _) (by decide) ?_
      refine u_iinc hC (nI (i + 1)) (j := 1) d_M_ends_58 rfl (nI_1 i) (by decide) ?_
      refine u_goto hC 5 d_M_ends_61 (by decide) ?_
      refine u_pick [0, 1, 2, 3, 4] rfl ?_
      refine u_eqw (ws' := (mw κ a g cm (m_set st be st (nI j) (nI 0) (nI 2) (i + 1)) be ro (m_set st be pl (nI j) (nI 0) (cm + nI 1) (i + 1)) ha mo co to sn le)) (by rw [← m_set_T h1 hf (f := st), ← m_set_T h1 hf (f := pl)]; rfl) ?_
      exact ih (i + 1) (by omega) (by omega)
    · refine u_iload hC d_M_ends_5 rfl ?_
      refine u_aload_n hC d_M_ends_7 rfl ?_
      refine u_get hC f_M_41 0 rfl rfl d_M_ends_8 ?_
      refine u_icmp_gt hC 64 d_M_ends_11 (by decide) (fun h_11 => absurd h_11 (by rw [hg]; exact nI_nlt (by omega) (by omega))) (fun h_11 => ?_)
      refine u_aload_n hC d_M_ends_14 rfl ?_
      refine u_iload hC d_M_ends_15 rfl ?_
      refine u_iload_n hC d_M_ends_17 rfl ?_
      refine u_iconst hC (nI 0) d_M_ends_18 (by decide) ?_
      refine u_callVr hC (c_M_isFromF (by omega) (by unfold m_from at hf ⊢; rw [m_set_at (Nat.le_refl _)]; exact hf)) k_M_52 i_M_isFrom (q0 := 0) rfl rfl hR ⟨Nat.zero_le _, Nat.zero_le _⟩ rfl rfl (Nat.le_of_ble_eq_true rfl) d_M_ends_19 ?_
      refine u_if_eq hC 58 d_M_ends_22 (by decide) (fun h_22 => ?_) (fun h_22 => absurd rfl h_22)
      refine u_iinc hC (nI (i + 1)) (j := 0) d_M_ends_58 rfl (nI_1 i) (by decide) ?_
      refine u_goto hC 5 d_M_ends_61 (by decide) ?_
      rw [← m_cnt_F hf]
      refine u_pick [0, 1, 2, 3, 4] rfl ?_
      refine u_eqw (ws' := (mw κ a g cm (m_set st be st (nI j) (nI 0) (nI 2) (i + 1)) be ro (m_set st be pl (nI j) (nI 0) (cm + nI 1) (i + 1)) ha mo co to sn le)) (by rw [← m_set_F hf (f := st), ← m_set_F hf (f := pl)]) ?_
      exact ih (i + 1) (by omega) (by omega)
set_option maxHeartbeats 4000000 in
set_option maxRecDepth 100000 in
theorem l_M_ends3 {j G0 : Nat} (hC : vx p s0 m args meth c b_M_ends 5 R_M D (gk κ, z) A) (hR : 0 + 1 ≤ R.frames ∧ 8 + (4 + 11) + 40 * 0 ≤ R.locals) (hg : g = nI G0) (hG : G0 ≤ 4000) (exit : U p l e R s0 m args below meth c 5 D A (mw κ a g cm (m_set st be st (nI j) (nI 0) (nI 3) (G0 + 1)) be ro (m_set st be pl (nI j) (nI 0) (nI 0) (G0 + 1)) ha mo co to sn le) 0 0 Q 64 [(4, .int (nI (G0 + 1))), (3, .int (nI (m_cnt st be (nI j) (nI 0) (G0 + 1)))), (0, .ref (a 0)), (1, .int (nI j)), (2, .int (nI 3))] []) :
    ∀ r i : Nat, i + r = G0 + 1 → 1 ≤ i → U p l e R s0 m args below meth c 5 D A (mw κ a g cm (m_set st be st (nI j) (nI 0) (nI 3) i) be ro (m_set st be pl (nI j) (nI 0) (nI 0) i) ha mo co to sn le) 0 0 Q 5 [(4, .int (nI i)), (3, .int (nI (m_cnt st be (nI j) (nI 0) i))), (0, .ref (a 0)), (1, .int (nI j)), (2, .int (nI 3))] [] := by
  intro r
  induction r with
  | zero =>
    intro i hi h1
    have hi2 : i = G0 + 1 := by omega
    subst hi2
    refine u_iload hC d_M_ends_5 rfl ?_
    refine u_aload_n hC d_M_ends_7 rfl ?_
    refine u_get hC f_M_41 0 rfl rfl d_M_ends_8 ?_
    refine u_icmp_gt hC 64 d_M_ends_11 (by decide) (fun h_11 => ?_) (fun h_11 => absurd (by rw [hg]; exact nI_lt (by omega) (by omega)) h_11)
    exact exit
  | succ r ih =>
    intro i hi h1
    by_cases hf : m_from st be i (nI j) (nI 0)
    · refine u_iload hC d_M_ends_5 rfl ?_
      refine u_aload_n hC d_M_ends_7 rfl ?_
      refine u_get hC f_M_41 0 rfl rfl d_M_ends_8 ?_
      refine u_icmp_gt hC 64 d_M_ends_11 (by decide) (fun h_11 => absurd h_11 (by rw [hg]; exact nI_nlt (by omega) (by omega))) (fun h_11 => ?_)
      refine u_aload_n hC d_M_ends_14 rfl ?_
      refine u_iload hC d_M_ends_15 rfl ?_
      refine u_iload_n hC d_M_ends_17 rfl ?_
      refine u_iconst hC (nI 0) d_M_ends_18 (by decide) ?_
      refine u_callVr hC (c_M_isFromT (by omega) (by unfold m_from at hf ⊢; rw [m_set_at (Nat.le_refl _)]; exact hf)) k_M_52 i_M_isFrom (q0 := 0) rfl rfl hR ⟨Nat.zero_le _, Nat.zero_le _⟩ rfl rfl (Nat.le_of_ble_eq_true rfl) d_M_ends_19 ?_
      refine u_if_eq hC 58 d_M_ends_22 (by decide) (fun h_22 => absurd h_22 (by decide)) (fun h_22 => ?_)
      refine u_aload_n hC d_M_ends_25 rfl ?_
      refine u_get hC f_M_7 0 rfl rfl d_M_ends_26 ?_
      refine u_iload hC d_M_ends_29 rfl ?_
      refine u_iload_n hC d_M_ends_31 rfl ?_
      refine p_iast hC 1 0 rfl rfl i rfl (by omega) (by decide) rfl d_M_ends_32 ?_
      refine u_aload_n hC d_M_ends_33 rfl ?_
      refine u_get hC f_M_19 0 rfl rfl d_M_ends_34 ?_
      refine u_iload hC d_M_ends_37 rfl ?_
      refine u_iload_n hC d_M_ends_39 rfl ?_
      refine u_iconst hC (nI 2) d_M_ends_40 (by decide) ?_
      refine u_icmp_ne hC 53 d_M_ends_41 (by decide) (fun h_41 => ?_) (fun h_41 => absurd h_41 (by decide))
      refine u_iconst hC (nI 0) d_M_ends_53 (by decide) ?_
      refine p_iast hC 4 0 rfl rfl i rfl (by omega) (by decide) rfl d_M_ends_54 ?_
      refine u_iinc hC (nI (m_cnt st be (nI j) (nI 0) (i + 1))) (j := 1) d_M_ends_55 rfl (by rw [m_cnt_T h1 hf]; exact nI_1 _) (by decide) ?_
      refine u_iinc hC (nI (i + 1)) (j := 1) d_M_ends_58 rfl (nI_1 i) (by decide) ?_
      refine u_goto hC 5 d_M_ends_61 (by decide) ?_
      refine u_pick [0, 1, 2, 3, 4] rfl ?_
      refine u_eqw (ws' := (mw κ a g cm (m_set st be st (nI j) (nI 0) (nI 3) (i + 1)) be ro (m_set st be pl (nI j) (nI 0) (nI 0) (i + 1)) ha mo co to sn le)) (by rw [← m_set_T h1 hf (f := st), ← m_set_T h1 hf (f := pl)]; rfl) ?_
      exact ih (i + 1) (by omega) (by omega)
    · refine u_iload hC d_M_ends_5 rfl ?_
      refine u_aload_n hC d_M_ends_7 rfl ?_
      refine u_get hC f_M_41 0 rfl rfl d_M_ends_8 ?_
      refine u_icmp_gt hC 64 d_M_ends_11 (by decide) (fun h_11 => absurd h_11 (by rw [hg]; exact nI_nlt (by omega) (by omega))) (fun h_11 => ?_)
      refine u_aload_n hC d_M_ends_14 rfl ?_
      refine u_iload hC d_M_ends_15 rfl ?_
      refine u_iload_n hC d_M_ends_17 rfl ?_
      refine u_iconst hC (nI 0) d_M_ends_18 (by decide) ?_
      refine u_callVr hC (c_M_isFromF (by omega) (by unfold m_from at hf ⊢; rw [m_set_at (Nat.le_refl _)]; exact hf)) k_M_52 i_M_isFrom (q0 := 0) rfl rfl hR ⟨Nat.zero_le _, Nat.zero_le _⟩ rfl rfl (Nat.le_of_ble_eq_true rfl) d_M_ends_19 ?_
      refine u_if_eq hC 58 d_M_ends_22 (by decide) (fun h_22 => ?_) (fun h_22 => absurd rfl h_22)
      refine u_iinc hC (nI (i + 1)) (j := 0) d_M_ends_58 rfl (nI_1 i) (by decide) ?_
      refine u_goto hC 5 d_M_ends_61 (by decide) ?_
      rw [← m_cnt_F hf]
      refine u_pick [0, 1, 2, 3, 4] rfl ?_
      refine u_eqw (ws' := (mw κ a g cm (m_set st be st (nI j) (nI 0) (nI 3) (i + 1)) be ro (m_set st be pl (nI j) (nI 0) (nI 0) (i + 1)) ha mo co to sn le)) (by rw [← m_set_F hf (f := st), ← m_set_F hf (f := pl)]) ?_
      exact ih (i + 1) (by omega) (by omega)
end ML
