/-- how many of r levels from k on have no number -/
def m_mis (j : Nat) (le : Nat → Int32) : Nat → Nat → Nat
  | 0, _ => 0
  | r + 1, k => (if le (8 * j + k) = 0 then 1 else 0) + m_mis j le r (k + 1)
theorem m_mis_le (j : Nat) (le : Nat → Int32) : ∀ r k : Nat, m_mis j le r k ≤ r
  | 0, _ => Nat.le_refl _
  | r + 1, k => by
    have := m_mis_le j le r (k + 1)
    unfold m_mis
    split <;> omega
theorem m_mis_upd (j : Nat) (le : Nat → Int32) (q : Nat) (x : Int32) : ∀ r k : Nat, q < k → m_mis j (upd le (8 * j + q) x) r k = m_mis j le r k
  | 0, _, _ => rfl
  | r + 1, k, h => by
    unfold m_mis
    rw [m_mis_upd j le q x r (k + 1) (by omega)]
    have e : upd le (8 * j + q) x (8 * j + k) = le (8 * j + k) := by
      unfold upd
      exact if_neg (by omega)
    rw [e]
/-- numbers given, levels, states, belongs, roots -/
abbrev MG : Type := Nat × (Nat → Int32) × (Nat → Int32) × (Nat → Int32) × (Nat → Int32)
def m_new (j k : Nat) (x : MG) : MG := (x.1 + 1, upd x.2.1 (8 * j + k) (nI (x.1 + 1)), upd x.2.2.1 (x.1 + 1) (nI 1), upd x.2.2.2.1 (x.1 + 1) (nI (8 * j + k)), upd x.2.2.2.2 (x.1 + 1) (upd x.2.1 (8 * j + k) (nI (x.1 + 1)) (8 * j)))
/-- the levels k, .., k + r - 1 that have no number get one -/
def m_gv (j : Nat) : Nat → Nat → MG → MG
  | 0, _, x => x
  | r + 1, k, x => m_gv j r (k + 1) (if x.2.1 (8 * j + k) = 0 then m_new j k x else x)
/-- states, places, has: behind an abort of session j -/
abbrev MC : Type := (Nat → Int32) × (Nat → Int32) × (Nat → Int32)
def m_ab (be : Nat → Int32) (G0 j : Nat) (x : MC) : MC := (m_set x.1 be x.1 (nI j) (nI 0) (nI 3) (G0 + 1), m_set x.1 be x.2.1 (nI j) (nI 0) (nI 0) (G0 + 1), upd x.2.2 j 0)
def m_cr (be : Nat → Int32) (G0 : Nat) : Nat → Nat → MC → MC
  | 0, _, x => x
  | r + 1, k, x => m_cr be G0 r (k + 1) (if x.2.2 k = 0 then x else m_ab be G0 k x)
abbrev m_ok (ha sn pl : Nat → Int32) (q s : Nat) : Prop := ha s = 0 ∨ sn s < 0 ∨ ¬ sn s < pl q
section MN0
variable {l : Launch} {D : va_G} {κ : Nat → ClassId} {z : Nat × Nat} {a : Nat → Nat} {g cm : Int32} {st be ro pl ha mo co to sn le : Nat → Int32}
variable {p : Program} {e : Env} {R : Room} {s0 : State} {m : MethodId} {args : Array Value} {below : List Frame} {meth : Method} {c : Code} {A : Nat → Prop} {Q : State → Prop}
set_option maxHeartbeats 4000000 in
set_option maxRecDepth 100000 in
theorem l_M_num1 {j t : Nat} (hj : j < 6) (hh : ¬ ha j = 0) (ht : to j = nI t) (ht7 : t ≤ 7) (hC : vx p s0 m args meth c b_M_number 4 R_M D (gk κ, z) A) (hR : 0 + 1 ≤ R.frames ∧ 8 + (2 + 11) + 40 * 0 ≤ R.locals) : ∀ r k cn : Nat, k + r = t + 1 → U p l e R s0 m args below meth c 4 D A (mw κ a g cm st be ro pl ha mo co to sn le) 0 0 Q 50 [(3, .int (nI (k + r))), (2, .int (nI (cn + m_mis j le r k))), (0, .ref (a 0)), (1, .int (nI j))] [] → U p l e R s0 m args below meth c 4 D A (mw κ a g cm st be ro pl ha mo co to sn le) 0 0 Q 4 [(3, .int (nI k)), (2, .int (nI cn)), (0, .ref (a 0)), (1, .int (nI j))] [] := by
  intro r
  induction r with
  | zero =>
    intro k cn hk exit
    have e : k = t + 1 := by omega
    subst e
    refine u_aload_n hC d_M_number_4 rfl ?_
    refine u_iload_n hC d_M_number_5 rfl ?_
    refine u_callVr hC (c_M_runsT hj hh) k_M_45 i_M_runs (q0 := 0) rfl rfl hR ⟨Nat.zero_le _, Nat.zero_le _⟩ rfl rfl (Nat.le_of_ble_eq_true rfl) d_M_number_6 ?_
    refine u_if_eq hC 50 d_M_number_9 (by decide) (fun h_9 => absurd h_9 (by decide)) (fun h_9 => ?_)
    refine u_iload_n hC d_M_number_12 rfl ?_
    refine u_aload_n hC d_M_number_13 rfl ?_
    refine u_get hC f_M_32 0 rfl rfl d_M_number_14 ?_
    refine u_iload_n hC d_M_number_17 rfl ?_
    refine p_iald hC 8 0 rfl rfl j rfl hj (by decide) d_M_number_18 ?_
    refine u_icmp_gt hC 50 d_M_number_19 (by decide) (fun h_19 => ?_) (fun h_19 => absurd (by rw [ht]; exact nI_lt (by omega) (by omega)) h_19)
    exact exit
  | succ r ih =>
    intro k cn hk exit
    rw [show k + (r + 1) = (k + 1) + r by omega] at exit
    unfold m_mis at exit
    by_cases hz : le (8 * j + k) = 0
    · rw [if_pos hz, ← Nat.add_assoc] at exit
      refine u_aload_n hC d_M_number_4 rfl ?_
      refine u_iload_n hC d_M_number_5 rfl ?_
      refine u_callVr hC (c_M_runsT hj hh) k_M_45 i_M_runs (q0 := 0) rfl rfl hR ⟨Nat.zero_le _, Nat.zero_le _⟩ rfl rfl (Nat.le_of_ble_eq_true rfl) d_M_number_6 ?_
      refine u_if_eq hC 50 d_M_number_9 (by decide) (fun h_9 => absurd h_9 (by decide)) (fun h_9 => ?_)
      refine u_iload_n hC d_M_number_12 rfl ?_
      refine u_aload_n hC d_M_number_13 rfl ?_
      refine u_get hC f_M_32 0 rfl rfl d_M_number_14 ?_
      refine u_iload_n hC d_M_number_17 rfl ?_
      refine p_iald hC 8 0 rfl rfl j rfl hj (by decide) d_M_number_18 ?_
      refine u_icmp_gt hC 50 d_M_number_19 (by decide) (fun h_19 => absurd h_19 (by rw [ht]; exact nI_nlt (by omega) (by omega))) (fun h_19 => ?_)
      refine u_aload_n hC d_M_number_22 rfl ?_
      refine u_get hC f_M_38 0 rfl rfl d_M_number_23 ?_
      refine u_bipush hC (nI 8) d_M_number_26 (by decide) ?_
      refine u_iload_n hC d_M_number_28 rfl ?_
      refine u_imul hC d_M_number_29 ?_
      refine u_iload_n hC d_M_number_30 rfl ?_
      refine u_iadd hC d_M_number_31 ?_
      refine p_iald hC 10 0 rfl rfl (8 * j + k) (n_8 j k) (by omega) (by decide) d_M_number_32 ?_
      refine u_if_ne hC 42 d_M_number_33 (by decide) (fun h_33 => absurd hz h_33) (fun h_33 => ?_)
      refine u_iload_n hC d_M_number_36 rfl ?_
      refine u_iconst hC (nI 1) d_M_number_37 (by decide) ?_
      refine u_iadd hC d_M_number_38 ?_
      refine u_val (nI_add cn 1) ?_
      refine u_goto hC 43 d_M_number_39 (by decide) ?_
      refine u_istore_n hC d_M_number_43 (by decide) ?_
      refine u_iinc hC (nI (k + 1)) (j := 1) d_M_number_44 rfl (nI_1 k) (by decide) ?_
      refine u_goto hC 4 d_M_number_47 (by decide) ?_
      exact ih (k + 1) (cn + 1) (by omega) exit
    · rw [if_neg hz, Nat.zero_add] at exit
      refine u_aload_n hC d_M_number_4 rfl ?_
      refine u_iload_n hC d_M_number_5 rfl ?_
      refine u_callVr hC (c_M_runsT hj hh) k_M_45 i_M_runs (q0 := 0) rfl rfl hR ⟨Nat.zero_le _, Nat.zero_le _⟩ rfl rfl (Nat.le_of_ble_eq_true rfl) d_M_number_6 ?_
      refine u_if_eq hC 50 d_M_number_9 (by decide) (fun h_9 => absurd h_9 (by decide)) (fun h_9 => ?_)
      refine u_iload_n hC d_M_number_12 rfl ?_
      refine u_aload_n hC d_M_number_13 rfl ?_
      refine u_get hC f_M_32 0 rfl rfl d_M_number_14 ?_
      refine u_iload_n hC d_M_number_17 rfl ?_
      refine p_iald hC 8 0 rfl rfl j rfl hj (by decide) d_M_number_18 ?_
      refine u_icmp_gt hC 50 d_M_number_19 (by decide) (fun h_19 => absurd h_19 (by rw [ht]; exact nI_nlt (by omega) (by omega))) (fun h_19 => ?_)
      refine u_aload_n hC d_M_number_22 rfl ?_
      refine u_get hC f_M_38 0 rfl rfl d_M_number_23 ?_
      refine u_bipush hC (nI 8) d_M_number_26 (by decide) ?_
      refine u_iload_n hC d_M_number_28 rfl ?_
      refine u_imul hC d_M_number_29 ?_
      refine u_iload_n hC d_M_number_30 rfl ?_
      refine u_iadd hC d_M_number_31 ?_
      refine p_iald hC 10 0 rfl rfl (8 * j + k) (n_8 j k) (by omega) (by decide) d_M_number_32 ?_
      refine u_if_ne hC 42 d_M_number_33 (by decide) (fun h_33 => ?_) (fun h_33 => absurd h_33 hz)
      refine u_iload_n hC d_M_number_42 rfl ?_
      refine u_istore_n hC d_M_number_43 (by decide) ?_
      refine u_iinc hC (nI (k + 1)) (j := 1) d_M_number_44 rfl (nI_1 k) (by decide) ?_
      refine u_goto hC 4 d_M_number_47 (by decide) ?_
      exact ih (k + 1) cn (by omega) exit
set_option maxHeartbeats 4000000 in
set_option maxRecDepth 100000 in
theorem l_M_num2 {j t cn : Nat} (hj : j < 6) (hh : ¬ ha j = 0) (ht : to j = nI t) (ht7 : t ≤ 7) (hC : vx p s0 m args meth c b_M_number 4 R_M D (gk κ, z) A) : ∀ (r k : Nat) (x : MG), k + r = t + 1 → x.1 + m_mis j x.2.1 r k ≤ 4000 → U p l e R s0 m args below meth c 4 D A (mw κ a (nI (m_gv j r k x).1) cm (m_gv j r k x).2.2.1 (m_gv j r k x).2.2.2.1 (m_gv j r k x).2.2.2.2 pl ha mo co to sn (m_gv j r k x).2.1) 0 0 Q 172 [(3, .int (nI (k + r))), (2, .int (nI cn)), (0, .ref (a 0)), (1, .int (nI j))] [] → U p l e R s0 m args below meth c 4 D A (mw κ a (nI x.1) cm x.2.2.1 x.2.2.2.1 x.2.2.2.2 pl ha mo co to sn x.2.1) 0 0 Q 74 [(3, .int (nI k)), (2, .int (nI cn)), (0, .ref (a 0)), (1, .int (nI j))] [] := by
  intro r
  induction r with
  | zero =>
    intro k x hk hm exit
    have e : k = t + 1 := by omega
    subst e
    refine u_iload_n hC d_M_number_74 rfl ?_
    refine u_aload_n hC d_M_number_75 rfl ?_
    refine u_get hC f_M_32 0 rfl rfl d_M_number_76 ?_
    refine u_iload_n hC d_M_number_79 rfl ?_
    refine p_iald hC 8 0 rfl rfl j rfl hj (by decide) d_M_number_80 ?_
    refine u_icmp_gt hC 172 d_M_number_81 (by decide) (fun h_81 => ?_) (fun h_81 => absurd (by rw [ht]; exact nI_lt (by omega) (by omega)) h_81)
    exact exit
  | succ r ih =>
    intro k x hk hm exit
    rw [show k + (r + 1) = (k + 1) + r by omega] at exit
    unfold m_gv at exit
    unfold m_mis at hm
    obtain ⟨G1, le, st, be, ro⟩ := x
    dsimp only at hm exit ⊢
    by_cases hz : le (8 * j + k) = 0
    · rw [if_pos hz] at exit hm
      refine u_iload_n hC d_M_number_74 rfl ?_
      refine u_aload_n hC d_M_number_75 rfl ?_
      refine u_get hC f_M_32 0 rfl rfl d_M_number_76 ?_
      refine u_iload_n hC d_M_number_79 rfl ?_
      refine p_iald hC 8 0 rfl rfl j rfl hj (by decide) d_M_number_80 ?_
      refine u_icmp_gt hC 172 d_M_number_81 (by decide) (fun h_81 => absurd h_81 (by rw [ht]; exact nI_nlt (by omega) (by omega))) (fun h_81 => ?_)
      refine u_aload_n hC d_M_number_84 rfl ?_
      refine u_get hC f_M_38 0 rfl rfl d_M_number_85 ?_
      refine u_bipush hC (nI 8) d_M_number_88 (by decide) ?_
      refine u_iload_n hC d_M_number_90 rfl ?_
      refine u_imul hC d_M_number_91 ?_
      refine u_iload_n hC d_M_number_92 rfl ?_
      refine u_iadd hC d_M_number_93 ?_
      refine p_iald hC 10 0 rfl rfl (8 * j + k) (n_8 j k) (by omega) (by decide) d_M_number_94 ?_
      refine u_if_ne hC 166 d_M_number_95 (by decide) (fun h_95 => absurd hz h_95) (fun h_95 => ?_)
      refine u_aload_n hC d_M_number_98 rfl ?_
      refine u_dup hC d_M_number_99 rfl ?_
      refine u_get hC f_M_41 0 rfl rfl d_M_number_100 ?_
      refine u_iconst hC (nI 1) d_M_number_103 (by decide) ?_
      refine u_iadd hC d_M_number_104 ?_
      refine u_val (nI_add G1 1) ?_
      refine u_put hC f_M_41 (tt_M 0 (by decide)) rfl 0 rfl rfl rfl (Nat.le_of_ble_eq_true rfl) rfl d_M_number_105 ?_
      refine u_aload_n hC d_M_number_108 rfl ?_
      refine u_get hC f_M_38 0 rfl rfl d_M_number_109 ?_
      refine u_bipush hC (nI 8) d_M_number_112 (by decide) ?_
      refine u_iload_n hC d_M_number_114 rfl ?_
      refine u_imul hC d_M_number_115 ?_
      refine u_iload_n hC d_M_number_116 rfl ?_
      refine u_iadd hC d_M_number_117 ?_
      refine u_aload_n hC d_M_number_118 rfl ?_
      refine u_get hC f_M_41 0 rfl rfl d_M_number_119 ?_
      refine p_iast hC 10 0 rfl rfl (8 * j + k) (n_8 j k) (by omega) (by decide) rfl d_M_number_122 ?_
      refine u_aload_n hC d_M_number_123 rfl ?_
      refine u_get hC f_M_7 0 rfl rfl d_M_number_124 ?_
      refine u_aload_n hC d_M_number_127 rfl ?_
      refine u_get hC f_M_41 0 rfl rfl d_M_number_128 ?_
      refine u_iconst hC (nI 1) d_M_number_131 (by decide) ?_
      refine p_iast hC 1 0 rfl rfl (G1 + 1) rfl (by omega) (by decide) rfl d_M_number_132 ?_
      refine u_aload_n hC d_M_number_133 rfl ?_
      refine u_get hC f_M_13 0 rfl rfl d_M_number_134 ?_
      refine u_aload_n hC d_M_number_137 rfl ?_
      refine u_get hC f_M_41 0 rfl rfl d_M_number_138 ?_
      refine u_bipush hC (nI 8) d_M_number_141 (by decide) ?_
      refine u_iload_n hC d_M_number_143 rfl ?_
      refine u_imul hC d_M_number_144 ?_
      refine u_iload_n hC d_M_number_145 rfl ?_
      refine u_iadd hC d_M_number_146 ?_
      refine u_val (n_8 j k) ?_
      refine p_iast hC 2 0 rfl rfl (G1 + 1) rfl (by omega) (by decide) rfl d_M_number_147 ?_
      refine u_aload_n hC d_M_number_148 rfl ?_
      refine u_get hC f_M_16 0 rfl rfl d_M_number_149 ?_
      refine u_aload_n hC d_M_number_152 rfl ?_
      refine u_get hC f_M_41 0 rfl rfl d_M_number_153 ?_
      refine u_aload_n hC d_M_number_156 rfl ?_
      refine u_get hC f_M_38 0 rfl rfl d_M_number_157 ?_
      refine u_bipush hC (nI 8) d_M_number_160 (by decide) ?_
      refine u_iload_n hC d_M_number_162 rfl ?_
      refine u_imul hC d_M_number_163 ?_
      refine p_iald hC 10 0 rfl rfl (8 * j) (n_8a j) (by omega) (by decide) d_M_number_164 ?_
      refine p_iast hC 3 0 rfl rfl (G1 + 1) rfl (by omega) (by decide) rfl d_M_number_165 ?_
      refine u_iinc hC (nI (k + 1)) (j := 0) d_M_number_166 rfl (nI_1 k) (by decide) ?_
      refine u_goto hC 74 d_M_number_169 (by decide) ?_
      exact ih (k + 1) (m_new j k (G1, le, st, be, ro)) (by omega) (by show G1 + 1 + m_mis j (upd le (8 * j + k) _) r (k + 1) ≤ 4000; rw [m_mis_upd j le k _ r (k + 1) (by omega)]; omega) exit
    · rw [if_neg hz] at exit hm
      refine u_iload_n hC d_M_number_74 rfl ?_
      refine u_aload_n hC d_M_number_75 rfl ?_
      refine u_get hC f_M_32 0 rfl rfl d_M_number_76 ?_
      refine u_iload_n hC d_M_number_79 rfl ?_
      refine p_iald hC 8 0 rfl rfl j rfl hj (by decide) d_M_number_80 ?_
      refine u_icmp_gt hC 172 d_M_number_81 (by decide) (fun h_81 => absurd h_81 (by rw [ht]; exact nI_nlt (by omega) (by omega))) (fun h_81 => ?_)
      refine u_aload_n hC d_M_number_84 rfl ?_
      refine u_get hC f_M_38 0 rfl rfl d_M_number_85 ?_
      refine u_bipush hC (nI 8) d_M_number_88 (by decide) ?_
      refine u_iload_n hC d_M_number_90 rfl ?_
      refine u_imul hC d_M_number_91 ?_
      refine u_iload_n hC d_M_number_92 rfl ?_
      refine u_iadd hC d_M_number_93 ?_
      refine p_iald hC 10 0 rfl rfl (8 * j + k) (n_8 j k) (by omega) (by decide) d_M_number_94 ?_
      refine u_if_ne hC 166 d_M_number_95 (by decide) (fun h_95 => ?_) (fun h_95 => absurd h_95 hz)
      refine u_iinc hC (nI (k + 1)) (j := 0) d_M_number_166 rfl (nI_1 k) (by decide) ?_
      refine u_goto hC 74 d_M_number_169 (by decide) ?_
      exact ih (k + 1) (G1, le, st, be, ro) (by omega) (by show G1 + m_mis j le r (k + 1) ≤ 4000; omega) exit
set_option maxHeartbeats 4000000 in
set_option maxRecDepth 100000 in
theorem l_M_crash {G0 : Nat} (hC : vx p s0 m args meth c b_M_crash 3 R_M D (gk κ, z) A) (hR : 2 + 1 ≤ R.frames ∧ 8 + (3 + 11) + 40 * 2 ≤ R.locals) (hg : g = nI G0) (hG : G0 ≤ 4000) (hha : True) : ∀ (r k : Nat) (x : MC) (v2 : List (Nat × Value)), v2.length ≤ 1 → k + r = 6 → (∀ w2 : List (Nat × Value), U p l e R s0 m args below meth c 3 D A (mw κ a g cm (m_cr be G0 r k x).1 be ro (m_cr be G0 r k x).2.1 (m_cr be G0 r k x).2.2 mo co to sn le) 0 0 Q 20 [(1, .int (nI 6)), (0, .ref (a 0))] []) → U p l e R s0 m args below meth c 3 D A (mw κ a g cm x.1 be ro x.2.1 x.2.2 mo co to sn le) 0 0 Q 2 [(1, .int (nI k)), (0, .ref (a 0))] [] := by
  intro r
  induction r with
  | zero =>
    intro k x v2 hv hk exit
    have e : k = 6 := by omega
    subst e
    refine u_iload_n hC d_M_crash_2 rfl ?_
    refine u_bipush hC (nI 6) d_M_crash_3 (by decide) ?_
    refine u_icmp_ge hC 20 d_M_crash_5 (by decide) (fun h_5 => ?_) (fun h_5 => absurd (by decide) h_5)
    exact exit []
  | succ r ih =>
    intro k x v2 hv hk exit
    obtain ⟨st, pl, ha⟩ := x
    unfold m_cr at exit
    dsimp only at exit ⊢
    by_cases hz : ha k = 0
    · rw [if_pos hz] at exit
      refine u_iload_n hC d_M_crash_2 rfl ?_
      refine u_bipush hC (nI 6) d_M_crash_3 (by decide) ?_
      refine u_icmp_ge hC 20 d_M_crash_5 (by decide) (fun h_5 => absurd h_5 (nI_ge (by omega) (by decide))) (fun h_5 => ?_)
      refine u_aload_n hC d_M_crash_8 rfl ?_
      refine u_iload_n hC d_M_crash_9 rfl ?_
      refine u_callVr hC (c_M_abortF (by rintro ⟨j, h1, h2, h3⟩; have e9 := (nI_eq (by omega) (by omega)).mp h2; subst e9; exact h3 hz)) k_M_60 i_M_abort (q0 := 0) rfl rfl hR ⟨Nat.zero_le _, Nat.zero_le _⟩ rfl rfl (Nat.le_of_ble_eq_true rfl) d_M_crash_10 ?_
      refine u_istore_n hC d_M_crash_13 (by decide) ?_
      refine u_iinc hC (nI (k + 1)) (j := 1) d_M_crash_14 rfl (nI_1 k) (by decide) ?_
      refine u_goto hC 2 d_M_crash_17 (by decide) ?_
      refine u_pick [0, 2] rfl ?_
      exact ih (k + 1) (st, pl, ha) [] (Nat.zero_le _) (by omega) exit
    · rw [if_neg hz] at exit
      refine u_iload_n hC d_M_crash_2 rfl ?_
      refine u_bipush hC (nI 6) d_M_crash_3 (by decide) ?_
      refine u_icmp_ge hC 20 d_M_crash_5 (by decide) (fun h_5 => absurd h_5 (nI_ge (by omega) (by decide))) (fun h_5 => ?_)
      refine u_aload_n hC d_M_crash_8 rfl ?_
      refine u_iload_n hC d_M_crash_9 rfl ?_
      refine u_callVr hC (c_M_abortT (by omega) hz hg hG) k_M_60 i_M_abort (q0 := 0) rfl rfl hR ⟨Nat.zero_le _, Nat.zero_le _⟩ rfl rfl (Nat.le_of_ble_eq_true rfl) d_M_crash_10 ?_
      refine u_istore_n hC d_M_crash_13 (by decide) ?_
      refine u_iinc hC (nI (k + 1)) (j := 1) d_M_crash_14 rfl (nI_1 k) (by decide) ?_
      refine u_goto hC 2 d_M_crash_17 (by decide) ?_
      refine u_pick [0, 2] rfl ?_
      exact ih (k + 1) (m_ab be G0 k (st, pl, ha)) [] (Nat.zero_le _) (by omega) exit
end MN0
section MN1
variable {l : Launch} {D : va_G} {κ : Nat → ClassId} {z : Nat × Nat} {a : Nat → Nat} {g cm : Int32} {st be ro pl ha mo co to sn le : Nat → Int32}
set_option maxHeartbeats 4000000 in
set_option maxRecDepth 100000 in
theorem c_M_numberF {s : Int32} (hb : ¬ ∃ j : Nat, j < 6 ∧ s = nI j ∧ ¬ ha j = 0) : Ct l y_M_number b_M_number 4 (some .int) 1 0 0 D (gk κ, z) (mw κ a g cm st be ro pl ha mo co to sn le) [.ref (a 0), .int s] (rt (.int (-1)) (mw κ a g cm st be ro pl ha mo co to sn le)) := by
  refine Ct.of (by decide) (Nat.le_of_ble_eq_true rfl) ?_
  intro p e s0 m below meth c A hC hr hn
  refine u_iconst hC (nI 0) d_M_number_0 (by decide) ?_
  refine u_istore_n hC d_M_number_1 (by decide) ?_
  refine u_iconst hC (nI 0) d_M_number_2 (by decide) ?_
  refine u_istore_n hC d_M_number_3 (by decide) ?_
  refine u_aload_n hC d_M_number_4 rfl ?_
  refine u_iload_n hC d_M_number_5 rfl ?_
  refine u_callVr hC (c_M_runsF hb) k_M_45 i_M_runs (q0 := 0) rfl rfl ⟨(Nat.le_of_ble_eq_true rfl), (Nat.le_of_ble_eq_true rfl)⟩ ⟨(Nat.le_of_ble_eq_true rfl), (Nat.le_of_ble_eq_true rfl)⟩ rfl rfl (Nat.le_of_ble_eq_true rfl) d_M_number_6 ?_
  refine u_if_eq hC 50 d_M_number_9 (by decide) (fun h_9 => ?_) (fun h_9 => absurd rfl h_9)
  refine u_aload_n hC d_M_number_50 rfl ?_
  refine u_iload_n hC d_M_number_51 rfl ?_
  refine u_callVr hC (c_M_runsF hb) k_M_45 i_M_runs (q0 := 0) rfl rfl ⟨(Nat.le_of_ble_eq_true rfl), (Nat.le_of_ble_eq_true rfl)⟩ ⟨(Nat.le_of_ble_eq_true rfl), (Nat.le_of_ble_eq_true rfl)⟩ rfl rfl (Nat.le_of_ble_eq_true rfl) d_M_number_52 ?_
  refine u_if_eq hC 70 d_M_number_55 (by decide) (fun h_55 => ?_) (fun h_55 => absurd rfl h_55)
  refine u_iconst hC (-1) d_M_number_70 (by decide) ?_
  exact u_iret hC hr d_M_number_71 (Nat.le_of_ble_eq_true rfl) (Nat.le_of_ble_eq_true rfl) ⟨rfl, rfl⟩
set_option maxHeartbeats 4000000 in
set_option maxRecDepth 100000 in
theorem c_M_numberN {j t G0 : Nat} (hj : j < 6) (hh : ¬ ha j = 0) (ht : to j = nI t) (ht7 : t ≤ 7) (hg : g = nI G0) (hG : G0 ≤ 4000) (hm : 4000 < G0 + (m_mis j le (t + 1) 0)) : Ct l y_M_number b_M_number 4 (some .int) 1 0 0 D (gk κ, z) (mw κ a g cm st be ro pl ha mo co to sn le) [.ref (a 0), .int (nI j)] (rt (.int (-1)) (mw κ a g cm st be ro pl ha mo co to sn le)) := by
  refine Ct.of (by decide) (Nat.le_of_ble_eq_true rfl) ?_
  intro p e s0 m below meth c A hC hr hn
  refine u_iconst hC (nI 0) d_M_number_0 (by decide) ?_
  refine u_istore_n hC d_M_number_1 (by decide) ?_
  refine u_iconst hC (nI 0) d_M_number_2 (by decide) ?_
  refine u_istore_n hC d_M_number_3 (by decide) ?_
  refine l_M_num1 hj hh ht ht7 hC ⟨(Nat.le_of_ble_eq_true rfl), (Nat.le_of_ble_eq_true rfl)⟩ (t + 1) 0 0 (by omega) ?_
  rw [Nat.zero_add, Nat.zero_add]
  refine u_aload_n hC d_M_number_50 rfl ?_
  refine u_iload_n hC d_M_number_51 rfl ?_
  refine u_callVr hC (c_M_runsT hj hh) k_M_45 i_M_runs (q0 := 0) rfl rfl ⟨(Nat.le_of_ble_eq_true rfl), (Nat.le_of_ble_eq_true rfl)⟩ ⟨(Nat.le_of_ble_eq_true rfl), (Nat.le_of_ble_eq_true rfl)⟩ rfl rfl (Nat.le_of_ble_eq_true rfl) d_M_number_52 ?_
  refine u_if_eq hC 70 d_M_number_55 (by decide) (fun h_55 => absurd h_55 (by decide)) (fun h_55 => ?_)
  refine u_aload_n hC d_M_number_58 rfl ?_
  refine u_get hC f_M_41 0 rfl rfl d_M_number_59 ?_
  refine u_iload_n hC d_M_number_62 rfl ?_
  refine u_iadd hC d_M_number_63 ?_
  refine u_sipush hC (nI 4000) d_M_number_64 (by decide) ?_
  refine u_valb (x' := nI (G0 + (m_mis j le (t + 1) 0))) (by rw [hg, nI_add]) ?_
  refine u_icmp_le hC 72 d_M_number_67 (by decide) (fun h_67 => absurd h_67 (nI_ge hm (by have := m_mis_le j le (t + 1) 0; omega))) (fun h_67 => ?_)
  refine u_iconst hC (-1) d_M_number_70 (by decide) ?_
  exact u_iret hC hr d_M_number_71 (Nat.le_of_ble_eq_true rfl) (Nat.le_of_ble_eq_true rfl) ⟨rfl, rfl⟩
set_option maxHeartbeats 4000000 in
set_option maxRecDepth 100000 in
theorem c_M_numberT {j t G0 : Nat} (hj : j < 6) (hh : ¬ ha j = 0) (ht : to j = nI t) (ht7 : t ≤ 7) (hg : g = nI G0) (hG : G0 ≤ 4000) (hm : G0 + (m_mis j le (t + 1) 0) ≤ 4000) : Ct l y_M_number b_M_number 4 (some .int) 1 0 0 D (gk κ, z) (mw κ a g cm st be ro pl ha mo co to sn le) [.ref (a 0), .int (nI j)] (rt (.int ((m_gv j (t + 1) 0 (G0, le, st, be, ro)).2.1 (8 * j + t))) (mw κ a (nI (m_gv j (t + 1) 0 (G0, le, st, be, ro)).1) cm (m_gv j (t + 1) 0 (G0, le, st, be, ro)).2.2.1 (m_gv j (t + 1) 0 (G0, le, st, be, ro)).2.2.2.1 (m_gv j (t + 1) 0 (G0, le, st, be, ro)).2.2.2.2 pl ha mo co to sn (m_gv j (t + 1) 0 (G0, le, st, be, ro)).2.1)) := by
  refine Ct.of (by decide) (Nat.le_of_ble_eq_true rfl) ?_
  intro p e s0 m below meth c A hC hr hn
  refine u_iconst hC (nI 0) d_M_number_0 (by decide) ?_
  refine u_istore_n hC d_M_number_1 (by decide) ?_
  refine u_iconst hC (nI 0) d_M_number_2 (by decide) ?_
  refine u_istore_n hC d_M_number_3 (by decide) ?_
  refine l_M_num1 hj hh ht ht7 hC ⟨(Nat.le_of_ble_eq_true rfl), (Nat.le_of_ble_eq_true rfl)⟩ (t + 1) 0 0 (by omega) ?_
  rw [Nat.zero_add, Nat.zero_add]
  refine u_aload_n hC d_M_number_50 rfl ?_
  refine u_iload_n hC d_M_number_51 rfl ?_
  refine u_callVr hC (c_M_runsT hj hh) k_M_45 i_M_runs (q0 := 0) rfl rfl ⟨(Nat.le_of_ble_eq_true rfl), (Nat.le_of_ble_eq_true rfl)⟩ ⟨(Nat.le_of_ble_eq_true rfl), (Nat.le_of_ble_eq_true rfl)⟩ rfl rfl (Nat.le_of_ble_eq_true rfl) d_M_number_52 ?_
  refine u_if_eq hC 70 d_M_number_55 (by decide) (fun h_55 => absurd h_55 (by decide)) (fun h_55 => ?_)
  refine u_aload_n hC d_M_number_58 rfl ?_
  refine u_get hC f_M_41 0 rfl rfl d_M_number_59 ?_
  refine u_iload_n hC d_M_number_62 rfl ?_
  refine u_iadd hC d_M_number_63 ?_
  refine u_sipush hC (nI 4000) d_M_number_64 (by decide) ?_
  refine u_valb (x' := nI (G0 + (m_mis j le (t + 1) 0))) (by rw [hg, nI_add]) ?_
  refine u_icmp_le hC 72 d_M_number_67 (by decide) (fun h_67 => ?_) (fun h_67 => absurd (nI_le hm (by decide)) h_67)
  refine u_iconst hC (nI 0) d_M_number_72 (by decide) ?_
  refine u_istore_n hC d_M_number_73 (by decide) ?_
  refine u_eqw (ws' := (mw κ a (nI ((G0, le, st, be, ro) : MG).1) cm ((G0, le, st, be, ro) : MG).2.2.1 ((G0, le, st, be, ro) : MG).2.2.2.1 ((G0, le, st, be, ro) : MG).2.2.2.2 pl ha mo co to sn ((G0, le, st, be, ro) : MG).2.1)) (by rw [hg]) ?_
  refine l_M_num2 hj hh ht ht7 hC (t + 1) 0 (G0, le, st, be, ro) (by omega) hm ?_
  rw [Nat.zero_add]
  refine u_aload_n hC d_M_number_172 rfl ?_
  refine u_get hC f_M_38 0 rfl rfl d_M_number_173 ?_
  refine u_bipush hC (nI 8) d_M_number_176 (by decide) ?_
  refine u_iload_n hC d_M_number_178 rfl ?_
  refine u_imul hC d_M_number_179 ?_
  refine u_aload_n hC d_M_number_180 rfl ?_
  refine u_get hC f_M_32 0 rfl rfl d_M_number_181 ?_
  refine u_iload_n hC d_M_number_184 rfl ?_
  refine p_iald hC 8 0 rfl rfl j rfl hj (by decide) d_M_number_185 ?_
  refine u_iadd hC d_M_number_186 ?_
  refine p_iald hC 10 0 rfl rfl (8 * j + t) (by rw [ht, n_8]) (by omega) (by decide) d_M_number_187 ?_
  exact u_iret hC hr d_M_number_188 (Nat.le_of_ble_eq_true rfl) (Nat.le_of_ble_eq_true rfl) ⟨rfl, rfl⟩
set_option maxHeartbeats 4000000 in
set_option maxRecDepth 100000 in
theorem c_M_crash {G0 : Nat} (hg : g = nI G0) (hG : G0 ≤ 4000) : Ct l y_M_crash b_M_crash 3 none 3 0 0 D (gk κ, z) (mw κ a g cm st be ro pl ha mo co to sn le) [.ref (a 0)] (rtv (mw κ a g cm (m_cr be G0 6 0 (st, pl, ha)).1 be ro (m_cr be G0 6 0 (st, pl, ha)).2.1 (m_cr be G0 6 0 (st, pl, ha)).2.2 mo co to sn le)) := by
  refine Ct.of (by decide) (Nat.le_of_ble_eq_true rfl) ?_
  intro p e s0 m below meth c A hC hr hn
  refine u_iconst hC (nI 0) d_M_crash_0 (by decide) ?_
  refine u_istore_n hC d_M_crash_1 (by decide) ?_
  refine u_eqw (ws' := (mw κ a g cm ((st, pl, ha) : MC).1 be ro ((st, pl, ha) : MC).2.1 ((st, pl, ha) : MC).2.2 mo co to sn le)) rfl ?_
  refine l_M_crash hC ⟨(Nat.le_of_ble_eq_true rfl), (Nat.le_of_ble_eq_true rfl)⟩ hg hG trivial 6 0 (st, pl, ha) [] (Nat.zero_le _) rfl (fun _ => ?_)
  exact u_vret hC hr d_M_crash_20 (Nat.le_of_ble_eq_true rfl) (Nat.le_of_ble_eq_true rfl) ⟨rfl, rfl⟩
end MN1
