section MM
variable {l : Launch} {D : va_G} {κ : Nat → ClassId} {z : Nat × Nat} {a : Nat → Nat} {g cm : Int32} {st be ro pl ha mo co to sn le : Nat → Int32}
set_option maxHeartbeats 4000000 in
set_option maxRecDepth 100000 in
theorem c_M_releaseF0 {s x : Int32} (hb : ¬ ∃ j : Nat, j < 6 ∧ s = nI j ∧ ¬ ha j = 0) : Ct l y_M_release b_M_release 4 (some .boolean) 1 0 0 D (gk κ, z) (mw κ a g cm st be ro pl ha mo co to sn le) [.ref (a 0), .int s, .int x] (rt (.int 0) (mw κ a g cm st be ro pl ha mo co to sn le)) := by
  refine Ct.of (by decide) (Nat.le_of_ble_eq_true rfl) ?_
  intro p e s0 m below meth c A hC hr hn
  refine u_aload_n hC d_M_release_0 rfl ?_
  refine u_iload_n hC d_M_release_1 rfl ?_
  refine u_callVr hC (c_M_runsF hb) k_M_45 i_M_runs (q0 := 0) rfl rfl ⟨(Nat.le_of_ble_eq_true rfl), (Nat.le_of_ble_eq_true rfl)⟩ ⟨(Nat.le_of_ble_eq_true rfl), (Nat.le_of_ble_eq_true rfl)⟩ rfl rfl (Nat.le_of_ble_eq_true rfl) d_M_release_2 ?_
  refine u_if_eq hC 23 d_M_release_5 (by decide) (fun h_5 => ?_) (fun h_5 => absurd rfl h_5)
  refine u_iconst hC (nI 0) d_M_release_23 (by decide) ?_
  exact u_zret hC hr rfl d_M_release_24 (Nat.le_of_ble_eq_true rfl) (Nat.le_of_ble_eq_true rfl) ⟨rfl, rfl⟩
set_option maxHeartbeats 4000000 in
set_option maxRecDepth 100000 in
theorem c_M_releaseF1 {j t : Nat} {x : Int32} (hj : j < 6) (hh : ¬ ha j = 0) (ht : to j = nI t) (ht7 : t ≤ 7) (hk : ¬ ∃ k : Nat, 1 ≤ k ∧ k ≤ t ∧ x = nI k) : Ct l y_M_release b_M_release 4 (some .boolean) 1 0 0 D (gk κ, z) (mw κ a g cm st be ro pl ha mo co to sn le) [.ref (a 0), .int (nI j), .int x] (rt (.int 0) (mw κ a g cm st be ro pl ha mo co to sn le)) := by
  refine Ct.of (by decide) (Nat.le_of_ble_eq_true rfl) ?_
  intro p e s0 m below meth c A hC hr hn
  refine u_aload_n hC d_M_release_0 rfl ?_
  refine u_iload_n hC d_M_release_1 rfl ?_
  refine u_callVr hC (c_M_runsT hj hh) k_M_45 i_M_runs (q0 := 0) rfl rfl ⟨(Nat.le_of_ble_eq_true rfl), (Nat.le_of_ble_eq_true rfl)⟩ ⟨(Nat.le_of_ble_eq_true rfl), (Nat.le_of_ble_eq_true rfl)⟩ rfl rfl (Nat.le_of_ble_eq_true rfl) d_M_release_2 ?_
  refine u_if_eq hC 23 d_M_release_5 (by decide) (fun h_5 => absurd h_5 (by decide)) (fun h_5 => ?_)
  refine u_iload_n hC d_M_release_8 rfl ?_
  refine u_iconst hC (nI 1) d_M_release_9 (by decide) ?_
  refine u_icmp_lt hC 23 d_M_release_10 (by decide) (fun h_10 => ?_) (fun h_10 => ?_)
  · refine u_iconst hC (nI 0) d_M_release_23 (by decide) ?_
    exact u_zret hC hr rfl d_M_release_24 (Nat.le_of_ble_eq_true rfl) (Nat.le_of_ble_eq_true rfl) ⟨rfl, rfl⟩
  · refine u_iload_n hC d_M_release_13 rfl ?_
    refine u_aload_n hC d_M_release_14 rfl ?_
    refine u_get hC f_M_32 0 rfl rfl d_M_release_15 ?_
    refine u_iload_n hC d_M_release_18 rfl ?_
    refine p_iald hC 8 0 rfl rfl j rfl hj (by decide) d_M_release_19 ?_
    refine u_icmp_le hC 25 d_M_release_20 (by decide) (fun h_20 => ?_) (fun h_20 => ?_)
    · exact absurd (n_rng (by omega) (by decide) h_10 (by rw [ht] at h_20; exact Int32.not_lt.mpr h_20)) hk
    · refine u_iconst hC (nI 0) d_M_release_23 (by decide) ?_
      exact u_zret hC hr rfl d_M_release_24 (Nat.le_of_ble_eq_true rfl) (Nat.le_of_ble_eq_true rfl) ⟨rfl, rfl⟩
set_option maxHeartbeats 4000000 in
set_option maxRecDepth 100000 in
theorem c_M_releaseT {j t k G0 : Nat} (hj : j < 6) (hh : ¬ ha j = 0) (ht : to j = nI t) (ht7 : t ≤ 7) (hg : g = nI G0) (hG : G0 ≤ 4000) (hk : 1 ≤ k) (hk2 : k ≤ t) : Ct l y_M_release b_M_release 4 (some .boolean) 1 0 0 D (gk κ, z) (mw κ a g cm st be ro pl ha mo co to sn le) [.ref (a 0), .int (nI j), .int (nI k)] (rt (.int 1) (mw κ a g cm st (m_set st be be (nI j) (nI k) (nI (8 * j + k - 1)) (G0 + 1)) ro pl ha mo co (upd to j (nI (k - 1))) sn le)) := by
  refine Ct.of (by decide) (Nat.le_of_ble_eq_true rfl) ?_
  intro p e s0 m below meth c A hC hr hn
  refine u_aload_n hC d_M_release_0 rfl ?_
  refine u_iload_n hC d_M_release_1 rfl ?_
  refine u_callVr hC (c_M_runsT hj hh) k_M_45 i_M_runs (q0 := 0) rfl rfl ⟨(Nat.le_of_ble_eq_true rfl), (Nat.le_of_ble_eq_true rfl)⟩ ⟨(Nat.le_of_ble_eq_true rfl), (Nat.le_of_ble_eq_true rfl)⟩ rfl rfl (Nat.le_of_ble_eq_true rfl) d_M_release_2 ?_
  refine u_if_eq hC 23 d_M_release_5 (by decide) (fun h_5 => absurd h_5 (by decide)) (fun h_5 => ?_)
  refine u_iload_n hC d_M_release_8 rfl ?_
  refine u_iconst hC (nI 1) d_M_release_9 (by decide) ?_
  refine u_icmp_lt hC 23 d_M_release_10 (by decide) (fun h_10 => absurd h_10 (nI_nlt hk (by omega))) (fun h_10 => ?_)
  refine u_iload_n hC d_M_release_13 rfl ?_
  refine u_aload_n hC d_M_release_14 rfl ?_
  refine u_get hC f_M_32 0 rfl rfl d_M_release_15 ?_
  refine u_iload_n hC d_M_release_18 rfl ?_
  refine p_iald hC 8 0 rfl rfl j rfl hj (by decide) d_M_release_19 ?_
  refine u_icmp_le hC 25 d_M_release_20 (by decide) (fun h_20 => ?_) (fun h_20 => absurd (by rw [ht]; exact nI_le hk2 (by omega)) h_20)
  refine u_iconst hC (nI 1) d_M_release_25 (by decide) ?_
  refine u_istore_n hC d_M_release_26 (by decide) ?_
  refine u_eqw (ws' := (mw κ a g cm st (m_set st be be (nI j) (nI k) (nI (8 * j + k - 1)) 1) ro pl ha mo co to sn le)) (congrArg (fun f => (mw κ a g cm st f ro pl ha mo co to sn le)) m_set_1.symm) ?_
  refine l_M_release hC ⟨(Nat.le_of_ble_eq_true rfl), (Nat.le_of_ble_eq_true rfl)⟩ hg hG hk ?_ G0 1 (by omega) (by omega)
  refine u_aload_n hC d_M_release_74 rfl ?_
  refine u_get hC f_M_32 0 rfl rfl d_M_release_75 ?_
  refine u_iload_n hC d_M_release_78 rfl ?_
  refine u_iload_n hC d_M_release_79 rfl ?_
  refine u_iconst hC (nI 1) d_M_release_80 (by decide) ?_
  refine u_isub hC d_M_release_81 ?_
  refine u_val (n_pred hk) ?_
  refine p_iast hC 8 0 rfl rfl j rfl hj (by decide) rfl d_M_release_82 ?_
  refine u_iconst hC (nI 1) d_M_release_83 (by decide) ?_
  exact u_zret hC hr rfl d_M_release_84 (Nat.le_of_ble_eq_true rfl) (Nat.le_of_ble_eq_true rfl) ⟨rfl, rfl⟩
set_option maxHeartbeats 4000000 in
set_option maxRecDepth 100000 in
theorem c_M_backF0 {s x : Int32} (hb : ¬ ∃ j : Nat, j < 6 ∧ s = nI j ∧ ¬ ha j = 0) : Ct l y_M_back b_M_back 4 (some .boolean) 1 0 0 D (gk κ, z) (mw κ a g cm st be ro pl ha mo co to sn le) [.ref (a 0), .int s, .int x] (rt (.int 0) (mw κ a g cm st be ro pl ha mo co to sn le)) := by
  refine Ct.of (by decide) (Nat.le_of_ble_eq_true rfl) ?_
  intro p e s0 m below meth c A hC hr hn
  refine u_aload_n hC d_M_back_0 rfl ?_
  refine u_iload_n hC d_M_back_1 rfl ?_
  refine u_callVr hC (c_M_runsF hb) k_M_45 i_M_runs (q0 := 0) rfl rfl ⟨(Nat.le_of_ble_eq_true rfl), (Nat.le_of_ble_eq_true rfl)⟩ ⟨(Nat.le_of_ble_eq_true rfl), (Nat.le_of_ble_eq_true rfl)⟩ rfl rfl (Nat.le_of_ble_eq_true rfl) d_M_back_2 ?_
  refine u_if_eq hC 23 d_M_back_5 (by decide) (fun h_5 => ?_) (fun h_5 => absurd rfl h_5)
  refine u_iconst hC (nI 0) d_M_back_23 (by decide) ?_
  exact u_zret hC hr rfl d_M_back_24 (Nat.le_of_ble_eq_true rfl) (Nat.le_of_ble_eq_true rfl) ⟨rfl, rfl⟩
set_option maxHeartbeats 4000000 in
set_option maxRecDepth 100000 in
theorem c_M_backF1 {j t : Nat} {x : Int32} (hj : j < 6) (hh : ¬ ha j = 0) (ht : to j = nI t) (ht7 : t ≤ 7) (hk : ¬ ∃ k : Nat, 1 ≤ k ∧ k ≤ t ∧ x = nI k) : Ct l y_M_back b_M_back 4 (some .boolean) 1 0 0 D (gk κ, z) (mw κ a g cm st be ro pl ha mo co to sn le) [.ref (a 0), .int (nI j), .int x] (rt (.int 0) (mw κ a g cm st be ro pl ha mo co to sn le)) := by
  refine Ct.of (by decide) (Nat.le_of_ble_eq_true rfl) ?_
  intro p e s0 m below meth c A hC hr hn
  refine u_aload_n hC d_M_back_0 rfl ?_
  refine u_iload_n hC d_M_back_1 rfl ?_
  refine u_callVr hC (c_M_runsT hj hh) k_M_45 i_M_runs (q0 := 0) rfl rfl ⟨(Nat.le_of_ble_eq_true rfl), (Nat.le_of_ble_eq_true rfl)⟩ ⟨(Nat.le_of_ble_eq_true rfl), (Nat.le_of_ble_eq_true rfl)⟩ rfl rfl (Nat.le_of_ble_eq_true rfl) d_M_back_2 ?_
  refine u_if_eq hC 23 d_M_back_5 (by decide) (fun h_5 => absurd h_5 (by decide)) (fun h_5 => ?_)
  refine u_iload_n hC d_M_back_8 rfl ?_
  refine u_iconst hC (nI 1) d_M_back_9 (by decide) ?_
  refine u_icmp_lt hC 23 d_M_back_10 (by decide) (fun h_10 => ?_) (fun h_10 => ?_)
  · refine u_iconst hC (nI 0) d_M_back_23 (by decide) ?_
    exact u_zret hC hr rfl d_M_back_24 (Nat.le_of_ble_eq_true rfl) (Nat.le_of_ble_eq_true rfl) ⟨rfl, rfl⟩
  · refine u_iload_n hC d_M_back_13 rfl ?_
    refine u_aload_n hC d_M_back_14 rfl ?_
    refine u_get hC f_M_32 0 rfl rfl d_M_back_15 ?_
    refine u_iload_n hC d_M_back_18 rfl ?_
    refine p_iald hC 8 0 rfl rfl j rfl hj (by decide) d_M_back_19 ?_
    refine u_icmp_le hC 25 d_M_back_20 (by decide) (fun h_20 => ?_) (fun h_20 => ?_)
    · exact absurd (n_rng (by omega) (by decide) h_10 (by rw [ht] at h_20; exact Int32.not_lt.mpr h_20)) hk
    · refine u_iconst hC (nI 0) d_M_back_23 (by decide) ?_
      exact u_zret hC hr rfl d_M_back_24 (Nat.le_of_ble_eq_true rfl) (Nat.le_of_ble_eq_true rfl) ⟨rfl, rfl⟩
set_option maxHeartbeats 4000000 in
set_option maxRecDepth 100000 in
theorem c_M_backT {j t k G0 : Nat} (hj : j < 6) (hh : ¬ ha j = 0) (ht : to j = nI t) (ht7 : t ≤ 7) (hg : g = nI G0) (hG : G0 ≤ 4000) (hk : 1 ≤ k) (hk2 : k ≤ t) : Ct l y_M_back b_M_back 4 (some .boolean) 1 0 0 D (gk κ, z) (mw κ a g cm st be ro pl ha mo co to sn le) [.ref (a 0), .int (nI j), .int (nI k)] (rt (.int 1) (mw κ a g cm (m_set st be st (nI j) (nI k) (nI 3) (G0 + 1)) be ro pl ha mo co (upd to j (nI k)) sn (upd le (8 * j + k) 0))) := by
  refine Ct.of (by decide) (Nat.le_of_ble_eq_true rfl) ?_
  intro p e s0 m below meth c A hC hr hn
  refine u_aload_n hC d_M_back_0 rfl ?_
  refine u_iload_n hC d_M_back_1 rfl ?_
  refine u_callVr hC (c_M_runsT hj hh) k_M_45 i_M_runs (q0 := 0) rfl rfl ⟨(Nat.le_of_ble_eq_true rfl), (Nat.le_of_ble_eq_true rfl)⟩ ⟨(Nat.le_of_ble_eq_true rfl), (Nat.le_of_ble_eq_true rfl)⟩ rfl rfl (Nat.le_of_ble_eq_true rfl) d_M_back_2 ?_
  refine u_if_eq hC 23 d_M_back_5 (by decide) (fun h_5 => absurd h_5 (by decide)) (fun h_5 => ?_)
  refine u_iload_n hC d_M_back_8 rfl ?_
  refine u_iconst hC (nI 1) d_M_back_9 (by decide) ?_
  refine u_icmp_lt hC 23 d_M_back_10 (by decide) (fun h_10 => absurd h_10 (nI_nlt hk (by omega))) (fun h_10 => ?_)
  refine u_iload_n hC d_M_back_13 rfl ?_
  refine u_aload_n hC d_M_back_14 rfl ?_
  refine u_get hC f_M_32 0 rfl rfl d_M_back_15 ?_
  refine u_iload_n hC d_M_back_18 rfl ?_
  refine p_iald hC 8 0 rfl rfl j rfl hj (by decide) d_M_back_19 ?_
  refine u_icmp_le hC 25 d_M_back_20 (by decide) (fun h_20 => ?_) (fun h_20 => absurd (by rw [ht]; exact nI_le hk2 (by omega)) h_20)
  refine u_iconst hC (nI 1) d_M_back_25 (by decide) ?_
  refine u_istore_n hC d_M_back_26 (by decide) ?_
  refine u_eqw (ws' := (mw κ a g cm (m_set st be st (nI j) (nI k) (nI 3) 1) be ro pl ha mo co to sn le)) (congrArg (fun f => (mw κ a g cm f be ro pl ha mo co to sn le)) m_set_1.symm) ?_
  refine l_M_back hC ⟨(Nat.le_of_ble_eq_true rfl), (Nat.le_of_ble_eq_true rfl)⟩ hg hG hk ?_ G0 1 (by omega) (by omega)
  refine u_aload_n hC d_M_back_67 rfl ?_
  refine u_get hC f_M_32 0 rfl rfl d_M_back_68 ?_
  refine u_iload_n hC d_M_back_71 rfl ?_
  refine u_iload_n hC d_M_back_72 rfl ?_
  refine p_iast hC 8 0 rfl rfl j rfl hj (by decide) rfl d_M_back_73 ?_
  refine u_aload_n hC d_M_back_74 rfl ?_
  refine u_get hC f_M_38 0 rfl rfl d_M_back_75 ?_
  refine u_bipush hC (nI 8) d_M_back_78 (by decide) ?_
  refine u_iload_n hC d_M_back_80 rfl ?_
  refine u_imul hC d_M_back_81 ?_
  refine u_iload_n hC d_M_back_82 rfl ?_
  refine u_iadd hC d_M_back_83 ?_
  refine u_iconst hC (nI 0) d_M_back_84 (by decide) ?_
  refine p_iast hC 10 0 rfl rfl (8 * j + k) (n_8 j k) (by omega) (by decide) rfl d_M_back_85 ?_
  refine u_iconst hC (nI 1) d_M_back_86 (by decide) ?_
  exact u_zret hC hr rfl d_M_back_87 (Nat.le_of_ble_eq_true rfl) (Nat.le_of_ble_eq_true rfl) ⟨rfl, rfl⟩
set_option maxHeartbeats 4000000 in
set_option maxRecDepth 100000 in
theorem c_M_ends2 {j G0 : Nat} (hj : j < 6) (hg : g = nI G0) (hG : G0 ≤ 4000) : Ct l y_M_ends b_M_ends 5 (some .int) 1 0 0 D (gk κ, z) (mw κ a g cm st be ro pl ha mo co to sn le) [.ref (a 0), .int (nI j), .int (nI 2)] (rt (.int (nI (m_cnt st be (nI j) (nI 0) (G0 + 1)))) (mw κ a g cm (m_set st be st (nI j) (nI 0) (nI 2) (G0 + 1)) be ro (m_set st be pl (nI j) (nI 0) (cm + nI 1) (G0 + 1)) (upd ha j 0) mo co to sn le)) := by
  refine Ct.of (by decide) (Nat.le_of_ble_eq_true rfl) ?_
  intro p e s0 m below meth c A hC hr hn
  refine u_iconst hC (nI 0) d_M_ends_0 (by decide) ?_
  refine u_istore_n hC d_M_ends_1 (by decide) ?_
  refine u_iconst hC (nI 1) d_M_ends_2 (by decide) ?_
  refine u_istore hC d_M_ends_3 (by decide) ?_
  refine u_eqw (ws' := (mw κ a g cm (m_set st be st (nI j) (nI 0) (nI 2) 1) be ro (m_set st be pl (nI j) (nI 0) (cm + nI 1) 1) ha mo co to sn le)) (by rw [m_set_1, m_set_1]) ?_
  refine l_M_ends2 hC ⟨(Nat.le_of_ble_eq_true rfl), (Nat.le_of_ble_eq_true rfl)⟩ hg hG ?_ G0 1 (by omega) (by omega)
  refine u_aload_n hC d_M_ends_64 rfl ?_
  refine u_get hC f_M_22 0 rfl rfl d_M_ends_65 ?_
  refine u_iload_n hC d_M_ends_68 rfl ?_
  refine u_iconst hC (nI 0) d_M_ends_69 (by decide) ?_
  refine p_zast hC 5 1 rfl rfl j rfl hj (by decide) rfl d_M_ends_70 ?_
  refine u_iload_n hC d_M_ends_71 rfl ?_
  exact u_iret hC hr d_M_ends_72 (Nat.le_of_ble_eq_true rfl) (Nat.le_of_ble_eq_true rfl) ⟨rfl, rfl⟩
set_option maxHeartbeats 4000000 in
set_option maxRecDepth 100000 in
theorem c_M_ends3 {j G0 : Nat} (hj : j < 6) (hg : g = nI G0) (hG : G0 ≤ 4000) : Ct l y_M_ends b_M_ends 5 (some .int) 1 0 0 D (gk κ, z) (mw κ a g cm st be ro pl ha mo co to sn le) [.ref (a 0), .int (nI j), .int (nI 3)] (rt (.int (nI (m_cnt st be (nI j) (nI 0) (G0 + 1)))) (mw κ a g cm (m_set st be st (nI j) (nI 0) (nI 3) (G0 + 1)) be ro (m_set st be pl (nI j) (nI 0) (nI 0) (G0 + 1)) (upd ha j 0) mo co to sn le)) := by
  refine Ct.of (by decide) (Nat.le_of_ble_eq_true rfl) ?_
  intro p e s0 m below meth c A hC hr hn
  refine u_iconst hC (nI 0) d_M_ends_0 (by decide) ?_
  refine u_istore_n hC d_M_ends_1 (by decide) ?_
  refine u_iconst hC (nI 1) d_M_ends_2 (by decide) ?_
  refine u_istore hC d_M_ends_3 (by decide) ?_
  refine u_eqw (ws' := (mw κ a g cm (m_set st be st (nI j) (nI 0) (nI 3) 1) be ro (m_set st be pl (nI j) (nI 0) (nI 0) 1) ha mo co to sn le)) (by rw [m_set_1, m_set_1]) ?_
  refine l_M_ends3 hC ⟨(Nat.le_of_ble_eq_true rfl), (Nat.le_of_ble_eq_true rfl)⟩ hg hG ?_ G0 1 (by omega) (by omega)
  refine u_aload_n hC d_M_ends_64 rfl ?_
  refine u_get hC f_M_22 0 rfl rfl d_M_ends_65 ?_
  refine u_iload_n hC d_M_ends_68 rfl ?_
  refine u_iconst hC (nI 0) d_M_ends_69 (by decide) ?_
  refine p_zast hC 5 1 rfl rfl j rfl hj (by decide) rfl d_M_ends_70 ?_
  refine u_iload_n hC d_M_ends_71 rfl ?_
  exact u_iret hC hr d_M_ends_72 (Nat.le_of_ble_eq_true rfl) (Nat.le_of_ble_eq_true rfl) ⟨rfl, rfl⟩
set_option maxHeartbeats 4000000 in
set_option maxRecDepth 100000 in
theorem c_M_commitF {s : Int32} (hb : ¬ ∃ j : Nat, j < 6 ∧ s = nI j ∧ ¬ ha j = 0) : Ct l y_M_commit b_M_commit 3 (some .int) 2 0 0 D (gk κ, z) (mw κ a g cm st be ro pl ha mo co to sn le) [.ref (a 0), .int s] (rt (.int (-1)) (mw κ a g cm st be ro pl ha mo co to sn le)) := by
  refine Ct.of (by decide) (Nat.le_of_ble_eq_true rfl) ?_
  intro p e s0 m below meth c A hC hr hn
  refine u_aload_n hC d_M_commit_0 rfl ?_
  refine u_iload_n hC d_M_commit_1 rfl ?_
  refine u_callVr hC (c_M_runsF hb) k_M_45 i_M_runs (q0 := 0) rfl rfl ⟨(Nat.le_of_ble_eq_true rfl), (Nat.le_of_ble_eq_true rfl)⟩ ⟨(Nat.le_of_ble_eq_true rfl), (Nat.le_of_ble_eq_true rfl)⟩ rfl rfl (Nat.le_of_ble_eq_true rfl) d_M_commit_2 ?_
  refine u_if_ne hC 10 d_M_commit_5 (by decide) (fun h_5 => absurd rfl h_5) (fun h_5 => ?_)
  refine u_iconst hC (-1) d_M_commit_8 (by decide) ?_
  exact u_iret hC hr d_M_commit_9 (Nat.le_of_ble_eq_true rfl) (Nat.le_of_ble_eq_true rfl) ⟨rfl, rfl⟩
set_option maxHeartbeats 4000000 in
set_option maxRecDepth 100000 in
theorem c_M_commitT {j G0 : Nat} (hj : j < 6) (hh : ¬ ha j = 0) (hg : g = nI G0) (hG : G0 ≤ 4000) (hc : 0 < (m_cnt st be (nI j) (nI 0) (G0 + 1))) : Ct l y_M_commit b_M_commit 3 (some .int) 2 0 0 D (gk κ, z) (mw κ a g cm st be ro pl ha mo co to sn le) [.ref (a 0), .int (nI j)] (rt (.int (cm + nI 1)) (mw κ a g (cm + nI 1) (m_set st be st (nI j) (nI 0) (nI 2) (G0 + 1)) be ro (m_set st be pl (nI j) (nI 0) (cm + nI 1) (G0 + 1)) (upd ha j 0) mo co to sn le)) := by
  refine Ct.of (by decide) (Nat.le_of_ble_eq_true rfl) ?_
  intro p e s0 m below meth c A hC hr hn
  refine u_aload_n hC d_M_commit_0 rfl ?_
  refine u_iload_n hC d_M_commit_1 rfl ?_
  refine u_callVr hC (c_M_runsT hj hh) k_M_45 i_M_runs (q0 := 0) rfl rfl ⟨(Nat.le_of_ble_eq_true rfl), (Nat.le_of_ble_eq_true rfl)⟩ ⟨(Nat.le_of_ble_eq_true rfl), (Nat.le_of_ble_eq_true rfl)⟩ rfl rfl (Nat.le_of_ble_eq_true rfl) d_M_commit_2 ?_
  refine u_if_ne hC 10 d_M_commit_5 (by decide) (fun h_5 => ?_) (fun h_5 => absurd h_5 (by decide))
  refine u_aload_n hC d_M_commit_10 rfl ?_
  refine u_iload_n hC d_M_commit_11 rfl ?_
  refine u_iconst hC (nI 2) d_M_commit_12 (by decide) ?_
  refine u_callVr hC (c_M_ends2 hj hg hG) k_M_56 i_M_ends (q0 := 0) rfl rfl ⟨(Nat.le_of_ble_eq_true rfl), (Nat.le_of_ble_eq_true rfl)⟩ ⟨(Nat.le_of_ble_eq_true rfl), (Nat.le_of_ble_eq_true rfl)⟩ rfl rfl (Nat.le_of_ble_eq_true rfl) d_M_commit_13 ?_
  refine u_istore_n hC d_M_commit_16 (by decide) ?_
  refine u_aload_n hC d_M_commit_17 rfl ?_
  refine u_iload_n hC d_M_commit_18 rfl ?_
  refine u_if_le hC 31 d_M_commit_19 (by decide) (fun h_19 => absurd h_19 (nI_nle hc (Nat.lt_of_le_of_lt (m_cnt_le _ _ _ _ _) (by omega)))) (fun h_19 => ?_)
  refine u_aload_n hC d_M_commit_22 rfl ?_
  refine u_get hC f_M_49 0 rfl rfl d_M_commit_23 ?_
  refine u_iconst hC (nI 1) d_M_commit_26 (by decide) ?_
  refine u_iadd hC d_M_commit_27 ?_
  refine u_goto hC 35 d_M_commit_28 (by decide) ?_
  refine u_put hC f_M_49 (tt_M 1 (by decide)) rfl 0 rfl rfl rfl (Nat.le_of_ble_eq_true rfl) rfl d_M_commit_35 ?_
  refine u_iload_n hC d_M_commit_38 rfl ?_
  refine u_if_le hC 49 d_M_commit_39 (by decide) (fun h_39 => absurd h_39 (nI_nle hc (Nat.lt_of_le_of_lt (m_cnt_le _ _ _ _ _) (by omega)))) (fun h_39 => ?_)
  refine u_aload_n hC d_M_commit_42 rfl ?_
  refine u_get hC f_M_49 0 rfl rfl d_M_commit_43 ?_
  refine u_goto hC 50 d_M_commit_46 (by decide) ?_
  exact u_iret hC hr d_M_commit_50 (Nat.le_of_ble_eq_true rfl) (Nat.le_of_ble_eq_true rfl) ⟨rfl, rfl⟩
set_option maxHeartbeats 4000000 in
set_option maxRecDepth 100000 in
theorem c_M_commitZ {j G0 : Nat} (hj : j < 6) (hh : ¬ ha j = 0) (hg : g = nI G0) (hG : G0 ≤ 4000) (hc : (m_cnt st be (nI j) (nI 0) (G0 + 1)) = 0) : Ct l y_M_commit b_M_commit 3 (some .int) 2 0 0 D (gk κ, z) (mw κ a g cm st be ro pl ha mo co to sn le) [.ref (a 0), .int (nI j)] (rt (.int 0) (mw κ a g cm (m_set st be st (nI j) (nI 0) (nI 2) (G0 + 1)) be ro (m_set st be pl (nI j) (nI 0) (cm + nI 1) (G0 + 1)) (upd ha j 0) mo co to sn le)) := by
  refine Ct.of (by decide) (Nat.le_of_ble_eq_true rfl) ?_
  intro p e s0 m below meth c A hC hr hn
  refine u_aload_n hC d_M_commit_0 rfl ?_
  refine u_iload_n hC d_M_commit_1 rfl ?_
  refine u_callVr hC (c_M_runsT hj hh) k_M_45 i_M_runs (q0 := 0) rfl rfl ⟨(Nat.le_of_ble_eq_true rfl), (Nat.le_of_ble_eq_true rfl)⟩ ⟨(Nat.le_of_ble_eq_true rfl), (Nat.le_of_ble_eq_true rfl)⟩ rfl rfl (Nat.le_of_ble_eq_true rfl) d_M_commit_2 ?_
  refine u_if_ne hC 10 d_M_commit_5 (by decide) (fun h_5 => ?_) (fun h_5 => absurd h_5 (by decide))
  refine u_aload_n hC d_M_commit_10 rfl ?_
  refine u_iload_n hC d_M_commit_11 rfl ?_
  refine u_iconst hC (nI 2) d_M_commit_12 (by decide) ?_
  refine u_callVr hC (c_M_ends2 hj hg hG) k_M_56 i_M_ends (q0 := 0) rfl rfl ⟨(Nat.le_of_ble_eq_true rfl), (Nat.le_of_ble_eq_true rfl)⟩ ⟨(Nat.le_of_ble_eq_true rfl), (Nat.le_of_ble_eq_true rfl)⟩ rfl rfl (Nat.le_of_ble_eq_true rfl) d_M_commit_13 ?_
  rw [hc]
  refine u_istore_n hC d_M_commit_16 (by decide) ?_
  refine u_aload_n hC d_M_commit_17 rfl ?_
  refine u_iload_n hC d_M_commit_18 rfl ?_
  refine u_if_le hC 31 d_M_commit_19 (by decide) (fun h_19 => ?_) (fun h_19 => absurd (by decide) h_19)
  refine u_aload_n hC d_M_commit_31 rfl ?_
  refine u_get hC f_M_49 0 rfl rfl d_M_commit_32 ?_
  refine u_put hC f_M_49 (tt_M 1 (by decide)) rfl 0 rfl rfl rfl (Nat.le_of_ble_eq_true rfl) rfl d_M_commit_35 ?_
  refine u_iload_n hC d_M_commit_38 rfl ?_
  refine u_if_le hC 49 d_M_commit_39 (by decide) (fun h_39 => ?_) (fun h_39 => absurd (by decide) h_39)
  refine u_iconst hC (nI 0) d_M_commit_49 (by decide) ?_
  exact u_iret hC hr d_M_commit_50 (Nat.le_of_ble_eq_true rfl) (Nat.le_of_ble_eq_true rfl) ⟨rfl, rfl⟩
set_option maxHeartbeats 4000000 in
set_option maxRecDepth 100000 in
theorem c_M_abortF {s : Int32} (hb : ¬ ∃ j : Nat, j < 6 ∧ s = nI j ∧ ¬ ha j = 0) : Ct l y_M_abort b_M_abort 3 (some .boolean) 2 0 0 D (gk κ, z) (mw κ a g cm st be ro pl ha mo co to sn le) [.ref (a 0), .int s] (rt (.int 0) (mw κ a g cm st be ro pl ha mo co to sn le)) := by
  refine Ct.of (by decide) (Nat.le_of_ble_eq_true rfl) ?_
  intro p e s0 m below meth c A hC hr hn
  refine u_aload_n hC d_M_abort_0 rfl ?_
  refine u_iload_n hC d_M_abort_1 rfl ?_
  refine u_callVr hC (c_M_runsF hb) k_M_45 i_M_runs (q0 := 0) rfl rfl ⟨(Nat.le_of_ble_eq_true rfl), (Nat.le_of_ble_eq_true rfl)⟩ ⟨(Nat.le_of_ble_eq_true rfl), (Nat.le_of_ble_eq_true rfl)⟩ rfl rfl (Nat.le_of_ble_eq_true rfl) d_M_abort_2 ?_
  refine u_if_ne hC 10 d_M_abort_5 (by decide) (fun h_5 => absurd rfl h_5) (fun h_5 => ?_)
  refine u_iconst hC (nI 0) d_M_abort_8 (by decide) ?_
  exact u_zret hC hr rfl d_M_abort_9 (Nat.le_of_ble_eq_true rfl) (Nat.le_of_ble_eq_true rfl) ⟨rfl, rfl⟩
set_option maxHeartbeats 4000000 in
set_option maxRecDepth 100000 in
theorem c_M_abortT {j G0 : Nat} (hj : j < 6) (hh : ¬ ha j = 0) (hg : g = nI G0) (hG : G0 ≤ 4000) : Ct l y_M_abort b_M_abort 3 (some .boolean) 2 0 0 D (gk κ, z) (mw κ a g cm st be ro pl ha mo co to sn le) [.ref (a 0), .int (nI j)] (rt (.int 1) (mw κ a g cm (m_set st be st (nI j) (nI 0) (nI 3) (G0 + 1)) be ro (m_set st be pl (nI j) (nI 0) (nI 0) (G0 + 1)) (upd ha j 0) mo co to sn le)) := by
  refine Ct.of (by decide) (Nat.le_of_ble_eq_true rfl) ?_
  intro p e s0 m below meth c A hC hr hn
  refine u_aload_n hC d_M_abort_0 rfl ?_
  refine u_iload_n hC d_M_abort_1 rfl ?_
  refine u_callVr hC (c_M_runsT hj hh) k_M_45 i_M_runs (q0 := 0) rfl rfl ⟨(Nat.le_of_ble_eq_true rfl), (Nat.le_of_ble_eq_true rfl)⟩ ⟨(Nat.le_of_ble_eq_true rfl), (Nat.le_of_ble_eq_true rfl)⟩ rfl rfl (Nat.le_of_ble_eq_true rfl) d_M_abort_2 ?_
  refine u_if_ne hC 10 d_M_abort_5 (by decide) (fun h_5 => ?_) (fun h_5 => absurd h_5 (by decide))
  refine u_aload_n hC d_M_abort_10 rfl ?_
  refine u_iload_n hC d_M_abort_11 rfl ?_
  refine u_iconst hC (nI 3) d_M_abort_12 (by decide) ?_
  refine u_callVr hC (c_M_ends3 hj hg hG) k_M_56 i_M_ends (q0 := 0) rfl rfl ⟨(Nat.le_of_ble_eq_true rfl), (Nat.le_of_ble_eq_true rfl)⟩ ⟨(Nat.le_of_ble_eq_true rfl), (Nat.le_of_ble_eq_true rfl)⟩ rfl rfl (Nat.le_of_ble_eq_true rfl) d_M_abort_13 ?_
  refine u_istore_n hC d_M_abort_16 (by decide) ?_
  refine u_iconst hC (nI 1) d_M_abort_17 (by decide) ?_
  exact u_zret hC hr rfl d_M_abort_18 (Nat.le_of_ble_eq_true rfl) (Nat.le_of_ble_eq_true rfl) ⟨rfl, rfl⟩
set_option maxHeartbeats 4000000 in
set_option maxRecDepth 100000 in
theorem c_M_isSeenF0 {j G0 : Nat} {x cd : Int32} (hg : g = nI G0) (hG : G0 ≤ 4000) (hb : ¬ ∃ i : Nat, 1 ≤ i ∧ i ≤ G0 ∧ x = nI i) : Ct l y_M_isSeen b_M_isSeen 4 (some .boolean) 1 0 0 D (gk κ, z) (mw κ a g cm st be ro pl ha mo co to sn le) [.ref (a 0), .int (nI j), .int x, .int cd] (rt (.int 0) (mw κ a g cm st be ro pl ha mo co to sn le)) := by
  refine Ct.of (by decide) (Nat.le_of_ble_eq_true rfl) ?_
  intro p e s0 m below meth c A hC hr hn
  refine u_aload_n hC d_M_isSeen_0 rfl ?_
  refine u_iload_n hC d_M_isSeen_1 rfl ?_
  refine u_callVr hC (c_M_givenF hg hG hb) k_M_63 i_M_isGiven (q0 := 0) rfl rfl ⟨(Nat.le_of_ble_eq_true rfl), (Nat.le_of_ble_eq_true rfl)⟩ ⟨(Nat.le_of_ble_eq_true rfl), (Nat.le_of_ble_eq_true rfl)⟩ rfl rfl (Nat.le_of_ble_eq_true rfl) d_M_isSeen_2 ?_
  refine u_if_eq hC 18 d_M_isSeen_5 (by decide) (fun h_5 => ?_) (fun h_5 => absurd rfl h_5)
  refine u_iconst hC (nI 0) d_M_isSeen_18 (by decide) ?_
  exact u_zret hC hr rfl d_M_isSeen_19 (Nat.le_of_ble_eq_true rfl) (Nat.le_of_ble_eq_true rfl) ⟨rfl, rfl⟩
set_option maxHeartbeats 4000000 in
set_option maxRecDepth 100000 in
theorem c_M_isSeenF3 {j i G0 : Nat} {cd : Int32} (hj : j < 6) (hg : g = nI G0) (hG : G0 ≤ 4000) (h1 : 1 ≤ i) (h2 : i ≤ G0) (h3 : st i = nI 3) : Ct l y_M_isSeen b_M_isSeen 4 (some .boolean) 1 0 0 D (gk κ, z) (mw κ a g cm st be ro pl ha mo co to sn le) [.ref (a 0), .int (nI j), .int (nI i), .int cd] (rt (.int 0) (mw κ a g cm st be ro pl ha mo co to sn le)) := by
  refine Ct.of (by decide) (Nat.le_of_ble_eq_true rfl) ?_
  intro p e s0 m below meth c A hC hr hn
  refine u_aload_n hC d_M_isSeen_0 rfl ?_
  refine u_iload_n hC d_M_isSeen_1 rfl ?_
  refine u_callVr hC (c_M_givenT hg hG h1 h2) k_M_63 i_M_isGiven (q0 := 0) rfl rfl ⟨(Nat.le_of_ble_eq_true rfl), (Nat.le_of_ble_eq_true rfl)⟩ ⟨(Nat.le_of_ble_eq_true rfl), (Nat.le_of_ble_eq_true rfl)⟩ rfl rfl (Nat.le_of_ble_eq_true rfl) d_M_isSeen_2 ?_
  refine u_if_eq hC 18 d_M_isSeen_5 (by decide) (fun h_5 => absurd h_5 (by decide)) (fun h_5 => ?_)
  refine u_aload_n hC d_M_isSeen_8 rfl ?_
  refine u_get hC f_M_7 0 rfl rfl d_M_isSeen_9 ?_
  refine u_iload_n hC d_M_isSeen_12 rfl ?_
  refine p_iald hC 1 0 rfl rfl i rfl (by omega) (by decide) d_M_isSeen_13 ?_
  refine u_iconst hC (nI 3) d_M_isSeen_14 (by decide) ?_
  refine u_icmp_ne hC 20 d_M_isSeen_15 (by decide) (fun h_15 => absurd h3 h_15) (fun h_15 => ?_)
  refine u_iconst hC (nI 0) d_M_isSeen_18 (by decide) ?_
  exact u_zret hC hr rfl d_M_isSeen_19 (Nat.le_of_ble_eq_true rfl) (Nat.le_of_ble_eq_true rfl) ⟨rfl, rfl⟩
set_option maxHeartbeats 4000000 in
set_option maxRecDepth 100000 in
theorem c_M_isSeenR {j i G0 : Nat} {cd : Int32} (hj : j < 6) (hg : g = nI G0) (hG : G0 ≤ 4000) (h1 : 1 ≤ i) (h2 : i ≤ G0) (h3 : st i = nI 1) : Ct l y_M_isSeen b_M_isSeen 4 (some .boolean) 1 0 0 D (gk κ, z) (mw κ a g cm st be ro pl ha mo co to sn le) [.ref (a 0), .int (nI j), .int (nI i), .int cd] (rt (.int (if be i / nI 8 = nI j ∧ cd < co j then 1 else 0)) (mw κ a g cm st be ro pl ha mo co to sn le)) := by
  refine Ct.of (by decide) (Nat.le_of_ble_eq_true rfl) ?_
  intro p e s0 m below meth c A hC hr hn
  refine u_aload_n hC d_M_isSeen_0 rfl ?_
  refine u_iload_n hC d_M_isSeen_1 rfl ?_
  refine u_callVr hC (c_M_givenT hg hG h1 h2) k_M_63 i_M_isGiven (q0 := 0) rfl rfl ⟨(Nat.le_of_ble_eq_true rfl), (Nat.le_of_ble_eq_true rfl)⟩ ⟨(Nat.le_of_ble_eq_true rfl), (Nat.le_of_ble_eq_true rfl)⟩ rfl rfl (Nat.le_of_ble_eq_true rfl) d_M_isSeen_2 ?_
  refine u_if_eq hC 18 d_M_isSeen_5 (by decide) (fun h_5 => absurd h_5 (by decide)) (fun h_5 => ?_)
  refine u_aload_n hC d_M_isSeen_8 rfl ?_
  refine u_get hC f_M_7 0 rfl rfl d_M_isSeen_9 ?_
  refine u_iload_n hC d_M_isSeen_12 rfl ?_
  refine p_iald hC 1 0 rfl rfl i rfl (by omega) (by decide) d_M_isSeen_13 ?_
  refine u_iconst hC (nI 3) d_M_isSeen_14 (by decide) ?_
  refine u_icmp_ne hC 20 d_M_isSeen_15 (by decide) (fun h_15 => ?_) (fun h_15 => absurd h_15 (by rw [h3]; decide))
  refine u_aload_n hC d_M_isSeen_20 rfl ?_
  refine u_get hC f_M_7 0 rfl rfl d_M_isSeen_21 ?_
  refine u_iload_n hC d_M_isSeen_24 rfl ?_
  refine p_iald hC 1 0 rfl rfl i rfl (by omega) (by decide) d_M_isSeen_25 ?_
  refine u_iconst hC (nI 1) d_M_isSeen_26 (by decide) ?_
  refine u_icmp_ne hC 61 d_M_isSeen_27 (by decide) (fun h_27 => absurd h3 h_27) (fun h_27 => ?_)
  refine u_aload_n hC d_M_isSeen_30 rfl ?_
  refine u_get hC f_M_13 0 rfl rfl d_M_isSeen_31 ?_
  refine u_iload_n hC d_M_isSeen_34 rfl ?_
  refine p_iald hC 2 0 rfl rfl i rfl (by omega) (by decide) d_M_isSeen_35 ?_
  refine u_bipush hC (nI 8) d_M_isSeen_36 (by decide) ?_
  refine u_idiv hC d_M_isSeen_38 (by decide) ?_
  refine u_iload_n hC d_M_isSeen_39 rfl ?_
  refine u_icmp_ne hC 57 d_M_isSeen_40 (by decide) (fun h_40 => ?_) (fun h_40 => ?_)
  · refine u_iconst hC (nI 0) d_M_isSeen_57 (by decide) ?_
    refine u_goto hC 81 d_M_isSeen_58 (by decide) ?_
    exact u_zret hC hr rfl d_M_isSeen_81 (Nat.le_of_ble_eq_true rfl) (Nat.le_of_ble_eq_true rfl) ⟨by simp_all [nI], rfl⟩
  · refine u_iload_n hC d_M_isSeen_43 rfl ?_
    refine u_aload_n hC d_M_isSeen_44 rfl ?_
    refine u_get hC f_M_29 0 rfl rfl d_M_isSeen_45 ?_
    refine u_iload_n hC d_M_isSeen_48 rfl ?_
    refine p_iald hC 7 0 rfl rfl j rfl hj (by decide) d_M_isSeen_49 ?_
    refine u_icmp_ge hC 57 d_M_isSeen_50 (by decide) (fun h_50 => ?_) (fun h_50 => ?_)
    · refine u_iconst hC (nI 0) d_M_isSeen_57 (by decide) ?_
      refine u_goto hC 81 d_M_isSeen_58 (by decide) ?_
      exact u_zret hC hr rfl d_M_isSeen_81 (Nat.le_of_ble_eq_true rfl) (Nat.le_of_ble_eq_true rfl) ⟨by simp_all [nI], rfl⟩
    · refine u_iconst hC (nI 1) d_M_isSeen_53 (by decide) ?_
      refine u_goto hC 81 d_M_isSeen_54 (by decide) ?_
      exact u_zret hC hr rfl d_M_isSeen_81 (Nat.le_of_ble_eq_true rfl) (Nat.le_of_ble_eq_true rfl) ⟨by simp_all [nI], rfl⟩
set_option maxHeartbeats 4000000 in
set_option maxRecDepth 100000 in
theorem c_M_isSeenC {j i G0 : Nat} {cd : Int32} (hj : j < 6) (hg : g = nI G0) (hG : G0 ≤ 4000) (h1 : 1 ≤ i) (h2 : i ≤ G0) (h3 : ¬ st i = nI 3) (h4 : ¬ st i = nI 1) : Ct l y_M_isSeen b_M_isSeen 4 (some .boolean) 1 0 0 D (gk κ, z) (mw κ a g cm st be ro pl ha mo co to sn le) [.ref (a 0), .int (nI j), .int (nI i), .int cd] (rt (.int (if sn j < pl i then 0 else 1)) (mw κ a g cm st be ro pl ha mo co to sn le)) := by
  refine Ct.of (by decide) (Nat.le_of_ble_eq_true rfl) ?_
  intro p e s0 m below meth c A hC hr hn
  refine u_aload_n hC d_M_isSeen_0 rfl ?_
  refine u_iload_n hC d_M_isSeen_1 rfl ?_
  refine u_callVr hC (c_M_givenT hg hG h1 h2) k_M_63 i_M_isGiven (q0 := 0) rfl rfl ⟨(Nat.le_of_ble_eq_true rfl), (Nat.le_of_ble_eq_true rfl)⟩ ⟨(Nat.le_of_ble_eq_true rfl), (Nat.le_of_ble_eq_true rfl)⟩ rfl rfl (Nat.le_of_ble_eq_true rfl) d_M_isSeen_2 ?_
  refine u_if_eq hC 18 d_M_isSeen_5 (by decide) (fun h_5 => absurd h_5 (by decide)) (fun h_5 => ?_)
  refine u_aload_n hC d_M_isSeen_8 rfl ?_
  refine u_get hC f_M_7 0 rfl rfl d_M_isSeen_9 ?_
  refine u_iload_n hC d_M_isSeen_12 rfl ?_
  refine p_iald hC 1 0 rfl rfl i rfl (by omega) (by decide) d_M_isSeen_13 ?_
  refine u_iconst hC (nI 3) d_M_isSeen_14 (by decide) ?_
  refine u_icmp_ne hC 20 d_M_isSeen_15 (by decide) (fun h_15 => ?_) (fun h_15 => absurd h_15 h3)
  refine u_aload_n hC d_M_isSeen_20 rfl ?_
  refine u_get hC f_M_7 0 rfl rfl d_M_isSeen_21 ?_
  refine u_iload_n hC d_M_isSeen_24 rfl ?_
  refine p_iald hC 1 0 rfl rfl i rfl (by omega) (by decide) d_M_isSeen_25 ?_
  refine u_iconst hC (nI 1) d_M_isSeen_26 (by decide) ?_
  refine u_icmp_ne hC 61 d_M_isSeen_27 (by decide) (fun h_27 => ?_) (fun h_27 => absurd h_27 h4)
  refine u_aload_n hC d_M_isSeen_61 rfl ?_
  refine u_get hC f_M_19 0 rfl rfl d_M_isSeen_62 ?_
  refine u_iload_n hC d_M_isSeen_65 rfl ?_
  refine p_iald hC 4 0 rfl rfl i rfl (by omega) (by decide) d_M_isSeen_66 ?_
  refine u_aload_n hC d_M_isSeen_67 rfl ?_
  refine u_get hC f_M_35 0 rfl rfl d_M_isSeen_68 ?_
  refine u_iload_n hC d_M_isSeen_71 rfl ?_
  refine p_iald hC 9 0 rfl rfl j rfl hj (by decide) d_M_isSeen_72 ?_
  refine u_icmp_gt hC 80 d_M_isSeen_73 (by decide) (fun h_73 => ?_) (fun h_73 => ?_)
  · refine u_iconst hC (nI 0) d_M_isSeen_80 (by decide) ?_
    exact u_zret hC hr rfl d_M_isSeen_81 (Nat.le_of_ble_eq_true rfl) (Nat.le_of_ble_eq_true rfl) ⟨by simp_all [nI], rfl⟩
  · refine u_iconst hC (nI 1) d_M_isSeen_76 (by decide) ?_
    refine u_goto hC 81 d_M_isSeen_77 (by decide) ?_
    exact u_zret hC hr rfl d_M_isSeen_81 (Nat.le_of_ble_eq_true rfl) (Nat.le_of_ble_eq_true rfl) ⟨by simp_all [nI], rfl⟩
end MM
