abbrev m_from (st be : Nat → Int32) (i : Nat) (s k : Int32) : Prop := st i = nI 1 ∧ be i / nI 8 = s ∧ ¬ (be i - be i / nI 8 * nI 8) < k
section MA
variable {l : Launch} {D : va_G} {κ : Nat → ClassId} {z : Nat × Nat} {a : Nat → Nat} {g cm : Int32} {st be ro pl ha mo co to sn le : Nat → Int32}
set_option maxHeartbeats 4000000 in
set_option maxRecDepth 100000 in
theorem c_M_runsT {j : Nat} (hj : j < 6) (hh : ¬ ha j = 0) : Ct l y_M_runs b_M_runs 2 (some .boolean) 0 0 0 D (gk κ, z) (mw κ a g cm st be ro pl ha mo co to sn le) [.ref (a 0), .int (nI j)] (rt (.int 1) (mw κ a g cm st be ro pl ha mo co to sn le)) := by
  refine Ct.of (by decide) (Nat.le_of_ble_eq_true rfl) ?_
  intro p e s0 m below meth c A hC hr hn
  refine u_iload_n hC d_M_runs_0 rfl ?_
  refine u_if_lt hC 23 d_M_runs_1 (by decide) (fun h_1 => absurd h_1 (nI_pos (by omega))) (fun h_1 => ?_)
  refine u_iload_n hC d_M_runs_4 rfl ?_
  refine u_bipush hC (nI 6) d_M_runs_5 (by decide) ?_
  refine u_icmp_ge hC 23 d_M_runs_7 (by decide) (fun h_7 => absurd h_7 (nI_ge hj (by decide))) (fun h_7 => ?_)
  refine u_aload_n hC d_M_runs_10 rfl ?_
  refine u_get hC f_M_22 0 rfl rfl d_M_runs_11 ?_
  refine u_iload_n hC d_M_runs_14 rfl ?_
  refine p_zald hC 5 1 rfl rfl j rfl hj (by decide) d_M_runs_15 ?_
  refine u_if_eq hC 23 d_M_runs_16 (by decide) (fun h_16 => absurd h_16 hh) (fun h_16 => ?_)
  refine u_iconst hC (nI 1) d_M_runs_19 (by decide) ?_
  refine u_goto hC 24 d_M_runs_20 (by decide) ?_
  exact u_zret hC hr rfl d_M_runs_24 (Nat.le_of_ble_eq_true rfl) (Nat.le_of_ble_eq_true rfl) ⟨rfl, rfl⟩
set_option maxHeartbeats 4000000 in
set_option maxRecDepth 100000 in
theorem c_M_runsF {s : Int32} (hb : ¬ ∃ j : Nat, j < 6 ∧ s = nI j ∧ ¬ ha j = 0) : Ct l y_M_runs b_M_runs 2 (some .boolean) 0 0 0 D (gk κ, z) (mw κ a g cm st be ro pl ha mo co to sn le) [.ref (a 0), .int s] (rt (.int 0) (mw κ a g cm st be ro pl ha mo co to sn le)) := by
  refine Ct.of (by decide) (Nat.le_of_ble_eq_true rfl) ?_
  intro p e s0 m below meth c A hC hr hn
  refine u_iload_n hC d_M_runs_0 rfl ?_
  refine u_if_lt hC 23 d_M_runs_1 (by decide) (fun h_1 => ?_) (fun h_1 => ?_)
  · refine u_iconst hC (nI 0) d_M_runs_23 (by decide) ?_
    exact u_zret hC hr rfl d_M_runs_24 (Nat.le_of_ble_eq_true rfl) (Nat.le_of_ble_eq_true rfl) ⟨rfl, rfl⟩
  · refine u_iload_n hC d_M_runs_4 rfl ?_
    refine u_bipush hC (nI 6) d_M_runs_5 (by decide) ?_
    refine u_icmp_ge hC 23 d_M_runs_7 (by decide) (fun h_7 => ?_) (fun h_7 => ?_)
    · refine u_iconst hC (nI 0) d_M_runs_23 (by decide) ?_
      exact u_zret hC hr rfl d_M_runs_24 (Nat.le_of_ble_eq_true rfl) (Nat.le_of_ble_eq_true rfl) ⟨rfl, rfl⟩
    · obtain ⟨j, hj, rfl⟩ := n_rng0 (by decide) h_1 h_7
      refine u_aload_n hC d_M_runs_10 rfl ?_
      refine u_get hC f_M_22 0 rfl rfl d_M_runs_11 ?_
      refine u_iload_n hC d_M_runs_14 rfl ?_
      refine p_zald hC 5 1 rfl rfl j rfl hj (by decide) d_M_runs_15 ?_
      refine u_if_eq hC 23 d_M_runs_16 (by decide) (fun h_16 => ?_) (fun h_16 => ?_)
      · refine u_iconst hC (nI 0) d_M_runs_23 (by decide) ?_
        exact u_zret hC hr rfl d_M_runs_24 (Nat.le_of_ble_eq_true rfl) (Nat.le_of_ble_eq_true rfl) ⟨rfl, rfl⟩
      · exact absurd ⟨j, hj, rfl, h_16⟩ hb
set_option maxHeartbeats 4000000 in
set_option maxRecDepth 100000 in
theorem c_M_givenT {i G0 : Nat} (hg : g = nI G0) (hG : G0 ≤ 4000) (h1 : 1 ≤ i) (h2 : i ≤ G0) : Ct l y_M_isGiven b_M_isGiven 2 (some .boolean) 0 0 0 D (gk κ, z) (mw κ a g cm st be ro pl ha mo co to sn le) [.ref (a 0), .int (nI i)] (rt (.int 1) (mw κ a g cm st be ro pl ha mo co to sn le)) := by
  refine Ct.of (by decide) (Nat.le_of_ble_eq_true rfl) ?_
  intro p e s0 m below meth c A hC hr hn
  refine u_iload_n hC d_M_isGiven_0 rfl ?_
  refine u_iconst hC (nI 1) d_M_isGiven_1 (by decide) ?_
  refine u_icmp_lt hC 17 d_M_isGiven_2 (by decide) (fun h_2 => absurd h_2 (nI_nlt h1 (by omega))) (fun h_2 => ?_)
  refine u_iload_n hC d_M_isGiven_5 rfl ?_
  refine u_aload_n hC d_M_isGiven_6 rfl ?_
  refine u_get hC f_M_41 0 rfl rfl d_M_isGiven_7 ?_
  refine u_icmp_gt hC 17 d_M_isGiven_10 (by decide) (fun h_10 => absurd h_10 (by rw [hg]; exact nI_nlt h2 (by omega))) (fun h_10 => ?_)
  refine u_iconst hC (nI 1) d_M_isGiven_13 (by decide) ?_
  refine u_goto hC 18 d_M_isGiven_14 (by decide) ?_
  exact u_zret hC hr rfl d_M_isGiven_18 (Nat.le_of_ble_eq_true rfl) (Nat.le_of_ble_eq_true rfl) ⟨rfl, rfl⟩
set_option maxHeartbeats 4000000 in
set_option maxRecDepth 100000 in
theorem c_M_givenF {x : Int32} {G0 : Nat} (hg : g = nI G0) (hG : G0 ≤ 4000) (hb : ¬ ∃ i : Nat, 1 ≤ i ∧ i ≤ G0 ∧ x = nI i) : Ct l y_M_isGiven b_M_isGiven 2 (some .boolean) 0 0 0 D (gk κ, z) (mw κ a g cm st be ro pl ha mo co to sn le) [.ref (a 0), .int x] (rt (.int 0) (mw κ a g cm st be ro pl ha mo co to sn le)) := by
  refine Ct.of (by decide) (Nat.le_of_ble_eq_true rfl) ?_
  intro p e s0 m below meth c A hC hr hn
  refine u_iload_n hC d_M_isGiven_0 rfl ?_
  refine u_iconst hC (nI 1) d_M_isGiven_1 (by decide) ?_
  refine u_icmp_lt hC 17 d_M_isGiven_2 (by decide) (fun h_2 => ?_) (fun h_2 => ?_)
  · refine u_iconst hC (nI 0) d_M_isGiven_17 (by decide) ?_
    exact u_zret hC hr rfl d_M_isGiven_18 (Nat.le_of_ble_eq_true rfl) (Nat.le_of_ble_eq_true rfl) ⟨rfl, rfl⟩
  · refine u_iload_n hC d_M_isGiven_5 rfl ?_
    refine u_aload_n hC d_M_isGiven_6 rfl ?_
    refine u_get hC f_M_41 0 rfl rfl d_M_isGiven_7 ?_
    refine u_icmp_gt hC 17 d_M_isGiven_10 (by decide) (fun h_10 => ?_) (fun h_10 => ?_)
    · refine u_iconst hC (nI 0) d_M_isGiven_17 (by decide) ?_
      exact u_zret hC hr rfl d_M_isGiven_18 (Nat.le_of_ble_eq_true rfl) (Nat.le_of_ble_eq_true rfl) ⟨rfl, rfl⟩
    · exact absurd (n_rng (by omega) (by decide) h_2 (by rw [← hg]; exact h_10)) hb
set_option maxHeartbeats 4000000 in
set_option maxRecDepth 100000 in
theorem c_M_beginT {j : Nat} {md : Int32} (hj : j < 6) (hh : ha j = 0) (hm0 : ¬ md < 0) (hm1 : ¬ nI 1 < md) : Ct l y_M_begin b_M_begin 3 (some .boolean) 0 0 0 D (gk κ, z) (mw κ a g cm st be ro pl ha mo co to sn le) [.ref (a 0), .int (nI j), .int md] (rt (.int 1) (mw κ a g cm st be ro pl (upd ha j 1) (upd mo j md) (upd co j 0) (upd to j 0) (upd sn j (-1)) (upd le (8 * j) 0))) := by
  refine Ct.of (by decide) (Nat.le_of_ble_eq_true rfl) ?_
  intro p e s0 m below meth c A hC hr hn
  refine u_iload_n hC d_M_begin_0 rfl ?_
  refine u_if_lt hC 28 d_M_begin_1 (by decide) (fun h_1 => absurd h_1 (nI_pos (by omega))) (fun h_1 => ?_)
  refine u_iload_n hC d_M_begin_4 rfl ?_
  refine u_bipush hC (nI 6) d_M_begin_5 (by decide) ?_
  refine u_icmp_ge hC 28 d_M_begin_7 (by decide) (fun h_7 => absurd h_7 (nI_ge hj (by decide))) (fun h_7 => ?_)
  refine u_iload_n hC d_M_begin_10 rfl ?_
  refine u_if_lt hC 28 d_M_begin_11 (by decide) (fun h_11 => absurd h_11 hm0) (fun h_11 => ?_)
  refine u_iload_n hC d_M_begin_14 rfl ?_
  refine u_iconst hC (nI 1) d_M_begin_15 (by decide) ?_
  refine u_icmp_gt hC 28 d_M_begin_16 (by decide) (fun h_16 => absurd h_16 hm1) (fun h_16 => ?_)
  refine u_aload_n hC d_M_begin_19 rfl ?_
  refine u_get hC f_M_22 0 rfl rfl d_M_begin_20 ?_
  refine u_iload_n hC d_M_begin_23 rfl ?_
  refine p_zald hC 5 1 rfl rfl j rfl hj (by decide) d_M_begin_24 ?_
  refine u_if_eq hC 30 d_M_begin_25 (by decide) (fun h_25 => ?_) (fun h_25 => absurd hh h_25)
  refine u_aload_n hC d_M_begin_30 rfl ?_
  refine u_get hC f_M_22 0 rfl rfl d_M_begin_31 ?_
  refine u_iload_n hC d_M_begin_34 rfl ?_
  refine u_iconst hC (nI 1) d_M_begin_35 (by decide) ?_
  refine p_zast hC 5 1 rfl rfl j rfl hj (by decide) rfl d_M_begin_36 ?_
  refine u_aload_n hC d_M_begin_37 rfl ?_
  refine u_get hC f_M_26 0 rfl rfl d_M_begin_38 ?_
  refine u_iload_n hC d_M_begin_41 rfl ?_
  refine u_iload_n hC d_M_begin_42 rfl ?_
  refine p_iast hC 6 0 rfl rfl j rfl hj (by decide) rfl d_M_begin_43 ?_
  refine u_aload_n hC d_M_begin_44 rfl ?_
  refine u_get hC f_M_29 0 rfl rfl d_M_begin_45 ?_
  refine u_iload_n hC d_M_begin_48 rfl ?_
  refine u_iconst hC (nI 0) d_M_begin_49 (by decide) ?_
  refine p_iast hC 7 0 rfl rfl j rfl hj (by decide) rfl d_M_begin_50 ?_
  refine u_aload_n hC d_M_begin_51 rfl ?_
  refine u_get hC f_M_32 0 rfl rfl d_M_begin_52 ?_
  refine u_iload_n hC d_M_begin_55 rfl ?_
  refine u_iconst hC (nI 0) d_M_begin_56 (by decide) ?_
  refine p_iast hC 8 0 rfl rfl j rfl hj (by decide) rfl d_M_begin_57 ?_
  refine u_aload_n hC d_M_begin_58 rfl ?_
  refine u_get hC f_M_35 0 rfl rfl d_M_begin_59 ?_
  refine u_iload_n hC d_M_begin_62 rfl ?_
  refine u_iconst hC (-1) d_M_begin_63 (by decide) ?_
  refine p_iast hC 9 0 rfl rfl j rfl hj (by decide) rfl d_M_begin_64 ?_
  refine u_aload_n hC d_M_begin_65 rfl ?_
  refine u_get hC f_M_38 0 rfl rfl d_M_begin_66 ?_
  refine u_bipush hC (nI 8) d_M_begin_69 (by decide) ?_
  refine u_iload_n hC d_M_begin_71 rfl ?_
  refine u_imul hC d_M_begin_72 ?_
  refine u_iconst hC (nI 0) d_M_begin_73 (by decide) ?_
  refine p_iast hC 10 0 rfl rfl (8 * j) (n_8a j) (by omega) (by decide) rfl d_M_begin_74 ?_
  refine u_iconst hC (nI 1) d_M_begin_75 (by decide) ?_
  exact u_zret hC hr rfl d_M_begin_76 (Nat.le_of_ble_eq_true rfl) (Nat.le_of_ble_eq_true rfl) ⟨rfl, rfl⟩
set_option maxHeartbeats 4000000 in
set_option maxRecDepth 100000 in
theorem c_M_beginF {s md : Int32} (hb : ¬ ((∃ j : Nat, j < 6 ∧ s = nI j ∧ ha j = 0) ∧ ¬ md < 0 ∧ ¬ nI 1 < md)) : Ct l y_M_begin b_M_begin 3 (some .boolean) 0 0 0 D (gk κ, z) (mw κ a g cm st be ro pl ha mo co to sn le) [.ref (a 0), .int s, .int md] (rt (.int 0) (mw κ a g cm st be ro pl ha mo co to sn le)) := by
  refine Ct.of (by decide) (Nat.le_of_ble_eq_true rfl) ?_
  intro p e s0 m below meth c A hC hr hn
  refine u_iload_n hC d_M_begin_0 rfl ?_
  refine u_if_lt hC 28 d_M_begin_1 (by decide) (fun h_1 => ?_) (fun h_1 => ?_)
  · refine u_iconst hC (nI 0) d_M_begin_28 (by decide) ?_
    exact u_zret hC hr rfl d_M_begin_29 (Nat.le_of_ble_eq_true rfl) (Nat.le_of_ble_eq_true rfl) ⟨rfl, rfl⟩
  · refine u_iload_n hC d_M_begin_4 rfl ?_
    refine u_bipush hC (nI 6) d_M_begin_5 (by decide) ?_
    refine u_icmp_ge hC 28 d_M_begin_7 (by decide) (fun h_7 => ?_) (fun h_7 => ?_)
    · refine u_iconst hC (nI 0) d_M_begin_28 (by decide) ?_
      exact u_zret hC hr rfl d_M_begin_29 (Nat.le_of_ble_eq_true rfl) (Nat.le_of_ble_eq_true rfl) ⟨rfl, rfl⟩
    · refine u_iload_n hC d_M_begin_10 rfl ?_
      refine u_if_lt hC 28 d_M_begin_11 (by decide) (fun h_11 => ?_) (fun h_11 => ?_)
      · refine u_iconst hC (nI 0) d_M_begin_28 (by decide) ?_
        exact u_zret hC hr rfl d_M_begin_29 (Nat.le_of_ble_eq_true rfl) (Nat.le_of_ble_eq_true rfl) ⟨rfl, rfl⟩
      · refine u_iload_n hC d_M_begin_14 rfl ?_
        refine u_iconst hC (nI 1) d_M_begin_15 (by decide) ?_
        refine u_icmp_gt hC 28 d_M_begin_16 (by decide) (fun h_16 => ?_) (fun h_16 => ?_)
        · refine u_iconst hC (nI 0) d_M_begin_28 (by decide) ?_
          exact u_zret hC hr rfl d_M_begin_29 (Nat.le_of_ble_eq_true rfl) (Nat.le_of_ble_eq_true rfl) ⟨rfl, rfl⟩
        · obtain ⟨j, hj, rfl⟩ := n_rng0 (by decide) h_1 h_7
          refine u_aload_n hC d_M_begin_19 rfl ?_
          refine u_get hC f_M_22 0 rfl rfl d_M_begin_20 ?_
          refine u_iload_n hC d_M_begin_23 rfl ?_
          refine p_zald hC 5 1 rfl rfl j rfl hj (by decide) d_M_begin_24 ?_
          refine u_if_eq hC 30 d_M_begin_25 (by decide) (fun h_25 => ?_) (fun h_25 => ?_)
          · exact absurd ⟨⟨j, hj, rfl, h_25⟩, h_11, h_16⟩ hb
          · refine u_iconst hC (nI 0) d_M_begin_28 (by decide) ?_
            exact u_zret hC hr rfl d_M_begin_29 (Nat.le_of_ble_eq_true rfl) (Nat.le_of_ble_eq_true rfl) ⟨rfl, rfl⟩
set_option maxHeartbeats 4000000 in
set_option maxRecDepth 100000 in
theorem c_M_statementF {s : Int32} (hb : ¬ ∃ j : Nat, j < 6 ∧ s = nI j ∧ ¬ ha j = 0) : Ct l y_M_statement b_M_statement 2 (some .int) 1 0 0 D (gk κ, z) (mw κ a g cm st be ro pl ha mo co to sn le) [.ref (a 0), .int s] (rt (.int (-1)) (mw κ a g cm st be ro pl ha mo co to sn le)) := by
  refine Ct.of (by decide) (Nat.le_of_ble_eq_true rfl) ?_
  intro p e s0 m below meth c A hC hr hn
  refine u_aload_n hC d_M_statement_0 rfl ?_
  refine u_iload_n hC d_M_statement_1 rfl ?_
  refine u_callVr hC (c_M_runsF hb) k_M_45 i_M_runs (q0 := 0) rfl rfl ⟨(Nat.le_of_ble_eq_true rfl), (Nat.le_of_ble_eq_true rfl)⟩ ⟨(Nat.le_of_ble_eq_true rfl), (Nat.le_of_ble_eq_true rfl)⟩ rfl rfl (Nat.le_of_ble_eq_true rfl) d_M_statement_2 ?_
  refine u_if_ne hC 10 d_M_statement_5 (by decide) (fun h_5 => absurd rfl h_5) (fun h_5 => ?_)
  refine u_iconst hC (-1) d_M_statement_8 (by decide) ?_
  exact u_iret hC hr d_M_statement_9 (Nat.le_of_ble_eq_true rfl) (Nat.le_of_ble_eq_true rfl) ⟨rfl, rfl⟩
set_option maxHeartbeats 4000000 in
set_option maxRecDepth 100000 in
theorem c_M_statementT {j : Nat} (hj : j < 6) (hh : ¬ ha j = 0) : Ct l y_M_statement b_M_statement 2 (some .int) 1 0 0 D (gk κ, z) (mw κ a g cm st be ro pl ha mo co to sn le) [.ref (a 0), .int (nI j)] (rt (.int (co j + 1)) (mw κ a g cm st be ro pl ha mo (upd co j (co j + 1)) to (upd sn j (if mo j = 0 ∨ sn j < 0 then cm else sn j)) le)) := by
  refine Ct.of (by decide) (Nat.le_of_ble_eq_true rfl) ?_
  intro p e s0 m below meth c A hC hr hn
  refine u_aload_n hC d_M_statement_0 rfl ?_
  refine u_iload_n hC d_M_statement_1 rfl ?_
  refine u_callVr hC (c_M_runsT hj hh) k_M_45 i_M_runs (q0 := 0) rfl rfl ⟨(Nat.le_of_ble_eq_true rfl), (Nat.le_of_ble_eq_true rfl)⟩ ⟨(Nat.le_of_ble_eq_true rfl), (Nat.le_of_ble_eq_true rfl)⟩ rfl rfl (Nat.le_of_ble_eq_true rfl) d_M_statement_2 ?_
  refine u_if_ne hC 10 d_M_statement_5 (by decide) (fun h_5 => ?_) (fun h_5 => absurd h_5 (by decide))
  refine u_aload_n hC d_M_statement_10 rfl ?_
  refine u_get hC f_M_29 0 rfl rfl d_M_statement_11 ?_
  refine u_iload_n hC d_M_statement_14 rfl ?_
  refine u_dup2 hC d_M_statement_15 rfl rfl ?_
  refine p_iald hC 7 0 rfl rfl j rfl hj (by decide) d_M_statement_16 ?_
  refine u_iconst hC (nI 1) d_M_statement_17 (by decide) ?_
  refine u_iadd hC d_M_statement_18 ?_
  refine p_iast hC 7 0 rfl rfl j rfl hj (by decide) rfl d_M_statement_19 ?_
  refine u_aload_n hC d_M_statement_20 rfl ?_
  refine u_get hC f_M_35 0 rfl rfl d_M_statement_21 ?_
  refine u_iload_n hC d_M_statement_24 rfl ?_
  refine u_aload_n hC d_M_statement_25 rfl ?_
  refine u_get hC f_M_26 0 rfl rfl d_M_statement_26 ?_
  refine u_iload_n hC d_M_statement_29 rfl ?_
  refine p_iald hC 6 0 rfl rfl j rfl hj (by decide) d_M_statement_30 ?_
  refine u_if_eq hC 43 d_M_statement_31 (by decide) (fun h_31 => ?_) (fun h_31 => ?_)
  · refine u_aload_n hC d_M_statement_43 rfl ?_
    refine u_get hC f_M_49 0 rfl rfl d_M_statement_44 ?_
    refine u_goto hC 56 d_M_statement_47 (by decide) ?_
    refine p_iast hC 9 0 rfl rfl j rfl hj (by decide) rfl d_M_statement_56 ?_
    refine u_aload_n hC d_M_statement_57 rfl ?_
    refine u_get hC f_M_29 0 rfl rfl d_M_statement_58 ?_
    refine u_iload_n hC d_M_statement_61 rfl ?_
    refine p_iald hC 7 0 rfl rfl j rfl hj (by decide) d_M_statement_62 ?_
    exact u_iret hC hr d_M_statement_63 (Nat.le_of_ble_eq_true rfl) (Nat.le_of_ble_eq_true rfl) ⟨by rw [pk_us]; rfl, by first | (rw [if_pos (Or.inl h_31)]; rfl) | (rw [if_pos (Or.inr (Int32.not_le.mp h_40))]; rfl) | (rw [if_neg (fun q => q.elim h_31 (fun w => Int32.not_lt.mpr h_40 w))]; rfl)⟩
  · refine u_aload_n hC d_M_statement_34 rfl ?_
    refine u_get hC f_M_35 0 rfl rfl d_M_statement_35 ?_
    refine u_iload_n hC d_M_statement_38 rfl ?_
    refine p_iald hC 9 0 rfl rfl j rfl hj (by decide) d_M_statement_39 ?_
    refine u_if_ge hC 50 d_M_statement_40 (by decide) (fun h_40 => ?_) (fun h_40 => ?_)
    · refine u_aload_n hC d_M_statement_50 rfl ?_
      refine u_get hC f_M_35 0 rfl rfl d_M_statement_51 ?_
      refine u_iload_n hC d_M_statement_54 rfl ?_
      refine p_iald hC 9 0 rfl rfl j rfl hj (by decide) d_M_statement_55 ?_
      refine p_iast hC 9 0 rfl rfl j rfl hj (by decide) rfl d_M_statement_56 ?_
      refine u_aload_n hC d_M_statement_57 rfl ?_
      refine u_get hC f_M_29 0 rfl rfl d_M_statement_58 ?_
      refine u_iload_n hC d_M_statement_61 rfl ?_
      refine p_iald hC 7 0 rfl rfl j rfl hj (by decide) d_M_statement_62 ?_
      exact u_iret hC hr d_M_statement_63 (Nat.le_of_ble_eq_true rfl) (Nat.le_of_ble_eq_true rfl) ⟨by rw [pk_us]; rfl, by first | (rw [if_pos (Or.inl h_31)]; rfl) | (rw [if_pos (Or.inr (Int32.not_le.mp h_40))]; rfl) | (rw [if_neg (fun q => q.elim h_31 (fun w => Int32.not_lt.mpr h_40 w))]; rfl)⟩
    · refine u_aload_n hC d_M_statement_43 rfl ?_
      refine u_get hC f_M_49 0 rfl rfl d_M_statement_44 ?_
      refine u_goto hC 56 d_M_statement_47 (by decide) ?_
      refine p_iast hC 9 0 rfl rfl j rfl hj (by decide) rfl d_M_statement_56 ?_
      refine u_aload_n hC d_M_statement_57 rfl ?_
      refine u_get hC f_M_29 0 rfl rfl d_M_statement_58 ?_
      refine u_iload_n hC d_M_statement_61 rfl ?_
      refine p_iald hC 7 0 rfl rfl j rfl hj (by decide) d_M_statement_62 ?_
      exact u_iret hC hr d_M_statement_63 (Nat.le_of_ble_eq_true rfl) (Nat.le_of_ble_eq_true rfl) ⟨by rw [pk_us]; rfl, by first | (rw [if_pos (Or.inl h_31)]; rfl) | (rw [if_pos (Or.inr (Int32.not_le.mp h_40))]; rfl) | (rw [if_neg (fun q => q.elim h_31 (fun w => Int32.not_lt.mpr h_40 w))]; rfl)⟩
set_option maxHeartbeats 4000000 in
set_option maxRecDepth 100000 in
theorem c_M_saveF {s : Int32} (hb : ¬ ∃ j : Nat, j < 6 ∧ s = nI j ∧ ¬ ha j = 0) : Ct l y_M_save b_M_save 2 (some .int) 1 0 0 D (gk κ, z) (mw κ a g cm st be ro pl ha mo co to sn le) [.ref (a 0), .int s] (rt (.int (-1)) (mw κ a g cm st be ro pl ha mo co to sn le)) := by
  refine Ct.of (by decide) (Nat.le_of_ble_eq_true rfl) ?_
  intro p e s0 m below meth c A hC hr hn
  refine u_aload_n hC d_M_save_0 rfl ?_
  refine u_iload_n hC d_M_save_1 rfl ?_
  refine u_callVr hC (c_M_runsF hb) k_M_45 i_M_runs (q0 := 0) rfl rfl ⟨(Nat.le_of_ble_eq_true rfl), (Nat.le_of_ble_eq_true rfl)⟩ ⟨(Nat.le_of_ble_eq_true rfl), (Nat.le_of_ble_eq_true rfl)⟩ rfl rfl (Nat.le_of_ble_eq_true rfl) d_M_save_2 ?_
  refine u_if_eq hC 19 d_M_save_5 (by decide) (fun h_5 => ?_) (fun h_5 => absurd rfl h_5)
  refine u_iconst hC (-1) d_M_save_19 (by decide) ?_
  exact u_iret hC hr d_M_save_20 (Nat.le_of_ble_eq_true rfl) (Nat.le_of_ble_eq_true rfl) ⟨rfl, rfl⟩
set_option maxHeartbeats 4000000 in
set_option maxRecDepth 100000 in
theorem c_M_saveN {j : Nat} (hj : j < 6) (hh : ¬ ha j = 0) (ht : to j = nI 7) : Ct l y_M_save b_M_save 2 (some .int) 1 0 0 D (gk κ, z) (mw κ a g cm st be ro pl ha mo co to sn le) [.ref (a 0), .int (nI j)] (rt (.int (-1)) (mw κ a g cm st be ro pl ha mo co to sn le)) := by
  refine Ct.of (by decide) (Nat.le_of_ble_eq_true rfl) ?_
  intro p e s0 m below meth c A hC hr hn
  refine u_aload_n hC d_M_save_0 rfl ?_
  refine u_iload_n hC d_M_save_1 rfl ?_
  refine u_callVr hC (c_M_runsT hj hh) k_M_45 i_M_runs (q0 := 0) rfl rfl ⟨(Nat.le_of_ble_eq_true rfl), (Nat.le_of_ble_eq_true rfl)⟩ ⟨(Nat.le_of_ble_eq_true rfl), (Nat.le_of_ble_eq_true rfl)⟩ rfl rfl (Nat.le_of_ble_eq_true rfl) d_M_save_2 ?_
  refine u_if_eq hC 19 d_M_save_5 (by decide) (fun h_5 => absurd h_5 (by decide)) (fun h_5 => ?_)
  refine u_aload_n hC d_M_save_8 rfl ?_
  refine u_get hC f_M_32 0 rfl rfl d_M_save_9 ?_
  refine u_iload_n hC d_M_save_12 rfl ?_
  refine p_iald hC 8 0 rfl rfl j rfl hj (by decide) d_M_save_13 ?_
  refine u_bipush hC (nI 7) d_M_save_14 (by decide) ?_
  refine u_icmp_ne hC 21 d_M_save_16 (by decide) (fun h_16 => absurd ht h_16) (fun h_16 => ?_)
  refine u_iconst hC (-1) d_M_save_19 (by decide) ?_
  exact u_iret hC hr d_M_save_20 (Nat.le_of_ble_eq_true rfl) (Nat.le_of_ble_eq_true rfl) ⟨rfl, rfl⟩
set_option maxHeartbeats 4000000 in
set_option maxRecDepth 100000 in
theorem c_M_saveT {j t : Nat} (hj : j < 6) (hh : ¬ ha j = 0) (ht : to j = nI t) (ht7 : t < 7) : Ct l y_M_save b_M_save 2 (some .int) 1 0 0 D (gk κ, z) (mw κ a g cm st be ro pl ha mo co to sn le) [.ref (a 0), .int (nI j)] (rt (.int (nI (t + 1))) (mw κ a g cm st be ro pl ha mo co (upd to j (nI (t + 1))) sn (upd le (8 * j + (t + 1)) 0))) := by
  refine Ct.of (by decide) (Nat.le_of_ble_eq_true rfl) ?_
  intro p e s0 m below meth c A hC hr hn
  refine u_aload_n hC d_M_save_0 rfl ?_
  refine u_iload_n hC d_M_save_1 rfl ?_
  refine u_callVr hC (c_M_runsT hj hh) k_M_45 i_M_runs (q0 := 0) rfl rfl ⟨(Nat.le_of_ble_eq_true rfl), (Nat.le_of_ble_eq_true rfl)⟩ ⟨(Nat.le_of_ble_eq_true rfl), (Nat.le_of_ble_eq_true rfl)⟩ rfl rfl (Nat.le_of_ble_eq_true rfl) d_M_save_2 ?_
  refine u_if_eq hC 19 d_M_save_5 (by decide) (fun h_5 => absurd h_5 (by decide)) (fun h_5 => ?_)
  refine u_aload_n hC d_M_save_8 rfl ?_
  refine u_get hC f_M_32 0 rfl rfl d_M_save_9 ?_
  refine u_iload_n hC d_M_save_12 rfl ?_
  refine p_iald hC 8 0 rfl rfl j rfl hj (by decide) d_M_save_13 ?_
  refine u_bipush hC (nI 7) d_M_save_14 (by decide) ?_
  refine u_icmp_ne hC 21 d_M_save_16 (by decide) (fun h_16 => ?_) (fun h_16 => absurd h_16 (by rw [ht, nI_eq (by omega) (by decide)]; omega))
  refine u_aload_n hC d_M_save_21 rfl ?_
  refine u_get hC f_M_32 0 rfl rfl d_M_save_22 ?_
  refine u_iload_n hC d_M_save_25 rfl ?_
  refine u_dup2 hC d_M_save_26 rfl rfl ?_
  refine p_iald hC 8 0 rfl rfl j rfl hj (by decide) d_M_save_27 ?_
  refine u_iconst hC (nI 1) d_M_save_28 (by decide) ?_
  refine u_iadd hC d_M_save_29 ?_
  refine p_iast hC 8 0 rfl rfl j rfl hj (by decide) rfl d_M_save_30 ?_
  refine u_aload_n hC d_M_save_31 rfl ?_
  refine u_get hC f_M_38 0 rfl rfl d_M_save_32 ?_
  refine u_bipush hC (nI 8) d_M_save_35 (by decide) ?_
  refine u_iload_n hC d_M_save_37 rfl ?_
  refine u_imul hC d_M_save_38 ?_
  refine u_aload_n hC d_M_save_39 rfl ?_
  refine u_get hC f_M_32 0 rfl rfl d_M_save_40 ?_
  refine u_iload_n hC d_M_save_43 rfl ?_
  refine p_iald hC 8 0 rfl rfl j rfl hj (by decide) d_M_save_44 ?_
  refine u_iadd hC d_M_save_45 ?_
  refine u_iconst hC (nI 0) d_M_save_46 (by decide) ?_
  refine p_iast hC 10 0 rfl rfl (8 * j + (t + 1)) (by rw [pk_us, ht, nI_add, n_8]) (by omega) (by decide) rfl d_M_save_47 ?_
  refine u_aload_n hC d_M_save_48 rfl ?_
  refine u_get hC f_M_32 0 rfl rfl d_M_save_49 ?_
  refine u_iload_n hC d_M_save_52 rfl ?_
  refine p_iald hC 8 0 rfl rfl j rfl hj (by decide) d_M_save_53 ?_
  exact u_iret hC hr d_M_save_54 (Nat.le_of_ble_eq_true rfl) (Nat.le_of_ble_eq_true rfl) ⟨by rw [pk_us, ht, nI_add], by rw [ht, nI_add]; first | done | rfl⟩
set_option maxHeartbeats 4000000 in
set_option maxRecDepth 100000 in
theorem c_M_isFromT {i : Nat} {s k : Int32} (hi : i ≤ 4000) (hf : m_from st be i s k) : Ct l y_M_isFrom b_M_isFrom 4 (some .boolean) 0 0 0 D (gk κ, z) (mw κ a g cm st be ro pl ha mo co to sn le) [.ref (a 0), .int (nI i), .int s, .int k] (rt (.int 1) (mw κ a g cm st be ro pl ha mo co to sn le)) := by
  refine Ct.of (by decide) (Nat.le_of_ble_eq_true rfl) ?_
  intro p e s0 m below meth c A hC hr hn
  refine u_aload_n hC d_M_isFrom_0 rfl ?_
  refine u_get hC f_M_7 0 rfl rfl d_M_isFrom_1 ?_
  refine u_iload_n hC d_M_isFrom_4 rfl ?_
  refine p_iald hC 1 0 rfl rfl i rfl (by omega) (by decide) d_M_isFrom_5 ?_
  refine u_iconst hC (nI 1) d_M_isFrom_6 (by decide) ?_
  refine u_icmp_ne hC 40 d_M_isFrom_7 (by decide) (fun h_7 => absurd hf.1 h_7) (fun h_7 => ?_)
  refine u_aload_n hC d_M_isFrom_10 rfl ?_
  refine u_get hC f_M_13 0 rfl rfl d_M_isFrom_11 ?_
  refine u_iload_n hC d_M_isFrom_14 rfl ?_
  refine p_iald hC 2 0 rfl rfl i rfl (by omega) (by decide) d_M_isFrom_15 ?_
  refine u_bipush hC (nI 8) d_M_isFrom_16 (by decide) ?_
  refine u_idiv hC d_M_isFrom_18 (by decide) ?_
  refine u_iload_n hC d_M_isFrom_19 rfl ?_
  refine u_icmp_ne hC 40 d_M_isFrom_20 (by decide) (fun h_20 => absurd hf.2.1 h_20) (fun h_20 => ?_)
  refine u_aload_n hC d_M_isFrom_23 rfl ?_
  refine u_get hC f_M_13 0 rfl rfl d_M_isFrom_24 ?_
  refine u_iload_n hC d_M_isFrom_27 rfl ?_
  refine p_iald hC 2 0 rfl rfl i rfl (by omega) (by decide) d_M_isFrom_28 ?_
  refine u_bipush hC (nI 8) d_M_isFrom_29 (by decide) ?_
  refine u_irem hC d_M_isFrom_31 (by decide) ?_
  refine u_iload_n hC d_M_isFrom_32 rfl ?_
  refine u_icmp_lt hC 40 d_M_isFrom_33 (by decide) (fun h_33 => absurd h_33 hf.2.2) (fun h_33 => ?_)
  refine u_iconst hC (nI 1) d_M_isFrom_36 (by decide) ?_
  refine u_goto hC 41 d_M_isFrom_37 (by decide) ?_
  exact u_zret hC hr rfl d_M_isFrom_41 (Nat.le_of_ble_eq_true rfl) (Nat.le_of_ble_eq_true rfl) ⟨rfl, rfl⟩
set_option maxHeartbeats 4000000 in
set_option maxRecDepth 100000 in
theorem c_M_isFromF {i : Nat} {s k : Int32} (hi : i ≤ 4000) (hf : ¬ m_from st be i s k) : Ct l y_M_isFrom b_M_isFrom 4 (some .boolean) 0 0 0 D (gk κ, z) (mw κ a g cm st be ro pl ha mo co to sn le) [.ref (a 0), .int (nI i), .int s, .int k] (rt (.int 0) (mw κ a g cm st be ro pl ha mo co to sn le)) := by
  refine Ct.of (by decide) (Nat.le_of_ble_eq_true rfl) ?_
  intro p e s0 m below meth c A hC hr hn
  refine u_aload_n hC d_M_isFrom_0 rfl ?_
  refine u_get hC f_M_7 0 rfl rfl d_M_isFrom_1 ?_
  refine u_iload_n hC d_M_isFrom_4 rfl ?_
  refine p_iald hC 1 0 rfl rfl i rfl (by omega) (by decide) d_M_isFrom_5 ?_
  refine u_iconst hC (nI 1) d_M_isFrom_6 (by decide) ?_
  refine u_icmp_ne hC 40 d_M_isFrom_7 (by decide) (fun h_7 => ?_) (fun h_7 => ?_)
  · refine u_iconst hC (nI 0) d_M_isFrom_40 (by decide) ?_
    exact u_zret hC hr rfl d_M_isFrom_41 (Nat.le_of_ble_eq_true rfl) (Nat.le_of_ble_eq_true rfl) ⟨rfl, rfl⟩
  · refine u_aload_n hC d_M_isFrom_10 rfl ?_
    refine u_get hC f_M_13 0 rfl rfl d_M_isFrom_11 ?_
    refine u_iload_n hC d_M_isFrom_14 rfl ?_
    refine p_iald hC 2 0 rfl rfl i rfl (by omega) (by decide) d_M_isFrom_15 ?_
    refine u_bipush hC (nI 8) d_M_isFrom_16 (by decide) ?_
    refine u_idiv hC d_M_isFrom_18 (by decide) ?_
    refine u_iload_n hC d_M_isFrom_19 rfl ?_
    refine u_icmp_ne hC 40 d_M_isFrom_20 (by decide) (fun h_20 => ?_) (fun h_20 => ?_)
    · refine u_iconst hC (nI 0) d_M_isFrom_40 (by decide) ?_
      exact u_zret hC hr rfl d_M_isFrom_41 (Nat.le_of_ble_eq_true rfl) (Nat.le_of_ble_eq_true rfl) ⟨rfl, rfl⟩
    · refine u_aload_n hC d_M_isFrom_23 rfl ?_
      refine u_get hC f_M_13 0 rfl rfl d_M_isFrom_24 ?_
      refine u_iload_n hC d_M_isFrom_27 rfl ?_
      refine p_iald hC 2 0 rfl rfl i rfl (by omega) (by decide) d_M_isFrom_28 ?_
      refine u_bipush hC (nI 8) d_M_isFrom_29 (by decide) ?_
      refine u_irem hC d_M_isFrom_31 (by decide) ?_
      refine u_iload_n hC d_M_isFrom_32 rfl ?_
      refine u_icmp_lt hC 40 d_M_isFrom_33 (by decide) (fun h_33 => ?_) (fun h_33 => ?_)
      · refine u_iconst hC (nI 0) d_M_isFrom_40 (by decide) ?_
        exact u_zret hC hr rfl d_M_isFrom_41 (Nat.le_of_ble_eq_true rfl) (Nat.le_of_ble_eq_true rfl) ⟨rfl, rfl⟩
      · exact absurd ⟨h_7, h_20, h_33⟩ hf
set_option maxHeartbeats 4000000 in
set_option maxRecDepth 100000 in
theorem c_M_stateT {i G0 : Nat} (hg : g = nI G0) (hG : G0 ≤ 4000) (h1 : 1 ≤ i) (h2 : i ≤ G0) : Ct l y_M_state b_M_state 2 (some .int) 1 0 0 D (gk κ, z) (mw κ a g cm st be ro pl ha mo co to sn le) [.ref (a 0), .int (nI i)] (rt (.int (st i)) (mw κ a g cm st be ro pl ha mo co to sn le)) := by
  refine Ct.of (by decide) (Nat.le_of_ble_eq_true rfl) ?_
  intro p e s0 m below meth c A hC hr hn
  refine u_aload_n hC d_M_state_0 rfl ?_
  refine u_iload_n hC d_M_state_1 rfl ?_
  refine u_callVr hC (c_M_givenT hg hG h1 h2) k_M_63 i_M_isGiven (q0 := 0) rfl rfl ⟨(Nat.le_of_ble_eq_true rfl), (Nat.le_of_ble_eq_true rfl)⟩ ⟨(Nat.le_of_ble_eq_true rfl), (Nat.le_of_ble_eq_true rfl)⟩ rfl rfl (Nat.le_of_ble_eq_true rfl) d_M_state_2 ?_
  refine u_if_eq hC 17 d_M_state_5 (by decide) (fun h_5 => absurd h_5 (by decide)) (fun h_5 => ?_)
  refine u_aload_n hC d_M_state_8 rfl ?_
  refine u_get hC f_M_7 0 rfl rfl d_M_state_9 ?_
  refine u_iload_n hC d_M_state_12 rfl ?_
  refine p_iald hC 1 0 rfl rfl i rfl (by omega) (by decide) d_M_state_13 ?_
  refine u_goto hC 18 d_M_state_14 (by decide) ?_
  exact u_iret hC hr d_M_state_18 (Nat.le_of_ble_eq_true rfl) (Nat.le_of_ble_eq_true rfl) ⟨rfl, rfl⟩
set_option maxHeartbeats 4000000 in
set_option maxRecDepth 100000 in
theorem c_M_stateF {x : Int32} {G0 : Nat} (hg : g = nI G0) (hG : G0 ≤ 4000) (hb : ¬ ∃ i : Nat, 1 ≤ i ∧ i ≤ G0 ∧ x = nI i) : Ct l y_M_state b_M_state 2 (some .int) 1 0 0 D (gk κ, z) (mw κ a g cm st be ro pl ha mo co to sn le) [.ref (a 0), .int x] (rt (.int 0) (mw κ a g cm st be ro pl ha mo co to sn le)) := by
  refine Ct.of (by decide) (Nat.le_of_ble_eq_true rfl) ?_
  intro p e s0 m below meth c A hC hr hn
  refine u_aload_n hC d_M_state_0 rfl ?_
  refine u_iload_n hC d_M_state_1 rfl ?_
  refine u_callVr hC (c_M_givenF hg hG hb) k_M_63 i_M_isGiven (q0 := 0) rfl rfl ⟨(Nat.le_of_ble_eq_true rfl), (Nat.le_of_ble_eq_true rfl)⟩ ⟨(Nat.le_of_ble_eq_true rfl), (Nat.le_of_ble_eq_true rfl)⟩ rfl rfl (Nat.le_of_ble_eq_true rfl) d_M_state_2 ?_
  refine u_if_eq hC 17 d_M_state_5 (by decide) (fun h_5 => ?_) (fun h_5 => absurd rfl h_5)
  refine u_iconst hC (nI 0) d_M_state_17 (by decide) ?_
  exact u_iret hC hr d_M_state_18 (Nat.le_of_ble_eq_true rfl) (Nat.le_of_ble_eq_true rfl) ⟨rfl, rfl⟩
set_option maxHeartbeats 4000000 in
set_option maxRecDepth 100000 in
theorem c_M_rootT {i G0 : Nat} (hg : g = nI G0) (hG : G0 ≤ 4000) (h1 : 1 ≤ i) (h2 : i ≤ G0) : Ct l y_M_root b_M_root 2 (some .int) 1 0 0 D (gk κ, z) (mw κ a g cm st be ro pl ha mo co to sn le) [.ref (a 0), .int (nI i)] (rt (.int (ro i)) (mw κ a g cm st be ro pl ha mo co to sn le)) := by
  refine Ct.of (by decide) (Nat.le_of_ble_eq_true rfl) ?_
  intro p e s0 m below meth c A hC hr hn
  refine u_aload_n hC d_M_root_0 rfl ?_
  refine u_iload_n hC d_M_root_1 rfl ?_
  refine u_callVr hC (c_M_givenT hg hG h1 h2) k_M_63 i_M_isGiven (q0 := 0) rfl rfl ⟨(Nat.le_of_ble_eq_true rfl), (Nat.le_of_ble_eq_true rfl)⟩ ⟨(Nat.le_of_ble_eq_true rfl), (Nat.le_of_ble_eq_true rfl)⟩ rfl rfl (Nat.le_of_ble_eq_true rfl) d_M_root_2 ?_
  refine u_if_eq hC 17 d_M_root_5 (by decide) (fun h_5 => absurd h_5 (by decide)) (fun h_5 => ?_)
  refine u_aload_n hC d_M_root_8 rfl ?_
  refine u_get hC f_M_16 0 rfl rfl d_M_root_9 ?_
  refine u_iload_n hC d_M_root_12 rfl ?_
  refine p_iald hC 3 0 rfl rfl i rfl (by omega) (by decide) d_M_root_13 ?_
  refine u_goto hC 18 d_M_root_14 (by decide) ?_
  exact u_iret hC hr d_M_root_18 (Nat.le_of_ble_eq_true rfl) (Nat.le_of_ble_eq_true rfl) ⟨rfl, rfl⟩
set_option maxHeartbeats 4000000 in
set_option maxRecDepth 100000 in
theorem c_M_rootF {x : Int32} {G0 : Nat} (hg : g = nI G0) (hG : G0 ≤ 4000) (hb : ¬ ∃ i : Nat, 1 ≤ i ∧ i ≤ G0 ∧ x = nI i) : Ct l y_M_root b_M_root 2 (some .int) 1 0 0 D (gk κ, z) (mw κ a g cm st be ro pl ha mo co to sn le) [.ref (a 0), .int x] (rt (.int 0) (mw κ a g cm st be ro pl ha mo co to sn le)) := by
  refine Ct.of (by decide) (Nat.le_of_ble_eq_true rfl) ?_
  intro p e s0 m below meth c A hC hr hn
  refine u_aload_n hC d_M_root_0 rfl ?_
  refine u_iload_n hC d_M_root_1 rfl ?_
  refine u_callVr hC (c_M_givenF hg hG hb) k_M_63 i_M_isGiven (q0 := 0) rfl rfl ⟨(Nat.le_of_ble_eq_true rfl), (Nat.le_of_ble_eq_true rfl)⟩ ⟨(Nat.le_of_ble_eq_true rfl), (Nat.le_of_ble_eq_true rfl)⟩ rfl rfl (Nat.le_of_ble_eq_true rfl) d_M_root_2 ?_
  refine u_if_eq hC 17 d_M_root_5 (by decide) (fun h_5 => ?_) (fun h_5 => absurd rfl h_5)
  refine u_iconst hC (nI 0) d_M_root_17 (by decide) ?_
  exact u_iret hC hr d_M_root_18 (Nat.le_of_ble_eq_true rfl) (Nat.le_of_ble_eq_true rfl) ⟨rfl, rfl⟩
set_option maxHeartbeats 4000000 in
set_option maxRecDepth 100000 in
theorem c_M_placeT {i G0 : Nat} (hg : g = nI G0) (hG : G0 ≤ 4000) (h1 : 1 ≤ i) (h2 : i ≤ G0) : Ct l y_M_place b_M_place 2 (some .int) 1 0 0 D (gk κ, z) (mw κ a g cm st be ro pl ha mo co to sn le) [.ref (a 0), .int (nI i)] (rt (.int (pl i)) (mw κ a g cm st be ro pl ha mo co to sn le)) := by
  refine Ct.of (by decide) (Nat.le_of_ble_eq_true rfl) ?_
  intro p e s0 m below meth c A hC hr hn
  refine u_aload_n hC d_M_place_0 rfl ?_
  refine u_iload_n hC d_M_place_1 rfl ?_
  refine u_callVr hC (c_M_givenT hg hG h1 h2) k_M_63 i_M_isGiven (q0 := 0) rfl rfl ⟨(Nat.le_of_ble_eq_true rfl), (Nat.le_of_ble_eq_true rfl)⟩ ⟨(Nat.le_of_ble_eq_true rfl), (Nat.le_of_ble_eq_true rfl)⟩ rfl rfl (Nat.le_of_ble_eq_true rfl) d_M_place_2 ?_
  refine u_if_eq hC 17 d_M_place_5 (by decide) (fun h_5 => absurd h_5 (by decide)) (fun h_5 => ?_)
  refine u_aload_n hC d_M_place_8 rfl ?_
  refine u_get hC f_M_19 0 rfl rfl d_M_place_9 ?_
  refine u_iload_n hC d_M_place_12 rfl ?_
  refine p_iald hC 4 0 rfl rfl i rfl (by omega) (by decide) d_M_place_13 ?_
  refine u_goto hC 18 d_M_place_14 (by decide) ?_
  exact u_iret hC hr d_M_place_18 (Nat.le_of_ble_eq_true rfl) (Nat.le_of_ble_eq_true rfl) ⟨rfl, rfl⟩
set_option maxHeartbeats 4000000 in
set_option maxRecDepth 100000 in
theorem c_M_placeF {x : Int32} {G0 : Nat} (hg : g = nI G0) (hG : G0 ≤ 4000) (hb : ¬ ∃ i : Nat, 1 ≤ i ∧ i ≤ G0 ∧ x = nI i) : Ct l y_M_place b_M_place 2 (some .int) 1 0 0 D (gk κ, z) (mw κ a g cm st be ro pl ha mo co to sn le) [.ref (a 0), .int x] (rt (.int 0) (mw κ a g cm st be ro pl ha mo co to sn le)) := by
  refine Ct.of (by decide) (Nat.le_of_ble_eq_true rfl) ?_
  intro p e s0 m below meth c A hC hr hn
  refine u_aload_n hC d_M_place_0 rfl ?_
  refine u_iload_n hC d_M_place_1 rfl ?_
  refine u_callVr hC (c_M_givenF hg hG hb) k_M_63 i_M_isGiven (q0 := 0) rfl rfl ⟨(Nat.le_of_ble_eq_true rfl), (Nat.le_of_ble_eq_true rfl)⟩ ⟨(Nat.le_of_ble_eq_true rfl), (Nat.le_of_ble_eq_true rfl)⟩ rfl rfl (Nat.le_of_ble_eq_true rfl) d_M_place_2 ?_
  refine u_if_eq hC 17 d_M_place_5 (by decide) (fun h_5 => ?_) (fun h_5 => absurd rfl h_5)
  refine u_iconst hC (nI 0) d_M_place_17 (by decide) ?_
  exact u_iret hC hr d_M_place_18 (Nat.le_of_ble_eq_true rfl) (Nat.le_of_ble_eq_true rfl) ⟨rfl, rfl⟩
end MA
