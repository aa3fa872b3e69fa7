section MR
variable {l : Launch} {D : va_G} {κ : Nat → ClassId} {z : Nat × Nat} {a : Nat → Nat} {g cm : Int32} {st be ro pl ha mo co to sn le : Nat → Int32}
set_option maxHeartbeats 4000000 in
set_option maxRecDepth 100000 in
theorem c_M_seesF0 {s x1 c1 x2 c2 : Int32} (hb : ¬ ∃ j : Nat, j < 6 ∧ s = nI j ∧ ¬ ha j = 0) : Ct l y_M_sees b_M_sees 6 (some .boolean) 2 0 0 D (gk κ, z) (mw κ a g cm st be ro pl ha mo co to sn le) [.ref (a 0), .int s, .int x1, .int c1, .int x2, .int c2] (rt (.int 0) (mw κ a g cm st be ro pl ha mo co to sn le)) := by
  refine Ct.of (by decide) (Nat.le_of_ble_eq_true rfl) ?_
  intro p e s0 m below meth c A hC hr hn
  refine u_aload_n hC d_M_sees_0 rfl ?_
  refine u_iload_n hC d_M_sees_1 rfl ?_
  refine u_callVr hC (c_M_runsF hb) k_M_45 i_M_runs (q0 := 0) rfl rfl ⟨(Nat.le_of_ble_eq_true rfl), (Nat.le_of_ble_eq_true rfl)⟩ ⟨(Nat.le_of_ble_eq_true rfl), (Nat.le_of_ble_eq_true rfl)⟩ rfl rfl (Nat.le_of_ble_eq_true rfl) d_M_sees_2 ?_
  refine u_if_eq hC 43 d_M_sees_5 (by decide) (fun h_5 => ?_) (fun h_5 => absurd rfl h_5)
  refine u_iconst hC (nI 0) d_M_sees_43 (by decide) ?_
  exact u_zret hC hr rfl d_M_sees_44 (Nat.le_of_ble_eq_true rfl) (Nat.le_of_ble_eq_true rfl) ⟨rfl, rfl⟩
set_option maxHeartbeats 4000000 in
set_option maxRecDepth 100000 in
theorem c_M_seesF1 {j : Nat} {x1 c1 x2 c2 : Int32} (hj : j < 6) (hh : ¬ ha j = 0) (hs : sn j < 0) : Ct l y_M_sees b_M_sees 6 (some .boolean) 2 0 0 D (gk κ, z) (mw κ a g cm st be ro pl ha mo co to sn le) [.ref (a 0), .int (nI j), .int x1, .int c1, .int x2, .int c2] (rt (.int 0) (mw κ a g cm st be ro pl ha mo co to sn le)) := by
  refine Ct.of (by decide) (Nat.le_of_ble_eq_true rfl) ?_
  intro p e s0 m below meth c A hC hr hn
  refine u_aload_n hC d_M_sees_0 rfl ?_
  refine u_iload_n hC d_M_sees_1 rfl ?_
  refine u_callVr hC (c_M_runsT hj hh) k_M_45 i_M_runs (q0 := 0) rfl rfl ⟨(Nat.le_of_ble_eq_true rfl), (Nat.le_of_ble_eq_true rfl)⟩ ⟨(Nat.le_of_ble_eq_true rfl), (Nat.le_of_ble_eq_true rfl)⟩ rfl rfl (Nat.le_of_ble_eq_true rfl) d_M_sees_2 ?_
  refine u_if_eq hC 43 d_M_sees_5 (by decide) (fun h_5 => absurd h_5 (by decide)) (fun h_5 => ?_)
  refine u_aload_n hC d_M_sees_8 rfl ?_
  refine u_get hC f_M_35 0 rfl rfl d_M_sees_9 ?_
  refine u_iload_n hC d_M_sees_12 rfl ?_
  refine p_iald hC 9 0 rfl rfl j rfl hj (by decide) d_M_sees_13 ?_
  refine u_if_lt hC 43 d_M_sees_14 (by decide) (fun h_14 => ?_) (fun h_14 => absurd hs h_14)
  refine u_iconst hC (nI 0) d_M_sees_43 (by decide) ?_
  exact u_zret hC hr rfl d_M_sees_44 (Nat.le_of_ble_eq_true rfl) (Nat.le_of_ble_eq_true rfl) ⟨rfl, rfl⟩
set_option maxHeartbeats 4000000 in
set_option maxRecDepth 100000 in
theorem c_M_seesT {j : Nat} {x1 c1 x2 c2 v1 v2 : Int32} (hj : j < 6) (hh : ¬ ha j = 0) (hs : ¬ sn j < 0) (C1 : Ct l y_M_isSeen b_M_isSeen 4 (some .boolean) 1 0 0 D (gk κ, z) (mw κ a g cm st be ro pl ha mo co to sn le) [.ref (a 0), .int (nI j), .int x1, .int c1] (rt (.int v1) (mw κ a g cm st be ro pl ha mo co to sn le))) (C2 : Ct l y_M_isSeen b_M_isSeen 4 (some .boolean) 1 0 0 D (gk κ, z) (mw κ a g cm st be ro pl ha mo co to sn le) [.ref (a 0), .int (nI j), .int x2, .int c2] (rt (.int v2) (mw κ a g cm st be ro pl ha mo co to sn le))) : Ct l y_M_sees b_M_sees 6 (some .boolean) 2 0 0 D (gk κ, z) (mw κ a g cm st be ro pl ha mo co to sn le) [.ref (a 0), .int (nI j), .int x1, .int c1, .int x2, .int c2] (rt (.int (if v1 = 0 then 0 else if v2 = 0 then 1 else 0)) (mw κ a g cm st be ro pl ha mo co to sn le)) := by
  refine Ct.of (by decide) (Nat.le_of_ble_eq_true rfl) ?_
  intro p e s0 m below meth c A hC hr hn
  refine u_aload_n hC d_M_sees_0 rfl ?_
  refine u_iload_n hC d_M_sees_1 rfl ?_
  refine u_callVr hC (c_M_runsT hj hh) k_M_45 i_M_runs (q0 := 0) rfl rfl ⟨(Nat.le_of_ble_eq_true rfl), (Nat.le_of_ble_eq_true rfl)⟩ ⟨(Nat.le_of_ble_eq_true rfl), (Nat.le_of_ble_eq_true rfl)⟩ rfl rfl (Nat.le_of_ble_eq_true rfl) d_M_sees_2 ?_
  refine u_if_eq hC 43 d_M_sees_5 (by decide) (fun h_5 => absurd h_5 (by decide)) (fun h_5 => ?_)
  refine u_aload_n hC d_M_sees_8 rfl ?_
  refine u_get hC f_M_35 0 rfl rfl d_M_sees_9 ?_
  refine u_iload_n hC d_M_sees_12 rfl ?_
  refine p_iald hC 9 0 rfl rfl j rfl hj (by decide) d_M_sees_13 ?_
  refine u_if_lt hC 43 d_M_sees_14 (by decide) (fun h_14 => absurd h_14 hs) (fun h_14 => ?_)
  refine u_aload_n hC d_M_sees_17 rfl ?_
  refine u_iload_n hC d_M_sees_18 rfl ?_
  refine u_iload_n hC d_M_sees_19 rfl ?_
  refine u_iload_n hC d_M_sees_20 rfl ?_
  refine u_callVr hC (C1) k_M_66 i_M_isSeen (q0 := 0) rfl rfl ⟨(Nat.le_of_ble_eq_true rfl), (Nat.le_of_ble_eq_true rfl)⟩ ⟨(Nat.le_of_ble_eq_true rfl), (Nat.le_of_ble_eq_true rfl)⟩ rfl rfl (Nat.le_of_ble_eq_true rfl) d_M_sees_21 ?_
  refine u_if_eq hC 43 d_M_sees_24 (by decide) (fun h_24 => ?_) (fun h_24 => ?_)
  · refine u_iconst hC (nI 0) d_M_sees_43 (by decide) ?_
    exact u_zret hC hr rfl d_M_sees_44 (Nat.le_of_ble_eq_true rfl) (Nat.le_of_ble_eq_true rfl) ⟨by simp [*, nI], rfl⟩
  · refine u_aload_n hC d_M_sees_27 rfl ?_
    refine u_iload_n hC d_M_sees_28 rfl ?_
    refine u_iload hC d_M_sees_29 rfl ?_
    refine u_iload hC d_M_sees_31 rfl ?_
    refine u_callVr hC (C2) k_M_66 i_M_isSeen (q0 := 0) rfl rfl ⟨(Nat.le_of_ble_eq_true rfl), (Nat.le_of_ble_eq_true rfl)⟩ ⟨(Nat.le_of_ble_eq_true rfl), (Nat.le_of_ble_eq_true rfl)⟩ rfl rfl (Nat.le_of_ble_eq_true rfl) d_M_sees_33 ?_
    refine u_if_ne hC 43 d_M_sees_36 (by decide) (fun h_36 => ?_) (fun h_36 => ?_)
    · refine u_iconst hC (nI 0) d_M_sees_43 (by decide) ?_
      exact u_zret hC hr rfl d_M_sees_44 (Nat.le_of_ble_eq_true rfl) (Nat.le_of_ble_eq_true rfl) ⟨by simp [*, nI], rfl⟩
    · refine u_iconst hC (nI 1) d_M_sees_39 (by decide) ?_
      refine u_goto hC 44 d_M_sees_40 (by decide) ?_
      exact u_zret hC hr rfl d_M_sees_44 (Nat.le_of_ble_eq_true rfl) (Nat.le_of_ble_eq_true rfl) ⟨by simp [*, nI], rfl⟩
set_option maxHeartbeats 4000000 in
set_option maxRecDepth 100000 in
theorem c_M_endingF0 {s x cd : Int32} (hb : ¬ ∃ j : Nat, j < 6 ∧ s = nI j ∧ ¬ ha j = 0) : Ct l y_M_ending b_M_ending 5 (some .int) 2 0 0 D (gk κ, z) (mw κ a g cm st be ro pl ha mo co to sn le) [.ref (a 0), .int s, .int x, .int cd] (rt (.int (-1)) (mw κ a g cm st be ro pl ha mo co to sn le)) := by
  refine Ct.of (by decide) (Nat.le_of_ble_eq_true rfl) ?_
  intro p e s0 m below meth c A hC hr hn
  refine u_aload_n hC d_M_ending_0 rfl ?_
  refine u_iload_n hC d_M_ending_1 rfl ?_
  refine u_callVr hC (c_M_runsF hb) k_M_45 i_M_runs (q0 := 0) rfl rfl ⟨(Nat.le_of_ble_eq_true rfl), (Nat.le_of_ble_eq_true rfl)⟩ ⟨(Nat.le_of_ble_eq_true rfl), (Nat.le_of_ble_eq_true rfl)⟩ rfl rfl (Nat.le_of_ble_eq_true rfl) d_M_ending_2 ?_
  refine u_if_eq hC 17 d_M_ending_5 (by decide) (fun h_5 => ?_) (fun h_5 => absurd rfl h_5)
  refine u_iconst hC (-1) d_M_ending_17 (by decide) ?_
  exact u_iret hC hr d_M_ending_18 (Nat.le_of_ble_eq_true rfl) (Nat.le_of_ble_eq_true rfl) ⟨rfl, rfl⟩
set_option maxHeartbeats 4000000 in
set_option maxRecDepth 100000 in
theorem c_M_endingF1 {j : Nat} {x cd : Int32} (hj : j < 6) (hh : ¬ ha j = 0) (hs : sn j < 0) : Ct l y_M_ending b_M_ending 5 (some .int) 2 0 0 D (gk κ, z) (mw κ a g cm st be ro pl ha mo co to sn le) [.ref (a 0), .int (nI j), .int x, .int cd] (rt (.int (-1)) (mw κ a g cm st be ro pl ha mo co to sn le)) := by
  refine Ct.of (by decide) (Nat.le_of_ble_eq_true rfl) ?_
  intro p e s0 m below meth c A hC hr hn
  refine u_aload_n hC d_M_ending_0 rfl ?_
  refine u_iload_n hC d_M_ending_1 rfl ?_
  refine u_callVr hC (c_M_runsT hj hh) k_M_45 i_M_runs (q0 := 0) rfl rfl ⟨(Nat.le_of_ble_eq_true rfl), (Nat.le_of_ble_eq_true rfl)⟩ ⟨(Nat.le_of_ble_eq_true rfl), (Nat.le_of_ble_eq_true rfl)⟩ rfl rfl (Nat.le_of_ble_eq_true rfl) d_M_ending_2 ?_
  refine u_if_eq hC 17 d_M_ending_5 (by decide) (fun h_5 => absurd h_5 (by decide)) (fun h_5 => ?_)
  refine u_aload_n hC d_M_ending_8 rfl ?_
  refine u_get hC f_M_35 0 rfl rfl d_M_ending_9 ?_
  refine u_iload_n hC d_M_ending_12 rfl ?_
  refine p_iald hC 9 0 rfl rfl j rfl hj (by decide) d_M_ending_13 ?_
  refine u_if_ge hC 19 d_M_ending_14 (by decide) (fun h_14 => absurd h_14 (Int32.not_le.mpr hs)) (fun h_14 => ?_)
  refine u_iconst hC (-1) d_M_ending_17 (by decide) ?_
  exact u_iret hC hr d_M_ending_18 (Nat.le_of_ble_eq_true rfl) (Nat.le_of_ble_eq_true rfl) ⟨rfl, rfl⟩
set_option maxHeartbeats 4000000 in
set_option maxRecDepth 100000 in
theorem c_M_endingN {j G0 : Nat} {x cd : Int32} (hj : j < 6) (hh : ¬ ha j = 0) (hs : ¬ sn j < 0) (hg : g = nI G0) (hG : G0 ≤ 4000) (hx : ¬ ∃ i : Nat, 1 ≤ i ∧ i ≤ G0 ∧ x = nI i) : Ct l y_M_ending b_M_ending 5 (some .int) 2 0 0 D (gk κ, z) (mw κ a g cm st be ro pl ha mo co to sn le) [.ref (a 0), .int (nI j), .int x, .int cd] (rt (.int 0) (mw κ a g cm st be ro pl ha mo co to sn le)) := by
  refine Ct.of (by decide) (Nat.le_of_ble_eq_true rfl) ?_
  intro p e s0 m below meth c A hC hr hn
  refine u_aload_n hC d_M_ending_0 rfl ?_
  refine u_iload_n hC d_M_ending_1 rfl ?_
  refine u_callVr hC (c_M_runsT hj hh) k_M_45 i_M_runs (q0 := 0) rfl rfl ⟨(Nat.le_of_ble_eq_true rfl), (Nat.le_of_ble_eq_true rfl)⟩ ⟨(Nat.le_of_ble_eq_true rfl), (Nat.le_of_ble_eq_true rfl)⟩ rfl rfl (Nat.le_of_ble_eq_true rfl) d_M_ending_2 ?_
  refine u_if_eq hC 17 d_M_ending_5 (by decide) (fun h_5 => absurd h_5 (by decide)) (fun h_5 => ?_)
  refine u_aload_n hC d_M_ending_8 rfl ?_
  refine u_get hC f_M_35 0 rfl rfl d_M_ending_9 ?_
  refine u_iload_n hC d_M_ending_12 rfl ?_
  refine p_iald hC 9 0 rfl rfl j rfl hj (by decide) d_M_ending_13 ?_
  refine u_if_ge hC 19 d_M_ending_14 (by decide) (fun h_14 => ?_) (fun h_14 => absurd (Int32.not_lt.mp hs) h_14)
  refine u_aload_n hC d_M_ending_19 rfl ?_
  refine u_iload_n hC d_M_ending_20 rfl ?_
  refine u_callVr hC (c_M_givenF hg hG hx) k_M_63 i_M_isGiven (q0 := 0) rfl rfl ⟨(Nat.le_of_ble_eq_true rfl), (Nat.le_of_ble_eq_true rfl)⟩ ⟨(Nat.le_of_ble_eq_true rfl), (Nat.le_of_ble_eq_true rfl)⟩ rfl rfl (Nat.le_of_ble_eq_true rfl) d_M_ending_21 ?_
  refine u_if_eq hC 37 d_M_ending_24 (by decide) (fun h_24 => ?_) (fun h_24 => absurd rfl h_24)
  refine u_iconst hC (nI 0) d_M_ending_37 (by decide) ?_
  exact u_iret hC hr d_M_ending_38 (Nat.le_of_ble_eq_true rfl) (Nat.le_of_ble_eq_true rfl) ⟨rfl, rfl⟩
set_option maxHeartbeats 4000000 in
set_option maxRecDepth 100000 in
theorem c_M_endingA {j i G0 : Nat} {cd : Int32} (hj : j < 6) (hh : ¬ ha j = 0) (hs : ¬ sn j < 0) (hg : g = nI G0) (hG : G0 ≤ 4000) (h1 : 1 ≤ i) (h2 : i ≤ G0) (h3 : st i = nI 3) : Ct l y_M_ending b_M_ending 5 (some .int) 2 0 0 D (gk κ, z) (mw κ a g cm st be ro pl ha mo co to sn le) [.ref (a 0), .int (nI j), .int (nI i), .int cd] (rt (.int 0) (mw κ a g cm st be ro pl ha mo co to sn le)) := by
  refine Ct.of (by decide) (Nat.le_of_ble_eq_true rfl) ?_
  intro p e s0 m below meth c A hC hr hn
  refine u_aload_n hC d_M_ending_0 rfl ?_
  refine u_iload_n hC d_M_ending_1 rfl ?_
  refine u_callVr hC (c_M_runsT hj hh) k_M_45 i_M_runs (q0 := 0) rfl rfl ⟨(Nat.le_of_ble_eq_true rfl), (Nat.le_of_ble_eq_true rfl)⟩ ⟨(Nat.le_of_ble_eq_true rfl), (Nat.le_of_ble_eq_true rfl)⟩ rfl rfl (Nat.le_of_ble_eq_true rfl) d_M_ending_2 ?_
  refine u_if_eq hC 17 d_M_ending_5 (by decide) (fun h_5 => absurd h_5 (by decide)) (fun h_5 => ?_)
  refine u_aload_n hC d_M_ending_8 rfl ?_
  refine u_get hC f_M_35 0 rfl rfl d_M_ending_9 ?_
  refine u_iload_n hC d_M_ending_12 rfl ?_
  refine p_iald hC 9 0 rfl rfl j rfl hj (by decide) d_M_ending_13 ?_
  refine u_if_ge hC 19 d_M_ending_14 (by decide) (fun h_14 => ?_) (fun h_14 => absurd (Int32.not_lt.mp hs) h_14)
  refine u_aload_n hC d_M_ending_19 rfl ?_
  refine u_iload_n hC d_M_ending_20 rfl ?_
  refine u_callVr hC (c_M_givenT hg hG h1 h2) k_M_63 i_M_isGiven (q0 := 0) rfl rfl ⟨(Nat.le_of_ble_eq_true rfl), (Nat.le_of_ble_eq_true rfl)⟩ ⟨(Nat.le_of_ble_eq_true rfl), (Nat.le_of_ble_eq_true rfl)⟩ rfl rfl (Nat.le_of_ble_eq_true rfl) d_M_ending_21 ?_
  refine u_if_eq hC 37 d_M_ending_24 (by decide) (fun h_24 => absurd h_24 (by decide)) (fun h_24 => ?_)
  refine u_aload_n hC d_M_ending_27 rfl ?_
  refine u_get hC f_M_7 0 rfl rfl d_M_ending_28 ?_
  refine u_iload_n hC d_M_ending_31 rfl ?_
  refine p_iald hC 1 0 rfl rfl i rfl (by omega) (by decide) d_M_ending_32 ?_
  refine u_iconst hC (nI 3) d_M_ending_33 (by decide) ?_
  refine u_icmp_ne hC 39 d_M_ending_34 (by decide) (fun h_34 => absurd h3 h_34) (fun h_34 => ?_)
  refine u_iconst hC (nI 0) d_M_ending_37 (by decide) ?_
  exact u_iret hC hr d_M_ending_38 (Nat.le_of_ble_eq_true rfl) (Nat.le_of_ble_eq_true rfl) ⟨rfl, rfl⟩
set_option maxHeartbeats 4000000 in
set_option maxRecDepth 100000 in
theorem c_M_endingR {j i G0 : Nat} {cd v : Int32} (hj : j < 6) (hh : ¬ ha j = 0) (hs : ¬ sn j < 0) (hg : g = nI G0) (hG : G0 ≤ 4000) (h1 : 1 ≤ i) (h2 : i ≤ G0) (h3 : st i = nI 1) (C1 : Ct l y_M_isSeen b_M_isSeen 4 (some .boolean) 1 0 0 D (gk κ, z) (mw κ a g cm st be ro pl ha mo co to sn le) [.ref (a 0), .int (nI j), .int (nI i), .int cd] (rt (.int v) (mw κ a g cm st be ro pl ha mo co to sn le))) : Ct l y_M_ending b_M_ending 5 (some .int) 2 0 0 D (gk κ, z) (mw κ a g cm st be ro pl ha mo co to sn le) [.ref (a 0), .int (nI j), .int (nI i), .int cd] (rt (.int (if be i / nI 8 = nI j then (if v = 0 then 2 else 1) else 3)) (mw κ a g cm st be ro pl ha mo co to sn le)) := by
  refine Ct.of (by decide) (Nat.le_of_ble_eq_true rfl) ?_
  intro p e s0 m below meth c A hC hr hn
  refine u_aload_n hC d_M_ending_0 rfl ?_
  refine u_iload_n hC d_M_ending_1 rfl ?_
  refine u_callVr hC (c_M_runsT hj hh) k_M_45 i_M_runs (q0 := 0) rfl rfl ⟨(Nat.le_of_ble_eq_true rfl), (Nat.le_of_ble_eq_true rfl)⟩ ⟨(Nat.le_of_ble_eq_true rfl), (Nat.le_of_ble_eq_true rfl)⟩ rfl rfl (Nat.le_of_ble_eq_true rfl) d_M_ending_2 ?_
  refine u_if_eq hC 17 d_M_ending_5 (by decide) (fun h_5 => absurd h_5 (by decide)) (fun h_5 => ?_)
  refine u_aload_n hC d_M_ending_8 rfl ?_
  refine u_get hC f_M_35 0 rfl rfl d_M_ending_9 ?_
  refine u_iload_n hC d_M_ending_12 rfl ?_
  refine p_iald hC 9 0 rfl rfl j rfl hj (by decide) d_M_ending_13 ?_
  refine u_if_ge hC 19 d_M_ending_14 (by decide) (fun h_14 => ?_) (fun h_14 => absurd (Int32.not_lt.mp hs) h_14)
  refine u_aload_n hC d_M_ending_19 rfl ?_
  refine u_iload_n hC d_M_ending_20 rfl ?_
  refine u_callVr hC (c_M_givenT hg hG h1 h2) k_M_63 i_M_isGiven (q0 := 0) rfl rfl ⟨(Nat.le_of_ble_eq_true rfl), (Nat.le_of_ble_eq_true rfl)⟩ ⟨(Nat.le_of_ble_eq_true rfl), (Nat.le_of_ble_eq_true rfl)⟩ rfl rfl (Nat.le_of_ble_eq_true rfl) d_M_ending_21 ?_
  refine u_if_eq hC 37 d_M_ending_24 (by decide) (fun h_24 => absurd h_24 (by decide)) (fun h_24 => ?_)
  refine u_aload_n hC d_M_ending_27 rfl ?_
  refine u_get hC f_M_7 0 rfl rfl d_M_ending_28 ?_
  refine u_iload_n hC d_M_ending_31 rfl ?_
  refine p_iald hC 1 0 rfl rfl i rfl (by omega) (by decide) d_M_ending_32 ?_
  refine u_iconst hC (nI 3) d_M_ending_33 (by decide) ?_
  refine u_icmp_ne hC 39 d_M_ending_34 (by decide) (fun h_34 => ?_) (fun h_34 => absurd h_34 (by rw [h3]; decide))
  refine u_aload_n hC d_M_ending_39 rfl ?_
  refine u_iload_n hC d_M_ending_40 rfl ?_
  refine u_iload_n hC d_M_ending_41 rfl ?_
  refine u_iload_n hC d_M_ending_42 rfl ?_
  refine u_callVr hC (C1) k_M_66 i_M_isSeen (q0 := 0) rfl rfl ⟨(Nat.le_of_ble_eq_true rfl), (Nat.le_of_ble_eq_true rfl)⟩ ⟨(Nat.le_of_ble_eq_true rfl), (Nat.le_of_ble_eq_true rfl)⟩ rfl rfl (Nat.le_of_ble_eq_true rfl) d_M_ending_43 ?_
  refine u_istore hC d_M_ending_46 (by decide) ?_
  refine u_aload_n hC d_M_ending_48 rfl ?_
  refine u_get hC f_M_7 0 rfl rfl d_M_ending_49 ?_
  refine u_iload_n hC d_M_ending_52 rfl ?_
  refine p_iald hC 1 0 rfl rfl i rfl (by omega) (by decide) d_M_ending_53 ?_
  refine u_iconst hC (nI 1) d_M_ending_54 (by decide) ?_
  refine u_icmp_ne hC 86 d_M_ending_55 (by decide) (fun h_55 => absurd h3 h_55) (fun h_55 => ?_)
  refine u_aload_n hC d_M_ending_58 rfl ?_
  refine u_get hC f_M_13 0 rfl rfl d_M_ending_59 ?_
  refine u_iload_n hC d_M_ending_62 rfl ?_
  refine p_iald hC 2 0 rfl rfl i rfl (by omega) (by decide) d_M_ending_63 ?_
  refine u_bipush hC (nI 8) d_M_ending_64 (by decide) ?_
  refine u_idiv hC d_M_ending_66 (by decide) ?_
  refine u_iload_n hC d_M_ending_67 rfl ?_
  refine u_icmp_eq hC 75 d_M_ending_68 (by decide) (fun h_68 => ?_) (fun h_68 => ?_)
  · refine u_iload hC d_M_ending_75 rfl ?_
    refine u_if_eq hC 84 d_M_ending_77 (by decide) (fun h_77 => ?_) (fun h_77 => ?_)
    · refine u_iconst hC (nI 2) d_M_ending_84 (by decide) ?_
      exact u_iret hC hr d_M_ending_85 (Nat.le_of_ble_eq_true rfl) (Nat.le_of_ble_eq_true rfl) ⟨by first | (rw [if_pos h_68, if_pos h_77]; rfl) | (rw [if_pos h_68, if_neg h_77]; rfl) | (rw [if_neg h_68]; rfl), rfl⟩
    · refine u_iconst hC (nI 1) d_M_ending_80 (by decide) ?_
      refine u_goto hC 85 d_M_ending_81 (by decide) ?_
      exact u_iret hC hr d_M_ending_85 (Nat.le_of_ble_eq_true rfl) (Nat.le_of_ble_eq_true rfl) ⟨by first | (rw [if_pos h_68, if_pos h_77]; rfl) | (rw [if_pos h_68, if_neg h_77]; rfl) | (rw [if_neg h_68]; rfl), rfl⟩
  · refine u_iconst hC (nI 3) d_M_ending_71 (by decide) ?_
    refine u_goto hC 85 d_M_ending_72 (by decide) ?_
    exact u_iret hC hr d_M_ending_85 (Nat.le_of_ble_eq_true rfl) (Nat.le_of_ble_eq_true rfl) ⟨by first | (rw [if_pos h_68, if_pos h_77]; rfl) | (rw [if_pos h_68, if_neg h_77]; rfl) | (rw [if_neg h_68]; rfl), rfl⟩
set_option maxHeartbeats 4000000 in
set_option maxRecDepth 100000 in
theorem c_M_endingC {j i G0 : Nat} {cd v : Int32} (hj : j < 6) (hh : ¬ ha j = 0) (hs : ¬ sn j < 0) (hg : g = nI G0) (hG : G0 ≤ 4000) (h1 : 1 ≤ i) (h2 : i ≤ G0) (h3 : ¬ st i = nI 3) (h4 : ¬ st i = nI 1) (C1 : Ct l y_M_isSeen b_M_isSeen 4 (some .boolean) 1 0 0 D (gk κ, z) (mw κ a g cm st be ro pl ha mo co to sn le) [.ref (a 0), .int (nI j), .int (nI i), .int cd] (rt (.int v) (mw κ a g cm st be ro pl ha mo co to sn le))) : Ct l y_M_ending b_M_ending 5 (some .int) 2 0 0 D (gk κ, z) (mw κ a g cm st be ro pl ha mo co to sn le) [.ref (a 0), .int (nI j), .int (nI i), .int cd] (rt (.int (if v = 0 then 5 else 4)) (mw κ a g cm st be ro pl ha mo co to sn le)) := by
  refine Ct.of (by decide) (Nat.le_of_ble_eq_true rfl) ?_
  intro p e s0 m below meth c A hC hr hn
  refine u_aload_n hC d_M_ending_0 rfl ?_
  refine u_iload_n hC d_M_ending_1 rfl ?_
  refine u_callVr hC (c_M_runsT hj hh) k_M_45 i_M_runs (q0 := 0) rfl rfl ⟨(Nat.le_of_ble_eq_true rfl), (Nat.le_of_ble_eq_true rfl)⟩ ⟨(Nat.le_of_ble_eq_true rfl), (Nat.le_of_ble_eq_true rfl)⟩ rfl rfl (Nat.le_of_ble_eq_true rfl) d_M_ending_2 ?_
  refine u_if_eq hC 17 d_M_ending_5 (by decide) (fun h_5 => absurd h_5 (by decide)) (fun h_5 => ?_)
  refine u_aload_n hC d_M_ending_8 rfl ?_
  refine u_get hC f_M_35 0 rfl rfl d_M_ending_9 ?_
  refine u_iload_n hC d_M_ending_12 rfl ?_
  refine p_iald hC 9 0 rfl rfl j rfl hj (by decide) d_M_ending_13 ?_
  refine u_if_ge hC 19 d_M_ending_14 (by decide) (fun h_14 => ?_) (fun h_14 => absurd (Int32.not_lt.mp hs) h_14)
  refine u_aload_n hC d_M_ending_19 rfl ?_
  refine u_iload_n hC d_M_ending_20 rfl ?_
  refine u_callVr hC (c_M_givenT hg hG h1 h2) k_M_63 i_M_isGiven (q0 := 0) rfl rfl ⟨(Nat.le_of_ble_eq_true rfl), (Nat.le_of_ble_eq_true rfl)⟩ ⟨(Nat.le_of_ble_eq_true rfl), (Nat.le_of_ble_eq_true rfl)⟩ rfl rfl (Nat.le_of_ble_eq_true rfl) d_M_ending_21 ?_
  refine u_if_eq hC 37 d_M_ending_24 (by decide) (fun h_24 => absurd h_24 (by decide)) (fun h_24 => ?_)
  refine u_aload_n hC d_M_ending_27 rfl ?_
  refine u_get hC f_M_7 0 rfl rfl d_M_ending_28 ?_
  refine u_iload_n hC d_M_ending_31 rfl ?_
  refine p_iald hC 1 0 rfl rfl i rfl (by omega) (by decide) d_M_ending_32 ?_
  refine u_iconst hC (nI 3) d_M_ending_33 (by decide) ?_
  refine u_icmp_ne hC 39 d_M_ending_34 (by decide) (fun h_34 => ?_) (fun h_34 => absurd h_34 h3)
  refine u_aload_n hC d_M_ending_39 rfl ?_
  refine u_iload_n hC d_M_ending_40 rfl ?_
  refine u_iload_n hC d_M_ending_41 rfl ?_
  refine u_iload_n hC d_M_ending_42 rfl ?_
  refine u_callVr hC (C1) k_M_66 i_M_isSeen (q0 := 0) rfl rfl ⟨(Nat.le_of_ble_eq_true rfl), (Nat.le_of_ble_eq_true rfl)⟩ ⟨(Nat.le_of_ble_eq_true rfl), (Nat.le_of_ble_eq_true rfl)⟩ rfl rfl (Nat.le_of_ble_eq_true rfl) d_M_ending_43 ?_
  refine u_istore hC d_M_ending_46 (by decide) ?_
  refine u_aload_n hC d_M_ending_48 rfl ?_
  refine u_get hC f_M_7 0 rfl rfl d_M_ending_49 ?_
  refine u_iload_n hC d_M_ending_52 rfl ?_
  refine p_iald hC 1 0 rfl rfl i rfl (by omega) (by decide) d_M_ending_53 ?_
  refine u_iconst hC (nI 1) d_M_ending_54 (by decide) ?_
  refine u_icmp_ne hC 86 d_M_ending_55 (by decide) (fun h_55 => ?_) (fun h_55 => absurd h_55 h4)
  refine u_iload hC d_M_ending_86 rfl ?_
  refine u_if_eq hC 95 d_M_ending_88 (by decide) (fun h_88 => ?_) (fun h_88 => ?_)
  · refine u_iconst hC (nI 5) d_M_ending_95 (by decide) ?_
    exact u_iret hC hr d_M_ending_96 (Nat.le_of_ble_eq_true rfl) (Nat.le_of_ble_eq_true rfl) ⟨by simp [*, nI], rfl⟩
  · refine u_iconst hC (nI 4) d_M_ending_91 (by decide) ?_
    refine u_goto hC 96 d_M_ending_92 (by decide) ?_
    exact u_iret hC hr d_M_ending_96 (Nat.le_of_ble_eq_true rfl) (Nat.le_of_ble_eq_true rfl) ⟨by simp [*, nI], rfl⟩
set_option maxHeartbeats 4000000 in
set_option maxRecDepth 100000 in
theorem c_M_look5 {s : Int32} : Ct l y_M_look b_M_look 3 (some .int) 1 0 0 D (gk κ, z) (mw κ a g cm st be ro pl ha mo co to sn le) [.ref (a 0), .int s, .int (nI 5)] (rt (.int g) (mw κ a g cm st be ro pl ha mo co to sn le)) := by
  refine Ct.of (by decide) (Nat.le_of_ble_eq_true rfl) ?_
  intro p e s0 m below meth c A hC hr hn
  refine u_iload_n hC d_M_look_0 rfl ?_
  refine u_iconst hC (nI 5) d_M_look_1 (by decide) ?_
  refine u_icmp_eq hC 11 d_M_look_2 (by decide) (fun h_2 => ?_) (fun h_2 => absurd rfl h_2)
  refine u_iload_n hC d_M_look_11 rfl ?_
  refine u_iconst hC (nI 5) d_M_look_12 (by decide) ?_
  refine u_icmp_ne hC 23 d_M_look_13 (by decide) (fun h_13 => absurd rfl h_13) (fun h_13 => ?_)
  refine u_aload_n hC d_M_look_16 rfl ?_
  refine u_get hC f_M_41 0 rfl rfl d_M_look_17 ?_
  refine u_goto hC 27 d_M_look_20 (by decide) ?_
  exact u_iret hC hr d_M_look_27 (Nat.le_of_ble_eq_true rfl) (Nat.le_of_ble_eq_true rfl) ⟨rfl, rfl⟩
set_option maxHeartbeats 4000000 in
set_option maxRecDepth 100000 in
theorem c_M_look6 {s : Int32} : Ct l y_M_look b_M_look 3 (some .int) 1 0 0 D (gk κ, z) (mw κ a g cm st be ro pl ha mo co to sn le) [.ref (a 0), .int s, .int (nI 6)] (rt (.int cm) (mw κ a g cm st be ro pl ha mo co to sn le)) := by
  refine Ct.of (by decide) (Nat.le_of_ble_eq_true rfl) ?_
  intro p e s0 m below meth c A hC hr hn
  refine u_iload_n hC d_M_look_0 rfl ?_
  refine u_iconst hC (nI 5) d_M_look_1 (by decide) ?_
  refine u_icmp_eq hC 11 d_M_look_2 (by decide) (fun h_2 => absurd h_2 (by decide)) (fun h_2 => ?_)
  refine u_iload_n hC d_M_look_5 rfl ?_
  refine u_bipush hC (nI 6) d_M_look_6 (by decide) ?_
  refine u_icmp_ne hC 28 d_M_look_8 (by decide) (fun h_8 => absurd rfl h_8) (fun h_8 => ?_)
  refine u_iload_n hC d_M_look_11 rfl ?_
  refine u_iconst hC (nI 5) d_M_look_12 (by decide) ?_
  refine u_icmp_ne hC 23 d_M_look_13 (by decide) (fun h_13 => ?_) (fun h_13 => absurd h_13 (by decide))
  refine u_aload_n hC d_M_look_23 rfl ?_
  refine u_get hC f_M_49 0 rfl rfl d_M_look_24 ?_
  exact u_iret hC hr d_M_look_27 (Nat.le_of_ble_eq_true rfl) (Nat.le_of_ble_eq_true rfl) ⟨rfl, rfl⟩
set_option maxHeartbeats 4000000 in
set_option maxRecDepth 100000 in
theorem c_M_lookF0 {s x : Int32} (hb : ¬ ∃ j : Nat, j < 6 ∧ s = nI j ∧ ¬ ha j = 0) (h5 : ¬ x = nI 5) (h6 : ¬ x = nI 6) : Ct l y_M_look b_M_look 3 (some .int) 1 0 0 D (gk κ, z) (mw κ a g cm st be ro pl ha mo co to sn le) [.ref (a 0), .int s, .int x] (rt (.int (-1)) (mw κ a g cm st be ro pl ha mo co to sn le)) := by
  refine Ct.of (by decide) (Nat.le_of_ble_eq_true rfl) ?_
  intro p e s0 m below meth c A hC hr hn
  refine u_iload_n hC d_M_look_0 rfl ?_
  refine u_iconst hC (nI 5) d_M_look_1 (by decide) ?_
  refine u_icmp_eq hC 11 d_M_look_2 (by decide) (fun h_2 => absurd h_2 h5) (fun h_2 => ?_)
  refine u_iload_n hC d_M_look_5 rfl ?_
  refine u_bipush hC (nI 6) d_M_look_6 (by decide) ?_
  refine u_icmp_ne hC 28 d_M_look_8 (by decide) (fun h_8 => ?_) (fun h_8 => absurd h_8 h6)
  refine u_aload_n hC d_M_look_28 rfl ?_
  refine u_iload_n hC d_M_look_29 rfl ?_
  refine u_callVr hC (c_M_runsF hb) k_M_45 i_M_runs (q0 := 0) rfl rfl ⟨(Nat.le_of_ble_eq_true rfl), (Nat.le_of_ble_eq_true rfl)⟩ ⟨(Nat.le_of_ble_eq_true rfl), (Nat.le_of_ble_eq_true rfl)⟩ rfl rfl (Nat.le_of_ble_eq_true rfl) d_M_look_30 ?_
  refine u_if_eq hC 45 d_M_look_33 (by decide) (fun h_33 => ?_) (fun h_33 => absurd rfl h_33)
  refine u_iconst hC (-1) d_M_look_45 (by decide) ?_
  exact u_iret hC hr d_M_look_46 (Nat.le_of_ble_eq_true rfl) (Nat.le_of_ble_eq_true rfl) ⟨rfl, rfl⟩
set_option maxHeartbeats 4000000 in
set_option maxRecDepth 100000 in
theorem c_M_lookF1 {j : Nat} {x : Int32} (hj : j < 6) (hh : ¬ ha j = 0) (h5 : ¬ x = nI 5) (h6 : ¬ x = nI 6) (hx : ¬ ∃ i : Nat, i ≤ 4 ∧ x = nI i) : Ct l y_M_look b_M_look 3 (some .int) 1 0 0 D (gk κ, z) (mw κ a g cm st be ro pl ha mo co to sn le) [.ref (a 0), .int (nI j), .int x] (rt (.int (-1)) (mw κ a g cm st be ro pl ha mo co to sn le)) := by
  refine Ct.of (by decide) (Nat.le_of_ble_eq_true rfl) ?_
  intro p e s0 m below meth c A hC hr hn
  refine u_iload_n hC d_M_look_0 rfl ?_
  refine u_iconst hC (nI 5) d_M_look_1 (by decide) ?_
  refine u_icmp_eq hC 11 d_M_look_2 (by decide) (fun h_2 => absurd h_2 h5) (fun h_2 => ?_)
  refine u_iload_n hC d_M_look_5 rfl ?_
  refine u_bipush hC (nI 6) d_M_look_6 (by decide) ?_
  refine u_icmp_ne hC 28 d_M_look_8 (by decide) (fun h_8 => ?_) (fun h_8 => absurd h_8 h6)
  refine u_aload_n hC d_M_look_28 rfl ?_
  refine u_iload_n hC d_M_look_29 rfl ?_
  refine u_callVr hC (c_M_runsT hj hh) k_M_45 i_M_runs (q0 := 0) rfl rfl ⟨(Nat.le_of_ble_eq_true rfl), (Nat.le_of_ble_eq_true rfl)⟩ ⟨(Nat.le_of_ble_eq_true rfl), (Nat.le_of_ble_eq_true rfl)⟩ rfl rfl (Nat.le_of_ble_eq_true rfl) d_M_look_30 ?_
  refine u_if_eq hC 45 d_M_look_33 (by decide) (fun h_33 => absurd h_33 (by decide)) (fun h_33 => ?_)
  refine u_iload_n hC d_M_look_36 rfl ?_
  refine u_if_lt hC 45 d_M_look_37 (by decide) (fun h_37 => ?_) (fun h_37 => ?_)
  · refine u_iconst hC (-1) d_M_look_45 (by decide) ?_
    exact u_iret hC hr d_M_look_46 (Nat.le_of_ble_eq_true rfl) (Nat.le_of_ble_eq_true rfl) ⟨rfl, rfl⟩
  · refine u_iload_n hC d_M_look_40 rfl ?_
    refine u_iconst hC (nI 4) d_M_look_41 (by decide) ?_
    refine u_icmp_le hC 47 d_M_look_42 (by decide) (fun h_42 => ?_) (fun h_42 => ?_)
    · exact absurd (n_rngl (by decide) h_37 h_42) hx
    · refine u_iconst hC (-1) d_M_look_45 (by decide) ?_
      exact u_iret hC hr d_M_look_46 (Nat.le_of_ble_eq_true rfl) (Nat.le_of_ble_eq_true rfl) ⟨rfl, rfl⟩
set_option maxHeartbeats 4000000 in
set_option maxRecDepth 100000 in
theorem c_M_look0 {j t : Nat} (hj : j < 6) (hh : ¬ ha j = 0) (ht : to j = nI t) (ht7 : t ≤ 7) : Ct l y_M_look b_M_look 3 (some .int) 1 0 0 D (gk κ, z) (mw κ a g cm st be ro pl ha mo co to sn le) [.ref (a 0), .int (nI j), .int (nI 0)] (rt (.int (mo j)) (mw κ a g cm st be ro pl ha mo co to sn le)) := by
  refine Ct.of (by decide) (Nat.le_of_ble_eq_true rfl) ?_
  intro p e s0 m below meth c A hC hr hn
  refine u_iload_n hC d_M_look_0 rfl ?_
  refine u_iconst hC (nI 5) d_M_look_1 (by decide) ?_
  refine u_icmp_eq hC 11 d_M_look_2 (by decide) (fun h_2 => absurd h_2 (by decide)) (fun h_2 => ?_)
  refine u_iload_n hC d_M_look_5 rfl ?_
  refine u_bipush hC (nI 6) d_M_look_6 (by decide) ?_
  refine u_icmp_ne hC 28 d_M_look_8 (by decide) (fun h_8 => ?_) (fun h_8 => absurd h_8 (by decide))
  refine u_aload_n hC d_M_look_28 rfl ?_
  refine u_iload_n hC d_M_look_29 rfl ?_
  refine u_callVr hC (c_M_runsT hj hh) k_M_45 i_M_runs (q0 := 0) rfl rfl ⟨(Nat.le_of_ble_eq_true rfl), (Nat.le_of_ble_eq_true rfl)⟩ ⟨(Nat.le_of_ble_eq_true rfl), (Nat.le_of_ble_eq_true rfl)⟩ rfl rfl (Nat.le_of_ble_eq_true rfl) d_M_look_30 ?_
  refine u_if_eq hC 45 d_M_look_33 (by decide) (fun h_33 => absurd h_33 (by decide)) (fun h_33 => ?_)
  refine u_iload_n hC d_M_look_36 rfl ?_
  refine u_if_lt hC 45 d_M_look_37 (by decide) (fun h_37 => absurd h_37 (by decide)) (fun h_37 => ?_)
  refine u_iload_n hC d_M_look_40 rfl ?_
  refine u_iconst hC (nI 4) d_M_look_41 (by decide) ?_
  refine u_icmp_le hC 47 d_M_look_42 (by decide) (fun h_42 => ?_) (fun h_42 => absurd (by decide) h_42)
  refine u_iload_n hC d_M_look_47 rfl ?_
  refine u_if_ne hC 60 d_M_look_48 (by decide) (fun h_48 => absurd rfl h_48) (fun h_48 => ?_)
  refine u_aload_n hC d_M_look_51 rfl ?_
  refine u_get hC f_M_26 0 rfl rfl d_M_look_52 ?_
  refine u_iload_n hC d_M_look_55 rfl ?_
  refine p_iald hC 6 0 rfl rfl j rfl hj (by decide) d_M_look_56 ?_
  refine u_goto hC 118 d_M_look_57 (by decide) ?_
  exact u_iret hC hr d_M_look_118 (Nat.le_of_ble_eq_true rfl) (Nat.le_of_ble_eq_true rfl) ⟨rfl, rfl⟩
set_option maxHeartbeats 4000000 in
set_option maxRecDepth 100000 in
theorem c_M_look1 {j t : Nat} (hj : j < 6) (hh : ¬ ha j = 0) (ht : to j = nI t) (ht7 : t ≤ 7) : Ct l y_M_look b_M_look 3 (some .int) 1 0 0 D (gk κ, z) (mw κ a g cm st be ro pl ha mo co to sn le) [.ref (a 0), .int (nI j), .int (nI 1)] (rt (.int (co j)) (mw κ a g cm st be ro pl ha mo co to sn le)) := by
  refine Ct.of (by decide) (Nat.le_of_ble_eq_true rfl) ?_
  intro p e s0 m below meth c A hC hr hn
  refine u_iload_n hC d_M_look_0 rfl ?_
  refine u_iconst hC (nI 5) d_M_look_1 (by decide) ?_
  refine u_icmp_eq hC 11 d_M_look_2 (by decide) (fun h_2 => absurd h_2 (by decide)) (fun h_2 => ?_)
  refine u_iload_n hC d_M_look_5 rfl ?_
  refine u_bipush hC (nI 6) d_M_look_6 (by decide) ?_
  refine u_icmp_ne hC 28 d_M_look_8 (by decide) (fun h_8 => ?_) (fun h_8 => absurd h_8 (by decide))
  refine u_aload_n hC d_M_look_28 rfl ?_
  refine u_iload_n hC d_M_look_29 rfl ?_
  refine u_callVr hC (c_M_runsT hj hh) k_M_45 i_M_runs (q0 := 0) rfl rfl ⟨(Nat.le_of_ble_eq_true rfl), (Nat.le_of_ble_eq_true rfl)⟩ ⟨(Nat.le_of_ble_eq_true rfl), (Nat.le_of_ble_eq_true rfl)⟩ rfl rfl (Nat.le_of_ble_eq_true rfl) d_M_look_30 ?_
  refine u_if_eq hC 45 d_M_look_33 (by decide) (fun h_33 => absurd h_33 (by decide)) (fun h_33 => ?_)
  refine u_iload_n hC d_M_look_36 rfl ?_
  refine u_if_lt hC 45 d_M_look_37 (by decide) (fun h_37 => absurd h_37 (by decide)) (fun h_37 => ?_)
  refine u_iload_n hC d_M_look_40 rfl ?_
  refine u_iconst hC (nI 4) d_M_look_41 (by decide) ?_
  refine u_icmp_le hC 47 d_M_look_42 (by decide) (fun h_42 => ?_) (fun h_42 => absurd (by decide) h_42)
  refine u_iload_n hC d_M_look_47 rfl ?_
  refine u_if_ne hC 60 d_M_look_48 (by decide) (fun h_48 => ?_) (fun h_48 => absurd h_48 (by decide))
  refine u_iload_n hC d_M_look_60 rfl ?_
  refine u_iconst hC (nI 1) d_M_look_61 (by decide) ?_
  refine u_icmp_ne hC 74 d_M_look_62 (by decide) (fun h_62 => absurd rfl h_62) (fun h_62 => ?_)
  refine u_aload_n hC d_M_look_65 rfl ?_
  refine u_get hC f_M_29 0 rfl rfl d_M_look_66 ?_
  refine u_iload_n hC d_M_look_69 rfl ?_
  refine p_iald hC 7 0 rfl rfl j rfl hj (by decide) d_M_look_70 ?_
  refine u_goto hC 118 d_M_look_71 (by decide) ?_
  exact u_iret hC hr d_M_look_118 (Nat.le_of_ble_eq_true rfl) (Nat.le_of_ble_eq_true rfl) ⟨rfl, rfl⟩
set_option maxHeartbeats 4000000 in
set_option maxRecDepth 100000 in
theorem c_M_look2 {j t : Nat} (hj : j < 6) (hh : ¬ ha j = 0) (ht : to j = nI t) (ht7 : t ≤ 7) : Ct l y_M_look b_M_look 3 (some .int) 1 0 0 D (gk κ, z) (mw κ a g cm st be ro pl ha mo co to sn le) [.ref (a 0), .int (nI j), .int (nI 2)] (rt (.int (to j)) (mw κ a g cm st be ro pl ha mo co to sn le)) := by
  refine Ct.of (by decide) (Nat.le_of_ble_eq_true rfl) ?_
  intro p e s0 m below meth c A hC hr hn
  refine u_iload_n hC d_M_look_0 rfl ?_
  refine u_iconst hC (nI 5) d_M_look_1 (by decide) ?_
  refine u_icmp_eq hC 11 d_M_look_2 (by decide) (fun h_2 => absurd h_2 (by decide)) (fun h_2 => ?_)
  refine u_iload_n hC d_M_look_5 rfl ?_
  refine u_bipush hC (nI 6) d_M_look_6 (by decide) ?_
  refine u_icmp_ne hC 28 d_M_look_8 (by decide) (fun h_8 => ?_) (fun h_8 => absurd h_8 (by decide))
  refine u_aload_n hC d_M_look_28 rfl ?_
  refine u_iload_n hC d_M_look_29 rfl ?_
  refine u_callVr hC (c_M_runsT hj hh) k_M_45 i_M_runs (q0 := 0) rfl rfl ⟨(Nat.le_of_ble_eq_true rfl), (Nat.le_of_ble_eq_true rfl)⟩ ⟨(Nat.le_of_ble_eq_true rfl), (Nat.le_of_ble_eq_true rfl)⟩ rfl rfl (Nat.le_of_ble_eq_true rfl) d_M_look_30 ?_
  refine u_if_eq hC 45 d_M_look_33 (by decide) (fun h_33 => absurd h_33 (by decide)) (fun h_33 => ?_)
  refine u_iload_n hC d_M_look_36 rfl ?_
  refine u_if_lt hC 45 d_M_look_37 (by decide) (fun h_37 => absurd h_37 (by decide)) (fun h_37 => ?_)
  refine u_iload_n hC d_M_look_40 rfl ?_
  refine u_iconst hC (nI 4) d_M_look_41 (by decide) ?_
  refine u_icmp_le hC 47 d_M_look_42 (by decide) (fun h_42 => ?_) (fun h_42 => absurd (by decide) h_42)
  refine u_iload_n hC d_M_look_47 rfl ?_
  refine u_if_ne hC 60 d_M_look_48 (by decide) (fun h_48 => ?_) (fun h_48 => absurd h_48 (by decide))
  refine u_iload_n hC d_M_look_60 rfl ?_
  refine u_iconst hC (nI 1) d_M_look_61 (by decide) ?_
  refine u_icmp_ne hC 74 d_M_look_62 (by decide) (fun h_62 => ?_) (fun h_62 => absurd h_62 (by decide))
  refine u_iload_n hC d_M_look_74 rfl ?_
  refine u_iconst hC (nI 2) d_M_look_75 (by decide) ?_
  refine u_icmp_ne hC 88 d_M_look_76 (by decide) (fun h_76 => absurd rfl h_76) (fun h_76 => ?_)
  refine u_aload_n hC d_M_look_79 rfl ?_
  refine u_get hC f_M_32 0 rfl rfl d_M_look_80 ?_
  refine u_iload_n hC d_M_look_83 rfl ?_
  refine p_iald hC 8 0 rfl rfl j rfl hj (by decide) d_M_look_84 ?_
  refine u_goto hC 118 d_M_look_85 (by decide) ?_
  exact u_iret hC hr d_M_look_118 (Nat.le_of_ble_eq_true rfl) (Nat.le_of_ble_eq_true rfl) ⟨rfl, rfl⟩
set_option maxHeartbeats 4000000 in
set_option maxRecDepth 100000 in
theorem c_M_look3 {j t : Nat} (hj : j < 6) (hh : ¬ ha j = 0) (ht : to j = nI t) (ht7 : t ≤ 7) : Ct l y_M_look b_M_look 3 (some .int) 1 0 0 D (gk κ, z) (mw κ a g cm st be ro pl ha mo co to sn le) [.ref (a 0), .int (nI j), .int (nI 3)] (rt (.int (le (8 * j + t))) (mw κ a g cm st be ro pl ha mo co to sn le)) := by
  refine Ct.of (by decide) (Nat.le_of_ble_eq_true rfl) ?_
  intro p e s0 m below meth c A hC hr hn
  refine u_iload_n hC d_M_look_0 rfl ?_
  refine u_iconst hC (nI 5) d_M_look_1 (by decide) ?_
  refine u_icmp_eq hC 11 d_M_look_2 (by decide) (fun h_2 => absurd h_2 (by decide)) (fun h_2 => ?_)
  refine u_iload_n hC d_M_look_5 rfl ?_
  refine u_bipush hC (nI 6) d_M_look_6 (by decide) ?_
  refine u_icmp_ne hC 28 d_M_look_8 (by decide) (fun h_8 => ?_) (fun h_8 => absurd h_8 (by decide))
  refine u_aload_n hC d_M_look_28 rfl ?_
  refine u_iload_n hC d_M_look_29 rfl ?_
  refine u_callVr hC (c_M_runsT hj hh) k_M_45 i_M_runs (q0 := 0) rfl rfl ⟨(Nat.le_of_ble_eq_true rfl), (Nat.le_of_ble_eq_true rfl)⟩ ⟨(Nat.le_of_ble_eq_true rfl), (Nat.le_of_ble_eq_true rfl)⟩ rfl rfl (Nat.le_of_ble_eq_true rfl) d_M_look_30 ?_
  refine u_if_eq hC 45 d_M_look_33 (by decide) (fun h_33 => absurd h_33 (by decide)) (fun h_33 => ?_)
  refine u_iload_n hC d_M_look_36 rfl ?_
  refine u_if_lt hC 45 d_M_look_37 (by decide) (fun h_37 => absurd h_37 (by decide)) (fun h_37 => ?_)
  refine u_iload_n hC d_M_look_40 rfl ?_
  refine u_iconst hC (nI 4) d_M_look_41 (by decide) ?_
  refine u_icmp_le hC 47 d_M_look_42 (by decide) (fun h_42 => ?_) (fun h_42 => absurd (by decide) h_42)
  refine u_iload_n hC d_M_look_47 rfl ?_
  refine u_if_ne hC 60 d_M_look_48 (by decide) (fun h_48 => ?_) (fun h_48 => absurd h_48 (by decide))
  refine u_iload_n hC d_M_look_60 rfl ?_
  refine u_iconst hC (nI 1) d_M_look_61 (by decide) ?_
  refine u_icmp_ne hC 74 d_M_look_62 (by decide) (fun h_62 => ?_) (fun h_62 => absurd h_62 (by decide))
  refine u_iload_n hC d_M_look_74 rfl ?_
  refine u_iconst hC (nI 2) d_M_look_75 (by decide) ?_
  refine u_icmp_ne hC 88 d_M_look_76 (by decide) (fun h_76 => ?_) (fun h_76 => absurd h_76 (by decide))
  refine u_iload_n hC d_M_look_88 rfl ?_
  refine u_iconst hC (nI 3) d_M_look_89 (by decide) ?_
  refine u_icmp_ne hC 112 d_M_look_90 (by decide) (fun h_90 => absurd rfl h_90) (fun h_90 => ?_)
  refine u_aload_n hC d_M_look_93 rfl ?_
  refine u_get hC f_M_38 0 rfl rfl d_M_look_94 ?_
  refine u_bipush hC (nI 8) d_M_look_97 (by decide) ?_
  refine u_iload_n hC d_M_look_99 rfl ?_
  refine u_imul hC d_M_look_100 ?_
  refine u_aload_n hC d_M_look_101 rfl ?_
  refine u_get hC f_M_32 0 rfl rfl d_M_look_102 ?_
  refine u_iload_n hC d_M_look_105 rfl ?_
  refine p_iald hC 8 0 rfl rfl j rfl hj (by decide) d_M_look_106 ?_
  refine u_iadd hC d_M_look_107 ?_
  refine p_iald hC 10 0 rfl rfl (8 * j + t) (by rw [ht, n_8]) (by omega) (by decide) d_M_look_108 ?_
  refine u_goto hC 118 d_M_look_109 (by decide) ?_
  exact u_iret hC hr d_M_look_118 (Nat.le_of_ble_eq_true rfl) (Nat.le_of_ble_eq_true rfl) ⟨rfl, rfl⟩
set_option maxHeartbeats 4000000 in
set_option maxRecDepth 100000 in
theorem c_M_look4 {j t : Nat} (hj : j < 6) (hh : ¬ ha j = 0) (ht : to j = nI t) (ht7 : t ≤ 7) : Ct l y_M_look b_M_look 3 (some .int) 1 0 0 D (gk κ, z) (mw κ a g cm st be ro pl ha mo co to sn le) [.ref (a 0), .int (nI j), .int (nI 4)] (rt (.int (sn j)) (mw κ a g cm st be ro pl ha mo co to sn le)) := by
  refine Ct.of (by decide) (Nat.le_of_ble_eq_true rfl) ?_
  intro p e s0 m below meth c A hC hr hn
  refine u_iload_n hC d_M_look_0 rfl ?_
  refine u_iconst hC (nI 5) d_M_look_1 (by decide) ?_
  refine u_icmp_eq hC 11 d_M_look_2 (by decide) (fun h_2 => absurd h_2 (by decide)) (fun h_2 => ?_)
  refine u_iload_n hC d_M_look_5 rfl ?_
  refine u_bipush hC (nI 6) d_M_look_6 (by decide) ?_
  refine u_icmp_ne hC 28 d_M_look_8 (by decide) (fun h_8 => ?_) (fun h_8 => absurd h_8 (by decide))
  refine u_aload_n hC d_M_look_28 rfl ?_
  refine u_iload_n hC d_M_look_29 rfl ?_
  refine u_callVr hC (c_M_runsT hj hh) k_M_45 i_M_runs (q0 := 0) rfl rfl ⟨(Nat.le_of_ble_eq_true rfl), (Nat.le_of_ble_eq_true rfl)⟩ ⟨(Nat.le_of_ble_eq_true rfl), (Nat.le_of_ble_eq_true rfl)⟩ rfl rfl (Nat.le_of_ble_eq_true rfl) d_M_look_30 ?_
  refine u_if_eq hC 45 d_M_look_33 (by decide) (fun h_33 => absurd h_33 (by decide)) (fun h_33 => ?_)
  refine u_iload_n hC d_M_look_36 rfl ?_
  refine u_if_lt hC 45 d_M_look_37 (by decide) (fun h_37 => absurd h_37 (by decide)) (fun h_37 => ?_)
  refine u_iload_n hC d_M_look_40 rfl ?_
  refine u_iconst hC (nI 4) d_M_look_41 (by decide) ?_
  refine u_icmp_le hC 47 d_M_look_42 (by decide) (fun h_42 => ?_) (fun h_42 => absurd (by decide) h_42)
  refine u_iload_n hC d_M_look_47 rfl ?_
  refine u_if_ne hC 60 d_M_look_48 (by decide) (fun h_48 => ?_) (fun h_48 => absurd h_48 (by decide))
  refine u_iload_n hC d_M_look_60 rfl ?_
  refine u_iconst hC (nI 1) d_M_look_61 (by decide) ?_
  refine u_icmp_ne hC 74 d_M_look_62 (by decide) (fun h_62 => ?_) (fun h_62 => absurd h_62 (by decide))
  refine u_iload_n hC d_M_look_74 rfl ?_
  refine u_iconst hC (nI 2) d_M_look_75 (by decide) ?_
  refine u_icmp_ne hC 88 d_M_look_76 (by decide) (fun h_76 => ?_) (fun h_76 => absurd h_76 (by decide))
  refine u_iload_n hC d_M_look_88 rfl ?_
  refine u_iconst hC (nI 3) d_M_look_89 (by decide) ?_
  refine u_icmp_ne hC 112 d_M_look_90 (by decide) (fun h_90 => ?_) (fun h_90 => absurd h_90 (by decide))
  refine u_aload_n hC d_M_look_112 rfl ?_
  refine u_get hC f_M_35 0 rfl rfl d_M_look_113 ?_
  refine u_iload_n hC d_M_look_116 rfl ?_
  refine p_iald hC 9 0 rfl rfl j rfl hj (by decide) d_M_look_117 ?_
  exact u_iret hC hr d_M_look_118 (Nat.le_of_ble_eq_true rfl) (Nat.le_of_ble_eq_true rfl) ⟨rfl, rfl⟩
end MR
