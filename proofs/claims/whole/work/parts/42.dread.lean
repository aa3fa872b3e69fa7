theorem n_out4 {x : Int32} (hx : ¬ ∃ i : Nat, i ≤ 4 ∧ x = nI i) : x.toInt < 0 ∨ 4 < x.toInt := by
  by_cases h : x < 0
  · rw [Int32.lt_iff_toInt_lt, Int32.toInt_zero] at h
    exact Or.inl h
  · obtain ⟨j, hj, rfl⟩ := nI_of h
    rw [nI_toInt hj]
    right
    have : ¬ j ≤ 4 := fun w => hx ⟨j, w, rfl⟩
    omega
section DR
variable {l : Launch} {D : va_G} {κ : Nat → ClassId} {z : Nat × Nat} {ws : va_W} {h0 hs hl cap : Nat} {cm : Int32} {tr : Nat → Option Nat} {na : Nat → Nat} {mo to co sn : Nat → Int32} {nb : Nat → Nat → Int32} {n : Nat} {el : Nat → Nat} {ro lv cd pl : Nat → Int32}
set_option maxHeartbeats 4000000 in
set_option maxRecDepth 100000 in
theorem c_D_isT {j : Nat} (hj : j < 6) : Ct l y_D_isSession b_D_isSession 1 (some .boolean) 0 0 0 D (gk κ, z) ws [.int (nI j)] (rt (.int 1) ws) := by
  refine Ct.of (by decide) (Nat.le_of_ble_eq_true rfl) ?_
  intro p e s0 m below meth c A hC hr hn
  refine u_iload_n hC d_D_isSession_0 rfl ?_
  refine u_if_lt hC 14 d_D_isSession_1 (by decide) (fun h_1 => absurd h_1 (nI_pos (by omega))) (fun h_1 => ?_)
  refine u_iload_n hC d_D_isSession_4 rfl ?_
  refine u_bipush hC (nI 6) d_D_isSession_5 (by decide) ?_
  refine u_icmp_ge hC 14 d_D_isSession_7 (by decide) (fun h_7 => absurd h_7 (nI_ge hj (by decide))) (fun h_7 => ?_)
  refine u_iconst hC (nI 1) d_D_isSession_10 (by decide) ?_
  refine u_goto hC 15 d_D_isSession_11 (by decide) ?_
  exact u_zret hC hr rfl d_D_isSession_15 (Nat.le_of_ble_eq_true rfl) (Nat.le_of_ble_eq_true rfl) ⟨rfl, rfl⟩
set_option maxHeartbeats 4000000 in
set_option maxRecDepth 100000 in
theorem c_D_isF {s : Int32} (hb : ¬ ∃ j : Nat, j < 6 ∧ s = nI j) : Ct l y_D_isSession b_D_isSession 1 (some .boolean) 0 0 0 D (gk κ, z) ws [.int s] (rt (.int 0) ws) := by
  refine Ct.of (by decide) (Nat.le_of_ble_eq_true rfl) ?_
  intro p e s0 m below meth c A hC hr hn
  refine u_iload_n hC d_D_isSession_0 rfl ?_
  refine u_if_lt hC 14 d_D_isSession_1 (by decide) (fun h_1 => ?_) (fun h_1 => ?_)
  · refine u_iconst hC (nI 0) d_D_isSession_14 (by decide) ?_
    exact u_zret hC hr rfl d_D_isSession_15 (Nat.le_of_ble_eq_true rfl) (Nat.le_of_ble_eq_true rfl) ⟨rfl, rfl⟩
  · refine u_iload_n hC d_D_isSession_4 rfl ?_
    refine u_bipush hC (nI 6) d_D_isSession_5 (by decide) ?_
    refine u_icmp_ge hC 14 d_D_isSession_7 (by decide) (fun h_7 => ?_) (fun h_7 => ?_)
    · refine u_iconst hC (nI 0) d_D_isSession_14 (by decide) ?_
      exact u_zret hC hr rfl d_D_isSession_15 (Nat.le_of_ble_eq_true rfl) (Nat.le_of_ble_eq_true rfl) ⟨rfl, rfl⟩
    · exact absurd (n_rng0 (by decide) h_1 h_7) hb
set_option maxHeartbeats 4000000 in
set_option maxRecDepth 100000 in
theorem c_D_trT {j t : Nat} (hK : Dk κ z ws h0 hs hl cap cm tr na mo to co sn nb n el ro lv cd pl) (hj : j < 6) (ht : tr j = some t) : Ct l y_D_transactionOf b_D_transactionOf 2 (some (.object "SnapshotDesk$Transaction")) 1 0 0 D (gk κ, z) ws [.ref h0, .int (nI j)] (rt (.ref t) ws) := by
  refine Ct.of (by decide) (Nat.le_of_ble_eq_true rfl) ?_
  intro p e s0 m below meth c A hC hr hn
  obtain ⟨hO, hS9, hLs, hTr, hTi, hNi, hGs, hGi⟩ := id hK
  obtain ⟨mc9, he9, hL, hL2⟩ := id hLs
  refine u_iload_n hC d_D_transactionOf_0 rfl ?_
  refine u_callSr hC (c_D_isT hj) k_D_26 s_D_isSession ⟨(Nat.le_of_ble_eq_true rfl), (Nat.le_of_ble_eq_true rfl)⟩ ⟨(Nat.le_of_ble_eq_true rfl), (Nat.le_of_ble_eq_true rfl)⟩ rfl rfl (Nat.le_of_ble_eq_true rfl) d_D_transactionOf_1 ?_
  refine u_if_eq hC 16 d_D_transactionOf_4 (by decide) (fun h_4 => absurd h_4 (by decide)) (fun h_4 => ?_)
  refine u_aload_n hC d_D_transactionOf_7 rfl ?_
  refine w_get hC f_D_11 hO rfl d_D_transactionOf_8 ?_
  refine u_iload_n hC d_D_transactionOf_11 rfl ?_
  refine w_aldq hC 2 hS9 rfl j rfl hj (by decide) d_D_transactionOf_12 ?_
  rw [ht]
  refine u_goto hC 17 d_D_transactionOf_13 (by decide) ?_
  exact u_aret hC hr (Or.inl ⟨_, rfl⟩) (Or.inr ⟨_, rfl⟩) d_D_transactionOf_17 (Nat.le_of_ble_eq_true rfl) (Nat.le_of_ble_eq_true rfl) ⟨rfl, rfl⟩
set_option maxHeartbeats 4000000 in
set_option maxRecDepth 100000 in
theorem c_D_trN {j : Nat} (hK : Dk κ z ws h0 hs hl cap cm tr na mo to co sn nb n el ro lv cd pl) (hj : j < 6) (ht : tr j = none) : Ct l y_D_transactionOf b_D_transactionOf 2 (some (.object "SnapshotDesk$Transaction")) 1 0 0 D (gk κ, z) ws [.ref h0, .int (nI j)] (rt .null ws) := by
  refine Ct.of (by decide) (Nat.le_of_ble_eq_true rfl) ?_
  intro p e s0 m below meth c A hC hr hn
  obtain ⟨hO, hS9, hLs, hTr, hTi, hNi, hGs, hGi⟩ := id hK
  obtain ⟨mc9, he9, hL, hL2⟩ := id hLs
  refine u_iload_n hC d_D_transactionOf_0 rfl ?_
  refine u_callSr hC (c_D_isT hj) k_D_26 s_D_isSession ⟨(Nat.le_of_ble_eq_true rfl), (Nat.le_of_ble_eq_true rfl)⟩ ⟨(Nat.le_of_ble_eq_true rfl), (Nat.le_of_ble_eq_true rfl)⟩ rfl rfl (Nat.le_of_ble_eq_true rfl) d_D_transactionOf_1 ?_
  refine u_if_eq hC 16 d_D_transactionOf_4 (by decide) (fun h_4 => absurd h_4 (by decide)) (fun h_4 => ?_)
  refine u_aload_n hC d_D_transactionOf_7 rfl ?_
  refine w_get hC f_D_11 hO rfl d_D_transactionOf_8 ?_
  refine u_iload_n hC d_D_transactionOf_11 rfl ?_
  refine w_aldq hC 2 hS9 rfl j rfl hj (by decide) d_D_transactionOf_12 ?_
  rw [ht]
  refine u_goto hC 17 d_D_transactionOf_13 (by decide) ?_
  exact u_aret hC hr (Or.inl ⟨_, rfl⟩) (Or.inl rfl) d_D_transactionOf_17 (Nat.le_of_ble_eq_true rfl) (Nat.le_of_ble_eq_true rfl) ⟨rfl, rfl⟩
set_option maxHeartbeats 4000000 in
set_option maxRecDepth 100000 in
theorem c_D_trB {s : Int32} (hb : ¬ ∃ j : Nat, j < 6 ∧ s = nI j) : Ct l y_D_transactionOf b_D_transactionOf 2 (some (.object "SnapshotDesk$Transaction")) 1 0 0 D (gk κ, z) ws [.ref h0, .int s] (rt .null ws) := by
  refine Ct.of (by decide) (Nat.le_of_ble_eq_true rfl) ?_
  intro p e s0 m below meth c A hC hr hn
  refine u_iload_n hC d_D_transactionOf_0 rfl ?_
  refine u_callSr hC (c_D_isF hb) k_D_26 s_D_isSession ⟨(Nat.le_of_ble_eq_true rfl), (Nat.le_of_ble_eq_true rfl)⟩ ⟨(Nat.le_of_ble_eq_true rfl), (Nat.le_of_ble_eq_true rfl)⟩ rfl rfl (Nat.le_of_ble_eq_true rfl) d_D_transactionOf_1 ?_
  refine u_if_eq hC 16 d_D_transactionOf_4 (by decide) (fun h_4 => ?_) (fun h_4 => absurd rfl h_4)
  refine u_null hC d_D_transactionOf_16 ?_
  exact u_aret hC hr (Or.inl ⟨_, rfl⟩) (Or.inl rfl) d_D_transactionOf_17 (Nat.le_of_ble_eq_true rfl) (Nat.le_of_ble_eq_true rfl) ⟨rfl, rfl⟩
theorem c_D_trF {s : Int32} (hK : Dk κ z ws h0 hs hl cap cm tr na mo to co sn nb n el ro lv cd pl) (hb : ¬ ∃ j t : Nat, j < 6 ∧ s = nI j ∧ tr j = some t) : Ct l y_D_transactionOf b_D_transactionOf 2 (some (.object "SnapshotDesk$Transaction")) 1 0 0 D (gk κ, z) ws [.ref h0, .int s] (rt .null ws) := by
  by_cases h : ∃ j : Nat, j < 6 ∧ s = nI j
  · obtain ⟨j, hj, rfl⟩ := h
    cases ht : tr j with
    | none => exact c_D_trN hK hj ht
    | some t => exact absurd ⟨j, t, hj, rfl, ht⟩ hb
  · exact c_D_trB h
set_option maxHeartbeats 4000000 in
set_option maxRecDepth 100000 in
theorem c_D_findT {i : Nat} (hK : Dk κ z ws h0 hs hl cap cm tr na mo to co sn nb n el ro lv cd pl) (hn4 : n ≤ 4000) (hcap : cap ≤ 10000) (h1 : 1 ≤ i) (h2 : i ≤ n) : Ct l y_D_find b_D_find 2 (some (.object "SnapshotDesk$Given")) 3 0 0 D (gk κ, z) ws [.ref h0, .int (nI i)] (rt (.ref (el (i - 1))) ws) := by
  refine Ct.of (by decide) (Nat.le_of_ble_eq_true rfl) ?_
  intro p e s0 m below meth c A hC hr hn
  obtain ⟨hO, hS9, hLs, hTr, hTi, hNi, hGs, hGi⟩ := id hK
  obtain ⟨mc9, he9, hL, hL2⟩ := id hLs
  refine u_iload_n hC d_D_find_0 rfl ?_
  refine u_iconst hC (nI 1) d_D_find_1 (by decide) ?_
  refine u_icmp_lt hC 32 d_D_find_2 (by decide) (fun h_2 => absurd h_2 (nI_nlt h1 (by omega))) (fun h_2 => ?_)
  refine u_iload_n hC d_D_find_5 rfl ?_
  refine u_aload_n hC d_D_find_6 rfl ?_
  refine w_get hC f_D_18 hO rfl d_D_find_7 ?_
  refine w_callVr hC (c_L_size hL) k_D_54 i_L_size hL rfl ⟨(Nat.le_of_ble_eq_true rfl), (Nat.le_of_ble_eq_true rfl)⟩ ⟨(Nat.le_of_ble_eq_true rfl), (Nat.le_of_ble_eq_true rfl)⟩ rfl rfl (Nat.le_of_ble_eq_true rfl) d_D_find_10 ?_
  refine u_icmp_gt hC 32 d_D_find_13 (by decide) (fun h_13 => absurd h_13 (nI_nlt h2 (by omega))) (fun h_13 => ?_)
  refine u_aload_n hC d_D_find_16 rfl ?_
  refine w_get hC f_D_18 hO rfl d_D_find_17 ?_
  refine u_iload_n hC d_D_find_20 rfl ?_
  refine u_iconst hC (nI 1) d_D_find_21 (by decide) ?_
  refine u_isub hC d_D_find_22 ?_
  refine u_val (n_pred h1) ?_
  refine w_callVr hC (c_L_get hLs hcap (by omega)) k_D_72 i_L_get hL rfl ⟨(Nat.le_of_ble_eq_true rfl), (Nat.le_of_ble_eq_true rfl)⟩ ⟨(Nat.le_of_ble_eq_true rfl), (Nat.le_of_ble_eq_true rfl)⟩ rfl rfl (Nat.le_of_ble_eq_true rfl) d_D_find_23 ?_
  refine w_cast hC rfl l_D_76 (hGs (i - 1) (by omega)) d_D_find_26 ?_
  refine u_goto hC 33 d_D_find_29 (by decide) ?_
  exact u_aret hC hr (Or.inl ⟨_, rfl⟩) (Or.inr ⟨_, rfl⟩) d_D_find_33 (Nat.le_of_ble_eq_true rfl) (Nat.le_of_ble_eq_true rfl) ⟨rfl, rfl⟩
set_option maxHeartbeats 4000000 in
set_option maxRecDepth 100000 in
theorem c_D_findF {x : Int32} (hK : Dk κ z ws h0 hs hl cap cm tr na mo to co sn nb n el ro lv cd pl) (hn4 : n ≤ 4000) (hcap : cap ≤ 10000) (hx : ¬ ∃ i : Nat, 1 ≤ i ∧ i ≤ n ∧ x = nI i) : Ct l y_D_find b_D_find 2 (some (.object "SnapshotDesk$Given")) 3 0 0 D (gk κ, z) ws [.ref h0, .int x] (rt .null ws) := by
  refine Ct.of (by decide) (Nat.le_of_ble_eq_true rfl) ?_
  intro p e s0 m below meth c A hC hr hn
  obtain ⟨hO, hS9, hLs, hTr, hTi, hNi, hGs, hGi⟩ := id hK
  obtain ⟨mc9, he9, hL, hL2⟩ := id hLs
  refine u_iload_n hC d_D_find_0 rfl ?_
  refine u_iconst hC (nI 1) d_D_find_1 (by decide) ?_
  refine u_icmp_lt hC 32 d_D_find_2 (by decide) (fun h_2 => ?_) (fun h_2 => ?_)
  · refine u_null hC d_D_find_32 ?_
    exact u_aret hC hr (Or.inl ⟨_, rfl⟩) (Or.inl rfl) d_D_find_33 (Nat.le_of_ble_eq_true rfl) (Nat.le_of_ble_eq_true rfl) ⟨rfl, rfl⟩
  · refine u_iload_n hC d_D_find_5 rfl ?_
    refine u_aload_n hC d_D_find_6 rfl ?_
    refine w_get hC f_D_18 hO rfl d_D_find_7 ?_
    refine w_callVr hC (c_L_size hL) k_D_54 i_L_size hL rfl ⟨(Nat.le_of_ble_eq_true rfl), (Nat.le_of_ble_eq_true rfl)⟩ ⟨(Nat.le_of_ble_eq_true rfl), (Nat.le_of_ble_eq_true rfl)⟩ rfl rfl (Nat.le_of_ble_eq_true rfl) d_D_find_10 ?_
    refine u_icmp_gt hC 32 d_D_find_13 (by decide) (fun h_13 => ?_) (fun h_13 => ?_)
    · refine u_null hC d_D_find_32 ?_
      exact u_aret hC hr (Or.inl ⟨_, rfl⟩) (Or.inl rfl) d_D_find_33 (Nat.le_of_ble_eq_true rfl) (Nat.le_of_ble_eq_true rfl) ⟨rfl, rfl⟩
    · exact absurd (n_rng (by omega) (by decide) h_2 h_13) hx
set_option maxHeartbeats 4000000 in
set_option maxRecDepth 100000 in
theorem c_D_stateT {i : Nat} (hK : Dk κ z ws h0 hs hl cap cm tr na mo to co sn nb n el ro lv cd pl) (hn4 : n ≤ 4000) (hcap : cap ≤ 10000) (h1 : 1 ≤ i) (h2 : i ≤ n) : Ct l y_D_state b_D_state 3 (some .int) 4 0 0 D (gk κ, z) ws [.ref h0, .int (nI i)] (rt (.int (cd (i - 1))) ws) := by
  refine Ct.of (by decide) (Nat.le_of_ble_eq_true rfl) ?_
  intro p e s0 m below meth c A hC hr hn
  obtain ⟨hO, hS9, hLs, hTr, hTi, hNi, hGs, hGi⟩ := id hK
  obtain ⟨mc9, he9, hL, hL2⟩ := id hLs
  refine u_aload_n hC d_D_state_0 rfl ?_
  refine u_iload_n hC d_D_state_1 rfl ?_
  refine w_callVr hC (c_D_findT hK hn4 hcap h1 h2) k_D_98 i_D_find hO rfl ⟨(Nat.le_of_ble_eq_true rfl), (Nat.le_of_ble_eq_true rfl)⟩ ⟨(Nat.le_of_ble_eq_true rfl), (Nat.le_of_ble_eq_true rfl)⟩ rfl rfl (Nat.le_of_ble_eq_true rfl) d_D_state_2 ?_
  refine u_astore_n hC d_D_state_5 (by decide) ?_
  refine u_aload_n hC d_D_state_6 rfl ?_
  refine u_ifnonnull hC 14 d_D_state_7 (by decide) ?_
  refine u_aload_n hC d_D_state_14 rfl ?_
  refine w_get hC f_D_102 (hGs (i - 1) (by omega)) rfl d_D_state_15 ?_
  exact u_iret hC hr d_D_state_18 (Nat.le_of_ble_eq_true rfl) (Nat.le_of_ble_eq_true rfl) ⟨rfl, rfl⟩
set_option maxHeartbeats 4000000 in
set_option maxRecDepth 100000 in
theorem c_D_stateF {x : Int32} (hK : Dk κ z ws h0 hs hl cap cm tr na mo to co sn nb n el ro lv cd pl) (hn4 : n ≤ 4000) (hcap : cap ≤ 10000) (hx : ¬ ∃ i : Nat, 1 ≤ i ∧ i ≤ n ∧ x = nI i) : Ct l y_D_state b_D_state 3 (some .int) 4 0 0 D (gk κ, z) ws [.ref h0, .int x] (rt (.int 0) ws) := by
  refine Ct.of (by decide) (Nat.le_of_ble_eq_true rfl) ?_
  intro p e s0 m below meth c A hC hr hn
  obtain ⟨hO, hS9, hLs, hTr, hTi, hNi, hGs, hGi⟩ := id hK
  obtain ⟨mc9, he9, hL, hL2⟩ := id hLs
  refine u_aload_n hC d_D_state_0 rfl ?_
  refine u_iload_n hC d_D_state_1 rfl ?_
  refine w_callVr hC (c_D_findF hK hn4 hcap hx) k_D_98 i_D_find hO rfl ⟨(Nat.le_of_ble_eq_true rfl), (Nat.le_of_ble_eq_true rfl)⟩ ⟨(Nat.le_of_ble_eq_true rfl), (Nat.le_of_ble_eq_true rfl)⟩ rfl rfl (Nat.le_of_ble_eq_true rfl) d_D_state_2 ?_
  refine u_astore_nN hC d_D_state_5 (by decide) ?_
  refine u_aload_nN hC d_D_state_6 rfl ?_
  refine u_ifnonnullN hC d_D_state_7 ?_
  refine u_iconst hC (nI 0) d_D_state_10 (by decide) ?_
  refine u_goto hC 18 d_D_state_11 (by decide) ?_
  exact u_iret hC hr d_D_state_18 (Nat.le_of_ble_eq_true rfl) (Nat.le_of_ble_eq_true rfl) ⟨rfl, rfl⟩
set_option maxHeartbeats 4000000 in
set_option maxRecDepth 100000 in
theorem c_D_rootT {i : Nat} (hK : Dk κ z ws h0 hs hl cap cm tr na mo to co sn nb n el ro lv cd pl) (hn4 : n ≤ 4000) (hcap : cap ≤ 10000) (h1 : 1 ≤ i) (h2 : i ≤ n) : Ct l y_D_root b_D_root 3 (some .int) 4 0 0 D (gk κ, z) ws [.ref h0, .int (nI i)] (rt (.int (ro (i - 1))) ws) := by
  refine Ct.of (by decide) (Nat.le_of_ble_eq_true rfl) ?_
  intro p e s0 m below meth c A hC hr hn
  obtain ⟨hO, hS9, hLs, hTr, hTi, hNi, hGs, hGi⟩ := id hK
  obtain ⟨mc9, he9, hL, hL2⟩ := id hLs
  refine u_aload_n hC d_D_root_0 rfl ?_
  refine u_iload_n hC d_D_root_1 rfl ?_
  refine w_callVr hC (c_D_findT hK hn4 hcap h1 h2) k_D_98 i_D_find hO rfl ⟨(Nat.le_of_ble_eq_true rfl), (Nat.le_of_ble_eq_true rfl)⟩ ⟨(Nat.le_of_ble_eq_true rfl), (Nat.le_of_ble_eq_true rfl)⟩ rfl rfl (Nat.le_of_ble_eq_true rfl) d_D_root_2 ?_
  refine u_astore_n hC d_D_root_5 (by decide) ?_
  refine u_aload_n hC d_D_root_6 rfl ?_
  refine u_ifnonnull hC 14 d_D_root_7 (by decide) ?_
  refine u_aload_n hC d_D_root_14 rfl ?_
  refine w_get hC f_D_105 (hGs (i - 1) (by omega)) rfl d_D_root_15 ?_
  exact u_iret hC hr d_D_root_18 (Nat.le_of_ble_eq_true rfl) (Nat.le_of_ble_eq_true rfl) ⟨rfl, rfl⟩
set_option maxHeartbeats 4000000 in
set_option maxRecDepth 100000 in
theorem c_D_rootF {x : Int32} (hK : Dk κ z ws h0 hs hl cap cm tr na mo to co sn nb n el ro lv cd pl) (hn4 : n ≤ 4000) (hcap : cap ≤ 10000) (hx : ¬ ∃ i : Nat, 1 ≤ i ∧ i ≤ n ∧ x = nI i) : Ct l y_D_root b_D_root 3 (some .int) 4 0 0 D (gk κ, z) ws [.ref h0, .int x] (rt (.int 0) ws) := by
  refine Ct.of (by decide) (Nat.le_of_ble_eq_true rfl) ?_
  intro p e s0 m below meth c A hC hr hn
  obtain ⟨hO, hS9, hLs, hTr, hTi, hNi, hGs, hGi⟩ := id hK
  obtain ⟨mc9, he9, hL, hL2⟩ := id hLs
  refine u_aload_n hC d_D_root_0 rfl ?_
  refine u_iload_n hC d_D_root_1 rfl ?_
  refine w_callVr hC (c_D_findF hK hn4 hcap hx) k_D_98 i_D_find hO rfl ⟨(Nat.le_of_ble_eq_true rfl), (Nat.le_of_ble_eq_true rfl)⟩ ⟨(Nat.le_of_ble_eq_true rfl), (Nat.le_of_ble_eq_true rfl)⟩ rfl rfl (Nat.le_of_ble_eq_true rfl) d_D_root_2 ?_
  refine u_astore_nN hC d_D_root_5 (by decide) ?_
  refine u_aload_nN hC d_D_root_6 rfl ?_
  refine u_ifnonnullN hC d_D_root_7 ?_
  refine u_iconst hC (nI 0) d_D_root_10 (by decide) ?_
  refine u_goto hC 18 d_D_root_11 (by decide) ?_
  exact u_iret hC hr d_D_root_18 (Nat.le_of_ble_eq_true rfl) (Nat.le_of_ble_eq_true rfl) ⟨rfl, rfl⟩
set_option maxHeartbeats 4000000 in
set_option maxRecDepth 100000 in
theorem c_D_placeT {i : Nat} (hK : Dk κ z ws h0 hs hl cap cm tr na mo to co sn nb n el ro lv cd pl) (hn4 : n ≤ 4000) (hcap : cap ≤ 10000) (h1 : 1 ≤ i) (h2 : i ≤ n) : Ct l y_D_place b_D_place 3 (some .int) 4 0 0 D (gk κ, z) ws [.ref h0, .int (nI i)] (rt (.int (pl (i - 1))) ws) := by
  refine Ct.of (by decide) (Nat.le_of_ble_eq_true rfl) ?_
  intro p e s0 m below meth c A hC hr hn
  obtain ⟨hO, hS9, hLs, hTr, hTi, hNi, hGs, hGi⟩ := id hK
  obtain ⟨mc9, he9, hL, hL2⟩ := id hLs
  refine u_aload_n hC d_D_place_0 rfl ?_
  refine u_iload_n hC d_D_place_1 rfl ?_
  refine w_callVr hC (c_D_findT hK hn4 hcap h1 h2) k_D_98 i_D_find hO rfl ⟨(Nat.le_of_ble_eq_true rfl), (Nat.le_of_ble_eq_true rfl)⟩ ⟨(Nat.le_of_ble_eq_true rfl), (Nat.le_of_ble_eq_true rfl)⟩ rfl rfl (Nat.le_of_ble_eq_true rfl) d_D_place_2 ?_
  refine u_astore_n hC d_D_place_5 (by decide) ?_
  refine u_aload_n hC d_D_place_6 rfl ?_
  refine u_ifnonnull hC 14 d_D_place_7 (by decide) ?_
  refine u_aload_n hC d_D_place_14 rfl ?_
  refine w_get hC f_D_108 (hGs (i - 1) (by omega)) rfl d_D_place_15 ?_
  exact u_iret hC hr d_D_place_18 (Nat.le_of_ble_eq_true rfl) (Nat.le_of_ble_eq_true rfl) ⟨rfl, rfl⟩
set_option maxHeartbeats 4000000 in
set_option maxRecDepth 100000 in
theorem c_D_placeF {x : Int32} (hK : Dk κ z ws h0 hs hl cap cm tr na mo to co sn nb n el ro lv cd pl) (hn4 : n ≤ 4000) (hcap : cap ≤ 10000) (hx : ¬ ∃ i : Nat, 1 ≤ i ∧ i ≤ n ∧ x = nI i) : Ct l y_D_place b_D_place 3 (some .int) 4 0 0 D (gk κ, z) ws [.ref h0, .int x] (rt (.int 0) ws) := by
  refine Ct.of (by decide) (Nat.le_of_ble_eq_true rfl) ?_
  intro p e s0 m below meth c A hC hr hn
  obtain ⟨hO, hS9, hLs, hTr, hTi, hNi, hGs, hGi⟩ := id hK
  obtain ⟨mc9, he9, hL, hL2⟩ := id hLs
  refine u_aload_n hC d_D_place_0 rfl ?_
  refine u_iload_n hC d_D_place_1 rfl ?_
  refine w_callVr hC (c_D_findF hK hn4 hcap hx) k_D_98 i_D_find hO rfl ⟨(Nat.le_of_ble_eq_true rfl), (Nat.le_of_ble_eq_true rfl)⟩ ⟨(Nat.le_of_ble_eq_true rfl), (Nat.le_of_ble_eq_true rfl)⟩ rfl rfl (Nat.le_of_ble_eq_true rfl) d_D_place_2 ?_
  refine u_astore_nN hC d_D_place_5 (by decide) ?_
  refine u_aload_nN hC d_D_place_6 rfl ?_
  refine u_ifnonnullN hC d_D_place_7 ?_
  refine u_iconst hC (nI 0) d_D_place_10 (by decide) ?_
  refine u_goto hC 18 d_D_place_11 (by decide) ?_
  exact u_iret hC hr d_D_place_18 (Nat.le_of_ble_eq_true rfl) (Nat.le_of_ble_eq_true rfl) ⟨rfl, rfl⟩
set_option maxHeartbeats 4000000 in
set_option maxRecDepth 100000 in
theorem c_D_sdN {t : Nat} {x : Int32} : Ct l y_D_seesDeed b_D_seesDeed 3 (some .boolean) 1 0 0 D (gk κ, z) ws [.ref t, .null, .int x] (rt (.int 0) ws) := by
  refine Ct.of (by decide) (Nat.le_of_ble_eq_true rfl) ?_
  intro p e s0 m below meth c A hC hr hn
  refine u_aload_nN hC d_D_seesDeed_0 rfl ?_
  refine u_ifnullN hC 12 d_D_seesDeed_1 (by decide) ?_
  refine u_iconst hC (nI 0) d_D_seesDeed_12 (by decide) ?_
  exact u_zret hC hr rfl d_D_seesDeed_13 (Nat.le_of_ble_eq_true rfl) (Nat.le_of_ble_eq_true rfl) ⟨rfl, rfl⟩
set_option maxHeartbeats 4000000 in
set_option maxRecDepth 100000 in
theorem c_D_sdA {t na0 : Nat} {md tp c0 s0 : Int32} {nb0 : Nat → Int32} (hT : wg ws t = some (cT md na0 tp c0 s0)) (hN : wg ws na0 = some (aI κ 8 nb0)) {q : Nat} {r0 l0 d0 p0 : Int32} (hG : wg ws q = some (cG r0 l0 d0 p0)) {x : Int32} (hd : d0 = nI 3) : Ct l y_D_seesDeed b_D_seesDeed 3 (some .boolean) 1 0 0 D (gk κ, z) ws [.ref t, .ref q, .int x] (rt (.int 0) ws) := by
  refine Ct.of (by decide) (Nat.le_of_ble_eq_true rfl) ?_
  intro p e s0 m below meth c A hC hr hn
  refine u_aload_n hC d_D_seesDeed_0 rfl ?_
  refine u_ifnull hC d_D_seesDeed_1 ?_
  refine u_aload_n hC d_D_seesDeed_4 rfl ?_
  refine w_get hC f_D_102 hG rfl d_D_seesDeed_5 ?_
  refine u_iconst hC (nI 3) d_D_seesDeed_8 (by decide) ?_
  refine u_icmp_ne hC 14 d_D_seesDeed_9 (by decide) (fun h_9 => absurd hd h_9) (fun h_9 => ?_)
  refine u_iconst hC (nI 0) d_D_seesDeed_12 (by decide) ?_
  exact u_zret hC hr rfl d_D_seesDeed_13 (Nat.le_of_ble_eq_true rfl) (Nat.le_of_ble_eq_true rfl) ⟨rfl, rfl⟩
set_option maxHeartbeats 4000000 in
set_option maxRecDepth 100000 in
theorem c_D_sdO {t na0 : Nat} {md tp c0 s0 : Int32} {nb0 : Nat → Int32} (hT : wg ws t = some (cT md na0 tp c0 s0)) (hN : wg ws na0 = some (aI κ 8 nb0)) {q : Nat} {r0 l0 d0 p0 : Int32} (hG : wg ws q = some (cG r0 l0 d0 p0)) {x : Int32} (hd : ¬ d0 = nI 3) (ho : r0 = nb0 0) : Ct l y_D_seesDeed b_D_seesDeed 3 (some .boolean) 1 0 0 D (gk κ, z) ws [.ref t, .ref q, .int x] (rt (.int (if x < c0 then 1 else 0)) ws) := by
  refine Ct.of (by decide) (Nat.le_of_ble_eq_true rfl) ?_
  intro p e s0 m below meth c A hC hr hn
  refine u_aload_n hC d_D_seesDeed_0 rfl ?_
  refine u_ifnull hC d_D_seesDeed_1 ?_
  refine u_aload_n hC d_D_seesDeed_4 rfl ?_
  refine w_get hC f_D_102 hG rfl d_D_seesDeed_5 ?_
  refine u_iconst hC (nI 3) d_D_seesDeed_8 (by decide) ?_
  refine u_icmp_ne hC 14 d_D_seesDeed_9 (by decide) (fun h_9 => ?_) (fun h_9 => absurd h_9 hd)
  refine u_aload_n hC d_D_seesDeed_14 rfl ?_
  refine u_aload_n hC d_D_seesDeed_15 rfl ?_
  refine w_callVr hC (c_T_ownsT hT hN hG ho) k_D_78 i_T_owns hT rfl ⟨(Nat.le_of_ble_eq_true rfl), (Nat.le_of_ble_eq_true rfl)⟩ ⟨(Nat.le_of_ble_eq_true rfl), (Nat.le_of_ble_eq_true rfl)⟩ rfl rfl (Nat.le_of_ble_eq_true rfl) d_D_seesDeed_16 ?_
  refine u_if_eq hC 36 d_D_seesDeed_19 (by decide) (fun h_19 => absurd h_19 (by decide)) (fun h_19 => ?_)
  refine u_iload_n hC d_D_seesDeed_22 rfl ?_
  refine u_aload_n hC d_D_seesDeed_23 rfl ?_
  refine w_get hC f_D_37 hT rfl d_D_seesDeed_24 ?_
  refine u_icmp_ge hC 34 d_D_seesDeed_27 (by decide) (fun h_27 => ?_) (fun h_27 => ?_)
  · refine u_iconst hC (nI 0) d_D_seesDeed_34 (by decide) ?_
    exact u_zret hC hr rfl d_D_seesDeed_35 (Nat.le_of_ble_eq_true rfl) (Nat.le_of_ble_eq_true rfl) ⟨by first | (rw [if_pos (Int32.not_le.mp h_27)]; rfl) | (rw [if_neg (Int32.not_lt.mpr h_27)]; rfl), rfl⟩
  · refine u_iconst hC (nI 1) d_D_seesDeed_30 (by decide) ?_
    refine u_goto hC 35 d_D_seesDeed_31 (by decide) ?_
    exact u_zret hC hr rfl d_D_seesDeed_35 (Nat.le_of_ble_eq_true rfl) (Nat.le_of_ble_eq_true rfl) ⟨by first | (rw [if_pos (Int32.not_le.mp h_27)]; rfl) | (rw [if_neg (Int32.not_lt.mpr h_27)]; rfl), rfl⟩
set_option maxHeartbeats 4000000 in
set_option maxRecDepth 100000 in
theorem c_D_sdE {t na0 : Nat} {md tp c0 s0 : Int32} {nb0 : Nat → Int32} (hT : wg ws t = some (cT md na0 tp c0 s0)) (hN : wg ws na0 = some (aI κ 8 nb0)) {q : Nat} {r0 l0 d0 p0 : Int32} (hG : wg ws q = some (cG r0 l0 d0 p0)) {x : Int32} (hd : ¬ d0 = nI 3) (ho : ¬ r0 = nb0 0) : Ct l y_D_seesDeed b_D_seesDeed 3 (some .boolean) 1 0 0 D (gk κ, z) ws [.ref t, .ref q, .int x] (rt (.int (if d0 = nI 2 ∧ ¬ s0 < p0 then 1 else 0)) ws) := by
  refine Ct.of (by decide) (Nat.le_of_ble_eq_true rfl) ?_
  intro p e s0 m below meth c A hC hr hn
  refine u_aload_n hC d_D_seesDeed_0 rfl ?_
  refine u_ifnull hC d_D_seesDeed_1 ?_
  refine u_aload_n hC d_D_seesDeed_4 rfl ?_
  refine w_get hC f_D_102 hG rfl d_D_seesDeed_5 ?_
  refine u_iconst hC (nI 3) d_D_seesDeed_8 (by decide) ?_
  refine u_icmp_ne hC 14 d_D_seesDeed_9 (by decide) (fun h_9 => ?_) (fun h_9 => absurd h_9 hd)
  refine u_aload_n hC d_D_seesDeed_14 rfl ?_
  refine u_aload_n hC d_D_seesDeed_15 rfl ?_
  refine w_callVr hC (c_T_ownsF hT hN hG ho) k_D_78 i_T_owns hT rfl ⟨(Nat.le_of_ble_eq_true rfl), (Nat.le_of_ble_eq_true rfl)⟩ ⟨(Nat.le_of_ble_eq_true rfl), (Nat.le_of_ble_eq_true rfl)⟩ rfl rfl (Nat.le_of_ble_eq_true rfl) d_D_seesDeed_16 ?_
  refine u_if_eq hC 36 d_D_seesDeed_19 (by decide) (fun h_19 => ?_) (fun h_19 => absurd rfl h_19)
  refine u_aload_n hC d_D_seesDeed_36 rfl ?_
  refine w_get hC f_D_102 hG rfl d_D_seesDeed_37 ?_
  refine u_iconst hC (nI 2) d_D_seesDeed_40 (by decide) ?_
  refine u_icmp_ne hC 59 d_D_seesDeed_41 (by decide) (fun h_41 => ?_) (fun h_41 => ?_)
  · refine u_iconst hC (nI 0) d_D_seesDeed_59 (by decide) ?_
    exact u_zret hC hr rfl d_D_seesDeed_60 (Nat.le_of_ble_eq_true rfl) (Nat.le_of_ble_eq_true rfl) ⟨by first | (rw [if_neg (fun w => absurd w.1 h_41)]; rfl) | (rw [if_neg (fun w => absurd h_52 w.2)]; rfl) | (rw [if_pos ⟨h_41, h_52⟩]; rfl), rfl⟩
  · refine u_aload_n hC d_D_seesDeed_44 rfl ?_
    refine w_get hC f_D_108 hG rfl d_D_seesDeed_45 ?_
    refine u_aload_n hC d_D_seesDeed_48 rfl ?_
    refine w_get hC f_D_47 hT rfl d_D_seesDeed_49 ?_
    refine u_icmp_gt hC 59 d_D_seesDeed_52 (by decide) (fun h_52 => ?_) (fun h_52 => ?_)
    · refine u_iconst hC (nI 0) d_D_seesDeed_59 (by decide) ?_
      exact u_zret hC hr rfl d_D_seesDeed_60 (Nat.le_of_ble_eq_true rfl) (Nat.le_of_ble_eq_true rfl) ⟨by first | (rw [if_neg (fun w => absurd w.1 h_41)]; rfl) | (rw [if_neg (fun w => absurd h_52 w.2)]; rfl) | (rw [if_pos ⟨h_41, h_52⟩]; rfl), rfl⟩
    · refine u_iconst hC (nI 1) d_D_seesDeed_55 (by decide) ?_
      refine u_goto hC 60 d_D_seesDeed_56 (by decide) ?_
      exact u_zret hC hr rfl d_D_seesDeed_60 (Nat.le_of_ble_eq_true rfl) (Nat.le_of_ble_eq_true rfl) ⟨by first | (rw [if_neg (fun w => absurd w.1 h_41)]; rfl) | (rw [if_neg (fun w => absurd h_52 w.2)]; rfl) | (rw [if_pos ⟨h_41, h_52⟩]; rfl), rfl⟩
set_option maxHeartbeats 4000000 in
set_option maxRecDepth 100000 in
theorem c_D_la0 {t na0 : Nat} {md tp c0 s0 : Int32} {nb0 : Nat → Int32} (hT : wg ws t = some (cT md na0 tp c0 s0)) (hN : wg ws na0 = some (aI κ 8 nb0)) {k : Nat} (hk : tp = nI k) (hk7 : k ≤ 7) : Ct l y_D_lookAt b_D_lookAt 2 (some .int) 0 0 0 D (gk κ, z) ws [.ref t, .int (nI 0)] (rt (.int (md)) ws) := by
  refine Ct.of (by decide) (Nat.le_of_ble_eq_true rfl) ?_
  intro p e s0 m below meth c A hC hr hn
  refine u_iload_n hC d_D_lookAt_0 rfl ?_
  refine u_tableIn hC (off := 35) 36 d_D_lookAt_1 (by decide) (by decide) (by decide) (by decide) ?_
  refine u_aload_n hC d_D_lookAt_36 rfl ?_
  refine w_get hC f_D_40 hT rfl d_D_lookAt_37 ?_
  exact u_iret hC hr d_D_lookAt_40 (Nat.le_of_ble_eq_true rfl) (Nat.le_of_ble_eq_true rfl) ⟨rfl, rfl⟩
set_option maxHeartbeats 4000000 in
set_option maxRecDepth 100000 in
theorem c_D_la1 {t na0 : Nat} {md tp c0 s0 : Int32} {nb0 : Nat → Int32} (hT : wg ws t = some (cT md na0 tp c0 s0)) (hN : wg ws na0 = some (aI κ 8 nb0)) {k : Nat} (hk : tp = nI k) (hk7 : k ≤ 7) : Ct l y_D_lookAt b_D_lookAt 2 (some .int) 0 0 0 D (gk κ, z) ws [.ref t, .int (nI 1)] (rt (.int (c0)) ws) := by
  refine Ct.of (by decide) (Nat.le_of_ble_eq_true rfl) ?_
  intro p e s0 m below meth c A hC hr hn
  refine u_iload_n hC d_D_lookAt_0 rfl ?_
  refine u_tableIn hC (off := 40) 41 d_D_lookAt_1 (by decide) (by decide) (by decide) (by decide) ?_
  refine u_aload_n hC d_D_lookAt_41 rfl ?_
  refine w_get hC f_D_37 hT rfl d_D_lookAt_42 ?_
  exact u_iret hC hr d_D_lookAt_45 (Nat.le_of_ble_eq_true rfl) (Nat.le_of_ble_eq_true rfl) ⟨rfl, rfl⟩
set_option maxHeartbeats 4000000 in
set_option maxRecDepth 100000 in
theorem c_D_la2 {t na0 : Nat} {md tp c0 s0 : Int32} {nb0 : Nat → Int32} (hT : wg ws t = some (cT md na0 tp c0 s0)) (hN : wg ws na0 = some (aI κ 8 nb0)) {k : Nat} (hk : tp = nI k) (hk7 : k ≤ 7) : Ct l y_D_lookAt b_D_lookAt 2 (some .int) 0 0 0 D (gk κ, z) ws [.ref t, .int (nI 2)] (rt (.int (tp)) ws) := by
  refine Ct.of (by decide) (Nat.le_of_ble_eq_true rfl) ?_
  intro p e s0 m below meth c A hC hr hn
  refine u_iload_n hC d_D_lookAt_0 rfl ?_
  refine u_tableIn hC (off := 45) 46 d_D_lookAt_1 (by decide) (by decide) (by decide) (by decide) ?_
  refine u_aload_n hC d_D_lookAt_46 rfl ?_
  refine w_get hC f_D_66 hT rfl d_D_lookAt_47 ?_
  exact u_iret hC hr d_D_lookAt_50 (Nat.le_of_ble_eq_true rfl) (Nat.le_of_ble_eq_true rfl) ⟨rfl, rfl⟩
set_option maxHeartbeats 4000000 in
set_option maxRecDepth 100000 in
theorem c_D_la3 {t na0 : Nat} {md tp c0 s0 : Int32} {nb0 : Nat → Int32} (hT : wg ws t = some (cT md na0 tp c0 s0)) (hN : wg ws na0 = some (aI κ 8 nb0)) {k : Nat} (hk : tp = nI k) (hk7 : k ≤ 7) : Ct l y_D_lookAt b_D_lookAt 2 (some .int) 0 0 0 D (gk κ, z) ws [.ref t, .int (nI 3)] (rt (.int (nb0 k)) ws) := by
  refine Ct.of (by decide) (Nat.le_of_ble_eq_true rfl) ?_
  intro p e s0 m below meth c A hC hr hn
  refine u_iload_n hC d_D_lookAt_0 rfl ?_
  refine u_tableIn hC (off := 50) 51 d_D_lookAt_1 (by decide) (by decide) (by decide) (by decide) ?_
  refine u_aload_n hC d_D_lookAt_51 rfl ?_
  refine w_get hC f_D_62 hT rfl d_D_lookAt_52 ?_
  refine u_aload_n hC d_D_lookAt_55 rfl ?_
  refine w_get hC f_D_66 hT rfl d_D_lookAt_56 ?_
  refine w_iald hC 0 hN rfl k hk (by omega) (by decide) d_D_lookAt_59 ?_
  exact u_iret hC hr d_D_lookAt_60 (Nat.le_of_ble_eq_true rfl) (Nat.le_of_ble_eq_true rfl) ⟨rfl, rfl⟩
set_option maxHeartbeats 4000000 in
set_option maxRecDepth 100000 in
theorem c_D_la4 {t na0 : Nat} {md tp c0 s0 : Int32} {nb0 : Nat → Int32} (hT : wg ws t = some (cT md na0 tp c0 s0)) (hN : wg ws na0 = some (aI κ 8 nb0)) {k : Nat} (hk : tp = nI k) (hk7 : k ≤ 7) : Ct l y_D_lookAt b_D_lookAt 2 (some .int) 0 0 0 D (gk κ, z) ws [.ref t, .int (nI 4)] (rt (.int (s0)) ws) := by
  refine Ct.of (by decide) (Nat.le_of_ble_eq_true rfl) ?_
  intro p e s0 m below meth c A hC hr hn
  refine u_iload_n hC d_D_lookAt_0 rfl ?_
  refine u_tableIn hC (off := 60) 61 d_D_lookAt_1 (by decide) (by decide) (by decide) (by decide) ?_
  refine u_aload_n hC d_D_lookAt_61 rfl ?_
  refine w_get hC f_D_47 hT rfl d_D_lookAt_62 ?_
  exact u_iret hC hr d_D_lookAt_65 (Nat.le_of_ble_eq_true rfl) (Nat.le_of_ble_eq_true rfl) ⟨rfl, rfl⟩
set_option maxHeartbeats 4000000 in
set_option maxRecDepth 100000 in
theorem c_D_laX {t : Nat} {x : Int32} (hx : ¬ ∃ i : Nat, i ≤ 4 ∧ x = nI i) : Ct l y_D_lookAt b_D_lookAt 2 (some .int) 0 0 0 D (gk κ, z) ws [.ref t, .int x] (rt (.int (-1)) ws) := by
  refine Ct.of (by decide) (Nat.le_of_ble_eq_true rfl) ?_
  intro p e s0 m below meth c A hC hr hn
  refine u_iload_n hC d_D_lookAt_0 rfl ?_
  refine u_tableOut hC 66 d_D_lookAt_1 (n_out4 hx) (by decide) ?_
  refine u_iconst hC (-1) d_D_lookAt_66 (by decide) ?_
  exact u_iret hC hr d_D_lookAt_67 (Nat.le_of_ble_eq_true rfl) (Nat.le_of_ble_eq_true rfl) ⟨rfl, rfl⟩
set_option maxHeartbeats 4000000 in
set_option maxRecDepth 100000 in
theorem c_D_seesF0 {s x1 c1 x2 c2 : Int32} (hK : Dk κ z ws h0 hs hl cap cm tr na mo to co sn nb n el ro lv cd pl) (hb : ¬ ∃ j t : Nat, j < 6 ∧ s = nI j ∧ tr j = some t) : Ct l y_D_sees b_D_sees 7 (some .boolean) 4 0 0 D (gk κ, z) ws [.ref h0, .int s, .int x1, .int c1, .int x2, .int c2] (rt (.int 0) ws) := by
  refine Ct.of (by decide) (Nat.le_of_ble_eq_true rfl) ?_
  intro p e s0 m below meth c A hC hr hn
  obtain ⟨hO, hS9, hLs, hTr, hTi, hNi, hGs, hGi⟩ := id hK
  obtain ⟨mc9, he9, hL, hL2⟩ := id hLs
  refine u_aload_n hC d_D_sees_0 rfl ?_
  refine u_iload_n hC d_D_sees_1 rfl ?_
  refine w_callVr hC (c_D_trF hK hb) k_D_33 i_D_transactionOf hO rfl ⟨(Nat.le_of_ble_eq_true rfl), (Nat.le_of_ble_eq_true rfl)⟩ ⟨(Nat.le_of_ble_eq_true rfl), (Nat.le_of_ble_eq_true rfl)⟩ rfl rfl (Nat.le_of_ble_eq_true rfl) d_D_sees_2 ?_
  refine u_astoreN hC d_D_sees_5 (by decide) ?_
  refine u_aloadN hC d_D_sees_7 rfl ?_
  refine u_ifnullN hC 20 d_D_sees_9 (by decide) ?_
  refine u_iconst hC (nI 0) d_D_sees_20 (by decide) ?_
  exact u_zret hC hr rfl d_D_sees_21 (Nat.le_of_ble_eq_true rfl) (Nat.le_of_ble_eq_true rfl) ⟨rfl, rfl⟩
set_option maxHeartbeats 4000000 in
set_option maxRecDepth 100000 in
theorem c_D_seesF1 {j t : Nat} {x1 c1 x2 c2 : Int32} (hK : Dk κ z ws h0 hs hl cap cm tr na mo to co sn nb n el ro lv cd pl) (hj : j < 6) (ht : tr j = some t) (hs9 : sn j = -1) : Ct l y_D_sees b_D_sees 7 (some .boolean) 4 0 0 D (gk κ, z) ws [.ref h0, .int (nI j), .int x1, .int c1, .int x2, .int c2] (rt (.int 0) ws) := by
  refine Ct.of (by decide) (Nat.le_of_ble_eq_true rfl) ?_
  intro p e s0 m below meth c A hC hr hn
  obtain ⟨hO, hS9, hLs, hTr, hTi, hNi, hGs, hGi⟩ := id hK
  obtain ⟨mc9, he9, hL, hL2⟩ := id hLs
  obtain ⟨hT, hN⟩ := hTr j t hj ht
  refine u_aload_n hC d_D_sees_0 rfl ?_
  refine u_iload_n hC d_D_sees_1 rfl ?_
  refine w_callVr hC (c_D_trT hK hj ht) k_D_33 i_D_transactionOf hO rfl ⟨(Nat.le_of_ble_eq_true rfl), (Nat.le_of_ble_eq_true rfl)⟩ ⟨(Nat.le_of_ble_eq_true rfl), (Nat.le_of_ble_eq_true rfl)⟩ rfl rfl (Nat.le_of_ble_eq_true rfl) d_D_sees_2 ?_
  refine u_astore hC d_D_sees_5 (by decide) ?_
  refine u_aload hC d_D_sees_7 rfl ?_
  refine u_ifnull hC d_D_sees_9 ?_
  refine u_aload hC d_D_sees_12 rfl ?_
  refine w_callVr hC (c_T_hasF hT hs9) k_D_43 i_T_hasSnapshot hT rfl ⟨(Nat.le_of_ble_eq_true rfl), (Nat.le_of_ble_eq_true rfl)⟩ ⟨(Nat.le_of_ble_eq_true rfl), (Nat.le_of_ble_eq_true rfl)⟩ rfl rfl (Nat.le_of_ble_eq_true rfl) d_D_sees_14 ?_
  refine u_if_ne hC 22 d_D_sees_17 (by decide) (fun h_17 => absurd rfl h_17) (fun h_17 => ?_)
  refine u_iconst hC (nI 0) d_D_sees_20 (by decide) ?_
  exact u_zret hC hr rfl d_D_sees_21 (Nat.le_of_ble_eq_true rfl) (Nat.le_of_ble_eq_true rfl) ⟨rfl, rfl⟩
set_option maxHeartbeats 4000000 in
set_option maxRecDepth 100000 in
theorem c_D_seesT {j t : Nat} {x1 c1 x2 c2 v1 v2 : Int32} {w1 w2 : Value} (hK : Dk κ z ws h0 hs hl cap cm tr na mo to co sn nb n el ro lv cd pl) (hj : j < 6) (ht : tr j = some t) (hs9 : ¬ sn j = -1) (C1 : Ct l y_D_find b_D_find 2 (some (.object "SnapshotDesk$Given")) 3 0 0 D (gk κ, z) ws [.ref h0, .int x1] (rt w1 ws)) (S1 : Ct l y_D_seesDeed b_D_seesDeed 3 (some .boolean) 1 0 0 D (gk κ, z) ws [.ref t, w1, .int c1] (rt (.int v1) ws)) (C2 : Ct l y_D_find b_D_find 2 (some (.object "SnapshotDesk$Given")) 3 0 0 D (gk κ, z) ws [.ref h0, .int x2] (rt w2 ws)) (S2 : Ct l y_D_seesDeed b_D_seesDeed 3 (some .boolean) 1 0 0 D (gk κ, z) ws [.ref t, w2, .int c2] (rt (.int v2) ws)) : Ct l y_D_sees b_D_sees 7 (some .boolean) 4 0 0 D (gk κ, z) ws [.ref h0, .int (nI j), .int x1, .int c1, .int x2, .int c2] (rt (.int (if v1 = 0 then 0 else if v2 = 0 then 1 else 0)) ws) := by
  refine Ct.of (by decide) (Nat.le_of_ble_eq_true rfl) ?_
  intro p e s0 m below meth c A hC hr hn
  obtain ⟨hO, hS9, hLs, hTr, hTi, hNi, hGs, hGi⟩ := id hK
  obtain ⟨mc9, he9, hL, hL2⟩ := id hLs
  obtain ⟨hT, hN⟩ := hTr j t hj ht
  refine u_aload_n hC d_D_sees_0 rfl ?_
  refine u_iload_n hC d_D_sees_1 rfl ?_
  refine w_callVr hC (c_D_trT hK hj ht) k_D_33 i_D_transactionOf hO rfl ⟨(Nat.le_of_ble_eq_true rfl), (Nat.le_of_ble_eq_true rfl)⟩ ⟨(Nat.le_of_ble_eq_true rfl), (Nat.le_of_ble_eq_true rfl)⟩ rfl rfl (Nat.le_of_ble_eq_true rfl) d_D_sees_2 ?_
  refine u_astore hC d_D_sees_5 (by decide) ?_
  refine u_aload hC d_D_sees_7 rfl ?_
  refine u_ifnull hC d_D_sees_9 ?_
  refine u_aload hC d_D_sees_12 rfl ?_
  refine w_callVr hC (c_T_hasT hT hs9) k_D_43 i_T_hasSnapshot hT rfl ⟨(Nat.le_of_ble_eq_true rfl), (Nat.le_of_ble_eq_true rfl)⟩ ⟨(Nat.le_of_ble_eq_true rfl), (Nat.le_of_ble_eq_true rfl)⟩ rfl rfl (Nat.le_of_ble_eq_true rfl) d_D_sees_14 ?_
  refine u_if_ne hC 22 d_D_sees_17 (by decide) (fun h_17 => ?_) (fun h_17 => absurd h_17 (by decide))
  refine u_aload hC d_D_sees_22 rfl ?_
  refine u_aload_n hC d_D_sees_24 rfl ?_
  refine u_iload_n hC d_D_sees_25 rfl ?_
  refine w_callVr hC (C1) k_D_98 i_D_find hO rfl ⟨(Nat.le_of_ble_eq_true rfl), (Nat.le_of_ble_eq_true rfl)⟩ ⟨(Nat.le_of_ble_eq_true rfl), (Nat.le_of_ble_eq_true rfl)⟩ rfl rfl (Nat.le_of_ble_eq_true rfl) d_D_sees_26 ?_
  refine u_iload_n hC d_D_sees_29 rfl ?_
  refine u_callSr hC (S1) k_D_111 s_D_seesDeed ⟨(Nat.le_of_ble_eq_true rfl), (Nat.le_of_ble_eq_true rfl)⟩ ⟨(Nat.le_of_ble_eq_true rfl), (Nat.le_of_ble_eq_true rfl)⟩ rfl rfl (Nat.le_of_ble_eq_true rfl) d_D_sees_30 ?_
  refine u_if_eq hC 56 d_D_sees_33 (by decide) (fun h_33 => ?_) (fun h_33 => ?_)
  · refine u_iconst hC (nI 0) d_D_sees_56 (by decide) ?_
    exact u_zret hC hr rfl d_D_sees_57 (Nat.le_of_ble_eq_true rfl) (Nat.le_of_ble_eq_true rfl) ⟨by first | (rw [if_pos h_33]; rfl) | (rw [if_neg h_33, if_neg h_49]; rfl) | (rw [if_neg h_33, if_pos h_49]; rfl), rfl⟩
  · refine u_aload hC d_D_sees_36 rfl ?_
    refine u_aload_n hC d_D_sees_38 rfl ?_
    refine u_iload hC d_D_sees_39 rfl ?_
    refine w_callVr hC (C2) k_D_98 i_D_find hO rfl ⟨(Nat.le_of_ble_eq_true rfl), (Nat.le_of_ble_eq_true rfl)⟩ ⟨(Nat.le_of_ble_eq_true rfl), (Nat.le_of_ble_eq_true rfl)⟩ rfl rfl (Nat.le_of_ble_eq_true rfl) d_D_sees_41 ?_
    refine u_iload hC d_D_sees_44 rfl ?_
    refine u_callSr hC (S2) k_D_111 s_D_seesDeed ⟨(Nat.le_of_ble_eq_true rfl), (Nat.le_of_ble_eq_true rfl)⟩ ⟨(Nat.le_of_ble_eq_true rfl), (Nat.le_of_ble_eq_true rfl)⟩ rfl rfl (Nat.le_of_ble_eq_true rfl) d_D_sees_46 ?_
    refine u_if_ne hC 56 d_D_sees_49 (by decide) (fun h_49 => ?_) (fun h_49 => ?_)
    · refine u_iconst hC (nI 0) d_D_sees_56 (by decide) ?_
      exact u_zret hC hr rfl d_D_sees_57 (Nat.le_of_ble_eq_true rfl) (Nat.le_of_ble_eq_true rfl) ⟨by first | (rw [if_pos h_33]; rfl) | (rw [if_neg h_33, if_neg h_49]; rfl) | (rw [if_neg h_33, if_pos h_49]; rfl), rfl⟩
    · refine u_iconst hC (nI 1) d_D_sees_52 (by decide) ?_
      refine u_goto hC 57 d_D_sees_53 (by decide) ?_
      exact u_zret hC hr rfl d_D_sees_57 (Nat.le_of_ble_eq_true rfl) (Nat.le_of_ble_eq_true rfl) ⟨by first | (rw [if_pos h_33]; rfl) | (rw [if_neg h_33, if_neg h_49]; rfl) | (rw [if_neg h_33, if_pos h_49]; rfl), rfl⟩
set_option maxHeartbeats 4000000 in
set_option maxRecDepth 100000 in
theorem c_D_endF0 {s x cx : Int32} (hK : Dk κ z ws h0 hs hl cap cm tr na mo to co sn nb n el ro lv cd pl) (hb : ¬ ∃ j t : Nat, j < 6 ∧ s = nI j ∧ tr j = some t) : Ct l y_D_ending b_D_ending 7 (some .int) 4 0 0 D (gk κ, z) ws [.ref h0, .int s, .int x, .int cx] (rt (.int (-1)) ws) := by
  refine Ct.of (by decide) (Nat.le_of_ble_eq_true rfl) ?_
  intro p e s0 m below meth c A hC hr hn
  obtain ⟨hO, hS9, hLs, hTr, hTi, hNi, hGs, hGi⟩ := id hK
  obtain ⟨mc9, he9, hL, hL2⟩ := id hLs
  refine u_aload_n hC d_D_ending_0 rfl ?_
  refine u_iload_n hC d_D_ending_1 rfl ?_
  refine w_callVr hC (c_D_trF hK hb) k_D_33 i_D_transactionOf hO rfl ⟨(Nat.le_of_ble_eq_true rfl), (Nat.le_of_ble_eq_true rfl)⟩ ⟨(Nat.le_of_ble_eq_true rfl), (Nat.le_of_ble_eq_true rfl)⟩ rfl rfl (Nat.le_of_ble_eq_true rfl) d_D_ending_2 ?_
  refine u_astoreN hC d_D_ending_5 (by decide) ?_
  refine u_aloadN hC d_D_ending_7 rfl ?_
  refine u_ifnullN hC 20 d_D_ending_9 (by decide) ?_
  refine u_iconst hC (-1) d_D_ending_20 (by decide) ?_
  exact u_iret hC hr d_D_ending_21 (Nat.le_of_ble_eq_true rfl) (Nat.le_of_ble_eq_true rfl) ⟨rfl, rfl⟩
set_option maxHeartbeats 4000000 in
set_option maxRecDepth 100000 in
theorem c_D_endF1 {j t : Nat} {x cx : Int32} (hK : Dk κ z ws h0 hs hl cap cm tr na mo to co sn nb n el ro lv cd pl) (hj : j < 6) (ht : tr j = some t) (hs9 : sn j = -1) : Ct l y_D_ending b_D_ending 7 (some .int) 4 0 0 D (gk κ, z) ws [.ref h0, .int (nI j), .int x, .int cx] (rt (.int (-1)) ws) := by
  refine Ct.of (by decide) (Nat.le_of_ble_eq_true rfl) ?_
  intro p e s0 m below meth c A hC hr hn
  obtain ⟨hO, hS9, hLs, hTr, hTi, hNi, hGs, hGi⟩ := id hK
  obtain ⟨mc9, he9, hL, hL2⟩ := id hLs
  obtain ⟨hT, hN⟩ := hTr j t hj ht
  refine u_aload_n hC d_D_ending_0 rfl ?_
  refine u_iload_n hC d_D_ending_1 rfl ?_
  refine w_callVr hC (c_D_trT hK hj ht) k_D_33 i_D_transactionOf hO rfl ⟨(Nat.le_of_ble_eq_true rfl), (Nat.le_of_ble_eq_true rfl)⟩ ⟨(Nat.le_of_ble_eq_true rfl), (Nat.le_of_ble_eq_true rfl)⟩ rfl rfl (Nat.le_of_ble_eq_true rfl) d_D_ending_2 ?_
  refine u_astore hC d_D_ending_5 (by decide) ?_
  refine u_aload hC d_D_ending_7 rfl ?_
  refine u_ifnull hC d_D_ending_9 ?_
  refine u_aload hC d_D_ending_12 rfl ?_
  refine w_callVr hC (c_T_hasF hT hs9) k_D_43 i_T_hasSnapshot hT rfl ⟨(Nat.le_of_ble_eq_true rfl), (Nat.le_of_ble_eq_true rfl)⟩ ⟨(Nat.le_of_ble_eq_true rfl), (Nat.le_of_ble_eq_true rfl)⟩ rfl rfl (Nat.le_of_ble_eq_true rfl) d_D_ending_14 ?_
  refine u_if_ne hC 22 d_D_ending_17 (by decide) (fun h_17 => absurd rfl h_17) (fun h_17 => ?_)
  refine u_iconst hC (-1) d_D_ending_20 (by decide) ?_
  exact u_iret hC hr d_D_ending_21 (Nat.le_of_ble_eq_true rfl) (Nat.le_of_ble_eq_true rfl) ⟨rfl, rfl⟩
set_option maxHeartbeats 4000000 in
set_option maxRecDepth 100000 in
theorem c_D_endN {j t : Nat} {x cx : Int32} (hK : Dk κ z ws h0 hs hl cap cm tr na mo to co sn nb n el ro lv cd pl) (hn4 : n ≤ 4000) (hcap : cap ≤ 10000) (hj : j < 6) (ht : tr j = some t) (hs9 : ¬ sn j = -1) (hx : ¬ ∃ i : Nat, 1 ≤ i ∧ i ≤ n ∧ x = nI i) : Ct l y_D_ending b_D_ending 7 (some .int) 4 0 0 D (gk κ, z) ws [.ref h0, .int (nI j), .int x, .int cx] (rt (.int 0) ws) := by
  refine Ct.of (by decide) (Nat.le_of_ble_eq_true rfl) ?_
  intro p e s0 m below meth c A hC hr hn
  obtain ⟨hO, hS9, hLs, hTr, hTi, hNi, hGs, hGi⟩ := id hK
  obtain ⟨mc9, he9, hL, hL2⟩ := id hLs
  obtain ⟨hT, hN⟩ := hTr j t hj ht
  refine u_aload_n hC d_D_ending_0 rfl ?_
  refine u_iload_n hC d_D_ending_1 rfl ?_
  refine w_callVr hC (c_D_trT hK hj ht) k_D_33 i_D_transactionOf hO rfl ⟨(Nat.le_of_ble_eq_true rfl), (Nat.le_of_ble_eq_true rfl)⟩ ⟨(Nat.le_of_ble_eq_true rfl), (Nat.le_of_ble_eq_true rfl)⟩ rfl rfl (Nat.le_of_ble_eq_true rfl) d_D_ending_2 ?_
  refine u_astore hC d_D_ending_5 (by decide) ?_
  refine u_aload hC d_D_ending_7 rfl ?_
  refine u_ifnull hC d_D_ending_9 ?_
  refine u_aload hC d_D_ending_12 rfl ?_
  refine w_callVr hC (c_T_hasT hT hs9) k_D_43 i_T_hasSnapshot hT rfl ⟨(Nat.le_of_ble_eq_true rfl), (Nat.le_of_ble_eq_true rfl)⟩ ⟨(Nat.le_of_ble_eq_true rfl), (Nat.le_of_ble_eq_true rfl)⟩ rfl rfl (Nat.le_of_ble_eq_true rfl) d_D_ending_14 ?_
  refine u_if_ne hC 22 d_D_ending_17 (by decide) (fun h_17 => ?_) (fun h_17 => absurd h_17 (by decide))
  refine u_aload_n hC d_D_ending_22 rfl ?_
  refine u_iload_n hC d_D_ending_23 rfl ?_
  refine w_callVr hC (c_D_findF hK hn4 hcap hx) k_D_98 i_D_find hO rfl ⟨(Nat.le_of_ble_eq_true rfl), (Nat.le_of_ble_eq_true rfl)⟩ ⟨(Nat.le_of_ble_eq_true rfl), (Nat.le_of_ble_eq_true rfl)⟩ rfl rfl (Nat.le_of_ble_eq_true rfl) d_D_ending_24 ?_
  refine u_astoreN hC d_D_ending_27 (by decide) ?_
  refine u_aloadN hC d_D_ending_29 rfl ?_
  refine u_ifnullN hC 43 d_D_ending_31 (by decide) ?_
  refine u_iconst hC (nI 0) d_D_ending_43 (by decide) ?_
  exact u_iret hC hr d_D_ending_44 (Nat.le_of_ble_eq_true rfl) (Nat.le_of_ble_eq_true rfl) ⟨rfl, rfl⟩
set_option maxHeartbeats 4000000 in
set_option maxRecDepth 100000 in
theorem c_D_endA {j t i : Nat} {cx : Int32} (hK : Dk κ z ws h0 hs hl cap cm tr na mo to co sn nb n el ro lv cd pl) (hn4 : n ≤ 4000) (hcap : cap ≤ 10000) (hj : j < 6) (ht : tr j = some t) (hs9 : ¬ sn j = -1) (h1 : 1 ≤ i) (h2 : i ≤ n) (hd : cd (i - 1) = nI 3) : Ct l y_D_ending b_D_ending 7 (some .int) 4 0 0 D (gk κ, z) ws [.ref h0, .int (nI j), .int (nI i), .int cx] (rt (.int 0) ws) := by
  refine Ct.of (by decide) (Nat.le_of_ble_eq_true rfl) ?_
  intro p e s0 m below meth c A hC hr hn
  obtain ⟨hO, hS9, hLs, hTr, hTi, hNi, hGs, hGi⟩ := id hK
  obtain ⟨mc9, he9, hL, hL2⟩ := id hLs
  obtain ⟨hT, hN⟩ := hTr j t hj ht
  refine u_aload_n hC d_D_ending_0 rfl ?_
  refine u_iload_n hC d_D_ending_1 rfl ?_
  refine w_callVr hC (c_D_trT hK hj ht) k_D_33 i_D_transactionOf hO rfl ⟨(Nat.le_of_ble_eq_true rfl), (Nat.le_of_ble_eq_true rfl)⟩ ⟨(Nat.le_of_ble_eq_true rfl), (Nat.le_of_ble_eq_true rfl)⟩ rfl rfl (Nat.le_of_ble_eq_true rfl) d_D_ending_2 ?_
  refine u_astore hC d_D_ending_5 (by decide) ?_
  refine u_aload hC d_D_ending_7 rfl ?_
  refine u_ifnull hC d_D_ending_9 ?_
  refine u_aload hC d_D_ending_12 rfl ?_
  refine w_callVr hC (c_T_hasT hT hs9) k_D_43 i_T_hasSnapshot hT rfl ⟨(Nat.le_of_ble_eq_true rfl), (Nat.le_of_ble_eq_true rfl)⟩ ⟨(Nat.le_of_ble_eq_true rfl), (Nat.le_of_ble_eq_true rfl)⟩ rfl rfl (Nat.le_of_ble_eq_true rfl) d_D_ending_14 ?_
  refine u_if_ne hC 22 d_D_ending_17 (by decide) (fun h_17 => ?_) (fun h_17 => absurd h_17 (by decide))
  refine u_aload_n hC d_D_ending_22 rfl ?_
  refine u_iload_n hC d_D_ending_23 rfl ?_
  refine w_callVr hC (c_D_findT hK hn4 hcap h1 h2) k_D_98 i_D_find hO rfl ⟨(Nat.le_of_ble_eq_true rfl), (Nat.le_of_ble_eq_true rfl)⟩ ⟨(Nat.le_of_ble_eq_true rfl), (Nat.le_of_ble_eq_true rfl)⟩ rfl rfl (Nat.le_of_ble_eq_true rfl) d_D_ending_24 ?_
  refine u_astore hC d_D_ending_27 (by decide) ?_
  refine u_aload hC d_D_ending_29 rfl ?_
  refine u_ifnull hC d_D_ending_31 ?_
  refine u_aload hC d_D_ending_34 rfl ?_
  refine w_get hC f_D_102 (hGs (i - 1) (by omega)) rfl d_D_ending_36 ?_
  refine u_iconst hC (nI 3) d_D_ending_39 (by decide) ?_
  refine u_icmp_ne hC 45 d_D_ending_40 (by decide) (fun h_40 => absurd hd h_40) (fun h_40 => ?_)
  refine u_iconst hC (nI 0) d_D_ending_43 (by decide) ?_
  exact u_iret hC hr d_D_ending_44 (Nat.le_of_ble_eq_true rfl) (Nat.le_of_ble_eq_true rfl) ⟨rfl, rfl⟩
set_option maxHeartbeats 4000000 in
set_option maxRecDepth 100000 in
theorem c_D_endO {j t i : Nat} {cx v : Int32} (hK : Dk κ z ws h0 hs hl cap cm tr na mo to co sn nb n el ro lv cd pl) (hn4 : n ≤ 4000) (hcap : cap ≤ 10000) (hj : j < 6) (ht : tr j = some t) (hs9 : ¬ sn j = -1) (h1 : 1 ≤ i) (h2 : i ≤ n) (hd : ¬ cd (i - 1) = nI 3) (S1 : Ct l y_D_seesDeed b_D_seesDeed 3 (some .boolean) 1 0 0 D (gk κ, z) ws [.ref t, .ref (el (i - 1)), .int cx] (rt (.int v) ws)) (ho : ro (i - 1) = nb j 0) : Ct l y_D_ending b_D_ending 7 (some .int) 4 0 0 D (gk κ, z) ws [.ref h0, .int (nI j), .int (nI i), .int cx] (rt (.int (if v = 0 then 2 else 1)) ws) := by
  refine Ct.of (by decide) (Nat.le_of_ble_eq_true rfl) ?_
  intro p e s0 m below meth c A hC hr hn
  obtain ⟨hO, hS9, hLs, hTr, hTi, hNi, hGs, hGi⟩ := id hK
  obtain ⟨mc9, he9, hL, hL2⟩ := id hLs
  obtain ⟨hT, hN⟩ := hTr j t hj ht
  refine u_aload_n hC d_D_ending_0 rfl ?_
  refine u_iload_n hC d_D_ending_1 rfl ?_
  refine w_callVr hC (c_D_trT hK hj ht) k_D_33 i_D_transactionOf hO rfl ⟨(Nat.le_of_ble_eq_true rfl), (Nat.le_of_ble_eq_true rfl)⟩ ⟨(Nat.le_of_ble_eq_true rfl), (Nat.le_of_ble_eq_true rfl)⟩ rfl rfl (Nat.le_of_ble_eq_true rfl) d_D_ending_2 ?_
  refine u_astore hC d_D_ending_5 (by decide) ?_
  refine u_aload hC d_D_ending_7 rfl ?_
  refine u_ifnull hC d_D_ending_9 ?_
  refine u_aload hC d_D_ending_12 rfl ?_
  refine w_callVr hC (c_T_hasT hT hs9) k_D_43 i_T_hasSnapshot hT rfl ⟨(Nat.le_of_ble_eq_true rfl), (Nat.le_of_ble_eq_true rfl)⟩ ⟨(Nat.le_of_ble_eq_true rfl), (Nat.le_of_ble_eq_true rfl)⟩ rfl rfl (Nat.le_of_ble_eq_true rfl) d_D_ending_14 ?_
  refine u_if_ne hC 22 d_D_ending_17 (by decide) (fun h_17 => ?_) (fun h_17 => absurd h_17 (by decide))
  refine u_aload_n hC d_D_ending_22 rfl ?_
  refine u_iload_n hC d_D_ending_23 rfl ?_
  refine w_callVr hC (c_D_findT hK hn4 hcap h1 h2) k_D_98 i_D_find hO rfl ⟨(Nat.le_of_ble_eq_true rfl), (Nat.le_of_ble_eq_true rfl)⟩ ⟨(Nat.le_of_ble_eq_true rfl), (Nat.le_of_ble_eq_true rfl)⟩ rfl rfl (Nat.le_of_ble_eq_true rfl) d_D_ending_24 ?_
  refine u_astore hC d_D_ending_27 (by decide) ?_
  refine u_aload hC d_D_ending_29 rfl ?_
  refine u_ifnull hC d_D_ending_31 ?_
  refine u_aload hC d_D_ending_34 rfl ?_
  refine w_get hC f_D_102 (hGs (i - 1) (by omega)) rfl d_D_ending_36 ?_
  refine u_iconst hC (nI 3) d_D_ending_39 (by decide) ?_
  refine u_icmp_ne hC 45 d_D_ending_40 (by decide) (fun h_40 => ?_) (fun h_40 => absurd h_40 hd)
  refine u_aload hC d_D_ending_45 rfl ?_
  refine u_aload hC d_D_ending_47 rfl ?_
  refine u_iload_n hC d_D_ending_49 rfl ?_
  refine u_callSr hC (S1) k_D_111 s_D_seesDeed ⟨(Nat.le_of_ble_eq_true rfl), (Nat.le_of_ble_eq_true rfl)⟩ ⟨(Nat.le_of_ble_eq_true rfl), (Nat.le_of_ble_eq_true rfl)⟩ rfl rfl (Nat.le_of_ble_eq_true rfl) d_D_ending_50 ?_
  refine u_istore hC d_D_ending_53 (by decide) ?_
  refine u_aload hC d_D_ending_55 rfl ?_
  refine u_aload hC d_D_ending_57 rfl ?_
  refine w_callVr hC (c_T_ownsT hT hN (hGs (i - 1) (by omega)) ho) k_D_78 i_T_owns hT rfl ⟨(Nat.le_of_ble_eq_true rfl), (Nat.le_of_ble_eq_true rfl)⟩ ⟨(Nat.le_of_ble_eq_true rfl), (Nat.le_of_ble_eq_true rfl)⟩ rfl rfl (Nat.le_of_ble_eq_true rfl) d_D_ending_59 ?_
  refine u_if_eq hC 76 d_D_ending_62 (by decide) (fun h_62 => absurd h_62 (by decide)) (fun h_62 => ?_)
  refine u_iload hC d_D_ending_65 rfl ?_
  refine u_if_eq hC 74 d_D_ending_67 (by decide) (fun h_67 => ?_) (fun h_67 => ?_)
  · refine u_iconst hC (nI 2) d_D_ending_74 (by decide) ?_
    exact u_iret hC hr d_D_ending_75 (Nat.le_of_ble_eq_true rfl) (Nat.le_of_ble_eq_true rfl) ⟨by first | (rw [if_pos h_67]; rfl) | (rw [if_neg h_67]; rfl), rfl⟩
  · refine u_iconst hC (nI 1) d_D_ending_70 (by decide) ?_
    refine u_goto hC 75 d_D_ending_71 (by decide) ?_
    exact u_iret hC hr d_D_ending_75 (Nat.le_of_ble_eq_true rfl) (Nat.le_of_ble_eq_true rfl) ⟨by first | (rw [if_pos h_67]; rfl) | (rw [if_neg h_67]; rfl), rfl⟩
set_option maxHeartbeats 4000000 in
set_option maxRecDepth 100000 in
theorem c_D_endR {j t i : Nat} {cx v : Int32} (hK : Dk κ z ws h0 hs hl cap cm tr na mo to co sn nb n el ro lv cd pl) (hn4 : n ≤ 4000) (hcap : cap ≤ 10000) (hj : j < 6) (ht : tr j = some t) (hs9 : ¬ sn j = -1) (h1 : 1 ≤ i) (h2 : i ≤ n) (hd : cd (i - 1) = nI 1) (S1 : Ct l y_D_seesDeed b_D_seesDeed 3 (some .boolean) 1 0 0 D (gk κ, z) ws [.ref t, .ref (el (i - 1)), .int cx] (rt (.int v) ws)) (ho : ¬ ro (i - 1) = nb j 0) : Ct l y_D_ending b_D_ending 7 (some .int) 4 0 0 D (gk κ, z) ws [.ref h0, .int (nI j), .int (nI i), .int cx] (rt (.int 3) ws) := by
  refine Ct.of (by decide) (Nat.le_of_ble_eq_true rfl) ?_
  intro p e s0 m below meth c A hC hr hn
  obtain ⟨hO, hS9, hLs, hTr, hTi, hNi, hGs, hGi⟩ := id hK
  obtain ⟨mc9, he9, hL, hL2⟩ := id hLs
  obtain ⟨hT, hN⟩ := hTr j t hj ht
  refine u_aload_n hC d_D_ending_0 rfl ?_
  refine u_iload_n hC d_D_ending_1 rfl ?_
  refine w_callVr hC (c_D_trT hK hj ht) k_D_33 i_D_transactionOf hO rfl ⟨(Nat.le_of_ble_eq_true rfl), (Nat.le_of_ble_eq_true rfl)⟩ ⟨(Nat.le_of_ble_eq_true rfl), (Nat.le_of_ble_eq_true rfl)⟩ rfl rfl (Nat.le_of_ble_eq_true rfl) d_D_ending_2 ?_
  refine u_astore hC d_D_ending_5 (by decide) ?_
  refine u_aload hC d_D_ending_7 rfl ?_
  refine u_ifnull hC d_D_ending_9 ?_
  refine u_aload hC d_D_ending_12 rfl ?_
  refine w_callVr hC (c_T_hasT hT hs9) k_D_43 i_T_hasSnapshot hT rfl ⟨(Nat.le_of_ble_eq_true rfl), (Nat.le_of_ble_eq_true rfl)⟩ ⟨(Nat.le_of_ble_eq_true rfl), (Nat.le_of_ble_eq_true rfl)⟩ rfl rfl (Nat.le_of_ble_eq_true rfl) d_D_ending_14 ?_
  refine u_if_ne hC 22 d_D_ending_17 (by decide) (fun h_17 => ?_) (fun h_17 => absurd h_17 (by decide))
  refine u_aload_n hC d_D_ending_22 rfl ?_
  refine u_iload_n hC d_D_ending_23 rfl ?_
  refine w_callVr hC (c_D_findT hK hn4 hcap h1 h2) k_D_98 i_D_find hO rfl ⟨(Nat.le_of_ble_eq_true rfl), (Nat.le_of_ble_eq_true rfl)⟩ ⟨(Nat.le_of_ble_eq_true rfl), (Nat.le_of_ble_eq_true rfl)⟩ rfl rfl (Nat.le_of_ble_eq_true rfl) d_D_ending_24 ?_
  refine u_astore hC d_D_ending_27 (by decide) ?_
  refine u_aload hC d_D_ending_29 rfl ?_
  refine u_ifnull hC d_D_ending_31 ?_
  refine u_aload hC d_D_ending_34 rfl ?_
  refine w_get hC f_D_102 (hGs (i - 1) (by omega)) rfl d_D_ending_36 ?_
  refine u_iconst hC (nI 3) d_D_ending_39 (by decide) ?_
  refine u_icmp_ne hC 45 d_D_ending_40 (by decide) (fun h_40 => ?_) (fun h_40 => absurd h_40 (by rw [hd]; decide))
  refine u_aload hC d_D_ending_45 rfl ?_
  refine u_aload hC d_D_ending_47 rfl ?_
  refine u_iload_n hC d_D_ending_49 rfl ?_
  refine u_callSr hC (S1) k_D_111 s_D_seesDeed ⟨(Nat.le_of_ble_eq_true rfl), (Nat.le_of_ble_eq_true rfl)⟩ ⟨(Nat.le_of_ble_eq_true rfl), (Nat.le_of_ble_eq_true rfl)⟩ rfl rfl (Nat.le_of_ble_eq_true rfl) d_D_ending_50 ?_
  refine u_istore hC d_D_ending_53 (by decide) ?_
  refine u_aload hC d_D_ending_55 rfl ?_
  refine u_aload hC d_D_ending_57 rfl ?_
  refine w_callVr hC (c_T_ownsF hT hN (hGs (i - 1) (by omega)) ho) k_D_78 i_T_owns hT rfl ⟨(Nat.le_of_ble_eq_true rfl), (Nat.le_of_ble_eq_true rfl)⟩ ⟨(Nat.le_of_ble_eq_true rfl), (Nat.le_of_ble_eq_true rfl)⟩ rfl rfl (Nat.le_of_ble_eq_true rfl) d_D_ending_59 ?_
  refine u_if_eq hC 76 d_D_ending_62 (by decide) (fun h_62 => ?_) (fun h_62 => absurd rfl h_62)
  refine u_aload hC d_D_ending_76 rfl ?_
  refine w_get hC f_D_102 (hGs (i - 1) (by omega)) rfl d_D_ending_78 ?_
  refine u_iconst hC (nI 1) d_D_ending_81 (by decide) ?_
  refine u_icmp_ne hC 87 d_D_ending_82 (by decide) (fun h_82 => absurd hd h_82) (fun h_82 => ?_)
  refine u_iconst hC (nI 3) d_D_ending_85 (by decide) ?_
  exact u_iret hC hr d_D_ending_86 (Nat.le_of_ble_eq_true rfl) (Nat.le_of_ble_eq_true rfl) ⟨rfl, rfl⟩
set_option maxHeartbeats 4000000 in
set_option maxRecDepth 100000 in
theorem c_D_endC {j t i : Nat} {cx v : Int32} (hK : Dk κ z ws h0 hs hl cap cm tr na mo to co sn nb n el ro lv cd pl) (hn4 : n ≤ 4000) (hcap : cap ≤ 10000) (hj : j < 6) (ht : tr j = some t) (hs9 : ¬ sn j = -1) (h1 : 1 ≤ i) (h2 : i ≤ n) (hd : ¬ cd (i - 1) = nI 3) (hd1 : ¬ cd (i - 1) = nI 1) (S1 : Ct l y_D_seesDeed b_D_seesDeed 3 (some .boolean) 1 0 0 D (gk κ, z) ws [.ref t, .ref (el (i - 1)), .int cx] (rt (.int v) ws)) (ho : ¬ ro (i - 1) = nb j 0) : Ct l y_D_ending b_D_ending 7 (some .int) 4 0 0 D (gk κ, z) ws [.ref h0, .int (nI j), .int (nI i), .int cx] (rt (.int (if v = 0 then 5 else 4)) ws) := by
  refine Ct.of (by decide) (Nat.le_of_ble_eq_true rfl) ?_
  intro p e s0 m below meth c A hC hr hn
  obtain ⟨hO, hS9, hLs, hTr, hTi, hNi, hGs, hGi⟩ := id hK
  obtain ⟨mc9, he9, hL, hL2⟩ := id hLs
  obtain ⟨hT, hN⟩ := hTr j t hj ht
  refine u_aload_n hC d_D_ending_0 rfl ?_
  refine u_iload_n hC d_D_ending_1 rfl ?_
  refine w_callVr hC (c_D_trT hK hj ht) k_D_33 i_D_transactionOf hO rfl ⟨(Nat.le_of_ble_eq_true rfl), (Nat.le_of_ble_eq_true rfl)⟩ ⟨(Nat.le_of_ble_eq_true rfl), (Nat.le_of_ble_eq_true rfl)⟩ rfl rfl (Nat.le_of_ble_eq_true rfl) d_D_ending_2 ?_
  refine u_astore hC d_D_ending_5 (by decide) ?_
  refine u_aload hC d_D_ending_7 rfl ?_
  refine u_ifnull hC d_D_ending_9 ?_
  refine u_aload hC d_D_ending_12 rfl ?_
  refine w_callVr hC (c_T_hasT hT hs9) k_D_43 i_T_hasSnapshot hT rfl ⟨(Nat.le_of_ble_eq_true rfl), (Nat.le_of_ble_eq_true rfl)⟩ ⟨(Nat.le_of_ble_eq_true rfl), (Nat.le_of_ble_eq_true rfl)⟩ rfl rfl (Nat.le_of_ble_eq_true rfl) d_D_ending_14 ?_
  refine u_if_ne hC 22 d_D_ending_17 (by decide) (fun h_17 => ?_) (fun h_17 => absurd h_17 (by decide))
  refine u_aload_n hC d_D_ending_22 rfl ?_
  refine u_iload_n hC d_D_ending_23 rfl ?_
  refine w_callVr hC (c_D_findT hK hn4 hcap h1 h2) k_D_98 i_D_find hO rfl ⟨(Nat.le_of_ble_eq_true rfl), (Nat.le_of_ble_eq_true rfl)⟩ ⟨(Nat.le_of_ble_eq_true rfl), (Nat.le_of_ble_eq_true rfl)⟩ rfl rfl (Nat.le_of_ble_eq_true rfl) d_D_ending_24 ?_
  refine u_astore hC d_D_ending_27 (by decide) ?_
  refine u_aload hC d_D_ending_29 rfl ?_
  refine u_ifnull hC d_D_ending_31 ?_
  refine u_aload hC d_D_ending_34 rfl ?_
  refine w_get hC f_D_102 (hGs (i - 1) (by omega)) rfl d_D_ending_36 ?_
  refine u_iconst hC (nI 3) d_D_ending_39 (by decide) ?_
  refine u_icmp_ne hC 45 d_D_ending_40 (by decide) (fun h_40 => ?_) (fun h_40 => absurd h_40 hd)
  refine u_aload hC d_D_ending_45 rfl ?_
  refine u_aload hC d_D_ending_47 rfl ?_
  refine u_iload_n hC d_D_ending_49 rfl ?_
  refine u_callSr hC (S1) k_D_111 s_D_seesDeed ⟨(Nat.le_of_ble_eq_true rfl), (Nat.le_of_ble_eq_true rfl)⟩ ⟨(Nat.le_of_ble_eq_true rfl), (Nat.le_of_ble_eq_true rfl)⟩ rfl rfl (Nat.le_of_ble_eq_true rfl) d_D_ending_50 ?_
  refine u_istore hC d_D_ending_53 (by decide) ?_
  refine u_aload hC d_D_ending_55 rfl ?_
  refine u_aload hC d_D_ending_57 rfl ?_
  refine w_callVr hC (c_T_ownsF hT hN (hGs (i - 1) (by omega)) ho) k_D_78 i_T_owns hT rfl ⟨(Nat.le_of_ble_eq_true rfl), (Nat.le_of_ble_eq_true rfl)⟩ ⟨(Nat.le_of_ble_eq_true rfl), (Nat.le_of_ble_eq_true rfl)⟩ rfl rfl (Nat.le_of_ble_eq_true rfl) d_D_ending_59 ?_
  refine u_if_eq hC 76 d_D_ending_62 (by decide) (fun h_62 => ?_) (fun h_62 => absurd rfl h_62)
  refine u_aload hC d_D_ending_76 rfl ?_
  refine w_get hC f_D_102 (hGs (i - 1) (by omega)) rfl d_D_ending_78 ?_
  refine u_iconst hC (nI 1) d_D_ending_81 (by decide) ?_
  refine u_icmp_ne hC 87 d_D_ending_82 (by decide) (fun h_82 => ?_) (fun h_82 => absurd h_82 hd1)
  refine u_iload hC d_D_ending_87 rfl ?_
  refine u_if_eq hC 96 d_D_ending_89 (by decide) (fun h_89 => ?_) (fun h_89 => ?_)
  · refine u_iconst hC (nI 5) d_D_ending_96 (by decide) ?_
    exact u_iret hC hr d_D_ending_97 (Nat.le_of_ble_eq_true rfl) (Nat.le_of_ble_eq_true rfl) ⟨by first | (rw [if_pos h_89]; rfl) | (rw [if_neg h_89]; rfl), rfl⟩
  · refine u_iconst hC (nI 4) d_D_ending_92 (by decide) ?_
    refine u_goto hC 97 d_D_ending_93 (by decide) ?_
    exact u_iret hC hr d_D_ending_97 (Nat.le_of_ble_eq_true rfl) (Nat.le_of_ble_eq_true rfl) ⟨by first | (rw [if_pos h_89]; rfl) | (rw [if_neg h_89]; rfl), rfl⟩
set_option maxHeartbeats 4000000 in
set_option maxRecDepth 100000 in
theorem c_D_deadF {x y : Int32} (hK : Dk κ z ws h0 hs hl cap cm tr na mo to co sn nb n el ro lv cd pl) (hn4 : n ≤ 4000) (hcap : cap ≤ 10000) (hx : ¬ ∃ i : Nat, 1 ≤ i ∧ i ≤ n ∧ x = nI i) : Ct l y_D_dead b_D_dead 4 (some .boolean) 4 0 0 D (gk κ, z) ws [.ref h0, .int x, .int y] (rt (.int 0) ws) := by
  refine Ct.of (by decide) (Nat.le_of_ble_eq_true rfl) ?_
  intro p e s0 m below meth c A hC hr hn
  obtain ⟨hO, hS9, hLs, hTr, hTi, hNi, hGs, hGi⟩ := id hK
  obtain ⟨mc9, he9, hL, hL2⟩ := id hLs
  refine u_aload_n hC d_D_dead_0 rfl ?_
  refine u_iload_n hC d_D_dead_1 rfl ?_
  refine w_callVr hC (c_D_findF hK hn4 hcap hx) k_D_98 i_D_find hO rfl ⟨(Nat.le_of_ble_eq_true rfl), (Nat.le_of_ble_eq_true rfl)⟩ ⟨(Nat.le_of_ble_eq_true rfl), (Nat.le_of_ble_eq_true rfl)⟩ rfl rfl (Nat.le_of_ble_eq_true rfl) d_D_dead_2 ?_
  refine u_astore_nN hC d_D_dead_5 (by decide) ?_
  refine u_aload_nN hC d_D_dead_6 rfl ?_
  refine u_ifnonnullN hC d_D_dead_7 ?_
  refine u_iconst hC (nI 0) d_D_dead_10 (by decide) ?_
  exact u_zret hC hr rfl d_D_dead_11 (Nat.le_of_ble_eq_true rfl) (Nat.le_of_ble_eq_true rfl) ⟨rfl, rfl⟩
set_option maxHeartbeats 4000000 in
set_option maxRecDepth 100000 in
theorem c_D_deadA {i : Nat} {y : Int32} (hK : Dk κ z ws h0 hs hl cap cm tr na mo to co sn nb n el ro lv cd pl) (hn4 : n ≤ 4000) (hcap : cap ≤ 10000) (h1 : 1 ≤ i) (h2 : i ≤ n) (hd : cd (i - 1) = nI 3) : Ct l y_D_dead b_D_dead 4 (some .boolean) 4 0 0 D (gk κ, z) ws [.ref h0, .int (nI i), .int y] (rt (.int 1) ws) := by
  refine Ct.of (by decide) (Nat.le_of_ble_eq_true rfl) ?_
  intro p e s0 m below meth c A hC hr hn
  obtain ⟨hO, hS9, hLs, hTr, hTi, hNi, hGs, hGi⟩ := id hK
  obtain ⟨mc9, he9, hL, hL2⟩ := id hLs
  refine u_aload_n hC d_D_dead_0 rfl ?_
  refine u_iload_n hC d_D_dead_1 rfl ?_
  refine w_callVr hC (c_D_findT hK hn4 hcap h1 h2) k_D_98 i_D_find hO rfl ⟨(Nat.le_of_ble_eq_true rfl), (Nat.le_of_ble_eq_true rfl)⟩ ⟨(Nat.le_of_ble_eq_true rfl), (Nat.le_of_ble_eq_true rfl)⟩ rfl rfl (Nat.le_of_ble_eq_true rfl) d_D_dead_2 ?_
  refine u_astore_n hC d_D_dead_5 (by decide) ?_
  refine u_aload_n hC d_D_dead_6 rfl ?_
  refine u_ifnonnull hC 12 d_D_dead_7 (by decide) ?_
  refine u_aload_n hC d_D_dead_12 rfl ?_
  refine w_get hC f_D_102 (hGs (i - 1) (by omega)) rfl d_D_dead_13 ?_
  refine u_iconst hC (nI 3) d_D_dead_16 (by decide) ?_
  refine u_icmp_eq hC 32 d_D_dead_17 (by decide) (fun h_17 => ?_) (fun h_17 => absurd hd h_17)
  refine u_iconst hC (nI 1) d_D_dead_32 (by decide) ?_
  refine u_goto hC 37 d_D_dead_33 (by decide) ?_
  exact u_zret hC hr rfl d_D_dead_37 (Nat.le_of_ble_eq_true rfl) (Nat.le_of_ble_eq_true rfl) ⟨rfl, rfl⟩
set_option maxHeartbeats 4000000 in
set_option maxRecDepth 100000 in
theorem c_D_deadE {i : Nat} {y v : Int32} {w2 : Value} (hK : Dk κ z ws h0 hs hl cap cm tr na mo to co sn nb n el ro lv cd pl) (hn4 : n ≤ 4000) (hcap : cap ≤ 10000) (h1 : 1 ≤ i) (h2 : i ≤ n) (hd : ¬ cd (i - 1) = nI 3) (C2 : Ct l y_D_find b_D_find 2 (some (.object "SnapshotDesk$Given")) 3 0 0 D (gk κ, z) ws [.ref h0, .int y] (rt w2 ws)) (E2 : Ct l y_D_isInEveryLiveSnapshot b_D_isInEveryLiveSnapshot 4 (some .boolean) 1 0 0 D (gk κ, z) ws [.ref h0, w2] (rt (.int v) ws)) : Ct l y_D_dead b_D_dead 4 (some .boolean) 4 0 0 D (gk κ, z) ws [.ref h0, .int (nI i), .int y] (rt (.int (if v = 0 then 0 else 1)) ws) := by
  refine Ct.of (by decide) (Nat.le_of_ble_eq_true rfl) ?_
  intro p e s0 m below meth c A hC hr hn
  obtain ⟨hO, hS9, hLs, hTr, hTi, hNi, hGs, hGi⟩ := id hK
  obtain ⟨mc9, he9, hL, hL2⟩ := id hLs
  refine u_aload_n hC d_D_dead_0 rfl ?_
  refine u_iload_n hC d_D_dead_1 rfl ?_
  refine w_callVr hC (c_D_findT hK hn4 hcap h1 h2) k_D_98 i_D_find hO rfl ⟨(Nat.le_of_ble_eq_true rfl), (Nat.le_of_ble_eq_true rfl)⟩ ⟨(Nat.le_of_ble_eq_true rfl), (Nat.le_of_ble_eq_true rfl)⟩ rfl rfl (Nat.le_of_ble_eq_true rfl) d_D_dead_2 ?_
  refine u_astore_n hC d_D_dead_5 (by decide) ?_
  refine u_aload_n hC d_D_dead_6 rfl ?_
  refine u_ifnonnull hC 12 d_D_dead_7 (by decide) ?_
  refine u_aload_n hC d_D_dead_12 rfl ?_
  refine w_get hC f_D_102 (hGs (i - 1) (by omega)) rfl d_D_dead_13 ?_
  refine u_iconst hC (nI 3) d_D_dead_16 (by decide) ?_
  refine u_icmp_eq hC 32 d_D_dead_17 (by decide) (fun h_17 => absurd h_17 hd) (fun h_17 => ?_)
  refine u_aload_n hC d_D_dead_20 rfl ?_
  refine u_aload_n hC d_D_dead_21 rfl ?_
  refine u_iload_n hC d_D_dead_22 rfl ?_
  refine w_callVr hC (C2) k_D_98 i_D_find hO rfl ⟨(Nat.le_of_ble_eq_true rfl), (Nat.le_of_ble_eq_true rfl)⟩ ⟨(Nat.le_of_ble_eq_true rfl), (Nat.le_of_ble_eq_true rfl)⟩ rfl rfl (Nat.le_of_ble_eq_true rfl) d_D_dead_23 ?_
  refine w_callVr hC (E2) k_D_115 i_D_isInEveryLiveSnapshot hO rfl ⟨(Nat.le_of_ble_eq_true rfl), (Nat.le_of_ble_eq_true rfl)⟩ ⟨(Nat.le_of_ble_eq_true rfl), (Nat.le_of_ble_eq_true rfl)⟩ rfl rfl (Nat.le_of_ble_eq_true rfl) d_D_dead_26 ?_
  refine u_if_eq hC 36 d_D_dead_29 (by decide) (fun h_29 => ?_) (fun h_29 => ?_)
  · refine u_iconst hC (nI 0) d_D_dead_36 (by decide) ?_
    exact u_zret hC hr rfl d_D_dead_37 (Nat.le_of_ble_eq_true rfl) (Nat.le_of_ble_eq_true rfl) ⟨by first | (rw [if_pos h_29]; rfl) | (rw [if_neg h_29]; rfl), rfl⟩
  · refine u_iconst hC (nI 1) d_D_dead_32 (by decide) ?_
    refine u_goto hC 37 d_D_dead_33 (by decide) ?_
    exact u_zret hC hr rfl d_D_dead_37 (Nat.le_of_ble_eq_true rfl) (Nat.le_of_ble_eq_true rfl) ⟨by first | (rw [if_pos h_29]; rfl) | (rw [if_neg h_29]; rfl), rfl⟩
set_option maxHeartbeats 4000000 in
set_option maxRecDepth 100000 in
theorem c_D_look5 {s : Int32} (hK : Dk κ z ws h0 hs hl cap cm tr na mo to co sn nb n el ro lv cd pl) : Ct l y_D_look b_D_look 4 (some .int) 2 0 0 D (gk κ, z) ws [.ref h0, .int s, .int (nI 5)] (rt (.int (nI n)) ws) := by
  refine Ct.of (by decide) (Nat.le_of_ble_eq_true rfl) ?_
  intro p e s0 m below meth c A hC hr hn
  obtain ⟨hO, hS9, hLs, hTr, hTi, hNi, hGs, hGi⟩ := id hK
  obtain ⟨mc9, he9, hL, hL2⟩ := id hLs
  refine u_iload_n hC d_D_look_0 rfl ?_
  refine u_iconst hC (nI 5) d_D_look_1 (by decide) ?_
  refine u_icmp_ne hC 13 d_D_look_2 (by decide) (fun h_2 => absurd rfl h_2) (fun h_2 => ?_)
  refine u_aload_n hC d_D_look_5 rfl ?_
  refine w_get hC f_D_18 hO rfl d_D_look_6 ?_
  refine w_callVr hC (c_L_size hL) k_D_54 i_L_size hL rfl ⟨(Nat.le_of_ble_eq_true rfl), (Nat.le_of_ble_eq_true rfl)⟩ ⟨(Nat.le_of_ble_eq_true rfl), (Nat.le_of_ble_eq_true rfl)⟩ rfl rfl (Nat.le_of_ble_eq_true rfl) d_D_look_9 ?_
  exact u_iret hC hr d_D_look_12 (Nat.le_of_ble_eq_true rfl) (Nat.le_of_ble_eq_true rfl) ⟨rfl, rfl⟩
set_option maxHeartbeats 4000000 in
set_option maxRecDepth 100000 in
theorem c_D_look6 {s : Int32} (hK : Dk κ z ws h0 hs hl cap cm tr na mo to co sn nb n el ro lv cd pl) : Ct l y_D_look b_D_look 4 (some .int) 2 0 0 D (gk κ, z) ws [.ref h0, .int s, .int (nI 6)] (rt (.int cm) ws) := by
  refine Ct.of (by decide) (Nat.le_of_ble_eq_true rfl) ?_
  intro p e s0 m below meth c A hC hr hn
  obtain ⟨hO, hS9, hLs, hTr, hTi, hNi, hGs, hGi⟩ := id hK
  obtain ⟨mc9, he9, hL, hL2⟩ := id hLs
  refine u_iload_n hC d_D_look_0 rfl ?_
  refine u_iconst hC (nI 5) d_D_look_1 (by decide) ?_
  refine u_icmp_ne hC 13 d_D_look_2 (by decide) (fun h_2 => ?_) (fun h_2 => absurd h_2 (by decide))
  refine u_iload_n hC d_D_look_13 rfl ?_
  refine u_bipush hC (nI 6) d_D_look_14 (by decide) ?_
  refine u_icmp_ne hC 24 d_D_look_16 (by decide) (fun h_16 => absurd rfl h_16) (fun h_16 => ?_)
  refine u_aload_n hC d_D_look_19 rfl ?_
  refine w_get hC f_D_22 hO rfl d_D_look_20 ?_
  exact u_iret hC hr d_D_look_23 (Nat.le_of_ble_eq_true rfl) (Nat.le_of_ble_eq_true rfl) ⟨rfl, rfl⟩
set_option maxHeartbeats 4000000 in
set_option maxRecDepth 100000 in
theorem c_D_lookF {s x : Int32} (hK : Dk κ z ws h0 hs hl cap cm tr na mo to co sn nb n el ro lv cd pl) (hb : ¬ ∃ j t : Nat, j < 6 ∧ s = nI j ∧ tr j = some t) (h5 : ¬ x = nI 5) (h6 : ¬ x = nI 6) : Ct l y_D_look b_D_look 4 (some .int) 2 0 0 D (gk κ, z) ws [.ref h0, .int s, .int x] (rt (.int (-1)) ws) := by
  refine Ct.of (by decide) (Nat.le_of_ble_eq_true rfl) ?_
  intro p e s0 m below meth c A hC hr hn
  obtain ⟨hO, hS9, hLs, hTr, hTi, hNi, hGs, hGi⟩ := id hK
  obtain ⟨mc9, he9, hL, hL2⟩ := id hLs
  refine u_iload_n hC d_D_look_0 rfl ?_
  refine u_iconst hC (nI 5) d_D_look_1 (by decide) ?_
  refine u_icmp_ne hC 13 d_D_look_2 (by decide) (fun h_2 => ?_) (fun h_2 => absurd h_2 h5)
  refine u_iload_n hC d_D_look_13 rfl ?_
  refine u_bipush hC (nI 6) d_D_look_14 (by decide) ?_
  refine u_icmp_ne hC 24 d_D_look_16 (by decide) (fun h_16 => ?_) (fun h_16 => absurd h_16 h6)
  refine u_aload_n hC d_D_look_24 rfl ?_
  refine u_iload_n hC d_D_look_25 rfl ?_
  refine w_callVr hC (c_D_trF hK hb) k_D_33 i_D_transactionOf hO rfl ⟨(Nat.le_of_ble_eq_true rfl), (Nat.le_of_ble_eq_true rfl)⟩ ⟨(Nat.le_of_ble_eq_true rfl), (Nat.le_of_ble_eq_true rfl)⟩ rfl rfl (Nat.le_of_ble_eq_true rfl) d_D_look_26 ?_
  refine u_astore_nN hC d_D_look_29 (by decide) ?_
  refine u_aload_nN hC d_D_look_30 rfl ?_
  refine u_ifnonnullN hC d_D_look_31 ?_
  refine u_iconst hC (-1) d_D_look_34 (by decide) ?_
  refine u_goto hC 43 d_D_look_35 (by decide) ?_
  exact u_iret hC hr d_D_look_43 (Nat.le_of_ble_eq_true rfl) (Nat.le_of_ble_eq_true rfl) ⟨rfl, rfl⟩
set_option maxHeartbeats 4000000 in
set_option maxRecDepth 100000 in
theorem c_D_lookT {j t : Nat} {x v : Int32} (hK : Dk κ z ws h0 hs hl cap cm tr na mo to co sn nb n el ro lv cd pl) (hj : j < 6) (ht : tr j = some t) (h5 : ¬ x = nI 5) (h6 : ¬ x = nI 6) (S1 : Ct l y_D_lookAt b_D_lookAt 2 (some .int) 0 0 0 D (gk κ, z) ws [.ref t, .int x] (rt (.int v) ws)) : Ct l y_D_look b_D_look 4 (some .int) 2 0 0 D (gk κ, z) ws [.ref h0, .int (nI j), .int x] (rt (.int v) ws) := by
  refine Ct.of (by decide) (Nat.le_of_ble_eq_true rfl) ?_
  intro p e s0 m below meth c A hC hr hn
  obtain ⟨hO, hS9, hLs, hTr, hTi, hNi, hGs, hGi⟩ := id hK
  obtain ⟨mc9, he9, hL, hL2⟩ := id hLs
  obtain ⟨hT, hN⟩ := hTr j t hj ht
  refine u_iload_n hC d_D_look_0 rfl ?_
  refine u_iconst hC (nI 5) d_D_look_1 (by decide) ?_
  refine u_icmp_ne hC 13 d_D_look_2 (by decide) (fun h_2 => ?_) (fun h_2 => absurd h_2 h5)
  refine u_iload_n hC d_D_look_13 rfl ?_
  refine u_bipush hC (nI 6) d_D_look_14 (by decide) ?_
  refine u_icmp_ne hC 24 d_D_look_16 (by decide) (fun h_16 => ?_) (fun h_16 => absurd h_16 h6)
  refine u_aload_n hC d_D_look_24 rfl ?_
  refine u_iload_n hC d_D_look_25 rfl ?_
  refine w_callVr hC (c_D_trT hK hj ht) k_D_33 i_D_transactionOf hO rfl ⟨(Nat.le_of_ble_eq_true rfl), (Nat.le_of_ble_eq_true rfl)⟩ ⟨(Nat.le_of_ble_eq_true rfl), (Nat.le_of_ble_eq_true rfl)⟩ rfl rfl (Nat.le_of_ble_eq_true rfl) d_D_look_26 ?_
  refine u_astore_n hC d_D_look_29 (by decide) ?_
  refine u_aload_n hC d_D_look_30 rfl ?_
  refine u_ifnonnull hC 38 d_D_look_31 (by decide) ?_
  refine u_aload_n hC d_D_look_38 rfl ?_
  refine u_iload_n hC d_D_look_39 rfl ?_
  refine u_callSr hC (S1) k_D_118 s_D_lookAt ⟨(Nat.le_of_ble_eq_true rfl), (Nat.le_of_ble_eq_true rfl)⟩ ⟨(Nat.le_of_ble_eq_true rfl), (Nat.le_of_ble_eq_true rfl)⟩ rfl rfl (Nat.le_of_ble_eq_true rfl) d_D_look_40 ?_
  exact u_iret hC hr d_D_look_43 (Nat.le_of_ble_eq_true rfl) (Nat.le_of_ble_eq_true rfl) ⟨rfl, rfl⟩
end DR
