/-- the numbers of a transaction (by its root) at level x and upon it -/
abbrev d_up (ro lv : Nat → Int32) (r x : Int32) (i : Nat) : Prop := ro i = r ∧ ¬ lv i < x
/-- the running numbers of a transaction -/
abbrev d_run (ro cd : Nat → Int32) (r : Int32) (i : Nat) : Prop := ro i = r ∧ cd i = nI 1
section DX0
variable {l : Launch} {D : va_G} {κ : Nat → ClassId} {z : Nat × Nat} {h0 hs hl cap : Nat} {cm : Int32} {tr : Nat → Option Nat} {na : Nat → Nat} {mo to co sn : Nat → Int32} {nb : Nat → Nat → Int32} {n : Nat} {el : Nat → Nat} {ro lv cd pl : Nat → Int32}
variable {p : Program} {e : Env} {R : Room} {s0 : State} {m : MethodId} {args : Array Value} {below : List Frame} {meth : Method} {c : Code} {A : Nat → Prop} {Q : State → Prop}
set_option maxHeartbeats 4000000 in
set_option maxRecDepth 100000 in
theorem l_D_abort {t na0 : Nat} {md tp c0 s1 : Int32} {nb0 : Nat → Int32} {x : Int32} {s9 : Int32} (hn4 : n ≤ 4000) (hcap : cap ≤ 10000) (hC : vx p s0 m args meth c b_D_abortNumbersFrom 5 R_D D (gk κ, z) A) (hR : 2 + 1 ≤ R.frames ∧ 8 + (2 + 11) + 40 * 2 ≤ R.locals) (exit : ∀ ws : va_W, Dk κ z ws h0 hs hl cap cm tr na mo to co sn nb n el ro lv (dset (d_up ro lv (nb0 0) x) cd (nI 3) n) pl → wg ws t = some (cT md na0 tp c0 s1) → wg ws na0 = some (aI κ 8 nb0) → U p l e R s0 m args below meth c 5 D A ws 0 0 Q 56 [(3, .int (nI n)), (0, .ref h0), (1, .ref t), (2, .int x)] []) : ∀ (r i : Nat) (ws : va_W), i + r = n → Dk κ z ws h0 hs hl cap cm tr na mo to co sn nb n el ro lv (dset (d_up ro lv (nb0 0) x) cd (nI 3) i) pl → wg ws t = some (cT md na0 tp c0 s1) → wg ws na0 = some (aI κ 8 nb0) → U p l e R s0 m args below meth c 5 D A ws 0 0 Q 2 [(3, .int (nI i)), (0, .ref h0), (1, .ref t), (2, .int x)] [] := by
  have hR0 : 0 + 1 ≤ R.frames ∧ 8 + (2 + 11) + 40 * 0 ≤ R.locals := ⟨by omega, by omega⟩
  have hR1 : 0 + 1 ≤ R.frames ∧ 8 + (1 + 11) + 40 * 0 ≤ R.locals := ⟨by omega, by omega⟩
  intro r
  induction r with
  | zero =>
    intro i ws hi hK hT hN
    have e : i = n := by omega
    subst e
    obtain ⟨hO, hS9, hLs, hTr, hTi, hNi, hGs, hGi⟩ := id hK
    obtain ⟨mc9, he9, hL, hL2⟩ := id hLs
    refine u_iload_n hC d_D_abortNumbersFrom_2 rfl ?_
    refine u_aload_n hC d_D_abortNumbersFrom_3 rfl ?_
    refine w_get hC f_D_18 hO rfl d_D_abortNumbersFrom_4 ?_
    refine w_callVr hC (c_L_size hL) k_D_54 i_L_size hL rfl hR1 ⟨Nat.zero_le _, Nat.zero_le _⟩ rfl rfl (Nat.le_of_ble_eq_true rfl) d_D_abortNumbersFrom_7 ?_
    refine u_icmp_ge hC 56 d_D_abortNumbersFrom_10 (by decide) (fun h_10 => ?_) (fun h_10 => absurd (nI_le (Nat.le_refl _) (by omega)) h_10)
    exact exit ws hK hT hN
  | succ r ih =>
    intro i ws hi hK hT hN
    obtain ⟨hO, hS9, hLs, hTr, hTi, hNi, hGs, hGi⟩ := id hK
    obtain ⟨mc9, he9, hL, hL2⟩ := id hLs
    have hG := hGs i (by omega)
    rw [dset_at (Nat.le_refl i)] at hG
    by_cases hP : d_up ro lv (nb0 0) x i
    · refine u_iload_n hC d_D_abortNumbersFrom_2 rfl ?_
      refine u_aload_n hC d_D_abortNumbersFrom_3 rfl ?_
      refine w_get hC f_D_18 hO rfl d_D_abortNumbersFrom_4 ?_
      refine w_callVr hC (c_L_size hL) k_D_54 i_L_size hL rfl hR1 ⟨Nat.zero_le _, Nat.zero_le _⟩ rfl rfl (Nat.le_of_ble_eq_true rfl) d_D_abortNumbersFrom_7 ?_
      refine u_icmp_ge hC 56 d_D_abortNumbersFrom_10 (by decide) (fun h_10 => absurd h_10 (nI_ge (by omega) (by omega))) (fun h_10 => ?_)
      refine u_aload_n hC d_D_abortNumbersFrom_13 rfl ?_
      refine w_get hC f_D_18 hO rfl d_D_abortNumbersFrom_14 ?_
      refine u_iload_n hC d_D_abortNumbersFrom_17 rfl ?_
      refine w_callVr hC (c_L_get hLs hcap (by omega)) k_D_72 i_L_get hL rfl hR ⟨Nat.zero_le _, Nat.zero_le _⟩ rfl rfl (Nat.le_of_ble_eq_true rfl) d_D_abortNumbersFrom_18 ?_
      refine w_cast hC rfl l_D_76 hG d_D_abortNumbersFrom_21 ?_
      refine u_astore hC d_D_abortNumbersFrom_24 (by decide) ?_
      refine u_aload_n hC d_D_abortNumbersFrom_26 rfl ?_
      refine u_aload hC d_D_abortNumbersFrom_27 rfl ?_
      refine w_callVr hC (c_T_ownsT hT hN hG hP.1) k_D_78 i_T_owns hT rfl hR0 ⟨Nat.zero_le _, Nat.zero_le _⟩ rfl rfl (Nat.le_of_ble_eq_true rfl) d_D_abortNumbersFrom_29 ?_
      refine u_if_eq hC 50 d_D_abortNumbersFrom_32 (by decide) (fun h_32 => absurd h_32 (by decide)) (fun h_32 => ?_)
      refine u_aload hC d_D_abortNumbersFrom_35 rfl ?_
      refine w_get hC f_D_82 hG rfl d_D_abortNumbersFrom_37 ?_
      refine u_iload_n hC d_D_abortNumbersFrom_40 rfl ?_
      refine u_icmp_lt hC 50 d_D_abortNumbersFrom_41 (by decide) (fun h_41 => absurd h_41 hP.2) (fun h_41 => ?_)
      refine u_aload hC d_D_abortNumbersFrom_44 rfl ?_
      refine u_iconst hC (nI 3) d_D_abortNumbersFrom_46 (by decide) ?_
      refine w_put hC f_D_102 (tt_G 2 (by decide)) rfl hG rfl rfl (Nat.le_of_ble_eq_true rfl) d_D_abortNumbersFrom_47 ?_
      refine u_iinc hC (nI (i + 1)) (j := 1) d_D_abortNumbersFrom_50 rfl (nI_1 i) (by decide) ?_
      refine u_goto hC 2 d_D_abortNumbersFrom_53 (by decide) ?_
      refine u_pick [0, 2, 3, 4] rfl ?_
      refine ih (i + 1) _ (by omega) (Dk.setcd hK (by omega) hP) (by rw [wg_upN (wg_ne hT hG (by intro w; cases w))]; exact hT) (by rw [wg_upN (wg_ne hN hG (by intro w; cases w))]; exact hN)
    · by_cases ho : ro i = nb0 0
      · refine u_iload_n hC d_D_abortNumbersFrom_2 rfl ?_
        refine u_aload_n hC d_D_abortNumbersFrom_3 rfl ?_
        refine w_get hC f_D_18 hO rfl d_D_abortNumbersFrom_4 ?_
        refine w_callVr hC (c_L_size hL) k_D_54 i_L_size hL rfl hR1 ⟨Nat.zero_le _, Nat.zero_le _⟩ rfl rfl (Nat.le_of_ble_eq_true rfl) d_D_abortNumbersFrom_7 ?_
        refine u_icmp_ge hC 56 d_D_abortNumbersFrom_10 (by decide) (fun h_10 => absurd h_10 (nI_ge (by omega) (by omega))) (fun h_10 => ?_)
        refine u_aload_n hC d_D_abortNumbersFrom_13 rfl ?_
        refine w_get hC f_D_18 hO rfl d_D_abortNumbersFrom_14 ?_
        refine u_iload_n hC d_D_abortNumbersFrom_17 rfl ?_
        refine w_callVr hC (c_L_get hLs hcap (by omega)) k_D_72 i_L_get hL rfl hR ⟨Nat.zero_le _, Nat.zero_le _⟩ rfl rfl (Nat.le_of_ble_eq_true rfl) d_D_abortNumbersFrom_18 ?_
        refine w_cast hC rfl l_D_76 hG d_D_abortNumbersFrom_21 ?_
        refine u_astore hC d_D_abortNumbersFrom_24 (by decide) ?_
        refine u_aload_n hC d_D_abortNumbersFrom_26 rfl ?_
        refine u_aload hC d_D_abortNumbersFrom_27 rfl ?_
        refine w_callVr hC (c_T_ownsT hT hN hG ho) k_D_78 i_T_owns hT rfl hR0 ⟨Nat.zero_le _, Nat.zero_le _⟩ rfl rfl (Nat.le_of_ble_eq_true rfl) d_D_abortNumbersFrom_29 ?_
        refine u_if_eq hC 50 d_D_abortNumbersFrom_32 (by decide) (fun h_32 => absurd h_32 (by decide)) (fun h_32 => ?_)
        refine u_aload hC d_D_abortNumbersFrom_35 rfl ?_
        refine w_get hC f_D_82 hG rfl d_D_abortNumbersFrom_37 ?_
        refine u_iload_n hC d_D_abortNumbersFrom_40 rfl ?_
        refine u_icmp_lt hC 50 d_D_abortNumbersFrom_41 (by decide) (fun h_41 => ?_) (fun h_41 => absurd (Decidable.byContradiction (fun w => hP ⟨ho, w⟩)) h_41)
        refine u_iinc hC (nI (i + 1)) (j := 1) d_D_abortNumbersFrom_50 rfl (nI_1 i) (by decide) ?_
        refine u_goto hC 2 d_D_abortNumbersFrom_53 (by decide) ?_
        refine u_pick [0, 2, 3, 4] rfl ?_
        refine ih (i + 1) ws (by omega) ?_ hT hN
        rw [dset_F hP] at hK
        exact hK
      · refine u_iload_n hC d_D_abortNumbersFrom_2 rfl ?_
        refine u_aload_n hC d_D_abortNumbersFrom_3 rfl ?_
        refine w_get hC f_D_18 hO rfl d_D_abortNumbersFrom_4 ?_
        refine w_callVr hC (c_L_size hL) k_D_54 i_L_size hL rfl hR1 ⟨Nat.zero_le _, Nat.zero_le _⟩ rfl rfl (Nat.le_of_ble_eq_true rfl) d_D_abortNumbersFrom_7 ?_
        refine u_icmp_ge hC 56 d_D_abortNumbersFrom_10 (by decide) (fun h_10 => absurd h_10 (nI_ge (by omega) (by omega))) (fun h_10 => ?_)
        refine u_aload_n hC d_D_abortNumbersFrom_13 rfl ?_
        refine w_get hC f_D_18 hO rfl d_D_abortNumbersFrom_14 ?_
        refine u_iload_n hC d_D_abortNumbersFrom_17 rfl ?_
        refine w_callVr hC (c_L_get hLs hcap (by omega)) k_D_72 i_L_get hL rfl hR ⟨Nat.zero_le _, Nat.zero_le _⟩ rfl rfl (Nat.le_of_ble_eq_true rfl) d_D_abortNumbersFrom_18 ?_
        refine w_cast hC rfl l_D_76 hG d_D_abortNumbersFrom_21 ?_
        refine u_astore hC d_D_abortNumbersFrom_24 (by decide) ?_
        refine u_aload_n hC d_D_abortNumbersFrom_26 rfl ?_
        refine u_aload hC d_D_abortNumbersFrom_27 rfl ?_
        refine w_callVr hC (c_T_ownsF hT hN hG ho) k_D_78 i_T_owns hT rfl hR0 ⟨Nat.zero_le _, Nat.zero_le _⟩ rfl rfl (Nat.le_of_ble_eq_true rfl) d_D_abortNumbersFrom_29 ?_
        refine u_if_eq hC 50 d_D_abortNumbersFrom_32 (by decide) (fun h_32 => ?_) (fun h_32 => absurd rfl h_32)
        refine u_iinc hC (nI (i + 1)) (j := 1) d_D_abortNumbersFrom_50 rfl (nI_1 i) (by decide) ?_
        refine u_goto hC 2 d_D_abortNumbersFrom_53 (by decide) ?_
        refine u_pick [0, 2, 3, 4] rfl ?_
        refine ih (i + 1) ws (by omega) ?_ hT hN
        rw [dset_F hP] at hK
        exact hK
set_option maxHeartbeats 4000000 in
set_option maxRecDepth 100000 in
theorem l_D_commit {t na0 : Nat} {md tp c0 s1 : Int32} {nb0 : Nat → Int32} {x : Int32} {s9 : Int32} (hn4 : n ≤ 4000) (hcap : cap ≤ 10000) (hC : vx p s0 m args meth c b_D_commitRunningNumbers 4 R_D D (gk κ, z) A) (hR : 2 + 1 ≤ R.frames ∧ 8 + (2 + 11) + 40 * 2 ≤ R.locals) (exit : ∀ ws : va_W, Dk κ z ws h0 hs hl cap cm tr na mo to co sn nb n el ro lv (dset (d_run ro cd (nb0 0)) cd (nI 2) n) (dset (d_run ro cd (nb0 0)) pl cm n) → wg ws t = some (cT md na0 tp c0 s1) → wg ws na0 = some (aI κ 8 nb0) → U p l e R s0 m args below meth c 4 D A ws 0 0 Q 60 [(2, .int (nI n)), (0, .ref h0), (1, .ref t)] []) : ∀ (r i : Nat) (ws : va_W), i + r = n → Dk κ z ws h0 hs hl cap cm tr na mo to co sn nb n el ro lv (dset (d_run ro cd (nb0 0)) cd (nI 2) i) (dset (d_run ro cd (nb0 0)) pl cm i) → wg ws t = some (cT md na0 tp c0 s1) → wg ws na0 = some (aI κ 8 nb0) → U p l e R s0 m args below meth c 4 D A ws 0 0 Q 2 [(2, .int (nI i)), (0, .ref h0), (1, .ref t)] [] := by
  have hR0 : 0 + 1 ≤ R.frames ∧ 8 + (2 + 11) + 40 * 0 ≤ R.locals := ⟨by omega, by omega⟩
  have hR1 : 0 + 1 ≤ R.frames ∧ 8 + (1 + 11) + 40 * 0 ≤ R.locals := ⟨by omega, by omega⟩
  intro r
  induction r with
  | zero =>
    intro i ws hi hK hT hN
    have e : i = n := by omega
    subst e
    obtain ⟨hO, hS9, hLs, hTr, hTi, hNi, hGs, hGi⟩ := id hK
    obtain ⟨mc9, he9, hL, hL2⟩ := id hLs
    refine u_iload_n hC d_D_commitRunningNumbers_2 rfl ?_
    refine u_aload_n hC d_D_commitRunningNumbers_3 rfl ?_
    refine w_get hC f_D_18 hO rfl d_D_commitRunningNumbers_4 ?_
    refine w_callVr hC (c_L_size hL) k_D_54 i_L_size hL rfl hR1 ⟨Nat.zero_le _, Nat.zero_le _⟩ rfl rfl (Nat.le_of_ble_eq_true rfl) d_D_commitRunningNumbers_7 ?_
    refine u_icmp_ge hC 60 d_D_commitRunningNumbers_10 (by decide) (fun h_10 => ?_) (fun h_10 => absurd (nI_le (Nat.le_refl _) (by omega)) h_10)
    exact exit ws hK hT hN
  | succ r ih =>
    intro i ws hi hK hT hN
    obtain ⟨hO, hS9, hLs, hTr, hTi, hNi, hGs, hGi⟩ := id hK
    obtain ⟨mc9, he9, hL, hL2⟩ := id hLs
    have hG := hGs i (by omega)
    rw [dset_at (Nat.le_refl i), dset_at (Nat.le_refl i)] at hG
    by_cases hP : d_run ro cd (nb0 0) i
    · refine u_iload_n hC d_D_commitRunningNumbers_2 rfl ?_
      refine u_aload_n hC d_D_commitRunningNumbers_3 rfl ?_
      refine w_get hC f_D_18 hO rfl d_D_commitRunningNumbers_4 ?_
      refine w_callVr hC (c_L_size hL) k_D_54 i_L_size hL rfl hR1 ⟨Nat.zero_le _, Nat.zero_le _⟩ rfl rfl (Nat.le_of_ble_eq_true rfl) d_D_commitRunningNumbers_7 ?_
      refine u_icmp_ge hC 60 d_D_commitRunningNumbers_10 (by decide) (fun h_10 => absurd h_10 (nI_ge (by omega) (by omega))) (fun h_10 => ?_)
      refine u_aload_n hC d_D_commitRunningNumbers_13 rfl ?_
      refine w_get hC f_D_18 hO rfl d_D_commitRunningNumbers_14 ?_
      refine u_iload_n hC d_D_commitRunningNumbers_17 rfl ?_
      refine w_callVr hC (c_L_get hLs hcap (by omega)) k_D_72 i_L_get hL rfl hR ⟨Nat.zero_le _, Nat.zero_le _⟩ rfl rfl (Nat.le_of_ble_eq_true rfl) d_D_commitRunningNumbers_18 ?_
      refine w_cast hC rfl l_D_76 hG d_D_commitRunningNumbers_21 ?_
      refine u_astore_n hC d_D_commitRunningNumbers_24 (by decide) ?_
      refine u_aload_n hC d_D_commitRunningNumbers_25 rfl ?_
      refine u_aload_n hC d_D_commitRunningNumbers_26 rfl ?_
      refine w_callVr hC (c_T_ownsT hT hN hG hP.1) k_D_78 i_T_owns hT rfl hR0 ⟨Nat.zero_le _, Nat.zero_le _⟩ rfl rfl (Nat.le_of_ble_eq_true rfl) d_D_commitRunningNumbers_27 ?_
      refine u_if_eq hC 54 d_D_commitRunningNumbers_30 (by decide) (fun h_30 => absurd h_30 (by decide)) (fun h_30 => ?_)
      refine u_aload_n hC d_D_commitRunningNumbers_33 rfl ?_
      refine w_get hC f_D_102 hG rfl d_D_commitRunningNumbers_34 ?_
      refine u_iconst hC (nI 1) d_D_commitRunningNumbers_37 (by decide) ?_
      refine u_icmp_ne hC 54 d_D_commitRunningNumbers_38 (by decide) (fun h_38 => absurd hP.2 h_38) (fun h_38 => ?_)
      refine u_aload_n hC d_D_commitRunningNumbers_41 rfl ?_
      refine u_iconst hC (nI 2) d_D_commitRunningNumbers_42 (by decide) ?_
      refine w_put hC f_D_102 (tt_G 2 (by decide)) rfl hG rfl rfl (Nat.le_of_ble_eq_true rfl) d_D_commitRunningNumbers_43 ?_
      have hG1 : wg (wup ws (el i) (cG (ro i) (lv i) (nI 2) (pl i))) (el i) = some (cG (ro i) (lv i) (nI 2) (pl i)) := wg_up hG
      have hO1 : wg (wup ws (el i) (cG (ro i) (lv i) (nI 2) (pl i))) h0 = some (cD hs hl cm) := by rw [wg_upN (wg_ne hO hG (by intro w; cases w))]; exact hO
      refine u_aload_n hC d_D_commitRunningNumbers_46 rfl ?_
      refine u_aload_n hC d_D_commitRunningNumbers_47 rfl ?_
      refine w_get hC f_D_22 hO1 rfl d_D_commitRunningNumbers_48 ?_
      refine w_put hC f_D_108 (tt_G 3 (by decide)) rfl hG1 rfl rfl (Nat.le_of_ble_eq_true rfl) d_D_commitRunningNumbers_51 ?_
      rw [wup_wup]
      refine u_iinc hC (nI (i + 1)) (j := 1) d_D_commitRunningNumbers_54 rfl (nI_1 i) (by decide) ?_
      refine u_goto hC 2 d_D_commitRunningNumbers_57 (by decide) ?_
      refine u_pick [0, 2, 3] rfl ?_
      refine ih (i + 1) _ (by omega) (Dk.setcp hK (by omega) hP) (by rw [wg_upN (wg_ne hT hG (by intro w; cases w))]; exact hT) (by rw [wg_upN (wg_ne hN hG (by intro w; cases w))]; exact hN)
    · by_cases ho : ro i = nb0 0
      · refine u_iload_n hC d_D_commitRunningNumbers_2 rfl ?_
        refine u_aload_n hC d_D_commitRunningNumbers_3 rfl ?_
        refine w_get hC f_D_18 hO rfl d_D_commitRunningNumbers_4 ?_
        refine w_callVr hC (c_L_size hL) k_D_54 i_L_size hL rfl hR1 ⟨Nat.zero_le _, Nat.zero_le _⟩ rfl rfl (Nat.le_of_ble_eq_true rfl) d_D_commitRunningNumbers_7 ?_
        refine u_icmp_ge hC 60 d_D_commitRunningNumbers_10 (by decide) (fun h_10 => absurd h_10 (nI_ge (by omega) (by omega))) (fun h_10 => ?_)
        refine u_aload_n hC d_D_commitRunningNumbers_13 rfl ?_
        refine w_get hC f_D_18 hO rfl d_D_commitRunningNumbers_14 ?_
        refine u_iload_n hC d_D_commitRunningNumbers_17 rfl ?_
        refine w_callVr hC (c_L_get hLs hcap (by omega)) k_D_72 i_L_get hL rfl hR ⟨Nat.zero_le _, Nat.zero_le _⟩ rfl rfl (Nat.le_of_ble_eq_true rfl) d_D_commitRunningNumbers_18 ?_
        refine w_cast hC rfl l_D_76 hG d_D_commitRunningNumbers_21 ?_
        refine u_astore_n hC d_D_commitRunningNumbers_24 (by decide) ?_
        refine u_aload_n hC d_D_commitRunningNumbers_25 rfl ?_
        refine u_aload_n hC d_D_commitRunningNumbers_26 rfl ?_
        refine w_callVr hC (c_T_ownsT hT hN hG ho) k_D_78 i_T_owns hT rfl hR0 ⟨Nat.zero_le _, Nat.zero_le _⟩ rfl rfl (Nat.le_of_ble_eq_true rfl) d_D_commitRunningNumbers_27 ?_
        refine u_if_eq hC 54 d_D_commitRunningNumbers_30 (by decide) (fun h_30 => absurd h_30 (by decide)) (fun h_30 => ?_)
        refine u_aload_n hC d_D_commitRunningNumbers_33 rfl ?_
        refine w_get hC f_D_102 hG rfl d_D_commitRunningNumbers_34 ?_
        refine u_iconst hC (nI 1) d_D_commitRunningNumbers_37 (by decide) ?_
        refine u_icmp_ne hC 54 d_D_commitRunningNumbers_38 (by decide) (fun h_38 => ?_) (fun h_38 => absurd h_38 (fun w => hP ⟨ho, w⟩))
        refine u_iinc hC (nI (i + 1)) (j := 1) d_D_commitRunningNumbers_54 rfl (nI_1 i) (by decide) ?_
        refine u_goto hC 2 d_D_commitRunningNumbers_57 (by decide) ?_
        refine u_pick [0, 2, 3] rfl ?_
        refine ih (i + 1) ws (by omega) ?_ hT hN
        rw [dset_F hP, dset_F hP] at hK
        exact hK
      · refine u_iload_n hC d_D_commitRunningNumbers_2 rfl ?_
        refine u_aload_n hC d_D_commitRunningNumbers_3 rfl ?_
        refine w_get hC f_D_18 hO rfl d_D_commitRunningNumbers_4 ?_
        refine w_callVr hC (c_L_size hL) k_D_54 i_L_size hL rfl hR1 ⟨Nat.zero_le _, Nat.zero_le _⟩ rfl rfl (Nat.le_of_ble_eq_true rfl) d_D_commitRunningNumbers_7 ?_
        refine u_icmp_ge hC 60 d_D_commitRunningNumbers_10 (by decide) (fun h_10 => absurd h_10 (nI_ge (by omega) (by omega))) (fun h_10 => ?_)
        refine u_aload_n hC d_D_commitRunningNumbers_13 rfl ?_
        refine w_get hC f_D_18 hO rfl d_D_commitRunningNumbers_14 ?_
        refine u_iload_n hC d_D_commitRunningNumbers_17 rfl ?_
        refine w_callVr hC (c_L_get hLs hcap (by omega)) k_D_72 i_L_get hL rfl hR ⟨Nat.zero_le _, Nat.zero_le _⟩ rfl rfl (Nat.le_of_ble_eq_true rfl) d_D_commitRunningNumbers_18 ?_
        refine w_cast hC rfl l_D_76 hG d_D_commitRunningNumbers_21 ?_
        refine u_astore_n hC d_D_commitRunningNumbers_24 (by decide) ?_
        refine u_aload_n hC d_D_commitRunningNumbers_25 rfl ?_
        refine u_aload_n hC d_D_commitRunningNumbers_26 rfl ?_
        refine w_callVr hC (c_T_ownsF hT hN hG ho) k_D_78 i_T_owns hT rfl hR0 ⟨Nat.zero_le _, Nat.zero_le _⟩ rfl rfl (Nat.le_of_ble_eq_true rfl) d_D_commitRunningNumbers_27 ?_
        refine u_if_eq hC 54 d_D_commitRunningNumbers_30 (by decide) (fun h_30 => ?_) (fun h_30 => absurd rfl h_30)
        refine u_iinc hC (nI (i + 1)) (j := 1) d_D_commitRunningNumbers_54 rfl (nI_1 i) (by decide) ?_
        refine u_goto hC 2 d_D_commitRunningNumbers_57 (by decide) ?_
        refine u_pick [0, 2, 3] rfl ?_
        refine ih (i + 1) ws (by omega) ?_ hT hN
        rw [dset_F hP, dset_F hP] at hK
        exact hK
set_option maxHeartbeats 4000000 in
set_option maxRecDepth 100000 in
theorem l_D_rel {t na0 : Nat} {md tp c0 s1 : Int32} {nb0 : Nat → Int32} {x : Int32} {s9 : Int32} (hn4 : n ≤ 4000) (hcap : cap ≤ 10000) (hC : vx p s0 m args meth c b_D_release 6 R_D D (gk κ, z) A) (hR : 2 + 1 ≤ R.frames ∧ 8 + (2 + 11) + 40 * 2 ≤ R.locals) (exit : ∀ ws : va_W, Dk κ z ws h0 hs hl cap cm tr na mo to co sn nb n el ro (dset (d_up ro lv (nb0 0) x) lv (x - nI 1) n) cd pl → wg ws t = some (cT md na0 tp c0 s1) → wg ws na0 = some (aI κ 8 nb0) → U p l e R s0 m args below meth c 6 D A ws 0 0 Q 81 [(4, .int (nI n)), (3, .ref t), (0, .ref h0), (1, .int s9), (2, .int x)] []) : ∀ (r i : Nat) (ws : va_W), i + r = n → Dk κ z ws h0 hs hl cap cm tr na mo to co sn nb n el ro (dset (d_up ro lv (nb0 0) x) lv (x - nI 1) i) cd pl → wg ws t = some (cT md na0 tp c0 s1) → wg ws na0 = some (aI κ 8 nb0) → U p l e R s0 m args below meth c 6 D A ws 0 0 Q 23 [(4, .int (nI i)), (3, .ref t), (0, .ref h0), (1, .int s9), (2, .int x)] [] := by
  have hR0 : 0 + 1 ≤ R.frames ∧ 8 + (2 + 11) + 40 * 0 ≤ R.locals := ⟨by omega, by omega⟩
  have hR1 : 0 + 1 ≤ R.frames ∧ 8 + (1 + 11) + 40 * 0 ≤ R.locals := ⟨by omega, by omega⟩
  intro r
  induction r with
  | zero =>
    intro i ws hi hK hT hN
    have e : i = n := by omega
    subst e
    obtain ⟨hO, hS9, hLs, hTr, hTi, hNi, hGs, hGi⟩ := id hK
    obtain ⟨mc9, he9, hL, hL2⟩ := id hLs
    refine u_iload hC d_D_release_23 rfl ?_
    refine u_aload_n hC d_D_release_25 rfl ?_
    refine w_get hC f_D_18 hO rfl d_D_release_26 ?_
    refine w_callVr hC (c_L_size hL) k_D_54 i_L_size hL rfl hR1 ⟨Nat.zero_le _, Nat.zero_le _⟩ rfl rfl (Nat.le_of_ble_eq_true rfl) d_D_release_29 ?_
    refine u_icmp_ge hC 81 d_D_release_32 (by decide) (fun h_32 => ?_) (fun h_32 => absurd (nI_le (Nat.le_refl _) (by omega)) h_32)
    exact exit ws hK hT hN
  | succ r ih =>
    intro i ws hi hK hT hN
    obtain ⟨hO, hS9, hLs, hTr, hTi, hNi, hGs, hGi⟩ := id hK
    obtain ⟨mc9, he9, hL, hL2⟩ := id hLs
    have hG := hGs i (by omega)
    rw [dset_at (Nat.le_refl i)] at hG
    by_cases hP : d_up ro lv (nb0 0) x i
    · refine u_iload hC d_D_release_23 rfl ?_
      refine u_aload_n hC d_D_release_25 rfl ?_
      refine w_get hC f_D_18 hO rfl d_D_release_26 ?_
      refine w_callVr hC (c_L_size hL) k_D_54 i_L_size hL rfl hR1 ⟨Nat.zero_le _, Nat.zero_le _⟩ rfl rfl (Nat.le_of_ble_eq_true rfl) d_D_release_29 ?_
      refine u_icmp_ge hC 81 d_D_release_32 (by decide) (fun h_32 => absurd h_32 (nI_ge (by omega) (by omega))) (fun h_32 => ?_)
      refine u_aload_n hC d_D_release_35 rfl ?_
      refine w_get hC f_D_18 hO rfl d_D_release_36 ?_
      refine u_iload hC d_D_release_39 rfl ?_
      refine w_callVr hC (c_L_get hLs hcap (by omega)) k_D_72 i_L_get hL rfl hR ⟨Nat.zero_le _, Nat.zero_le _⟩ rfl rfl (Nat.le_of_ble_eq_true rfl) d_D_release_41 ?_
      refine w_cast hC rfl l_D_76 hG d_D_release_44 ?_
      refine u_astore hC d_D_release_47 (by decide) ?_
      refine u_aload_n hC d_D_release_49 rfl ?_
      refine u_aload hC d_D_release_50 rfl ?_
      refine w_callVr hC (c_T_ownsT hT hN hG hP.1) k_D_78 i_T_owns hT rfl hR0 ⟨Nat.zero_le _, Nat.zero_le _⟩ rfl rfl (Nat.le_of_ble_eq_true rfl) d_D_release_52 ?_
      refine u_if_eq hC 75 d_D_release_55 (by decide) (fun h_55 => absurd h_55 (by decide)) (fun h_55 => ?_)
      refine u_aload hC d_D_release_58 rfl ?_
      refine w_get hC f_D_82 hG rfl d_D_release_60 ?_
      refine u_iload_n hC d_D_release_63 rfl ?_
      refine u_icmp_lt hC 75 d_D_release_64 (by decide) (fun h_64 => absurd h_64 hP.2) (fun h_64 => ?_)
      refine u_aload hC d_D_release_67 rfl ?_
      refine u_iload_n hC d_D_release_69 rfl ?_
      refine u_iconst hC (nI 1) d_D_release_70 (by decide) ?_
      refine u_isub hC d_D_release_71 ?_
      refine w_put hC f_D_82 (tt_G 1 (by decide)) rfl hG rfl rfl (Nat.le_of_ble_eq_true rfl) d_D_release_72 ?_
      refine u_iinc hC (nI (i + 1)) (j := 1) d_D_release_75 rfl (nI_1 i) (by decide) ?_
      refine u_goto hC 23 d_D_release_78 (by decide) ?_
      refine u_pick [0, 2, 3, 4, 5] rfl ?_
      refine ih (i + 1) _ (by omega) (Dk.setlv hK (by omega) hP) (by rw [wg_upN (wg_ne hT hG (by intro w; cases w))]; exact hT) (by rw [wg_upN (wg_ne hN hG (by intro w; cases w))]; exact hN)
    · by_cases ho : ro i = nb0 0
      · refine u_iload hC d_D_release_23 rfl ?_
        refine u_aload_n hC d_D_release_25 rfl ?_
        refine w_get hC f_D_18 hO rfl d_D_release_26 ?_
        refine w_callVr hC (c_L_size hL) k_D_54 i_L_size hL rfl hR1 ⟨Nat.zero_le _, Nat.zero_le _⟩ rfl rfl (Nat.le_of_ble_eq_true rfl) d_D_release_29 ?_
        refine u_icmp_ge hC 81 d_D_release_32 (by decide) (fun h_32 => absurd h_32 (nI_ge (by omega) (by omega))) (fun h_32 => ?_)
        refine u_aload_n hC d_D_release_35 rfl ?_
        refine w_get hC f_D_18 hO rfl d_D_release_36 ?_
        refine u_iload hC d_D_release_39 rfl ?_
        refine w_callVr hC (c_L_get hLs hcap (by omega)) k_D_72 i_L_get hL rfl hR ⟨Nat.zero_le _, Nat.zero_le _⟩ rfl rfl (Nat.le_of_ble_eq_true rfl) d_D_release_41 ?_
        refine w_cast hC rfl l_D_76 hG d_D_release_44 ?_
        refine u_astore hC d_D_release_47 (by decide) ?_
        refine u_aload_n hC d_D_release_49 rfl ?_
        refine u_aload hC d_D_release_50 rfl ?_
        refine w_callVr hC (c_T_ownsT hT hN hG ho) k_D_78 i_T_owns hT rfl hR0 ⟨Nat.zero_le _, Nat.zero_le _⟩ rfl rfl (Nat.le_of_ble_eq_true rfl) d_D_release_52 ?_
        refine u_if_eq hC 75 d_D_release_55 (by decide) (fun h_55 => absurd h_55 (by decide)) (fun h_55 => ?_)
        refine u_aload hC d_D_release_58 rfl ?_
        refine w_get hC f_D_82 hG rfl d_D_release_60 ?_
        refine u_iload_n hC d_D_release_63 rfl ?_
        refine u_icmp_lt hC 75 d_D_release_64 (by decide) (fun h_64 => ?_) (fun h_64 => absurd (Decidable.byContradiction (fun w => hP ⟨ho, w⟩)) h_64)
        refine u_iinc hC (nI (i + 1)) (j := 1) d_D_release_75 rfl (nI_1 i) (by decide) ?_
        refine u_goto hC 23 d_D_release_78 (by decide) ?_
        refine u_pick [0, 2, 3, 4, 5] rfl ?_
        refine ih (i + 1) ws (by omega) ?_ hT hN
        rw [dset_F hP] at hK
        exact hK
      · refine u_iload hC d_D_release_23 rfl ?_
        refine u_aload_n hC d_D_release_25 rfl ?_
        refine w_get hC f_D_18 hO rfl d_D_release_26 ?_
        refine w_callVr hC (c_L_size hL) k_D_54 i_L_size hL rfl hR1 ⟨Nat.zero_le _, Nat.zero_le _⟩ rfl rfl (Nat.le_of_ble_eq_true rfl) d_D_release_29 ?_
        refine u_icmp_ge hC 81 d_D_release_32 (by decide) (fun h_32 => absurd h_32 (nI_ge (by omega) (by omega))) (fun h_32 => ?_)
        refine u_aload_n hC d_D_release_35 rfl ?_
        refine w_get hC f_D_18 hO rfl d_D_release_36 ?_
        refine u_iload hC d_D_release_39 rfl ?_
        refine w_callVr hC (c_L_get hLs hcap (by omega)) k_D_72 i_L_get hL rfl hR ⟨Nat.zero_le _, Nat.zero_le _⟩ rfl rfl (Nat.le_of_ble_eq_true rfl) d_D_release_41 ?_
        refine w_cast hC rfl l_D_76 hG d_D_release_44 ?_
        refine u_astore hC d_D_release_47 (by decide) ?_
        refine u_aload_n hC d_D_release_49 rfl ?_
        refine u_aload hC d_D_release_50 rfl ?_
        refine w_callVr hC (c_T_ownsF hT hN hG ho) k_D_78 i_T_owns hT rfl hR0 ⟨Nat.zero_le _, Nat.zero_le _⟩ rfl rfl (Nat.le_of_ble_eq_true rfl) d_D_release_52 ?_
        refine u_if_eq hC 75 d_D_release_55 (by decide) (fun h_55 => ?_) (fun h_55 => absurd rfl h_55)
        refine u_iinc hC (nI (i + 1)) (j := 1) d_D_release_75 rfl (nI_1 i) (by decide) ?_
        refine u_goto hC 23 d_D_release_78 (by decide) ?_
        refine u_pick [0, 2, 3, 4, 5] rfl ?_
        refine ih (i + 1) ws (by omega) ?_ hT hN
        rw [dset_F hP] at hK
        exact hK
end DX0
section DX1
variable {l : Launch} {D : va_G} {κ : Nat → ClassId} {z : Nat × Nat} {ws : va_W} {h0 hs hl cap : Nat} {cm : Int32} {tr : Nat → Option Nat} {na : Nat → Nat} {mo to co sn : Nat → Int32} {nb : Nat → Nat → Int32} {n : Nat} {el : Nat → Nat} {ro lv cd pl : Nat → Int32}

set_option maxHeartbeats 4000000 in
set_option maxRecDepth 100000 in
theorem c_D_abortN {t na0 : Nat} {md tp c0 s1 : Int32} {nb0 : Nat → Int32} {x : Int32} (hK : Dk κ z ws h0 hs hl cap cm tr na mo to co sn nb n el ro lv cd pl) (hn4 : n ≤ 4000) (hcap : cap ≤ 10000) (hT : wg ws t = some (cT md na0 tp c0 s1)) (hN : wg ws na0 = some (aI κ 8 nb0)) : Ct l y_D_abortNumbersFrom b_D_abortNumbersFrom 5 none 3 0 0 D (gk κ, z) ws [.ref h0, .ref t, .int x] (fun v w' => v = none ∧ Dk κ z w' h0 hs hl cap cm tr na mo to co sn nb n el ro lv (dset (d_up ro lv (nb0 0) x) cd (nI 3) n) pl ∧ wg w' t = some (cT md na0 tp c0 s1) ∧ wg w' na0 = some (aI κ 8 nb0)) := by
  refine Ct.of (by decide) (Nat.le_of_ble_eq_true rfl) ?_
  intro p e s0 m below meth c A hC hr hn
  refine u_iconst hC (nI 0) d_D_abortNumbersFrom_0 (by decide) ?_
  refine u_istore_n hC d_D_abortNumbersFrom_1 (by decide) ?_
  refine l_D_abort (s9 := 0) hn4 hcap hC ⟨(Nat.le_of_ble_eq_true rfl), (Nat.le_of_ble_eq_true rfl)⟩ (fun w1 hK1 hT1 hN1 => ?_) n 0 ws (by omega) (by rw [dset_0]; exact hK) hT hN
  exact u_vret hC hr d_D_abortNumbersFrom_56 (Nat.le_of_ble_eq_true rfl) (Nat.le_of_ble_eq_true rfl) ⟨rfl, hK1, hT1, hN1⟩
set_option maxHeartbeats 4000000 in
set_option maxRecDepth 100000 in
theorem c_D_commitR {t na0 : Nat} {md tp c0 s1 : Int32} {nb0 : Nat → Int32} (hK : Dk κ z ws h0 hs hl cap cm tr na mo to co sn nb n el ro lv cd pl) (hn4 : n ≤ 4000) (hcap : cap ≤ 10000) (hT : wg ws t = some (cT md na0 tp c0 s1)) (hN : wg ws na0 = some (aI κ 8 nb0)) : Ct l y_D_commitRunningNumbers b_D_commitRunningNumbers 4 none 3 0 0 D (gk κ, z) ws [.ref h0, .ref t] (fun v w' => v = none ∧ Dk κ z w' h0 hs hl cap cm tr na mo to co sn nb n el ro lv (dset (d_run ro cd (nb0 0)) cd (nI 2) n) (dset (d_run ro cd (nb0 0)) pl cm n)) := by
  refine Ct.of (by decide) (Nat.le_of_ble_eq_true rfl) ?_
  intro p e s0 m below meth c A hC hr hn
  refine u_iconst hC (nI 0) d_D_commitRunningNumbers_0 (by decide) ?_
  refine u_istore_n hC d_D_commitRunningNumbers_1 (by decide) ?_
  refine l_D_commit (x := 0) (s9 := 0) (cm := cm) (ro := ro) (lv := lv) (cd := cd) (pl := pl) (hs := hs) (hl := hl) hn4 hcap hC ⟨(Nat.le_of_ble_eq_true rfl), (Nat.le_of_ble_eq_true rfl)⟩ (fun w1 hK1 hT1 hN1 => ?_) n 0 ws (by omega) (by rw [dset_0, dset_0]; exact hK) hT hN
  exact u_vret hC hr d_D_commitRunningNumbers_60 (Nat.le_of_ble_eq_true rfl) (Nat.le_of_ble_eq_true rfl) ⟨rfl, hK1⟩
set_option maxHeartbeats 4000000 in
set_option maxRecDepth 100000 in
theorem c_D_releaseF0 {s x : Int32} (hK : Dk κ z ws h0 hs hl cap cm tr na mo to co sn nb n el ro lv cd pl) (hb : ¬ ∃ j t : Nat, j < 6 ∧ s = nI j ∧ tr j = some t) : Ct l y_D_release b_D_release 6 (some .boolean) 4 0 0 D (gk κ, z) ws [.ref h0, .int s, .int x] (rt (.int 0) ws) := by
  refine Ct.of (by decide) (Nat.le_of_ble_eq_true rfl) ?_
  intro p e s0 m below meth c A hC hr hn
  obtain ⟨hO, hS9, hLs, hTr, hTi, hNi, hGs, hGi⟩ := id hK
  obtain ⟨mc9, he9, hL, hL2⟩ := id hLs
  refine u_aload_n hC d_D_release_0 rfl ?_
  refine u_iload_n hC d_D_release_1 rfl ?_
  refine w_callVr hC (c_D_trF hK hb) k_D_33 i_D_transactionOf hO rfl ⟨(Nat.le_of_ble_eq_true rfl), (Nat.le_of_ble_eq_true rfl)⟩ ⟨(Nat.le_of_ble_eq_true rfl), (Nat.le_of_ble_eq_true rfl)⟩ rfl rfl (Nat.le_of_ble_eq_true rfl) d_D_release_2 ?_
  refine u_astore_nN hC d_D_release_5 (by decide) ?_
  refine u_aload_nN hC d_D_release_6 rfl ?_
  refine u_ifnullN hC 18 d_D_release_7 (by decide) ?_
  refine u_iconst hC (nI 0) d_D_release_18 (by decide) ?_
  exact u_zret hC hr rfl d_D_release_19 (Nat.le_of_ble_eq_true rfl) (Nat.le_of_ble_eq_true rfl) ⟨rfl, rfl⟩
set_option maxHeartbeats 4000000 in
set_option maxRecDepth 100000 in
theorem c_D_releaseF1 {j t : Nat} {x : Int32} (hK : Dk κ z ws h0 hs hl cap cm tr na mo to co sn nb n el ro lv cd pl) (hj : j < 6) (ht : tr j = some t) (hx : ¬ (¬ x < nI 1 ∧ ¬ to j < x)) : Ct l y_D_release b_D_release 6 (some .boolean) 4 0 0 D (gk κ, z) ws [.ref h0, .int (nI j), .int x] (rt (.int 0) ws) := by
  refine Ct.of (by decide) (Nat.le_of_ble_eq_true rfl) ?_
  intro p e s0 m below meth c A hC hr hn
  obtain ⟨hO, hS9, hLs, hTr, hTi, hNi, hGs, hGi⟩ := id hK
  obtain ⟨mc9, he9, hL, hL2⟩ := id hLs
  obtain ⟨hT, hN⟩ := hTr j t hj ht
  refine u_aload_n hC d_D_release_0 rfl ?_
  refine u_iload_n hC d_D_release_1 rfl ?_
  refine w_callVr hC (c_D_trT hK hj ht) k_D_33 i_D_transactionOf hO rfl ⟨(Nat.le_of_ble_eq_true rfl), (Nat.le_of_ble_eq_true rfl)⟩ ⟨(Nat.le_of_ble_eq_true rfl), (Nat.le_of_ble_eq_true rfl)⟩ rfl rfl (Nat.le_of_ble_eq_true rfl) d_D_release_2 ?_
  refine u_astore_n hC d_D_release_5 (by decide) ?_
  refine u_aload_n hC d_D_release_6 rfl ?_
  refine u_ifnull hC d_D_release_7 ?_
  refine u_aload_n hC d_D_release_10 rfl ?_
  refine u_iload_n hC d_D_release_11 rfl ?_
  refine w_callVr hC (c_T_leaveF hT hx) k_D_69 i_T_canLeave hT rfl ⟨(Nat.le_of_ble_eq_true rfl), (Nat.le_of_ble_eq_true rfl)⟩ ⟨(Nat.le_of_ble_eq_true rfl), (Nat.le_of_ble_eq_true rfl)⟩ rfl rfl (Nat.le_of_ble_eq_true rfl) d_D_release_12 ?_
  refine u_if_ne hC 20 d_D_release_15 (by decide) (fun h_15 => absurd rfl h_15) (fun h_15 => ?_)
  refine u_iconst hC (nI 0) d_D_release_18 (by decide) ?_
  exact u_zret hC hr rfl d_D_release_19 (Nat.le_of_ble_eq_true rfl) (Nat.le_of_ble_eq_true rfl) ⟨rfl, rfl⟩
set_option maxHeartbeats 4000000 in
set_option maxRecDepth 100000 in
theorem c_D_backF0 {s x : Int32} (hK : Dk κ z ws h0 hs hl cap cm tr na mo to co sn nb n el ro lv cd pl) (hb : ¬ ∃ j t : Nat, j < 6 ∧ s = nI j ∧ tr j = some t) : Ct l y_D_back b_D_back 4 (some .boolean) 4 0 0 D (gk κ, z) ws [.ref h0, .int s, .int x] (rt (.int 0) ws) := by
  refine Ct.of (by decide) (Nat.le_of_ble_eq_true rfl) ?_
  intro p e s0 m below meth c A hC hr hn
  obtain ⟨hO, hS9, hLs, hTr, hTi, hNi, hGs, hGi⟩ := id hK
  obtain ⟨mc9, he9, hL, hL2⟩ := id hLs
  refine u_aload_n hC d_D_back_0 rfl ?_
  refine u_iload_n hC d_D_back_1 rfl ?_
  refine w_callVr hC (c_D_trF hK hb) k_D_33 i_D_transactionOf hO rfl ⟨(Nat.le_of_ble_eq_true rfl), (Nat.le_of_ble_eq_true rfl)⟩ ⟨(Nat.le_of_ble_eq_true rfl), (Nat.le_of_ble_eq_true rfl)⟩ rfl rfl (Nat.le_of_ble_eq_true rfl) d_D_back_2 ?_
  refine u_astore_nN hC d_D_back_5 (by decide) ?_
  refine u_aload_nN hC d_D_back_6 rfl ?_
  refine u_ifnullN hC 18 d_D_back_7 (by decide) ?_
  refine u_iconst hC (nI 0) d_D_back_18 (by decide) ?_
  exact u_zret hC hr rfl d_D_back_19 (Nat.le_of_ble_eq_true rfl) (Nat.le_of_ble_eq_true rfl) ⟨rfl, rfl⟩
set_option maxHeartbeats 4000000 in
set_option maxRecDepth 100000 in
theorem c_D_backF1 {j t : Nat} {x : Int32} (hK : Dk κ z ws h0 hs hl cap cm tr na mo to co sn nb n el ro lv cd pl) (hj : j < 6) (ht : tr j = some t) (hx : ¬ (¬ x < nI 1 ∧ ¬ to j < x)) : Ct l y_D_back b_D_back 4 (some .boolean) 4 0 0 D (gk κ, z) ws [.ref h0, .int (nI j), .int x] (rt (.int 0) ws) := by
  refine Ct.of (by decide) (Nat.le_of_ble_eq_true rfl) ?_
  intro p e s0 m below meth c A hC hr hn
  obtain ⟨hO, hS9, hLs, hTr, hTi, hNi, hGs, hGi⟩ := id hK
  obtain ⟨mc9, he9, hL, hL2⟩ := id hLs
  obtain ⟨hT, hN⟩ := hTr j t hj ht
  refine u_aload_n hC d_D_back_0 rfl ?_
  refine u_iload_n hC d_D_back_1 rfl ?_
  refine w_callVr hC (c_D_trT hK hj ht) k_D_33 i_D_transactionOf hO rfl ⟨(Nat.le_of_ble_eq_true rfl), (Nat.le_of_ble_eq_true rfl)⟩ ⟨(Nat.le_of_ble_eq_true rfl), (Nat.le_of_ble_eq_true rfl)⟩ rfl rfl (Nat.le_of_ble_eq_true rfl) d_D_back_2 ?_
  refine u_astore_n hC d_D_back_5 (by decide) ?_
  refine u_aload_n hC d_D_back_6 rfl ?_
  refine u_ifnull hC d_D_back_7 ?_
  refine u_aload_n hC d_D_back_10 rfl ?_
  refine u_iload_n hC d_D_back_11 rfl ?_
  refine w_callVr hC (c_T_leaveF hT hx) k_D_69 i_T_canLeave hT rfl ⟨(Nat.le_of_ble_eq_true rfl), (Nat.le_of_ble_eq_true rfl)⟩ ⟨(Nat.le_of_ble_eq_true rfl), (Nat.le_of_ble_eq_true rfl)⟩ rfl rfl (Nat.le_of_ble_eq_true rfl) d_D_back_12 ?_
  refine u_if_ne hC 20 d_D_back_15 (by decide) (fun h_15 => absurd rfl h_15) (fun h_15 => ?_)
  refine u_iconst hC (nI 0) d_D_back_18 (by decide) ?_
  exact u_zret hC hr rfl d_D_back_19 (Nat.le_of_ble_eq_true rfl) (Nat.le_of_ble_eq_true rfl) ⟨rfl, rfl⟩
set_option maxHeartbeats 4000000 in
set_option maxRecDepth 100000 in
theorem c_D_releaseT {j t u k : Nat} (hK : Dk κ z ws h0 hs hl cap cm tr na mo to co sn nb n el ro lv cd pl) (hn4 : n ≤ 4000) (hcap : cap ≤ 10000) (hj : j < 6) (ht : tr j = some t) (hu : to j = nI u) (hu7 : u ≤ 7) (h1 : 1 ≤ k) (h2 : k ≤ u) : Ct l y_D_release b_D_release 6 (some .boolean) 4 0 0 D (gk κ, z) ws [.ref h0, .int (nI j), .int (nI k)] (fun v w' => v = some (.int 1) ∧ Dk κ z w' h0 hs hl cap cm tr na mo (upd to j (nI (k - 1))) co sn (va_up nb j (t_clr (nb j) k 8)) n el ro (dset (d_up ro lv (nb j 0) (nI k)) lv (nI k - nI 1) n) cd pl) := by
  refine Ct.of (by decide) (Nat.le_of_ble_eq_true rfl) ?_
  intro p e s0 m below meth c A hC hr hn
  obtain ⟨hO, hS9, hLs, hTr, hTi, hNi, hGs, hGi⟩ := id hK
  obtain ⟨mc9, he9, hL, hL2⟩ := id hLs
  obtain ⟨hT, hN⟩ := hTr j t hj ht
  refine u_aload_n hC d_D_release_0 rfl ?_
  refine u_iload_n hC d_D_release_1 rfl ?_
  refine w_callVr hC (c_D_trT hK hj ht) k_D_33 i_D_transactionOf hO rfl ⟨(Nat.le_of_ble_eq_true rfl), (Nat.le_of_ble_eq_true rfl)⟩ ⟨(Nat.le_of_ble_eq_true rfl), (Nat.le_of_ble_eq_true rfl)⟩ rfl rfl (Nat.le_of_ble_eq_true rfl) d_D_release_2 ?_
  refine u_astore_n hC d_D_release_5 (by decide) ?_
  refine u_aload_n hC d_D_release_6 rfl ?_
  refine u_ifnull hC d_D_release_7 ?_
  refine u_aload_n hC d_D_release_10 rfl ?_
  refine u_iload_n hC d_D_release_11 rfl ?_
  refine w_callVr hC (c_T_leaveT hT (nI_nlt h1 (by omega)) (by rw [hu]; exact nI_nlt h2 (by omega))) k_D_69 i_T_canLeave hT rfl ⟨(Nat.le_of_ble_eq_true rfl), (Nat.le_of_ble_eq_true rfl)⟩ ⟨(Nat.le_of_ble_eq_true rfl), (Nat.le_of_ble_eq_true rfl)⟩ rfl rfl (Nat.le_of_ble_eq_true rfl) d_D_release_12 ?_
  refine u_if_ne hC 20 d_D_release_15 (by decide) (fun h_15 => ?_) (fun h_15 => absurd h_15 (by decide))
  refine u_iconst hC (nI 0) d_D_release_20 (by decide) ?_
  refine u_istore hC d_D_release_21 (by decide) ?_
  refine l_D_rel hn4 hcap hC ⟨(Nat.le_of_ble_eq_true rfl), (Nat.le_of_ble_eq_true rfl)⟩ (fun w1 hK1 hT1 hN1 => ?_) n 0 ws (by omega) (by rw [dset_0]; exact hK) hT hN
  have hT2 : wg (wup w1 (na j) (aI κ 8 (t_clr (nb j) k 8))) t = some (cT (mo j) (na j) (to j) (co j) (sn j)) := by rw [wg_upN (wg_ne hT1 hN1 (by intro w; cases w))]; exact hT1
  refine u_aload_n hC d_D_release_81 rfl ?_
  refine u_iload_n hC d_D_release_82 rfl ?_
  refine w_callVv hC (c_T_clear (by omega) hT1 hN1) k_D_85 i_T_clearLevelsFrom hT1 rfl ⟨(Nat.le_of_ble_eq_true rfl), (Nat.le_of_ble_eq_true rfl)⟩ ⟨(Nat.le_of_ble_eq_true rfl), (Nat.le_of_ble_eq_true rfl)⟩ rfl rfl (Nat.le_of_ble_eq_true rfl) d_D_release_83 ?_
  refine u_aload_n hC d_D_release_86 rfl ?_
  refine u_iload_n hC d_D_release_87 rfl ?_
  refine u_iconst hC (nI 1) d_D_release_88 (by decide) ?_
  refine u_isub hC d_D_release_89 ?_
  refine u_val (n_pred h1) ?_
  refine w_put hC f_D_66 (tt_T 2 (by decide)) rfl hT2 rfl rfl (Nat.le_of_ble_eq_true rfl) d_D_release_90 ?_
  refine u_iconst hC (nI 1) d_D_release_93 (by decide) ?_
  exact u_zret hC hr rfl d_D_release_94 (Nat.le_of_ble_eq_true rfl) (Nat.le_of_ble_eq_true rfl) ⟨rfl, by have h9 := (hK1.updN hj ht (t_clr (nb j) k 8)).updT hj ht (nI (k - 1)) (co j) (sn j); rw [m_upd_id, m_upd_id] at h9; exact h9⟩
set_option maxHeartbeats 4000000 in
set_option maxRecDepth 100000 in
theorem c_D_backT {j t u k : Nat} (hK : Dk κ z ws h0 hs hl cap cm tr na mo to co sn nb n el ro lv cd pl) (hn4 : n ≤ 4000) (hcap : cap ≤ 10000) (hj : j < 6) (ht : tr j = some t) (hu : to j = nI u) (hu7 : u ≤ 7) (h1 : 1 ≤ k) (h2 : k ≤ u) : Ct l y_D_back b_D_back 4 (some .boolean) 4 0 0 D (gk κ, z) ws [.ref h0, .int (nI j), .int (nI k)] (fun v w' => v = some (.int 1) ∧ Dk κ z w' h0 hs hl cap cm tr na mo (upd to j (nI k)) co sn (va_up nb j (t_clr (nb j) k 8)) n el ro lv (dset (d_up ro lv (nb j 0) (nI k)) cd (nI 3) n) pl) := by
  refine Ct.of (by decide) (Nat.le_of_ble_eq_true rfl) ?_
  intro p e s0 m below meth c A hC hr hn
  obtain ⟨hO, hS9, hLs, hTr, hTi, hNi, hGs, hGi⟩ := id hK
  obtain ⟨mc9, he9, hL, hL2⟩ := id hLs
  obtain ⟨hT, hN⟩ := hTr j t hj ht
  refine u_aload_n hC d_D_back_0 rfl ?_
  refine u_iload_n hC d_D_back_1 rfl ?_
  refine w_callVr hC (c_D_trT hK hj ht) k_D_33 i_D_transactionOf hO rfl ⟨(Nat.le_of_ble_eq_true rfl), (Nat.le_of_ble_eq_true rfl)⟩ ⟨(Nat.le_of_ble_eq_true rfl), (Nat.le_of_ble_eq_true rfl)⟩ rfl rfl (Nat.le_of_ble_eq_true rfl) d_D_back_2 ?_
  refine u_astore_n hC d_D_back_5 (by decide) ?_
  refine u_aload_n hC d_D_back_6 rfl ?_
  refine u_ifnull hC d_D_back_7 ?_
  refine u_aload_n hC d_D_back_10 rfl ?_
  refine u_iload_n hC d_D_back_11 rfl ?_
  refine w_callVr hC (c_T_leaveT hT (nI_nlt h1 (by omega)) (by rw [hu]; exact nI_nlt h2 (by omega))) k_D_69 i_T_canLeave hT rfl ⟨(Nat.le_of_ble_eq_true rfl), (Nat.le_of_ble_eq_true rfl)⟩ ⟨(Nat.le_of_ble_eq_true rfl), (Nat.le_of_ble_eq_true rfl)⟩ rfl rfl (Nat.le_of_ble_eq_true rfl) d_D_back_12 ?_
  refine u_if_ne hC 20 d_D_back_15 (by decide) (fun h_15 => ?_) (fun h_15 => absurd h_15 (by decide))
  refine u_aload_n hC d_D_back_20 rfl ?_
  refine u_aload_n hC d_D_back_21 rfl ?_
  refine u_iload_n hC d_D_back_22 rfl ?_
  refine w_callV hC (c_D_abortN hK hn4 hcap hT hN) k_D_88 i_D_abortNumbersFrom hO rfl ⟨(Nat.le_of_ble_eq_true rfl), (Nat.le_of_ble_eq_true rfl)⟩ ⟨(Nat.le_of_ble_eq_true rfl), (Nat.le_of_ble_eq_true rfl)⟩ rfl rfl (Nat.le_of_ble_eq_true rfl) d_D_back_23 (fun v w1 hp => ?_)
  obtain ⟨rfl, hK1, hT1, hN1⟩ := hp
  have hT2 : wg (wup w1 (na j) (aI κ 8 (t_clr (nb j) k 8))) t = some (cT (mo j) (na j) (to j) (co j) (sn j)) := by rw [wg_upN (wg_ne hT1 hN1 (by intro w; cases w))]; exact hT1
  refine u_non ?_
  refine u_aload_n hC d_D_back_26 rfl ?_
  refine u_iload_n hC d_D_back_27 rfl ?_
  refine w_callVv hC (c_T_clear (by omega) hT1 hN1) k_D_85 i_T_clearLevelsFrom hT1 rfl ⟨(Nat.le_of_ble_eq_true rfl), (Nat.le_of_ble_eq_true rfl)⟩ ⟨(Nat.le_of_ble_eq_true rfl), (Nat.le_of_ble_eq_true rfl)⟩ rfl rfl (Nat.le_of_ble_eq_true rfl) d_D_back_28 ?_
  refine u_aload_n hC d_D_back_31 rfl ?_
  refine u_iload_n hC d_D_back_32 rfl ?_
  refine w_put hC f_D_66 (tt_T 2 (by decide)) rfl hT2 rfl rfl (Nat.le_of_ble_eq_true rfl) d_D_back_33 ?_
  refine u_iconst hC (nI 1) d_D_back_36 (by decide) ?_
  exact u_zret hC hr rfl d_D_back_37 (Nat.le_of_ble_eq_true rfl) (Nat.le_of_ble_eq_true rfl) ⟨rfl, by have h9 := (hK1.updN hj ht (t_clr (nb j) k 8)).updT hj ht (nI k) (co j) (sn j); rw [m_upd_id, m_upd_id] at h9; exact h9⟩
set_option maxHeartbeats 4000000 in
set_option maxRecDepth 100000 in
theorem c_D_commitF {s : Int32} (hK : Dk κ z ws h0 hs hl cap cm tr na mo to co sn nb n el ro lv cd pl) (hb : ¬ ∃ j t : Nat, j < 6 ∧ s = nI j ∧ tr j = some t) : Ct l y_D_commit b_D_commit 3 (some .int) 4 0 0 D (gk κ, z) ws [.ref h0, .int s] (rt (.int (-1)) ws) := by
  refine Ct.of (by decide) (Nat.le_of_ble_eq_true rfl) ?_
  intro p e s0 m below meth c A hC hr hn
  obtain ⟨hO, hS9, hLs, hTr, hTi, hNi, hGs, hGi⟩ := id hK
  obtain ⟨mc9, he9, hL, hL2⟩ := id hLs
  refine u_aload_n hC d_D_commit_0 rfl ?_
  refine u_iload_n hC d_D_commit_1 rfl ?_
  refine w_callVr hC (c_D_trF hK hb) k_D_33 i_D_transactionOf hO rfl ⟨(Nat.le_of_ble_eq_true rfl), (Nat.le_of_ble_eq_true rfl)⟩ ⟨(Nat.le_of_ble_eq_true rfl), (Nat.le_of_ble_eq_true rfl)⟩ rfl rfl (Nat.le_of_ble_eq_true rfl) d_D_commit_2 ?_
  refine u_astore_nN hC d_D_commit_5 (by decide) ?_
  refine u_aload_nN hC d_D_commit_6 rfl ?_
  refine u_ifnonnullN hC d_D_commit_7 ?_
  refine u_iconst hC (-1) d_D_commit_10 (by decide) ?_
  exact u_iret hC hr d_D_commit_11 (Nat.le_of_ble_eq_true rfl) (Nat.le_of_ble_eq_true rfl) ⟨rfl, rfl⟩
set_option maxHeartbeats 4000000 in
set_option maxRecDepth 100000 in
theorem c_D_commitZ {j t : Nat} (hK : Dk κ z ws h0 hs hl cap cm tr na mo to co sn nb n el ro lv cd pl) (hj : j < 6) (ht : tr j = some t) (h0z : nb j 0 = 0) : Ct l y_D_commit b_D_commit 3 (some .int) 4 0 0 D (gk κ, z) ws [.ref h0, .int (nI j)] (fun v w' => v = some (.int 0) ∧ Dk κ z w' h0 hs hl cap cm (va_up tr j none) na mo to co sn nb n el ro lv cd pl) := by
  refine Ct.of (by decide) (Nat.le_of_ble_eq_true rfl) ?_
  intro p e s0 m below meth c A hC hr hn
  obtain ⟨hO, hS9, hLs, hTr, hTi, hNi, hGs, hGi⟩ := id hK
  obtain ⟨mc9, he9, hL, hL2⟩ := id hLs
  obtain ⟨hT, hN⟩ := hTr j t hj ht
  refine u_aload_n hC d_D_commit_0 rfl ?_
  refine u_iload_n hC d_D_commit_1 rfl ?_
  refine w_callVr hC (c_D_trT hK hj ht) k_D_33 i_D_transactionOf hO rfl ⟨(Nat.le_of_ble_eq_true rfl), (Nat.le_of_ble_eq_true rfl)⟩ ⟨(Nat.le_of_ble_eq_true rfl), (Nat.le_of_ble_eq_true rfl)⟩ rfl rfl (Nat.le_of_ble_eq_true rfl) d_D_commit_2 ?_
  refine u_astore_n hC d_D_commit_5 (by decide) ?_
  refine u_aload_n hC d_D_commit_6 rfl ?_
  refine u_ifnonnull hC 12 d_D_commit_7 (by decide) ?_
  refine u_aload_n hC d_D_commit_12 rfl ?_
  refine w_get hC f_D_11 hO rfl d_D_commit_13 ?_
  refine u_iload_n hC d_D_commit_16 rfl ?_
  refine u_null hC d_D_commit_17 ?_
  refine w_astqN hC 2 hS9 rfl j rfl hj (by decide) d_D_commit_18 ?_
  have hKd := hK.drop j
  have hTd : wg (wup ws hs (aQ κ 2 6 (va_up tr j none))) t = some (cT (mo j) (na j) (to j) (co j) (sn j)) := by rw [wg_upN (wg_ne hT hS9 (by intro w; cases w))]; exact hT
  have hNd : wg (wup ws hs (aQ κ 2 6 (va_up tr j none))) (na j) = some (aI κ 8 (nb j)) := by rw [wg_upN (wg_ne hN hS9 aIQ)]; exact hN
  have hOd : wg (wup ws hs (aQ κ 2 6 (va_up tr j none))) h0 = some (cD hs hl cm) := hKd.1
  refine u_aload_n hC d_D_commit_19 rfl ?_
  refine w_get hC f_D_62 hTd rfl d_D_commit_20 ?_
  refine u_iconst hC (nI 0) d_D_commit_23 (by decide) ?_
  refine w_iald hC 0 hNd rfl 0 rfl (by decide) (by decide) d_D_commit_24 ?_
  refine u_if_ne hC 30 d_D_commit_25 (by decide) (fun h_25 => absurd h0z h_25) (fun h_25 => ?_)
  refine u_iconst hC (nI 0) d_D_commit_28 (by decide) ?_
  exact u_iret hC hr d_D_commit_29 (Nat.le_of_ble_eq_true rfl) (Nat.le_of_ble_eq_true rfl) ⟨rfl, hKd⟩
set_option maxHeartbeats 4000000 in
set_option maxRecDepth 100000 in
theorem c_D_commitT {j t : Nat} (hK : Dk κ z ws h0 hs hl cap cm tr na mo to co sn nb n el ro lv cd pl) (hn4 : n ≤ 4000) (hcap : cap ≤ 10000) (hj : j < 6) (ht : tr j = some t) (h0z : ¬ nb j 0 = 0) : Ct l y_D_commit b_D_commit 3 (some .int) 4 0 0 D (gk κ, z) ws [.ref h0, .int (nI j)] (fun v w' => v = some (.int (cm + nI 1)) ∧ Dk κ z w' h0 hs hl cap (cm + nI 1) (va_up tr j none) na mo to co sn nb n el ro lv (dset (d_run ro cd (nb j 0)) cd (nI 2) n) (dset (d_run ro cd (nb j 0)) pl (cm + nI 1) n)) := by
  refine Ct.of (by decide) (Nat.le_of_ble_eq_true rfl) ?_
  intro p e s0 m below meth c A hC hr hn
  obtain ⟨hO, hS9, hLs, hTr, hTi, hNi, hGs, hGi⟩ := id hK
  obtain ⟨mc9, he9, hL, hL2⟩ := id hLs
  obtain ⟨hT, hN⟩ := hTr j t hj ht
  refine u_aload_n hC d_D_commit_0 rfl ?_
  refine u_iload_n hC d_D_commit_1 rfl ?_
  refine w_callVr hC (c_D_trT hK hj ht) k_D_33 i_D_transactionOf hO rfl ⟨(Nat.le_of_ble_eq_true rfl), (Nat.le_of_ble_eq_true rfl)⟩ ⟨(Nat.le_of_ble_eq_true rfl), (Nat.le_of_ble_eq_true rfl)⟩ rfl rfl (Nat.le_of_ble_eq_true rfl) d_D_commit_2 ?_
  refine u_astore_n hC d_D_commit_5 (by decide) ?_
  refine u_aload_n hC d_D_commit_6 rfl ?_
  refine u_ifnonnull hC 12 d_D_commit_7 (by decide) ?_
  refine u_aload_n hC d_D_commit_12 rfl ?_
  refine w_get hC f_D_11 hO rfl d_D_commit_13 ?_
  refine u_iload_n hC d_D_commit_16 rfl ?_
  refine u_null hC d_D_commit_17 ?_
  refine w_astqN hC 2 hS9 rfl j rfl hj (by decide) d_D_commit_18 ?_
  have hKd := hK.drop j
  have hTd : wg (wup ws hs (aQ κ 2 6 (va_up tr j none))) t = some (cT (mo j) (na j) (to j) (co j) (sn j)) := by rw [wg_upN (wg_ne hT hS9 (by intro w; cases w))]; exact hT
  have hNd : wg (wup ws hs (aQ κ 2 6 (va_up tr j none))) (na j) = some (aI κ 8 (nb j)) := by rw [wg_upN (wg_ne hN hS9 aIQ)]; exact hN
  have hOd : wg (wup ws hs (aQ κ 2 6 (va_up tr j none))) h0 = some (cD hs hl cm) := hKd.1
  refine u_aload_n hC d_D_commit_19 rfl ?_
  refine w_get hC f_D_62 hTd rfl d_D_commit_20 ?_
  refine u_iconst hC (nI 0) d_D_commit_23 (by decide) ?_
  refine w_iald hC 0 hNd rfl 0 rfl (by decide) (by decide) d_D_commit_24 ?_
  refine u_if_ne hC 30 d_D_commit_25 (by decide) (fun h_25 => ?_) (fun h_25 => absurd h_25 h0z)
  refine u_aload_n hC d_D_commit_30 rfl ?_
  refine u_dup hC d_D_commit_31 rfl ?_
  refine w_get hC f_D_22 hOd rfl d_D_commit_32 ?_
  refine u_iconst hC (nI 1) d_D_commit_35 (by decide) ?_
  refine u_iadd hC d_D_commit_36 ?_
  refine w_put hC f_D_22 (tt_D 2 (by decide)) rfl hOd rfl rfl (Nat.le_of_ble_eq_true rfl) d_D_commit_37 ?_
  have hKe := hKd.updD (cm + nI 1)
  have hTe : wg (wup (wup ws hs (aQ κ 2 6 (va_up tr j none))) h0 (cD hs hl (cm + nI 1))) t = some (cT (mo j) (na j) (to j) (co j) (sn j)) := by rw [wg_upN (wg_ne hTd hOd (by intro w; cases w))]; exact hTd
  have hNe : wg (wup (wup ws hs (aQ κ 2 6 (va_up tr j none))) h0 (cD hs hl (cm + nI 1))) (na j) = some (aI κ 8 (nb j)) := by rw [wg_upN (wg_ne hNd hOd (by intro w; cases w))]; exact hNd
  refine u_aload_n hC d_D_commit_40 rfl ?_
  refine u_aload_n hC d_D_commit_41 rfl ?_
  refine w_callV hC (c_D_commitR hKe hn4 hcap hTe hNe) k_D_92 i_D_commitRunningNumbers hKe.1 rfl ⟨(Nat.le_of_ble_eq_true rfl), (Nat.le_of_ble_eq_true rfl)⟩ ⟨(Nat.le_of_ble_eq_true rfl), (Nat.le_of_ble_eq_true rfl)⟩ rfl rfl (Nat.le_of_ble_eq_true rfl) d_D_commit_42 (fun v w1 hp => ?_)
  obtain ⟨rfl, hK1⟩ := hp
  refine u_non ?_
  refine u_aload_n hC d_D_commit_45 rfl ?_
  refine w_get hC f_D_22 hK1.1 rfl d_D_commit_46 ?_
  exact u_iret hC hr d_D_commit_49 (Nat.le_of_ble_eq_true rfl) (Nat.le_of_ble_eq_true rfl) ⟨rfl, hK1⟩
set_option maxHeartbeats 4000000 in
set_option maxRecDepth 100000 in
theorem c_D_abortF {s : Int32} (hK : Dk κ z ws h0 hs hl cap cm tr na mo to co sn nb n el ro lv cd pl) (hb : ¬ ∃ j t : Nat, j < 6 ∧ s = nI j ∧ tr j = some t) : Ct l y_D_abort b_D_abort 3 (some .boolean) 4 0 0 D (gk κ, z) ws [.ref h0, .int s] (rt (.int 0) ws) := by
  refine Ct.of (by decide) (Nat.le_of_ble_eq_true rfl) ?_
  intro p e s0 m below meth c A hC hr hn
  obtain ⟨hO, hS9, hLs, hTr, hTi, hNi, hGs, hGi⟩ := id hK
  obtain ⟨mc9, he9, hL, hL2⟩ := id hLs
  refine u_aload_n hC d_D_abort_0 rfl ?_
  refine u_iload_n hC d_D_abort_1 rfl ?_
  refine w_callVr hC (c_D_trF hK hb) k_D_33 i_D_transactionOf hO rfl ⟨(Nat.le_of_ble_eq_true rfl), (Nat.le_of_ble_eq_true rfl)⟩ ⟨(Nat.le_of_ble_eq_true rfl), (Nat.le_of_ble_eq_true rfl)⟩ rfl rfl (Nat.le_of_ble_eq_true rfl) d_D_abort_2 ?_
  refine u_astore_nN hC d_D_abort_5 (by decide) ?_
  refine u_aload_nN hC d_D_abort_6 rfl ?_
  refine u_ifnonnullN hC d_D_abort_7 ?_
  refine u_iconst hC (nI 0) d_D_abort_10 (by decide) ?_
  exact u_zret hC hr rfl d_D_abort_11 (Nat.le_of_ble_eq_true rfl) (Nat.le_of_ble_eq_true rfl) ⟨rfl, rfl⟩
set_option maxHeartbeats 4000000 in
set_option maxRecDepth 100000 in
theorem c_D_abortT {j t : Nat} (hK : Dk κ z ws h0 hs hl cap cm tr na mo to co sn nb n el ro lv cd pl) (hn4 : n ≤ 4000) (hcap : cap ≤ 10000) (hj : j < 6) (ht : tr j = some t) : Ct l y_D_abort b_D_abort 3 (some .boolean) 4 0 0 D (gk κ, z) ws [.ref h0, .int (nI j)] (fun v w' => v = some (.int 1) ∧ Dk κ z w' h0 hs hl cap cm (va_up tr j none) na mo to co sn nb n el ro lv (dset (d_up ro lv (nb j 0) (nI 0)) cd (nI 3) n) pl) := by
  refine Ct.of (by decide) (Nat.le_of_ble_eq_true rfl) ?_
  intro p e s0 m below meth c A hC hr hn
  obtain ⟨hO, hS9, hLs, hTr, hTi, hNi, hGs, hGi⟩ := id hK
  obtain ⟨mc9, he9, hL, hL2⟩ := id hLs
  obtain ⟨hT, hN⟩ := hTr j t hj ht
  refine u_aload_n hC d_D_abort_0 rfl ?_
  refine u_iload_n hC d_D_abort_1 rfl ?_
  refine w_callVr hC (c_D_trT hK hj ht) k_D_33 i_D_transactionOf hO rfl ⟨(Nat.le_of_ble_eq_true rfl), (Nat.le_of_ble_eq_true rfl)⟩ ⟨(Nat.le_of_ble_eq_true rfl), (Nat.le_of_ble_eq_true rfl)⟩ rfl rfl (Nat.le_of_ble_eq_true rfl) d_D_abort_2 ?_
  refine u_astore_n hC d_D_abort_5 (by decide) ?_
  refine u_aload_n hC d_D_abort_6 rfl ?_
  refine u_ifnonnull hC 12 d_D_abort_7 (by decide) ?_
  refine u_aload_n hC d_D_abort_12 rfl ?_
  refine u_aload_n hC d_D_abort_13 rfl ?_
  refine u_iconst hC (nI 0) d_D_abort_14 (by decide) ?_
  refine w_callV hC (c_D_abortN hK hn4 hcap hT hN) k_D_88 i_D_abortNumbersFrom hO rfl ⟨(Nat.le_of_ble_eq_true rfl), (Nat.le_of_ble_eq_true rfl)⟩ ⟨(Nat.le_of_ble_eq_true rfl), (Nat.le_of_ble_eq_true rfl)⟩ rfl rfl (Nat.le_of_ble_eq_true rfl) d_D_abort_15 (fun v w1 hp => ?_)
  obtain ⟨rfl, hK1, hT1, hN1⟩ := hp
  refine u_non ?_
  refine u_aload_n hC d_D_abort_18 rfl ?_
  refine w_get hC f_D_11 hK1.1 rfl d_D_abort_19 ?_
  refine u_iload_n hC d_D_abort_22 rfl ?_
  refine u_null hC d_D_abort_23 ?_
  refine w_astqN hC 2 hK1.2.1 rfl j rfl hj (by decide) d_D_abort_24 ?_
  refine u_iconst hC (nI 1) d_D_abort_25 (by decide) ?_
  exact u_zret hC hr rfl d_D_abort_26 (Nat.le_of_ble_eq_true rfl) (Nat.le_of_ble_eq_true rfl) ⟨rfl, hK1.drop j⟩
end DX1
