theorem u_top {p : Program} {l : Launch} {e : Env} {R : Room} {s : State} {m : MethodId} {args : Array Value} {below : List Frame} {meth : Method} {c : Code} {k n : Nat} {Q : State → Prop} {nL : Nat} {D : va_G} {A : Nat → Prop} {pc : Nat} {L : List (Nat × Value)} {st : List Value} {ws : va_W} {v : Value} (kk : U p l e R s m args below meth c nL D A ws k n Q pc L (v :: st)) : U p l e R s m args below meth c nL D A ws k n Q pc L ((some v).toList ++ st) := kk
/-! The list: its own methods, and what it is to its user. -/
theorem cst_AS : Cond.constant R_AS 200 2147483639 ∈ gw := gw_in (List.mem_append_right _ (List.mem_of_getElem? (i := 167) (by decide +kernel))) rfl
section LI
variable {l : Launch} {D : va_G} {κ : Nat → ClassId} {z : Nat × Nat} {ws : va_W}
set_option maxHeartbeats 4000000 in
set_option maxRecDepth 100000 in
theorem c_AC_init {q : Nat} : Ct l y_AC_init b_AC_init 1 none 1 0 0 D (gk κ, z) ws [.ref q] (rtv ws) := by
  refine Ct.of (by decide) (Nat.le_of_ble_eq_true rfl) ?_
  intro p e s0 m below meth c A hC hr hn
  refine u_aload_n hC d_AC_init_0 rfl ?_
  refine u_objInit hC o_AC_1 o_I o_C (Nat.le_of_ble_eq_true rfl) (Nat.le_of_ble_eq_true rfl) (Nat.le_of_ble_eq_true rfl) d_AC_init_1 ?_
  exact u_vret hC hr d_AC_init_4 (Nat.le_of_ble_eq_true rfl) (Nat.le_of_ble_eq_true rfl) ⟨rfl, rfl⟩
set_option maxHeartbeats 4000000 in
set_option maxRecDepth 100000 in
theorem c_AL_init {q : Nat} {v0 v1 v2 : Value} (hq : wg ws q = some (.inr (4, [v0, v1, v2]))) : Ct l y_AL_init b_AL_init 1 none 2 0 0 D (gk κ, z) ws [.ref q] (rtv (wup ws q (.inr (4, [.int (nI 0), v1, v2])))) := by
  refine Ct.of (by decide) (Nat.le_of_ble_eq_true rfl) ?_
  intro p e s0 m below meth c A hC hr hn
  refine u_aload_n hC d_AL_init_0 rfl ?_
  refine u_callIv hC (c_AC_init) k_AL_1 i_AC_init rfl ⟨(Nat.le_of_ble_eq_true rfl), (Nat.le_of_ble_eq_true rfl)⟩ ⟨(Nat.le_of_ble_eq_true rfl), (Nat.le_of_ble_eq_true rfl)⟩ rfl rfl (Nat.le_of_ble_eq_true rfl) d_AL_init_1 ?_
  refine u_aload_n hC d_AL_init_4 rfl ?_
  refine u_iconst hC (nI 0) d_AL_init_5 (by decide) ?_
  refine w_put hC f_AL_7 (tt_L 0 (by decide)) rfl hq rfl rfl (Nat.le_of_ble_eq_true rfl) d_AL_init_6 ?_
  exact u_vret hC hr d_AL_init_9 (Nat.le_of_ble_eq_true rfl) (Nat.le_of_ble_eq_true rfl) ⟨rfl, rfl⟩
set_option maxHeartbeats 4000000 in
set_option maxRecDepth 100000 in
theorem c_L_init {q : Nat} {v0 v1 v2 : Value} (hq : wg ws q = some (.inr (4, [v0, v1, v2]))) : Ct l y_L_init b_L_init 1 none 3 0 0 D (gk κ, z) ws [.ref q] (rtv (wup ws q (.inr (4, [.int (nI 0), .ref z.1, v2])))) := by
  refine Ct.of (by decide) (Nat.le_of_ble_eq_true rfl) ?_
  intro p e s0 m below meth c A hC hr hn
  refine u_aload_n hC d_L_init_0 rfl ?_
  refine u_callIv hC (c_AL_init hq) k_L_1 i_AL_init rfl ⟨(Nat.le_of_ble_eq_true rfl), (Nat.le_of_ble_eq_true rfl)⟩ ⟨(Nat.le_of_ble_eq_true rfl), (Nat.le_of_ble_eq_true rfl)⟩ rfl rfl (Nat.le_of_ble_eq_true rfl) d_L_init_1 ?_
  refine u_aload_n hC d_L_init_4 rfl ?_
  refine u_gets hC g_L_39 d_L_init_5 ?_
  refine w_put hC f_L_9 (tt_L 1 (by decide)) rfl (wg_up hq) rfl rfl (Nat.le_of_ble_eq_true rfl) d_L_init_8 ?_
  rw [wup_wup]
  exact u_vret hC hr d_L_init_11 (Nat.le_of_ble_eq_true rfl) (Nat.le_of_ble_eq_true rfl) ⟨rfl, rfl⟩
set_option maxHeartbeats 4000000 in
set_option maxRecDepth 100000 in
theorem c_L_size {hl he n : Nat} {mc : Int32} (hL : wg ws hl = some (cL mc he n)) : Ct l y_L_size b_L_size 1 (some .int) 0 0 0 D (gk κ, z) ws [.ref hl] (rt (.int (nI n)) ws) := by
  refine Ct.of (by decide) (Nat.le_of_ble_eq_true rfl) ?_
  intro p e s0 m below meth c A hC hr hn
  refine u_aload_n hC d_L_size_0 rfl ?_
  refine w_get hC f_L_48 hL rfl d_L_size_1 ?_
  exact u_iret hC hr d_L_size_4 (Nat.le_of_ble_eq_true rfl) (Nat.le_of_ble_eq_true rfl) ⟨rfl, rfl⟩
set_option maxHeartbeats 4000000 in
set_option maxRecDepth 100000 in
theorem c_L_elem {hl he n : Nat} {mc : Int32} (hL : wg ws hl = some (cL mc he n)) {cap : Nat} {f : Nat → Option Nat} (hE : wg ws he = some (aQ κ 3 cap f)) (hcap : cap ≤ 10000) {i x : Nat} (hi : i < cap) (hx : f i = some x) : Ct l y_L_elementData b_L_elementData 2 (some (.object "java/lang/Object")) 0 0 0 D (gk κ, z) ws [.ref hl, .int (nI i)] (rt (.ref x) ws) := by
  refine Ct.of (by decide) (Nat.le_of_ble_eq_true rfl) ?_
  intro p e s0 m below meth c A hC hr hn
  refine u_aload_n hC d_L_elementData_0 rfl ?_
  refine w_get hC f_L_9 hL rfl d_L_elementData_1 ?_
  refine u_iload_n hC d_L_elementData_4 rfl ?_
  refine w_aldq hC 3 hE rfl i rfl hi (by omega) d_L_elementData_5 ?_
  rw [hx]
  exact u_aret hC hr (Or.inl ⟨_, rfl⟩) (Or.inr ⟨_, rfl⟩) d_L_elementData_6 (Nat.le_of_ble_eq_true rfl) (Nat.le_of_ble_eq_true rfl) ⟨rfl, rfl⟩
set_option maxHeartbeats 4000000 in
set_option maxRecDepth 100000 in
theorem c_P_check {i n : Nat} (hi : i < n) (hn2 : n < 2 ^ 31) : Ct l y_P_checkIndex b_P_checkIndex 3 (some .int) 0 0 0 D (gk κ, z) ws [.int (nI i), .int (nI n), .null] (rt (.int (nI i)) ws) := by
  refine Ct.of (by decide) (Nat.le_of_ble_eq_true rfl) ?_
  intro p e s0 m below meth c A hC hr hn
  refine u_iload_n hC d_P_checkIndex_0 rfl ?_
  refine u_if_lt hC 9 d_P_checkIndex_1 (by decide) (fun h_1 => absurd h_1 (nI_pos (by omega))) (fun h_1 => ?_)
  refine u_iload_n hC d_P_checkIndex_4 rfl ?_
  refine u_iload_n hC d_P_checkIndex_5 rfl ?_
  refine u_icmp_lt hC 16 d_P_checkIndex_6 (by decide) (fun h_6 => ?_) (fun h_6 => absurd (nI_lt hi hn2) h_6)
  refine u_iload_n hC d_P_checkIndex_16 rfl ?_
  exact u_iret hC hr d_P_checkIndex_17 (Nat.le_of_ble_eq_true rfl) (Nat.le_of_ble_eq_true rfl) ⟨rfl, rfl⟩
set_option maxHeartbeats 4000000 in
set_option maxRecDepth 100000 in
theorem c_O_check {i n : Nat} (hi : i < n) (hn2 : n < 2 ^ 31) : Ct l y_O_checkIndex b_O_checkIndex 2 (some .int) 1 0 0 D (gk κ, z) ws [.int (nI i), .int (nI n)] (rt (.int (nI i)) ws) := by
  refine Ct.of (by decide) (Nat.le_of_ble_eq_true rfl) ?_
  intro p e s0 m below meth c A hC hr hn
  refine u_iload_n hC d_O_checkIndex_0 rfl ?_
  refine u_iload_n hC d_O_checkIndex_1 rfl ?_
  refine u_null hC d_O_checkIndex_2 ?_
  refine u_callSr hC (c_P_check hi hn2) k_O_105 s_P_checkIndex ⟨(Nat.le_of_ble_eq_true rfl), (Nat.le_of_ble_eq_true rfl)⟩ ⟨(Nat.le_of_ble_eq_true rfl), (Nat.le_of_ble_eq_true rfl)⟩ rfl rfl (Nat.le_of_ble_eq_true rfl) d_O_checkIndex_3 ?_
  exact u_iret hC hr d_O_checkIndex_6 (Nat.le_of_ble_eq_true rfl) (Nat.le_of_ble_eq_true rfl) ⟨rfl, rfl⟩
set_option maxHeartbeats 4000000 in
set_option maxRecDepth 100000 in
theorem c_L_get0 {hl he n : Nat} {mc : Int32} (hL : wg ws hl = some (cL mc he n)) {cap : Nat} {f : Nat → Option Nat} (hE : wg ws he = some (aQ κ 3 cap f)) (hcap : cap ≤ 10000) {i x : Nat} (hn9 : n ≤ cap) (hi : i < n) (hx : f i = some x) : Ct l y_L_get b_L_get 2 (some (.object "java/lang/Object")) 2 0 0 D (gk κ, z) ws [.ref hl, .int (nI i)] (rt (.ref x) ws) := by
  refine Ct.of (by decide) (Nat.le_of_ble_eq_true rfl) ?_
  intro p e s0 m below meth c A hC hr hn
  refine u_iload_n hC d_L_get_0 rfl ?_
  refine u_aload_n hC d_L_get_1 rfl ?_
  refine w_get hC f_L_48 hL rfl d_L_get_2 ?_
  refine u_callSr hC (c_O_check hi (by omega)) k_L_118 s_O_checkIndex ⟨(Nat.le_of_ble_eq_true rfl), (Nat.le_of_ble_eq_true rfl)⟩ ⟨(Nat.le_of_ble_eq_true rfl), (Nat.le_of_ble_eq_true rfl)⟩ rfl rfl (Nat.le_of_ble_eq_true rfl) d_L_get_5 ?_
  refine u_pop hC d_L_get_8 rfl ?_
  refine u_aload_n hC d_L_get_9 rfl ?_
  refine u_iload_n hC d_L_get_10 rfl ?_
  refine w_callVr hC (c_L_elem hL hE hcap (Nat.lt_of_lt_of_le hi hn9) hx) k_L_123 i_L_elementData hL rfl ⟨(Nat.le_of_ble_eq_true rfl), (Nat.le_of_ble_eq_true rfl)⟩ ⟨(Nat.le_of_ble_eq_true rfl), (Nat.le_of_ble_eq_true rfl)⟩ rfl rfl (Nat.le_of_ble_eq_true rfl) d_L_get_11 ?_
  exact u_aret hC hr (Or.inl ⟨_, rfl⟩) (Or.inr ⟨_, rfl⟩) d_L_get_14 (Nat.le_of_ble_eq_true rfl) (Nat.le_of_ble_eq_true rfl) ⟨rfl, rfl⟩
set_option maxHeartbeats 4000000 in
set_option maxRecDepth 100000 in
theorem c_AS_new {k : Nat} (h1 : 10 ≤ k) (h2 : k ≤ 5000) : Ct l y_AS_newLength b_AS_newLength 4 (some .int) 1 0 0 D (gk κ, z) ws [.int (nI k), .int (nI 1), .int (nI (k / 2))] (rt (.int (nI (k + k / 2))) ws) := by
  refine Ct.of (by decide) (Nat.le_of_ble_eq_true rfl) ?_
  intro p e s0 m below meth c A hC hr hn
  refine u_iload_n hC d_AS_newLength_0 rfl ?_
  refine u_iload_n hC d_AS_newLength_1 rfl ?_
  refine u_iload_n hC d_AS_newLength_2 rfl ?_
  refine u_mmax hC q_AS_194 m_max_s m_i m_max_c (Nat.le_of_ble_eq_true rfl) (Nat.le_of_ble_eq_true rfl) (Nat.le_of_ble_eq_true rfl) (Nat.le_of_ble_eq_true rfl) (Nat.le_of_ble_eq_true rfl) d_AS_newLength_3 ?_
  refine u_val (if_pos (nI_lt (by omega) (by omega))) ?_
  refine u_iadd hC d_AS_newLength_6 ?_
  refine u_val (nI_add k (k / 2)) ?_
  refine u_istore_n hC d_AS_newLength_7 (by decide) ?_
  refine u_iconst hC (nI 0) d_AS_newLength_8 (by decide) ?_
  refine u_iload_n hC d_AS_newLength_9 rfl ?_
  refine u_icmp_ge hC 21 d_AS_newLength_10 (by decide) (fun h_10 => absurd h_10 (nI_nle (by omega) (by omega))) (fun h_10 => ?_)
  refine u_iload_n hC d_AS_newLength_13 rfl ?_
  refine u_ldcI hC cst_AS d_AS_newLength_14 ?_
  refine u_icmp_gt hC 21 d_AS_newLength_16 (by decide) (fun h_16 => absurd h_16 (show ¬ nI 2147483639 < nI (k + k / 2) from nI_nlt (by omega) (by decide))) (fun h_16 => ?_)
  refine u_iload_n hC d_AS_newLength_19 rfl ?_
  exact u_iret hC hr d_AS_newLength_20 (Nat.le_of_ble_eq_true rfl) (Nat.le_of_ble_eq_true rfl) ⟨rfl, rfl⟩
set_option maxHeartbeats 4000000 in
set_option maxRecDepth 100000 in
theorem c_AR_copy3 {he cap k9 : Nat} {f : Nat → Option Nat} (hE : wg ws he = some (aQ κ 3 cap f)) (hc : cap ≤ k9) (hk : k9 ≤ 10000) (hel : ∀ i : Nat, i < cap → ∀ y : Nat, f i = some y → ∃ fs : List Value, wg ws y = some (.inr (2, fs))) : Ct l y_AR_copyOf3 b_AR_copyOf3 4 (some (.array (.object "java/lang/Object"))) 1 1 k9 D (gk κ, z) ws [.ref he, .int (nI k9), .ref z.2] (fun v w' => ∃ q : Nat, wg ws q = none ∧ v = some (.ref q) ∧ w' = ws ++ [(q, aQ κ 3 k9 (va_cpy f (fun _ => none) 0 0 cap))]) := by
  refine Ct.of (by decide) (Nat.le_of_ble_eq_true rfl) ?_
  intro p e s0 m below meth c A hC hr hn
  refine u_aload_n hC d_AR_copyOf3_0 rfl ?_
  refine u_ldcM hC l_AR_110 d_AR_copyOf3_1 ?_
  refine u_acmp_ne hC (some z.2) (some z.2) 13 d_AR_copyOf3_3 (by decide) (fun h_3 => absurd rfl h_3) (fun h_3 => ?_)
  refine u_iload_n hC d_AR_copyOf3_6 rfl ?_
  have hZ := hC.2.2.2.1
  refine u_newq hC 3 rfl l_AR_2 hZ.2.2.2.2.2.1 (nI_pos (by omega)) (nI_clamp (by omega)) (by omega) (Nat.le_of_ble_eq_true rfl) (Nat.le_of_eq (Nat.zero_add k9)) d_AR_copyOf3_7 (fun q => w_fresh (fun hq => ?_))
  have hE1 := wg_app (w2 := [(q, aQ κ 3 k9 (fun _ => none))]) hE
  refine u_goto hC 24 d_AR_copyOf3_10 (by decide) ?_
  refine u_astore_n hC d_AR_copyOf3_24 (by decide) ?_
  refine u_aload_n hC d_AR_copyOf3_25 rfl ?_
  refine u_iconst hC (nI 0) d_AR_copyOf3_26 (by decide) ?_
  refine u_aload_n hC d_AR_copyOf3_27 rfl ?_
  refine u_iconst hC (nI 0) d_AR_copyOf3_28 (by decide) ?_
  refine u_aload_n hC d_AR_copyOf3_29 rfl ?_
  refine w_alen hC 3 hE1 rfl d_AR_copyOf3_30 ?_
  refine u_iload_n hC d_AR_copyOf3_31 rfl ?_
  refine u_mmin hC q_AR_304 m_min_s m_i m_min_c (Nat.le_of_ble_eq_true rfl) (Nat.le_of_ble_eq_true rfl) (Nat.le_of_ble_eq_true rfl) (Nat.le_of_ble_eq_true rfl) (Nat.le_of_eq (Nat.zero_add k9)) d_AR_copyOf3_32 ?_
  refine u_val (if_neg (nI_nlt hc (by omega))) ?_
  refine w_copyq hC q_AR_150 hE1 (wg_push hq) (Nat.le_refl _) hc (by omega) (fun i hi y hy => by obtain ⟨fs, h9⟩ := hel i hi y hy; exact ⟨fs, wg_app h9⟩) (Nat.le_of_ble_eq_true rfl) (Nat.le_of_ble_eq_true rfl) (Nat.le_of_ble_eq_true rfl) d_AR_copyOf3_35 ?_
  rw [wup_last hq]
  refine u_aload_n hC d_AR_copyOf3_38 rfl ?_
  exact u_aret hC hr (Or.inr ⟨_, rfl⟩) (Or.inr ⟨_, rfl⟩) d_AR_copyOf3_39 (by omega) (by omega) ⟨q, hq, rfl, rfl⟩
set_option maxHeartbeats 4000000 in
set_option maxRecDepth 100000 in
theorem c_AR_copy {he cap k9 : Nat} {f : Nat → Option Nat} (hE : wg ws he = some (aQ κ 3 cap f)) (hc : cap ≤ k9) (hk : k9 ≤ 10000) (hel : ∀ i : Nat, i < cap → ∀ y : Nat, f i = some y → ∃ fs : List Value, wg ws y = some (.inr (2, fs))) : Ct l y_AR_copyOf b_AR_copyOf 2 (some (.array (.object "java/lang/Object"))) 2 1 k9 D (gk κ, z) ws [.ref he, .int (nI k9)] (fun v w' => ∃ q : Nat, wg ws q = none ∧ v = some (.ref q) ∧ w' = ws ++ [(q, aQ κ 3 k9 (va_cpy f (fun _ => none) 0 0 cap))]) := by
  refine Ct.of (by decide) (Nat.le_of_ble_eq_true rfl) ?_
  intro p e s0 m below meth c A hC hr hn
  refine u_aload_n hC d_AR_copyOf_0 rfl ?_
  refine u_iload_n hC d_AR_copyOf_1 rfl ?_
  refine u_aload_n hC d_AR_copyOf_2 rfl ?_
  refine u_getC hC q_AR_86 hE (Nat.le_of_ble_eq_true rfl) (Nat.le_of_ble_eq_true rfl) (Nat.le_of_ble_eq_true rfl) d_AR_copyOf_3 ?_
  refine u_callS hC (c_AR_copy3 hE hc hk hel) k_AR_300 s_AR_copyOf3 ⟨(Nat.le_of_ble_eq_true rfl), (Nat.le_of_ble_eq_true rfl)⟩ ⟨(Nat.le_of_ble_eq_true rfl), (Nat.le_of_eq (Nat.zero_add k9))⟩ rfl rfl (Nat.le_of_ble_eq_true rfl) d_AR_copyOf_6 (fun v w' hp => ?_)
  obtain ⟨q, hq, rfl, rfl⟩ := hp
  refine u_top ?_
  exact u_aret hC hr (Or.inr ⟨_, rfl⟩) (Or.inr ⟨_, rfl⟩) d_AR_copyOf_9 (by omega) (by omega) ⟨q, hq, rfl, rfl⟩
set_option maxHeartbeats 4000000 in
set_option maxRecDepth 100000 in
theorem c_L_growI {hl he cap : Nat} {mc : Int32} (hL : wg ws hl = some (cL mc he cap)) {f : Nat → Option Nat} (hE : wg ws he = some (aQ κ 3 cap f)) (h1 : 10 ≤ cap) (h2 : cap ≤ 5000) (hel : ∀ i : Nat, i < cap → ∀ y : Nat, f i = some y → ∃ fs : List Value, wg ws y = some (.inr (2, fs))) : Ct l y_L_growI b_L_growI 4 (some (.array (.object "java/lang/Object"))) 3 1 (cap + cap / 2) D (gk κ, z) ws [.ref hl, .int (nI (cap + 1))] (fun v w' => ∃ q : Nat, wg ws q = none ∧ v = some (.ref q) ∧ w' = wup (ws ++ [(q, aQ κ 3 (cap + cap / 2) (va_cpy f (fun _ => none) 0 0 cap))]) hl (cL mc q cap)) := by
  refine Ct.of (by decide) (Nat.le_of_ble_eq_true rfl) ?_
  intro p e s0 m below meth c A hC hr hn
  refine u_aload_n hC d_L_growI_0 rfl ?_
  refine w_get hC f_L_9 hL rfl d_L_growI_1 ?_
  refine w_alen hC 3 hE rfl d_L_growI_4 ?_
  refine u_istore_n hC d_L_growI_5 (by decide) ?_
  refine u_iload_n hC d_L_growI_6 rfl ?_
  refine u_if_gt hC 20 d_L_growI_7 (by decide) (fun h_7 => ?_) (fun h_7 => absurd (nI_lt (a := 0) (by omega) (by omega)) h_7)
  refine u_iload_n hC d_L_growI_20 rfl ?_
  refine u_iload_n hC d_L_growI_21 rfl ?_
  refine u_iload_n hC d_L_growI_22 rfl ?_
  refine u_isub hC d_L_growI_23 ?_
  refine u_val (pk_sub (by omega)) ?_
  rw [Nat.add_sub_cancel_left]
  refine u_iload_n hC d_L_growI_24 rfl ?_
  refine u_iconst hC (nI 1) d_L_growI_25 (by decide) ?_
  refine u_ishr hC d_L_growI_26 ?_
  refine u_val (pk_shrN (by omega) _ 1 (by decide)) ?_
  rw [Nat.pow_one]
  refine u_callSr hC (c_AS_new h1 h2) k_L_73 s_AS_newLength ⟨(Nat.le_of_ble_eq_true rfl), (Nat.le_of_ble_eq_true rfl)⟩ ⟨(Nat.le_of_ble_eq_true rfl), (Nat.le_of_ble_eq_true rfl)⟩ rfl rfl (Nat.le_of_ble_eq_true rfl) d_L_growI_27 ?_
  refine u_istore_n hC d_L_growI_30 (by decide) ?_
  refine u_aload_n hC d_L_growI_31 rfl ?_
  refine u_aload_n hC d_L_growI_32 rfl ?_
  refine w_get hC f_L_9 hL rfl d_L_growI_33 ?_
  refine u_iload_n hC d_L_growI_36 rfl ?_
  refine u_callS hC (c_AR_copy hE (Nat.le_add_right _ _) (by omega) hel) k_L_66 s_AR_copyOf ⟨(Nat.le_of_ble_eq_true rfl), (Nat.le_of_ble_eq_true rfl)⟩ ⟨(Nat.le_of_ble_eq_true rfl), (by show 0 + 0 + _ ≤ cap + cap / 2; omega)⟩ rfl rfl (Nat.le_of_ble_eq_true rfl) d_L_growI_37 (fun v w' hp => ?_)
  obtain ⟨q, hq, rfl, rfl⟩ := hp
  refine u_top ?_
  refine u_dup_x1 hC d_L_growI_40 rfl rfl ?_
  refine w_put hC f_L_9 (tt_L 1 (by decide)) rfl (wg_app hL) rfl rfl (Nat.le_of_ble_eq_true rfl) d_L_growI_41 ?_
  exact u_aret hC hr (Or.inr ⟨_, rfl⟩) (Or.inr ⟨_, rfl⟩) d_L_growI_44 (by omega) (by omega) ⟨q, hq, rfl, rfl⟩
set_option maxHeartbeats 4000000 in
set_option maxRecDepth 100000 in
theorem c_L_growF {hl : Nat} {mc : Int32} (hL : wg ws hl = some (cL mc z.1 0)) : Ct l y_L_growI b_L_growI 4 (some (.array (.object "java/lang/Object"))) 3 1 10 D (gk κ, z) ws [.ref hl, .int (nI 1)] (fun v w' => ∃ q : Nat, wg ws q = none ∧ v = some (.ref q) ∧ w' = wup (ws ++ [(q, aQ κ 3 10 (fun _ => none))]) hl (cL mc q 0)) := by
  refine Ct.of (by decide) (Nat.le_of_ble_eq_true rfl) ?_
  intro p e s0 m below meth c A hC hr hn
  refine u_aload_n hC d_L_growI_0 rfl ?_
  refine w_get hC f_L_9 hL rfl d_L_growI_1 ?_
  refine u_tlen hC d_L_growI_4 ?_
  refine u_istore_n hC d_L_growI_5 (by decide) ?_
  refine u_iload_n hC d_L_growI_6 rfl ?_
  refine u_if_gt hC 20 d_L_growI_7 (by decide) (fun h_7 => absurd h_7 (by decide)) (fun h_7 => ?_)
  refine u_aload_n hC d_L_growI_10 rfl ?_
  refine w_get hC f_L_9 hL rfl d_L_growI_11 ?_
  refine u_gets hC g_L_39 d_L_growI_14 ?_
  refine u_acmp_eq hC (some z.1) (some z.1) 45 d_L_growI_17 (by decide) (fun h_17 => ?_) (fun h_17 => absurd rfl h_17)
  refine u_aload_n hC d_L_growI_45 rfl ?_
  refine u_bipush hC (nI 10) d_L_growI_46 (by decide) ?_
  refine u_iload_n hC d_L_growI_48 rfl ?_
  refine u_mmax hC q_L_79 m_max_s m_i m_max_c (Nat.le_of_ble_eq_true rfl) (Nat.le_of_ble_eq_true rfl) (Nat.le_of_ble_eq_true rfl) (Nat.le_of_ble_eq_true rfl) (Nat.le_of_ble_eq_true rfl) d_L_growI_49 ?_
  refine u_val (x' := nI 10) (by decide) ?_
  have hZ := hC.2.2.2.1
  refine u_newq hC (N := 10) 3 rfl l_L_7 hZ.2.2.2.2.2.1 (by decide) (by decide) (by decide) (Nat.le_of_ble_eq_true rfl) (Nat.le_of_ble_eq_true rfl) d_L_growI_52 (fun q => w_fresh (fun hq => ?_))
  refine u_dup_x1 hC d_L_growI_55 rfl rfl ?_
  refine w_put hC f_L_9 (tt_L 1 (by decide)) rfl (wg_app hL) rfl rfl (Nat.le_of_ble_eq_true rfl) d_L_growI_56 ?_
  exact u_aret hC hr (Or.inr ⟨_, rfl⟩) (Or.inr ⟨_, rfl⟩) d_L_growI_59 (Nat.le_of_ble_eq_true rfl) (Nat.le_of_ble_eq_true rfl) ⟨q, hq, rfl, rfl⟩
set_option maxHeartbeats 4000000 in
set_option maxRecDepth 100000 in
theorem c_L_growG {hl he cap : Nat} {mc : Int32} (hL : wg ws hl = some (cL mc he cap)) {f : Nat → Option Nat} (hE : wg ws he = some (aQ κ 3 cap f)) (h1 : 10 ≤ cap) (h2 : cap ≤ 5000) (hel : ∀ i : Nat, i < cap → ∀ y : Nat, f i = some y → ∃ fs : List Value, wg ws y = some (.inr (2, fs))) : Ct l y_L_grow b_L_grow 1 (some (.array (.object "java/lang/Object"))) 4 1 (cap + cap / 2) D (gk κ, z) ws [.ref hl] (fun v w' => ∃ q : Nat, wg ws q = none ∧ v = some (.ref q) ∧ w' = wup (ws ++ [(q, aQ κ 3 (cap + cap / 2) (va_cpy f (fun _ => none) 0 0 cap))]) hl (cL mc q cap)) := by
  refine Ct.of (by decide) (Nat.le_of_ble_eq_true rfl) ?_
  intro p e s0 m below meth c A hC hr hn
  refine u_aload_n hC d_L_grow_0 rfl ?_
  refine u_aload_n hC d_L_grow_1 rfl ?_
  refine w_get hC f_L_48 hL rfl d_L_grow_2 ?_
  refine u_iconst hC (nI 1) d_L_grow_5 (by decide) ?_
  refine u_iadd hC d_L_grow_6 ?_
  refine u_val (nI_add cap 1) ?_
  refine w_callV hC (c_L_growI hL hE h1 h2 hel) k_L_69 i_L_growI hL rfl ⟨(Nat.le_of_ble_eq_true rfl), (Nat.le_of_ble_eq_true rfl)⟩ ⟨(Nat.le_of_ble_eq_true rfl), (Nat.le_of_eq (Nat.zero_add _))⟩ rfl rfl (Nat.le_of_ble_eq_true rfl) d_L_grow_7 (fun v w' hp => ?_)
  obtain ⟨q, hq, rfl, rfl⟩ := hp
  refine u_top ?_
  exact u_aret hC hr (Or.inr ⟨_, rfl⟩) (Or.inr ⟨_, rfl⟩) d_L_grow_10 (by omega) (by omega) ⟨q, hq, rfl, rfl⟩
set_option maxHeartbeats 4000000 in
set_option maxRecDepth 100000 in
theorem c_L_grow0 {hl : Nat} {mc : Int32} (hL : wg ws hl = some (cL mc z.1 0)) : Ct l y_L_grow b_L_grow 1 (some (.array (.object "java/lang/Object"))) 4 1 10 D (gk κ, z) ws [.ref hl] (fun v w' => ∃ q : Nat, wg ws q = none ∧ v = some (.ref q) ∧ w' = wup (ws ++ [(q, aQ κ 3 10 (fun _ => none))]) hl (cL mc q 0)) := by
  refine Ct.of (by decide) (Nat.le_of_ble_eq_true rfl) ?_
  intro p e s0 m below meth c A hC hr hn
  refine u_aload_n hC d_L_grow_0 rfl ?_
  refine u_aload_n hC d_L_grow_1 rfl ?_
  refine w_get hC f_L_48 hL rfl d_L_grow_2 ?_
  refine u_iconst hC (nI 1) d_L_grow_5 (by decide) ?_
  refine u_iadd hC d_L_grow_6 ?_
  refine u_val (x' := nI 1) (by decide) ?_
  refine w_callV hC (c_L_growF hL) k_L_69 i_L_growI hL rfl ⟨(Nat.le_of_ble_eq_true rfl), (Nat.le_of_ble_eq_true rfl)⟩ ⟨(Nat.le_of_ble_eq_true rfl), (Nat.le_of_ble_eq_true rfl)⟩ rfl rfl (Nat.le_of_ble_eq_true rfl) d_L_grow_7 (fun v w' hp => ?_)
  obtain ⟨q, hq, rfl, rfl⟩ := hp
  refine u_top ?_
  exact u_aret hC hr (Or.inr ⟨_, rfl⟩) (Or.inr ⟨_, rfl⟩) d_L_grow_10 (Nat.le_of_ble_eq_true rfl) (Nat.le_of_ble_eq_true rfl) ⟨q, hq, rfl, rfl⟩
set_option maxHeartbeats 4000000 in
set_option maxRecDepth 100000 in
theorem c_L_add3R {hl he n : Nat} {mc : Int32} (hL : wg ws hl = some (cL mc he n)) {cap : Nat} {f : Nat → Option Nat} (hE : wg ws he = some (aQ κ 3 cap f)) (hcap : cap ≤ 10000) {x : Nat} {vs : List Value} (hx : wg ws x = some (.inr (2, vs))) (hn9 : n < cap) : Ct l y_L_add3 b_L_add3 4 none 5 1 0 D (gk κ, z) ws [.ref hl, .ref x, .ref he, .int (nI n)] (rtv (wup (wup ws he (aQ κ 3 cap (va_up f n (some x)))) hl (cL mc he (n + 1)))) := by
  refine Ct.of (by decide) (Nat.le_of_ble_eq_true rfl) ?_
  intro p e s0 m below meth c A hC hr hn
  refine u_iload_n hC d_L_add3_0 rfl ?_
  refine u_aload_n hC d_L_add3_1 rfl ?_
  refine w_alen hC 3 hE rfl d_L_add3_2 ?_
  refine u_icmp_ne hC 11 d_L_add3_3 (by decide) (fun h_3 => ?_) (fun h_3 => absurd h_3 (fun w => absurd ((nI_eq (by omega) (by omega)).mp w) (by omega)))
  refine u_aload_n hC d_L_add3_11 rfl ?_
  refine u_iload_n hC d_L_add3_12 rfl ?_
  refine u_aload_n hC d_L_add3_13 rfl ?_
  have hZ := hC.2.2.2.1
  refine w_astqO (r := (R_G, F_G, 4)) hC 3 hE rfl hZ.2.2.2.1 hx rfl n rfl (by omega) (by omega) d_L_add3_14 ?_
  refine u_aload_n hC d_L_add3_15 rfl ?_
  refine u_iload_n hC d_L_add3_16 rfl ?_
  refine u_iconst hC (nI 1) d_L_add3_17 (by decide) ?_
  refine u_iadd hC d_L_add3_18 ?_
  refine u_val (nI_add n 1) ?_
  refine w_put hC f_L_48 (tt_L 2 (by decide)) rfl (by rw [wg_upN (wg_ne hL hE (by intro w; cases w))]; exact hL) rfl rfl (Nat.le_of_ble_eq_true rfl) d_L_add3_19 ?_
  exact u_vret hC hr d_L_add3_22 (Nat.le_of_ble_eq_true rfl) (Nat.le_of_ble_eq_true rfl) ⟨rfl, rfl⟩
set_option maxHeartbeats 4000000 in
set_option maxRecDepth 100000 in
theorem c_L_add3G {hl he cap : Nat} {mc : Int32} (hL : wg ws hl = some (cL mc he cap)) {f : Nat → Option Nat} (hE : wg ws he = some (aQ κ 3 cap f)) (h1 : 10 ≤ cap) (h2 : cap ≤ 5000) (hel : ∀ i : Nat, i < cap → ∀ y : Nat, f i = some y → ∃ fs : List Value, wg ws y = some (.inr (2, fs))) {x : Nat} {vs : List Value} (hx : wg ws x = some (.inr (2, vs))) : Ct l y_L_add3 b_L_add3 4 none 5 1 (cap + cap / 2) D (gk κ, z) ws [.ref hl, .ref x, .ref he, .int (nI cap)] (fun v w' => v = none ∧ ∃ q : Nat, wg ws q = none ∧ w' = wup (wup (wup (ws ++ [(q, aQ κ 3 (cap + cap / 2) (va_cpy f (fun _ => none) 0 0 cap))]) hl (cL mc q cap)) q (aQ κ 3 (cap + cap / 2) (va_up (va_cpy f (fun _ => none) 0 0 cap) cap (some x)))) hl (cL mc q (cap + 1))) := by
  refine Ct.of (by decide) (Nat.le_of_ble_eq_true rfl) ?_
  intro p e s0 m below meth c A hC hr hn
  refine u_iload_n hC d_L_add3_0 rfl ?_
  refine u_aload_n hC d_L_add3_1 rfl ?_
  refine w_alen hC 3 hE rfl d_L_add3_2 ?_
  refine u_icmp_ne hC 11 d_L_add3_3 (by decide) (fun h_3 => absurd rfl h_3) (fun h_3 => ?_)
  refine u_aload_n hC d_L_add3_6 rfl ?_
  refine w_callV hC (c_L_growG hL hE h1 h2 hel) k_L_129 i_L_grow hL rfl ⟨(Nat.le_of_ble_eq_true rfl), (Nat.le_of_ble_eq_true rfl)⟩ ⟨(Nat.le_of_ble_eq_true rfl), (Nat.le_of_eq (Nat.zero_add _))⟩ rfl rfl (Nat.le_of_ble_eq_true rfl) d_L_add3_7 (fun v w' hp => ?_)
  obtain ⟨q, hq, rfl, rfl⟩ := hp
  refine u_top ?_
  have ne1 : q ≠ hl := fun w => by rw [w, hL] at hq; cases hq
  have ne2 : x ≠ hl := wg_ne hx hL (by intro w; cases w)
  have hQ : wg (wup (ws ++ [(q, aQ κ 3 (cap + cap / 2) (va_cpy f (fun _ => none) 0 0 cap))]) hl (cL mc q cap)) q = some (aQ κ 3 (cap + cap / 2) (va_cpy f (fun _ => none) 0 0 cap)) := by rw [wg_upN ne1]; exact wg_push hq
  have hX : wg (wup (ws ++ [(q, aQ κ 3 (cap + cap / 2) (va_cpy f (fun _ => none) 0 0 cap))]) hl (cL mc q cap)) x = some (.inr (2, vs)) := by rw [wg_upN ne2]; exact wg_app hx
  have hH : wg (wup (ws ++ [(q, aQ κ 3 (cap + cap / 2) (va_cpy f (fun _ => none) 0 0 cap))]) hl (cL mc q cap)) hl = some (cL mc q cap) := wg_up (wg_app hL)
  refine u_astore_n hC d_L_add3_10 (by decide) ?_
  refine u_aload_n hC d_L_add3_11 rfl ?_
  refine u_iload_n hC d_L_add3_12 rfl ?_
  refine u_aload_n hC d_L_add3_13 rfl ?_
  have hZ := hC.2.2.2.1
  refine w_astqO (r := (R_G, F_G, 4)) hC 3 hQ rfl hZ.2.2.2.1 hX rfl cap rfl (by omega) (by omega) d_L_add3_14 ?_
  refine u_aload_n hC d_L_add3_15 rfl ?_
  refine u_iload_n hC d_L_add3_16 rfl ?_
  refine u_iconst hC (nI 1) d_L_add3_17 (by decide) ?_
  refine u_iadd hC d_L_add3_18 ?_
  refine u_val (nI_add cap 1) ?_
  refine w_put hC f_L_48 (tt_L 2 (by decide)) rfl (by rw [wg_upN (Ne.symm ne1)]; exact hH) rfl rfl (Nat.le_of_ble_eq_true rfl) d_L_add3_19 ?_
  exact u_vret hC hr d_L_add3_22 (by omega) (by omega) ⟨rfl, q, hq, rfl⟩
set_option maxHeartbeats 4000000 in
set_option maxRecDepth 100000 in
theorem c_L_add3F {hl : Nat} {mc : Int32} (hL : wg ws hl = some (cL mc z.1 0)) {x : Nat} {vs : List Value} (hx : wg ws x = some (.inr (2, vs))) : Ct l y_L_add3 b_L_add3 4 none 5 1 10 D (gk κ, z) ws [.ref hl, .ref x, .ref z.1, .int (nI 0)] (fun v w' => v = none ∧ ∃ q : Nat, wg ws q = none ∧ w' = wup (wup (wup (ws ++ [(q, aQ κ 3 10 (fun _ => none))]) hl (cL mc q 0)) q (aQ κ 3 10 (va_up (fun _ => none) 0 (some x)))) hl (cL mc q 1)) := by
  refine Ct.of (by decide) (Nat.le_of_ble_eq_true rfl) ?_
  intro p e s0 m below meth c A hC hr hn
  refine u_iload_n hC d_L_add3_0 rfl ?_
  refine u_aload_n hC d_L_add3_1 rfl ?_
  refine u_tlen hC d_L_add3_2 ?_
  refine u_icmp_ne hC 11 d_L_add3_3 (by decide) (fun h_3 => absurd rfl h_3) (fun h_3 => ?_)
  refine u_aload_n hC d_L_add3_6 rfl ?_
  refine w_callV hC (c_L_grow0 hL) k_L_129 i_L_grow hL rfl ⟨(Nat.le_of_ble_eq_true rfl), (Nat.le_of_ble_eq_true rfl)⟩ ⟨(Nat.le_of_ble_eq_true rfl), (Nat.le_of_ble_eq_true rfl)⟩ rfl rfl (Nat.le_of_ble_eq_true rfl) d_L_add3_7 (fun v w' hp => ?_)
  obtain ⟨q, hq, rfl, rfl⟩ := hp
  refine u_top ?_
  have ne1 : q ≠ hl := fun w => by rw [w, hL] at hq; cases hq
  have ne2 : x ≠ hl := wg_ne hx hL (by intro w; cases w)
  have hQ : wg (wup (ws ++ [(q, aQ κ 3 10 (fun _ => none))]) hl (cL mc q 0)) q = some (aQ κ 3 10 (fun _ => none)) := by rw [wg_upN ne1]; exact wg_push hq
  have hX : wg (wup (ws ++ [(q, aQ κ 3 10 (fun _ => none))]) hl (cL mc q 0)) x = some (.inr (2, vs)) := by rw [wg_upN ne2]; exact wg_app hx
  have hH : wg (wup (ws ++ [(q, aQ κ 3 10 (fun _ => none))]) hl (cL mc q 0)) hl = some (cL mc q 0) := wg_up (wg_app hL)
  refine u_astore_n hC d_L_add3_10 (by decide) ?_
  refine u_aload_n hC d_L_add3_11 rfl ?_
  refine u_iload_n hC d_L_add3_12 rfl ?_
  refine u_aload_n hC d_L_add3_13 rfl ?_
  have hZ := hC.2.2.2.1
  refine w_astqO (r := (R_G, F_G, 4)) hC 3 hQ rfl hZ.2.2.2.1 hX rfl 0 rfl (by omega) (by omega) d_L_add3_14 ?_
  refine u_aload_n hC d_L_add3_15 rfl ?_
  refine u_iload_n hC d_L_add3_16 rfl ?_
  refine u_iconst hC (nI 1) d_L_add3_17 (by decide) ?_
  refine u_iadd hC d_L_add3_18 ?_
  refine u_val (x' := nI 1) (by decide) ?_
  refine w_put hC f_L_48 (tt_L 2 (by decide)) rfl (by rw [wg_upN (Ne.symm ne1)]; exact hH) rfl rfl (Nat.le_of_ble_eq_true rfl) d_L_add3_19 ?_
  exact u_vret hC hr d_L_add3_22 (Nat.le_of_ble_eq_true rfl) (Nat.le_of_ble_eq_true rfl) ⟨rfl, q, hq, rfl⟩
end LI
