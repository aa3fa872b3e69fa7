/-! The cells of the program's objects. -/
abbrev cD (hs hl : Nat) (cm : Int32) : va_E := .inr (1, [.ref hs, .ref hl, .int cm])
abbrev cG (ro lv cd pl : Int32) : va_E := .inr (2, [.int ro, .int lv, .int cd, .int pl])
abbrev cT (md : Int32) (na : Nat) (tp co sn : Int32) : va_E := .inr (3, [.int md, .ref na, .int tp, .int co, .int sn])
abbrev cL (mc : Int32) (he : Nat) (n : Nat) : va_E := .inr (4, [.int mc, .ref he, .int (nI n)])
abbrev aI (κ : Nat → ClassId) (n : Nat) (f : Nat → Int32) : va_E := .inl (κ 0, n, .inl f)
abbrev aQ (κ : Nat → ClassId) (i n : Nat) (f : Nat → Option Nat) : va_E := .inl (κ i, n, .inr (.inr (.inr (.inr f))))
theorem wup_wup (ws : va_W) (a : Nat) (x y : va_E) : wup (wup ws a x) a y = wup ws a y := by
  unfold wup
  rw [List.map_map]
  congr 1
  funext q
  show (if (if q.1 = a then (a, x) else q).1 = a then (a, y) else (if q.1 = a then (a, x) else q)) = _
  by_cases c : q.1 = a
  · rw [if_pos c, if_pos rfl, if_pos c]
  · rw [if_neg c, if_neg c]
section TG
variable {l : Launch} {D : va_G} {κ : Nat → ClassId} {z : Nat × Nat} {ws : va_W}
set_option maxHeartbeats 4000000 in
set_option maxRecDepth 100000 in
theorem c_T_hasT {t na : Nat} {md tp co sn : Int32} (hT : wg ws t = some (cT md na tp co sn)) (hs : ¬ sn = -1) : Ct l y_T_hasSnapshot b_T_hasSnapshot 1 (some .boolean) 0 0 0 D (gk κ, z) ws [.ref t] (rt (.int 1) ws) := by
  refine Ct.of (by decide) (Nat.le_of_ble_eq_true rfl) ?_
  intro p e s0 m below meth c A hC hr hn
  refine u_aload_n hC d_T_hasSnapshot_0 rfl ?_
  refine w_get hC f_T_22 hT rfl d_T_hasSnapshot_1 ?_
  refine u_iconst hC (-1) d_T_hasSnapshot_4 (by decide) ?_
  refine u_icmp_eq hC 12 d_T_hasSnapshot_5 (by decide) (fun h_5 => absurd h_5 hs) (fun h_5 => ?_)
  refine u_iconst hC (nI 1) d_T_hasSnapshot_8 (by decide) ?_
  refine u_goto hC 13 d_T_hasSnapshot_9 (by decide) ?_
  exact u_zret hC hr rfl d_T_hasSnapshot_13 (Nat.le_of_ble_eq_true rfl) (Nat.le_of_ble_eq_true rfl) ⟨rfl, rfl⟩
set_option maxHeartbeats 4000000 in
set_option maxRecDepth 100000 in
theorem c_T_hasF {t na : Nat} {md tp co sn : Int32} (hT : wg ws t = some (cT md na tp co sn)) (hs : sn = -1) : Ct l y_T_hasSnapshot b_T_hasSnapshot 1 (some .boolean) 0 0 0 D (gk κ, z) ws [.ref t] (rt (.int 0) ws) := by
  refine Ct.of (by decide) (Nat.le_of_ble_eq_true rfl) ?_
  intro p e s0 m below meth c A hC hr hn
  refine u_aload_n hC d_T_hasSnapshot_0 rfl ?_
  refine w_get hC f_T_22 hT rfl d_T_hasSnapshot_1 ?_
  refine u_iconst hC (-1) d_T_hasSnapshot_4 (by decide) ?_
  refine u_icmp_eq hC 12 d_T_hasSnapshot_5 (by decide) (fun h_5 => ?_) (fun h_5 => absurd hs h_5)
  refine u_iconst hC (nI 0) d_T_hasSnapshot_12 (by decide) ?_
  exact u_zret hC hr rfl d_T_hasSnapshot_13 (Nat.le_of_ble_eq_true rfl) (Nat.le_of_ble_eq_true rfl) ⟨rfl, rfl⟩
set_option maxHeartbeats 4000000 in
set_option maxRecDepth 100000 in
theorem c_T_ownsT {t na : Nat} {md tp co sn : Int32} (hT : wg ws t = some (cT md na tp co sn)) {nb : Nat → Int32} (hN : wg ws na = some (aI κ 8 nb)) {q : Nat} {ro lv cd pl : Int32} (hG : wg ws q = some (cG ro lv cd pl)) (ho : ro = nb 0) : Ct l y_T_owns b_T_owns 2 (some .boolean) 0 0 0 D (gk κ, z) ws [.ref t, .ref q] (rt (.int 1) ws) := by
  refine Ct.of (by decide) (Nat.le_of_ble_eq_true rfl) ?_
  intro p e s0 m below meth c A hC hr hn
  refine u_aload_n hC d_T_owns_0 rfl ?_
  refine w_get hC f_T_28 hG rfl d_T_owns_1 ?_
  refine u_aload_n hC d_T_owns_4 rfl ?_
  refine w_get hC f_T_9 hT rfl d_T_owns_5 ?_
  refine u_iconst hC (nI 0) d_T_owns_8 (by decide) ?_
  refine w_iald hC 0 hN rfl 0 rfl (by decide) (by decide) d_T_owns_9 ?_
  refine u_icmp_ne hC 17 d_T_owns_10 (by decide) (fun h_10 => absurd ho h_10) (fun h_10 => ?_)
  refine u_iconst hC (nI 1) d_T_owns_13 (by decide) ?_
  refine u_goto hC 18 d_T_owns_14 (by decide) ?_
  exact u_zret hC hr rfl d_T_owns_18 (Nat.le_of_ble_eq_true rfl) (Nat.le_of_ble_eq_true rfl) ⟨rfl, rfl⟩
set_option maxHeartbeats 4000000 in
set_option maxRecDepth 100000 in
theorem c_T_ownsF {t na : Nat} {md tp co sn : Int32} (hT : wg ws t = some (cT md na tp co sn)) {nb : Nat → Int32} (hN : wg ws na = some (aI κ 8 nb)) {q : Nat} {ro lv cd pl : Int32} (hG : wg ws q = some (cG ro lv cd pl)) (ho : ¬ ro = nb 0) : Ct l y_T_owns b_T_owns 2 (some .boolean) 0 0 0 D (gk κ, z) ws [.ref t, .ref q] (rt (.int 0) ws) := by
  refine Ct.of (by decide) (Nat.le_of_ble_eq_true rfl) ?_
  intro p e s0 m below meth c A hC hr hn
  refine u_aload_n hC d_T_owns_0 rfl ?_
  refine w_get hC f_T_28 hG rfl d_T_owns_1 ?_
  refine u_aload_n hC d_T_owns_4 rfl ?_
  refine w_get hC f_T_9 hT rfl d_T_owns_5 ?_
  refine u_iconst hC (nI 0) d_T_owns_8 (by decide) ?_
  refine w_iald hC 0 hN rfl 0 rfl (by decide) (by decide) d_T_owns_9 ?_
  refine u_icmp_ne hC 17 d_T_owns_10 (by decide) (fun h_10 => ?_) (fun h_10 => absurd h_10 ho)
  refine u_iconst hC (nI 0) d_T_owns_17 (by decide) ?_
  exact u_zret hC hr rfl d_T_owns_18 (Nat.le_of_ble_eq_true rfl) (Nat.le_of_ble_eq_true rfl) ⟨rfl, rfl⟩
set_option maxHeartbeats 4000000 in
set_option maxRecDepth 100000 in
theorem c_T_leaveT {t na : Nat} {md tp co sn : Int32} (hT : wg ws t = some (cT md na tp co sn)) {x : Int32} (h1 : ¬ x < nI 1) (h2 : ¬ tp < x) : Ct l y_T_canLeave b_T_canLeave 2 (some .boolean) 0 0 0 D (gk κ, z) ws [.ref t, .int x] (rt (.int 1) ws) := by
  refine Ct.of (by decide) (Nat.le_of_ble_eq_true rfl) ?_
  intro p e s0 m below meth c A hC hr hn
  refine u_iload_n hC d_T_canLeave_0 rfl ?_
  refine u_iconst hC (nI 1) d_T_canLeave_1 (by decide) ?_
  refine u_icmp_lt hC 17 d_T_canLeave_2 (by decide) (fun h_2 => absurd h_2 h1) (fun h_2 => ?_)
  refine u_iload_n hC d_T_canLeave_5 rfl ?_
  refine u_aload_n hC d_T_canLeave_6 rfl ?_
  refine w_get hC f_T_15 hT rfl d_T_canLeave_7 ?_
  refine u_icmp_gt hC 17 d_T_canLeave_10 (by decide) (fun h_10 => absurd h_10 h2) (fun h_10 => ?_)
  refine u_iconst hC (nI 1) d_T_canLeave_13 (by decide) ?_
  refine u_goto hC 18 d_T_canLeave_14 (by decide) ?_
  exact u_zret hC hr rfl d_T_canLeave_18 (Nat.le_of_ble_eq_true rfl) (Nat.le_of_ble_eq_true rfl) ⟨rfl, rfl⟩
set_option maxHeartbeats 4000000 in
set_option maxRecDepth 100000 in
theorem c_T_leaveF {t na : Nat} {md tp co sn : Int32} (hT : wg ws t = some (cT md na tp co sn)) {x : Int32} (h1 : ¬ (¬ x < nI 1 ∧ ¬ tp < x)) : Ct l y_T_canLeave b_T_canLeave 2 (some .boolean) 0 0 0 D (gk κ, z) ws [.ref t, .int x] (rt (.int 0) ws) := by
  refine Ct.of (by decide) (Nat.le_of_ble_eq_true rfl) ?_
  intro p e s0 m below meth c A hC hr hn
  refine u_iload_n hC d_T_canLeave_0 rfl ?_
  refine u_iconst hC (nI 1) d_T_canLeave_1 (by decide) ?_
  refine u_icmp_lt hC 17 d_T_canLeave_2 (by decide) (fun h_2 => ?_) (fun h_2 => ?_)
  · refine u_iconst hC (nI 0) d_T_canLeave_17 (by decide) ?_
    exact u_zret hC hr rfl d_T_canLeave_18 (Nat.le_of_ble_eq_true rfl) (Nat.le_of_ble_eq_true rfl) ⟨rfl, rfl⟩
  · refine u_iload_n hC d_T_canLeave_5 rfl ?_
    refine u_aload_n hC d_T_canLeave_6 rfl ?_
    refine w_get hC f_T_15 hT rfl d_T_canLeave_7 ?_
    refine u_icmp_gt hC 17 d_T_canLeave_10 (by decide) (fun h_10 => ?_) (fun h_10 => ?_)
    · refine u_iconst hC (nI 0) d_T_canLeave_17 (by decide) ?_
      exact u_zret hC hr rfl d_T_canLeave_18 (Nat.le_of_ble_eq_true rfl) (Nat.le_of_ble_eq_true rfl) ⟨rfl, rfl⟩
    · exact absurd ⟨h_2, h_10⟩ h1
set_option maxHeartbeats 4000000 in
set_option maxRecDepth 100000 in
theorem c_G_init {q : Nat} {v0 v1 v2 v3 x y : Int32} (hG : wg ws q = some (cG v0 v1 v2 v3)) : Ct l y_G_init b_G_init 3 none 1 0 0 D (gk κ, z) ws [.ref q, .int x, .int y] (rtv (wup ws q (cG x y (nI 1) (nI 0)))) := by
  refine Ct.of (by decide) (Nat.le_of_ble_eq_true rfl) ?_
  intro p e s0 m below meth c A hC hr hn
  refine u_aload_n hC d_G_init_0 rfl ?_
  refine u_objInit hC o_G_3 o_I o_C (Nat.le_of_ble_eq_true rfl) (Nat.le_of_ble_eq_true rfl) (Nat.le_of_ble_eq_true rfl) d_G_init_1 ?_
  refine u_aload_n hC d_G_init_4 rfl ?_
  refine u_iconst hC (nI 1) d_G_init_5 (by decide) ?_
  refine w_put hC f_G_9 (tt_G 2 (by decide)) rfl hG rfl rfl (Nat.le_of_ble_eq_true rfl) d_G_init_6 ?_
  have h6 := wg_up (y := cG v0 v1 (nI 1) v3) hG
  refine u_aload_n hC d_G_init_9 rfl ?_
  refine u_iconst hC (nI 0) d_G_init_10 (by decide) ?_
  refine w_put hC f_G_15 (tt_G 3 (by decide)) rfl h6 rfl rfl (Nat.le_of_ble_eq_true rfl) d_G_init_11 ?_
  rw [wup_wup]
  have h11 := wg_up (y := cG v0 v1 (nI 1) (nI 0)) hG
  refine u_aload_n hC d_G_init_14 rfl ?_
  refine u_iload_n hC d_G_init_15 rfl ?_
  refine w_putF hC f_G_18 (tt_G 0 (by decide)) rfl hn rfl h11 rfl rfl (Nat.le_of_ble_eq_true rfl) d_G_init_16 ?_
  rw [wup_wup]
  have h16 := wg_up (y := cG x v1 (nI 1) (nI 0)) hG
  refine u_aload_n hC d_G_init_19 rfl ?_
  refine u_iload_n hC d_G_init_20 rfl ?_
  refine w_put hC f_G_21 (tt_G 1 (by decide)) rfl h16 rfl rfl (Nat.le_of_ble_eq_true rfl) d_G_init_21 ?_
  rw [wup_wup]
  exact u_vret hC hr d_G_init_24 (Nat.le_of_ble_eq_true rfl) (Nat.le_of_ble_eq_true rfl) ⟨rfl, rfl⟩
set_option maxHeartbeats 4000000 in
set_option maxRecDepth 100000 in
theorem c_T_init {t : Nat} {v0 v2 v3 v4 x : Int32} (hT : wg ws t = some (.inr (3, [.int v0, .null, .int v2, .int v3, .int v4]))) : Ct l y_T_init b_T_init 2 none 1 1 8 D (gk κ, z) ws [.ref t, .int x] (fun v w' => v = none ∧ ∃ q : Nat, wg ws q = none ∧ w' = wup (ws ++ [(q, aI κ 8 (fun _ => 0))]) t (cT x q (nI 0) (nI 0) (-1))) := by
  refine Ct.of (by decide) (Nat.le_of_ble_eq_true rfl) ?_
  intro p e s0 m below meth c A hC hr hn
  refine u_aload_n hC d_T_init_0 rfl ?_
  refine u_objInit hC o_T_3 o_I o_C (Nat.le_of_ble_eq_true rfl) (Nat.le_of_ble_eq_true rfl) (Nat.le_of_ble_eq_true rfl) d_T_init_1 ?_
  refine u_aload_n hC d_T_init_4 rfl ?_
  refine u_bipush hC (nI 8) d_T_init_5 (by decide) ?_
  refine u_newi hC (N := 8) 0 rfl a_int (by decide) (by decide) (by decide) (Nat.le_of_ble_eq_true rfl) (Nat.le_of_ble_eq_true rfl) d_T_init_7 (fun na => w_fresh (fun hna => ?_))
  have hT0 := wg_app (w2 := [(na, aI κ 8 (fun _ => 0))]) hT
  refine w_putF hC f_T_9 (tt_T 1 (by decide)) rfl hn rfl hT0 rfl rfl (Nat.le_of_ble_eq_true rfl) d_T_init_9 ?_
  have h9 := wg_up (y := .inr (3, [.int v0, .ref na, .int v2, .int v3, .int v4])) hT0
  refine u_aload_n hC d_T_init_12 rfl ?_
  refine u_iconst hC (nI 0) d_T_init_13 (by decide) ?_
  refine w_put hC f_T_15 (tt_T 2 (by decide)) rfl h9 rfl rfl (Nat.le_of_ble_eq_true rfl) d_T_init_14 ?_
  rw [wup_wup]
  have h14 := wg_up (y := .inr (3, [.int v0, .ref na, .int (nI 0), .int v3, .int v4])) hT0
  refine u_aload_n hC d_T_init_17 rfl ?_
  refine u_iconst hC (nI 0) d_T_init_18 (by decide) ?_
  refine w_put hC f_T_19 (tt_T 3 (by decide)) rfl h14 rfl rfl (Nat.le_of_ble_eq_true rfl) d_T_init_19 ?_
  rw [wup_wup]
  have h19 := wg_up (y := .inr (3, [.int v0, .ref na, .int (nI 0), .int (nI 0), .int v4])) hT0
  refine u_aload_n hC d_T_init_22 rfl ?_
  refine u_iconst hC (-1) d_T_init_23 (by decide) ?_
  refine w_put hC f_T_22 (tt_T 4 (by decide)) rfl h19 rfl rfl (Nat.le_of_ble_eq_true rfl) d_T_init_24 ?_
  rw [wup_wup]
  have h24 := wg_up (y := .inr (3, [.int v0, .ref na, .int (nI 0), .int (nI 0), .int (-1)])) hT0
  refine u_aload_n hC d_T_init_27 rfl ?_
  refine u_iload_n hC d_T_init_28 rfl ?_
  refine w_putF hC f_T_25 (tt_T 0 (by decide)) rfl hn rfl h24 rfl rfl (Nat.le_of_ble_eq_true rfl) d_T_init_29 ?_
  rw [wup_wup]
  exact u_vret hC hr d_T_init_32 (Nat.le_of_ble_eq_true rfl) (Nat.le_of_ble_eq_true rfl) ⟨rfl, na, hna, rfl⟩
end TG
