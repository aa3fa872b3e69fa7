theorem u_non {p : Program} {l : Launch} {e : Env} {R : Room} {s : State} {m : MethodId} {args : Array Value} {below : List Frame} {meth : Method} {c : Code} {k n : Nat} {Q : State → Prop} {nL : Nat} {D : va_G} {A : Nat → Prop} {pc : Nat} {L : List (Nat × Value)} {st : List Value} {ws : va_W} (kk : U p l e R s m args below meth c nL D A ws k n Q pc L st) : U p l e R s m args below meth c nL D A ws k n Q pc L ((none : Option Value).toList ++ st) := kk
/-! Changes of the program's state, one number after the other. -/
abbrev d_ok (tr : Nat → Option Nat) (sn : Nat → Int32) (x : Int32) (s : Nat) : Prop := ∀ t, tr s = some t → sn s = -1 ∨ ¬ sn s < x
section DP
variable {l : Launch} {D : va_G} {κ : Nat → ClassId} {z : Nat × Nat} {ws : va_W} {h0 hs hl cap : Nat} {cm : Int32} {tr : Nat → Option Nat} {na : Nat → Nat} {mo to co sn : Nat → Int32} {nb : Nat → Nat → Int32} {n : Nat} {el : Nat → Nat} {ro lv cd pl : Nat → Int32}
theorem Dk.ext {w' : va_W} (hK : Dk κ z ws h0 hs hl cap cm tr na mo to co sn nb n el ro lv cd pl) (hx : ∀ b x, wg ws b = some x → wg w' b = some x) : Dk κ z w' h0 hs hl cap cm tr na mo to co sn nb n el ro lv cd pl := by
  obtain ⟨a1, a2, a3, a4, a5, a6, a7, a8⟩ := hK
  exact ⟨hx _ _ a1, hx _ _ a2, a3.moved (fun b x h _ => hx b x h), fun j t hj ht => ⟨hx _ _ (a4 j t hj ht).1, hx _ _ (a4 j t hj ht).2⟩, a5, a6, fun i hi => hx _ _ (a7 i hi), a8⟩
theorem Dk.setlv {P : Nat → Prop} {y : Int32} {i : Nat} (hK : Dk κ z ws h0 hs hl cap cm tr na mo to co sn nb n el ro (dset P lv y i) cd pl) (hi : i < n) (hP : P i) : Dk κ z (wup ws (el i) (cG (ro i) y (cd i) (pl i))) h0 hs hl cap cm tr na mo to co sn nb n el ro (dset P lv y (i + 1)) cd pl := by
  have h := hK.updG hi y (cd i) (pl i)
  rw [m_upd_id, m_upd_id, dset_T hP] at h
  exact h
theorem Dk.setcd {P : Nat → Prop} {y : Int32} {i : Nat} (hK : Dk κ z ws h0 hs hl cap cm tr na mo to co sn nb n el ro lv (dset P cd y i) pl) (hi : i < n) (hP : P i) : Dk κ z (wup ws (el i) (cG (ro i) (lv i) y (pl i))) h0 hs hl cap cm tr na mo to co sn nb n el ro lv (dset P cd y (i + 1)) pl := by
  have h := hK.updG hi (lv i) y (pl i)
  rw [m_upd_id, m_upd_id, dset_T hP] at h
  exact h
theorem Dk.setcp {P : Nat → Prop} {y x : Int32} {i : Nat} (hK : Dk κ z ws h0 hs hl cap cm tr na mo to co sn nb n el ro lv (dset P cd y i) (dset P pl x i)) (hi : i < n) (hP : P i) : Dk κ z (wup ws (el i) (cG (ro i) (lv i) y x)) h0 hs hl cap cm tr na mo to co sn nb n el ro lv (dset P cd y (i + 1)) (dset P pl x (i + 1)) := by
  have h := hK.updG hi (lv i) y x
  rw [m_upd_id, dset_T hP, dset_T hP] at h
  exact h
/-- a session gets a transaction -/
theorem Dk.beg {j t q : Nat} {x : va_E} {md a b c : Int32} {f : Nat → Int32} (hK : Dk κ z ws h0 hs hl cap cm tr na mo to co sn nb n el ro lv cd pl) (hj : j < 6) (hn : tr j = none) (ht : wg ws t = none) (hq : wg (ws ++ [(t, x)]) q = none) :
    Dk κ z (wup (wup ((ws ++ [(t, x)]) ++ [(q, aI κ 8 f)]) t (cT md q a b c)) hs (aQ κ 2 6 (va_up tr j (some t)))) h0 hs hl cap cm (va_up tr j (some t)) (va_up na j q) (upd mo j md) (upd to j a) (upd co j b) (upd sn j c) (va_up nb j f) n el ro lv cd pl := by
  obtain ⟨a1, a2, a3, a4, a5, a6, a7, a8⟩ := hK
  have hqt : q ≠ t := fun w => by rw [w, wg_push ht] at hq; cases hq
  have hq0 : wg ws q = none := by rw [wg_pushN hqt] at hq; exact hq
  have key : ∀ {b0 : Nat} {y : va_E}, wg ws b0 = some y → (∀ g, y ≠ aQ κ 2 6 g) → wg (wup (wup ((ws ++ [(t, x)]) ++ [(q, aI κ 8 f)]) t (cT md q a b c)) hs (aQ κ 2 6 (va_up tr j (some t)))) b0 = some y := by
    intro b0 y hb hy
    have n1 : b0 ≠ t := fun w => by rw [w, ht] at hb; cases hb
    rw [wg_upN (wg_ne hb a2 (hy _)), wg_upN n1]
    exact wg_app (wg_app hb)
  have hth : t ≠ hs := fun w => by rw [w, a2] at ht; cases ht
  have hqh : q ≠ hs := fun w => by rw [w, a2] at hq0; cases hq0
  have old : ∀ {i s : Nat}, i ≠ j → va_up tr j (some t) i = some s → tr i = some s := by
    intro i s c hi
    rw [show va_up tr j (some t) i = tr i from if_neg c] at hi
    exact hi
  have self : va_up tr j (some t) j = some t := if_pos rfl
  refine ⟨key a1 (by intro fs w; cases w), wg_up (x := aQ κ 2 6 tr) (by rw [wg_upN (Ne.symm hth)]; exact wg_app (wg_app a2)), a3.moved (fun b0 y hb hy => key hb (by
    intro g w
    subst w
    rcases hy with ⟨fs, e⟩ | ⟨f9, e, g9⟩
    · cases e
    · exact aQ6 g9 e)), ?_, ?_, ?_, fun i hi => key (a7 i hi) (by intro fs w; cases w), a8⟩
  · intro i s hi hs9
    by_cases c9 : i = j
    · subst c9
      have e9 : t = s := Option.some.inj (self.symm.trans hs9)
      subst e9
      rw [pk_us, pk_us, pk_us, pk_us, show va_up na i q i = q from if_pos rfl, show va_up nb i f i = f from if_pos rfl]
      exact ⟨by rw [wg_upN hth]; exact wg_up (wg_app (wg_push ht)), by rw [wg_upN hqh, wg_upN hqt]; exact wg_push hq⟩
    · rw [pk_un c9, pk_un c9, pk_un c9, pk_un c9, show va_up na j q i = na i from if_neg c9, show va_up nb j f i = nb i from if_neg c9]
      exact ⟨key (a4 i s hi (old c9 hs9)).1 (by intro fs w; cases w), key (a4 i s hi (old c9 hs9)).2 (fun g => aIQ)⟩
  · intro i k s hi hk h1 h2
    by_cases c1 : i = j
    · by_cases c2 : k = j
      · rw [c1, c2]
      · rw [c1, self] at h1
        have e9 := Option.some.inj h1
        rw [← e9] at h2
        have := (a4 k t hk (old c2 h2)).1
        rw [ht] at this
        cases this
    · by_cases c2 : k = j
      · rw [c2, self] at h2
        have e9 := Option.some.inj h2
        rw [← e9] at h1
        have := (a4 i t hi (old c1 h1)).1
        rw [ht] at this
        cases this
      · exact a5 i k s hi hk (old c1 h1) (old c2 h2)
  · intro i k s u hi hk h1 h2 h3
    by_cases c1 : i = j
    · by_cases c2 : k = j
      · rw [c1, c2]
      · rw [show va_up na j q i = q from if_pos c1, show va_up na j q k = na k from if_neg c2] at h3
        have := (a4 k u hk (old c2 h2)).2
        rw [← h3, hq0] at this
        cases this
    · by_cases c2 : k = j
      · rw [show va_up na j q k = q from if_pos c2, show va_up na j q i = na i from if_neg c1] at h3
        have := (a4 i s hi (old c1 h1)).2
        rw [h3, hq0] at this
        cases this
      · rw [show va_up na j q i = na i from if_neg c1, show va_up na j q k = na k from if_neg c2] at h3
        exact a6 i k s u hi hk (old c1 h1) (old c2 h2) h3
end DP
section DW0
variable {l : Launch} {D : va_G} {κ : Nat → ClassId} {z : Nat × Nat} {ws : va_W} {h0 hs hl cap : Nat} {cm : Int32} {tr : Nat → Option Nat} {na : Nat → Nat} {mo to co sn : Nat → Int32} {nb : Nat → Nat → Int32} {n : Nat} {el : Nat → Nat} {ro lv cd pl : Nat → Int32}
variable {p : Program} {e : Env} {R : Room} {s0 : State} {m : MethodId} {args : Array Value} {below : List Frame} {meth : Method} {c : Code} {A : Nat → Prop} {Q : State → Prop}
set_option maxHeartbeats 4000000 in
set_option maxRecDepth 100000 in
theorem l_D_every {q : Nat} {r0 l0 d0 p0 : Int32} (hG : wg ws q = some (cG r0 l0 d0 p0)) (hK : Dk κ z ws h0 hs hl cap cm tr na mo to co sn nb n el ro lv cd pl) (hC : vx p s0 m args meth c b_D_isInEveryLiveSnapshot 4 R_D D (gk κ, z) A) (hR : 0 + 1 ≤ R.frames ∧ 8 + (1 + 11) + 40 * 0 ≤ R.locals) (e1 : (∀ s, s < 6 → d_ok tr sn p0 s) → U p l e R s0 m args below meth c 4 D A ws 0 0 Q 59 [(2, .int (nI 6)), (0, .ref h0), (1, .ref q)] []) (e0 : (∃ s, s < 6 ∧ ¬ d_ok tr sn p0 s) → ∀ k t : Nat, U p l e R s0 m args below meth c 4 D A ws 0 0 Q 51 [(3, .ref t), (2, .int (nI k)), (0, .ref h0), (1, .ref q)] []) : ∀ r k : Nat, k + r = 6 → (∀ s, s < k → d_ok tr sn p0 s) → U p l e R s0 m args below meth c 4 D A ws 0 0 Q 16 [(2, .int (nI k)), (0, .ref h0), (1, .ref q)] [] := by
  obtain ⟨hO, hS9, hLs, hTr, hTi, hNi, hGs, hGi⟩ := id hK
  intro r
  induction r with
  | zero =>
    intro k hk ho
    have e : k = 6 := by omega
    subst e
    refine u_iload_n hC d_D_isInEveryLiveSnapshot_16 rfl ?_
    refine u_bipush hC (nI 6) d_D_isInEveryLiveSnapshot_17 (by decide) ?_
    refine u_icmp_ge hC 59 d_D_isInEveryLiveSnapshot_19 (by decide) (fun h_19 => ?_) (fun h_19 => absurd (by decide) h_19)
    exact e1 ho
  | succ r ih =>
    intro k hk ho
    cases htr : tr k with
    | none =>
      refine u_iload_n hC d_D_isInEveryLiveSnapshot_16 rfl ?_
      refine u_bipush hC (nI 6) d_D_isInEveryLiveSnapshot_17 (by decide) ?_
      refine u_icmp_ge hC 59 d_D_isInEveryLiveSnapshot_19 (by decide) (fun h_19 => absurd h_19 (nI_ge (by omega) (by decide))) (fun h_19 => ?_)
      refine u_aload_n hC d_D_isInEveryLiveSnapshot_22 rfl ?_
      refine w_get hC f_D_11 hO rfl d_D_isInEveryLiveSnapshot_23 ?_
      refine u_iload_n hC d_D_isInEveryLiveSnapshot_26 rfl ?_
      refine w_aldq hC 2 hS9 rfl k rfl (by omega) (by decide) d_D_isInEveryLiveSnapshot_27 ?_
      rw [htr]
      refine u_astore_nN hC d_D_isInEveryLiveSnapshot_28 (by decide) ?_
      refine u_aload_nN hC d_D_isInEveryLiveSnapshot_29 rfl ?_
      refine u_ifnullN hC 53 d_D_isInEveryLiveSnapshot_30 (by decide) ?_
      refine u_iinc hC (nI (k + 1)) (j := 1) d_D_isInEveryLiveSnapshot_53 rfl (nI_1 k) (by decide) ?_
      refine u_goto hC 16 d_D_isInEveryLiveSnapshot_56 (by decide) ?_
      refine u_pick [0, 2, 3] rfl ?_
      exact ih (k + 1) (by omega) (fun s hs7 => by
        rcases Nat.lt_or_ge s k with w | w
        · exact ho s w
        · have e9 : s = k := by omega
          rw [e9]
          exact fun t ht => by rw [htr] at ht; cases ht)
    | some t =>
      have hT := (hTr k t (by omega) htr).1
      by_cases hsn : sn k = -1
      · refine u_iload_n hC d_D_isInEveryLiveSnapshot_16 rfl ?_
        refine u_bipush hC (nI 6) d_D_isInEveryLiveSnapshot_17 (by decide) ?_
        refine u_icmp_ge hC 59 d_D_isInEveryLiveSnapshot_19 (by decide) (fun h_19 => absurd h_19 (nI_ge (by omega) (by decide))) (fun h_19 => ?_)
        refine u_aload_n hC d_D_isInEveryLiveSnapshot_22 rfl ?_
        refine w_get hC f_D_11 hO rfl d_D_isInEveryLiveSnapshot_23 ?_
        refine u_iload_n hC d_D_isInEveryLiveSnapshot_26 rfl ?_
        refine w_aldq hC 2 hS9 rfl k rfl (by omega) (by decide) d_D_isInEveryLiveSnapshot_27 ?_
        rw [htr]
        refine u_astore_n hC d_D_isInEveryLiveSnapshot_28 (by decide) ?_
        refine u_aload_n hC d_D_isInEveryLiveSnapshot_29 rfl ?_
        refine u_ifnull hC d_D_isInEveryLiveSnapshot_30 ?_
        refine u_aload_n hC d_D_isInEveryLiveSnapshot_33 rfl ?_
        refine w_callVr hC (c_T_hasF hT hsn) k_D_43 i_T_hasSnapshot hT rfl hR ⟨Nat.zero_le _, Nat.zero_le _⟩ rfl rfl (Nat.le_of_ble_eq_true rfl) d_D_isInEveryLiveSnapshot_34 ?_
        refine u_if_eq hC 53 d_D_isInEveryLiveSnapshot_37 (by decide) (fun h_37 => ?_) (fun h_37 => absurd rfl h_37)
        refine u_iinc hC (nI (k + 1)) (j := 1) d_D_isInEveryLiveSnapshot_53 rfl (nI_1 k) (by decide) ?_
        refine u_goto hC 16 d_D_isInEveryLiveSnapshot_56 (by decide) ?_
        refine u_pick [0, 2, 3] rfl ?_
        exact ih (k + 1) (by omega) (fun s hs7 => by
          rcases Nat.lt_or_ge s k with w | w
          · exact ho s w
          · have e9 : s = k := by omega
            rw [e9]
            exact fun _ _ => Or.inl hsn)
      · by_cases hlt : ¬ sn k < p0
        · refine u_iload_n hC d_D_isInEveryLiveSnapshot_16 rfl ?_
          refine u_bipush hC (nI 6) d_D_isInEveryLiveSnapshot_17 (by decide) ?_
          refine u_icmp_ge hC 59 d_D_isInEveryLiveSnapshot_19 (by decide) (fun h_19 => absurd h_19 (nI_ge (by omega) (by decide))) (fun h_19 => ?_)
          refine u_aload_n hC d_D_isInEveryLiveSnapshot_22 rfl ?_
          refine w_get hC f_D_11 hO rfl d_D_isInEveryLiveSnapshot_23 ?_
          refine u_iload_n hC d_D_isInEveryLiveSnapshot_26 rfl ?_
          refine w_aldq hC 2 hS9 rfl k rfl (by omega) (by decide) d_D_isInEveryLiveSnapshot_27 ?_
          rw [htr]
          refine u_astore_n hC d_D_isInEveryLiveSnapshot_28 (by decide) ?_
          refine u_aload_n hC d_D_isInEveryLiveSnapshot_29 rfl ?_
          refine u_ifnull hC d_D_isInEveryLiveSnapshot_30 ?_
          refine u_aload_n hC d_D_isInEveryLiveSnapshot_33 rfl ?_
          refine w_callVr hC (c_T_hasT hT hsn) k_D_43 i_T_hasSnapshot hT rfl hR ⟨Nat.zero_le _, Nat.zero_le _⟩ rfl rfl (Nat.le_of_ble_eq_true rfl) d_D_isInEveryLiveSnapshot_34 ?_
          refine u_if_eq hC 53 d_D_isInEveryLiveSnapshot_37 (by decide) (fun h_37 => absurd h_37 (by decide)) (fun h_37 => ?_)
          refine u_aload_n hC d_D_isInEveryLiveSnapshot_40 rfl ?_
          refine w_get hC f_D_108 hG rfl d_D_isInEveryLiveSnapshot_41 ?_
          refine u_aload_n hC d_D_isInEveryLiveSnapshot_44 rfl ?_
          refine w_get hC f_D_47 hT rfl d_D_isInEveryLiveSnapshot_45 ?_
          refine u_icmp_le hC 53 d_D_isInEveryLiveSnapshot_48 (by decide) (fun h_48 => ?_) (fun h_48 => absurd (Int32.not_lt.mp hlt) h_48)
          refine u_iinc hC (nI (k + 1)) (j := 1) d_D_isInEveryLiveSnapshot_53 rfl (nI_1 k) (by decide) ?_
          refine u_goto hC 16 d_D_isInEveryLiveSnapshot_56 (by decide) ?_
          refine u_pick [0, 2, 3] rfl ?_
          exact ih (k + 1) (by omega) (fun s hs7 => by
            rcases Nat.lt_or_ge s k with w | w
            · exact ho s w
            · have e9 : s = k := by omega
              rw [e9]
              exact fun _ _ => Or.inr hlt)
        · refine u_iload_n hC d_D_isInEveryLiveSnapshot_16 rfl ?_
          refine u_bipush hC (nI 6) d_D_isInEveryLiveSnapshot_17 (by decide) ?_
          refine u_icmp_ge hC 59 d_D_isInEveryLiveSnapshot_19 (by decide) (fun h_19 => absurd h_19 (nI_ge (by omega) (by decide))) (fun h_19 => ?_)
          refine u_aload_n hC d_D_isInEveryLiveSnapshot_22 rfl ?_
          refine w_get hC f_D_11 hO rfl d_D_isInEveryLiveSnapshot_23 ?_
          refine u_iload_n hC d_D_isInEveryLiveSnapshot_26 rfl ?_
          refine w_aldq hC 2 hS9 rfl k rfl (by omega) (by decide) d_D_isInEveryLiveSnapshot_27 ?_
          rw [htr]
          refine u_astore_n hC d_D_isInEveryLiveSnapshot_28 (by decide) ?_
          refine u_aload_n hC d_D_isInEveryLiveSnapshot_29 rfl ?_
          refine u_ifnull hC d_D_isInEveryLiveSnapshot_30 ?_
          refine u_aload_n hC d_D_isInEveryLiveSnapshot_33 rfl ?_
          refine w_callVr hC (c_T_hasT hT hsn) k_D_43 i_T_hasSnapshot hT rfl hR ⟨Nat.zero_le _, Nat.zero_le _⟩ rfl rfl (Nat.le_of_ble_eq_true rfl) d_D_isInEveryLiveSnapshot_34 ?_
          refine u_if_eq hC 53 d_D_isInEveryLiveSnapshot_37 (by decide) (fun h_37 => absurd h_37 (by decide)) (fun h_37 => ?_)
          refine u_aload_n hC d_D_isInEveryLiveSnapshot_40 rfl ?_
          refine w_get hC f_D_108 hG rfl d_D_isInEveryLiveSnapshot_41 ?_
          refine u_aload_n hC d_D_isInEveryLiveSnapshot_44 rfl ?_
          refine w_get hC f_D_47 hT rfl d_D_isInEveryLiveSnapshot_45 ?_
          refine u_icmp_le hC 53 d_D_isInEveryLiveSnapshot_48 (by decide) (fun h_48 => absurd h_48 (fun w => hlt (Int32.not_lt.mpr w))) (fun h_48 => ?_)
          exact e0 ⟨k, by omega, fun w => (w t htr).elim hsn hlt⟩ k t
end DW0
section DW1
variable {l : Launch} {D : va_G} {κ : Nat → ClassId} {z : Nat × Nat} {ws : va_W} {h0 hs hl cap : Nat} {cm : Int32} {tr : Nat → Option Nat} {na : Nat → Nat} {mo to co sn : Nat → Int32} {nb : Nat → Nat → Int32} {n : Nat} {el : Nat → Nat} {ro lv cd pl : Nat → Int32}

set_option maxHeartbeats 4000000 in
set_option maxRecDepth 100000 in
theorem c_D_ieN  : Ct l y_D_isInEveryLiveSnapshot b_D_isInEveryLiveSnapshot 4 (some .boolean) 1 0 0 D (gk κ, z) ws [.ref h0, .null] (rt (.int 0) ws) := by
  refine Ct.of (by decide) (Nat.le_of_ble_eq_true rfl) ?_
  intro p e s0 m below meth c A hC hr hn
  refine u_aload_nN hC d_D_isInEveryLiveSnapshot_0 rfl ?_
  refine u_ifnullN hC 12 d_D_isInEveryLiveSnapshot_1 (by decide) ?_
  refine u_iconst hC (nI 0) d_D_isInEveryLiveSnapshot_12 (by decide) ?_
  exact u_zret hC hr rfl d_D_isInEveryLiveSnapshot_13 (Nat.le_of_ble_eq_true rfl) (Nat.le_of_ble_eq_true rfl) ⟨rfl, rfl⟩
set_option maxHeartbeats 4000000 in
set_option maxRecDepth 100000 in
theorem c_D_ieU {q : Nat} {r0 l0 d0 p0 : Int32} (hG : wg ws q = some (cG r0 l0 d0 p0)) (hd : ¬ d0 = nI 2) : Ct l y_D_isInEveryLiveSnapshot b_D_isInEveryLiveSnapshot 4 (some .boolean) 1 0 0 D (gk κ, z) ws [.ref h0, .ref q] (rt (.int 0) ws) := by
  refine Ct.of (by decide) (Nat.le_of_ble_eq_true rfl) ?_
  intro p e s0 m below meth c A hC hr hn
  refine u_aload_n hC d_D_isInEveryLiveSnapshot_0 rfl ?_
  refine u_ifnull hC d_D_isInEveryLiveSnapshot_1 ?_
  refine u_aload_n hC d_D_isInEveryLiveSnapshot_4 rfl ?_
  refine w_get hC f_D_102 hG rfl d_D_isInEveryLiveSnapshot_5 ?_
  refine u_iconst hC (nI 2) d_D_isInEveryLiveSnapshot_8 (by decide) ?_
  refine u_icmp_eq hC 14 d_D_isInEveryLiveSnapshot_9 (by decide) (fun h_9 => absurd h_9 hd) (fun h_9 => ?_)
  refine u_iconst hC (nI 0) d_D_isInEveryLiveSnapshot_12 (by decide) ?_
  exact u_zret hC hr rfl d_D_isInEveryLiveSnapshot_13 (Nat.le_of_ble_eq_true rfl) (Nat.le_of_ble_eq_true rfl) ⟨rfl, rfl⟩
set_option maxHeartbeats 4000000 in
set_option maxRecDepth 100000 in
theorem c_D_ieT {q : Nat} {r0 l0 d0 p0 : Int32} (hG : wg ws q = some (cG r0 l0 d0 p0)) (hK : Dk κ z ws h0 hs hl cap cm tr na mo to co sn nb n el ro lv cd pl) (hd : d0 = nI 2) (ho : ∀ s, s < 6 → d_ok tr sn p0 s) : Ct l y_D_isInEveryLiveSnapshot b_D_isInEveryLiveSnapshot 4 (some .boolean) 1 0 0 D (gk κ, z) ws [.ref h0, .ref q] (rt (.int 1) ws) := by
  refine Ct.of (by decide) (Nat.le_of_ble_eq_true rfl) ?_
  intro p e s0 m below meth c A hC hr hn
  refine u_aload_n hC d_D_isInEveryLiveSnapshot_0 rfl ?_
  refine u_ifnull hC d_D_isInEveryLiveSnapshot_1 ?_
  refine u_aload_n hC d_D_isInEveryLiveSnapshot_4 rfl ?_
  refine w_get hC f_D_102 hG rfl d_D_isInEveryLiveSnapshot_5 ?_
  refine u_iconst hC (nI 2) d_D_isInEveryLiveSnapshot_8 (by decide) ?_
  refine u_icmp_eq hC 14 d_D_isInEveryLiveSnapshot_9 (by decide) (fun h_9 => ?_) (fun h_9 => absurd hd h_9)
  refine u_iconst hC (nI 0) d_D_isInEveryLiveSnapshot_14 (by decide) ?_
  refine u_istore_n hC d_D_isInEveryLiveSnapshot_15 (by decide) ?_
  refine l_D_every hG hK hC ⟨(Nat.le_of_ble_eq_true rfl), (Nat.le_of_ble_eq_true rfl)⟩ (fun _ => ?_) (fun w => by obtain ⟨s, w1, w2⟩ := w; exact absurd (ho s w1) w2) 6 0 rfl (fun s w => absurd w (Nat.not_lt_zero s))
  refine u_iconst hC (nI 1) d_D_isInEveryLiveSnapshot_59 (by decide) ?_
  exact u_zret hC hr rfl d_D_isInEveryLiveSnapshot_60 (Nat.le_of_ble_eq_true rfl) (Nat.le_of_ble_eq_true rfl) ⟨rfl, rfl⟩
set_option maxHeartbeats 4000000 in
set_option maxRecDepth 100000 in
theorem c_D_ieF {q : Nat} {r0 l0 d0 p0 : Int32} (hG : wg ws q = some (cG r0 l0 d0 p0)) (hK : Dk κ z ws h0 hs hl cap cm tr na mo to co sn nb n el ro lv cd pl) (hd : d0 = nI 2) (ho : ¬ ∀ s, s < 6 → d_ok tr sn p0 s) : Ct l y_D_isInEveryLiveSnapshot b_D_isInEveryLiveSnapshot 4 (some .boolean) 1 0 0 D (gk κ, z) ws [.ref h0, .ref q] (rt (.int 0) ws) := by
  refine Ct.of (by decide) (Nat.le_of_ble_eq_true rfl) ?_
  intro p e s0 m below meth c A hC hr hn
  refine u_aload_n hC d_D_isInEveryLiveSnapshot_0 rfl ?_
  refine u_ifnull hC d_D_isInEveryLiveSnapshot_1 ?_
  refine u_aload_n hC d_D_isInEveryLiveSnapshot_4 rfl ?_
  refine w_get hC f_D_102 hG rfl d_D_isInEveryLiveSnapshot_5 ?_
  refine u_iconst hC (nI 2) d_D_isInEveryLiveSnapshot_8 (by decide) ?_
  refine u_icmp_eq hC 14 d_D_isInEveryLiveSnapshot_9 (by decide) (fun h_9 => ?_) (fun h_9 => absurd hd h_9)
  refine u_iconst hC (nI 0) d_D_isInEveryLiveSnapshot_14 (by decide) ?_
  refine u_istore_n hC d_D_isInEveryLiveSnapshot_15 (by decide) ?_
  refine l_D_every hG hK hC ⟨(Nat.le_of_ble_eq_true rfl), (Nat.le_of_ble_eq_true rfl)⟩ (fun w => absurd w ho) (fun _ k t => ?_) 6 0 rfl (fun s w => absurd w (Nat.not_lt_zero s))
  refine u_iconst hC (nI 0) d_D_isInEveryLiveSnapshot_51 (by decide) ?_
  exact u_zret hC hr rfl d_D_isInEveryLiveSnapshot_52 (Nat.le_of_ble_eq_true rfl) (Nat.le_of_ble_eq_true rfl) ⟨rfl, rfl⟩
set_option maxHeartbeats 4000000 in
set_option maxRecDepth 100000 in
theorem c_D_beginB {s md : Int32} (hb : ¬ ∃ j : Nat, j < 6 ∧ s = nI j) : Ct l y_D_begin b_D_begin 3 (some .boolean) 2 0 0 D (gk κ, z) ws [.ref h0, .int s, .int md] (rt (.int 0) ws) := by
  refine Ct.of (by decide) (Nat.le_of_ble_eq_true rfl) ?_
  intro p e s0 m below meth c A hC hr hn
  refine u_iload_n hC d_D_begin_0 rfl ?_
  refine u_callSr hC (c_D_isF hb) k_D_26 s_D_isSession ⟨(Nat.le_of_ble_eq_true rfl), (Nat.le_of_ble_eq_true rfl)⟩ ⟨(Nat.le_of_ble_eq_true rfl), (Nat.le_of_ble_eq_true rfl)⟩ rfl rfl (Nat.le_of_ble_eq_true rfl) d_D_begin_1 ?_
  refine u_if_eq hC 25 d_D_begin_4 (by decide) (fun h_4 => ?_) (fun h_4 => absurd rfl h_4)
  refine u_iconst hC (nI 0) d_D_begin_25 (by decide) ?_
  exact u_zret hC hr rfl d_D_begin_26 (Nat.le_of_ble_eq_true rfl) (Nat.le_of_ble_eq_true rfl) ⟨rfl, rfl⟩
set_option maxHeartbeats 4000000 in
set_option maxRecDepth 100000 in
theorem c_D_beginM {j : Nat} {md : Int32} (hj : j < 6) (hm : ¬ (¬ md < 0 ∧ ¬ nI 2 ≤ md)) : Ct l y_D_begin b_D_begin 3 (some .boolean) 2 0 0 D (gk κ, z) ws [.ref h0, .int (nI j), .int md] (rt (.int 0) ws) := by
  refine Ct.of (by decide) (Nat.le_of_ble_eq_true rfl) ?_
  intro p e s0 m below meth c A hC hr hn
  refine u_iload_n hC d_D_begin_0 rfl ?_
  refine u_callSr hC (c_D_isT hj) k_D_26 s_D_isSession ⟨(Nat.le_of_ble_eq_true rfl), (Nat.le_of_ble_eq_true rfl)⟩ ⟨(Nat.le_of_ble_eq_true rfl), (Nat.le_of_ble_eq_true rfl)⟩ rfl rfl (Nat.le_of_ble_eq_true rfl) d_D_begin_1 ?_
  refine u_if_eq hC 25 d_D_begin_4 (by decide) (fun h_4 => absurd h_4 (by decide)) (fun h_4 => ?_)
  refine u_iload_n hC d_D_begin_7 rfl ?_
  refine u_if_lt hC 25 d_D_begin_8 (by decide) (fun h_8 => ?_) (fun h_8 => ?_)
  · refine u_iconst hC (nI 0) d_D_begin_25 (by decide) ?_
    exact u_zret hC hr rfl d_D_begin_26 (Nat.le_of_ble_eq_true rfl) (Nat.le_of_ble_eq_true rfl) ⟨rfl, rfl⟩
  · refine u_iload_n hC d_D_begin_11 rfl ?_
    refine u_iconst hC (nI 2) d_D_begin_12 (by decide) ?_
    refine u_icmp_ge hC 25 d_D_begin_13 (by decide) (fun h_13 => ?_) (fun h_13 => ?_)
    · refine u_iconst hC (nI 0) d_D_begin_25 (by decide) ?_
      exact u_zret hC hr rfl d_D_begin_26 (Nat.le_of_ble_eq_true rfl) (Nat.le_of_ble_eq_true rfl) ⟨rfl, rfl⟩
    · exact absurd ⟨h_8, h_13⟩ hm
set_option maxHeartbeats 4000000 in
set_option maxRecDepth 100000 in
theorem c_D_beginH {j t : Nat} {md : Int32} (hK : Dk κ z ws h0 hs hl cap cm tr na mo to co sn nb n el ro lv cd pl) (hj : j < 6) (ht : tr j = some t) (hm0 : ¬ md < 0) (hm1 : ¬ nI 2 ≤ md) : Ct l y_D_begin b_D_begin 3 (some .boolean) 2 0 0 D (gk κ, z) ws [.ref h0, .int (nI j), .int md] (rt (.int 0) ws) := by
  refine Ct.of (by decide) (Nat.le_of_ble_eq_true rfl) ?_
  intro p e s0 m below meth c A hC hr hn
  obtain ⟨hO, hS9, hLs, hTr, hTi, hNi, hGs, hGi⟩ := id hK
  obtain ⟨mc9, he9, hL, hL2⟩ := id hLs
  refine u_iload_n hC d_D_begin_0 rfl ?_
  refine u_callSr hC (c_D_isT hj) k_D_26 s_D_isSession ⟨(Nat.le_of_ble_eq_true rfl), (Nat.le_of_ble_eq_true rfl)⟩ ⟨(Nat.le_of_ble_eq_true rfl), (Nat.le_of_ble_eq_true rfl)⟩ rfl rfl (Nat.le_of_ble_eq_true rfl) d_D_begin_1 ?_
  refine u_if_eq hC 25 d_D_begin_4 (by decide) (fun h_4 => absurd h_4 (by decide)) (fun h_4 => ?_)
  refine u_iload_n hC d_D_begin_7 rfl ?_
  refine u_if_lt hC 25 d_D_begin_8 (by decide) (fun h_8 => absurd h_8 hm0) (fun h_8 => ?_)
  refine u_iload_n hC d_D_begin_11 rfl ?_
  refine u_iconst hC (nI 2) d_D_begin_12 (by decide) ?_
  refine u_icmp_ge hC 25 d_D_begin_13 (by decide) (fun h_13 => absurd h_13 hm1) (fun h_13 => ?_)
  refine u_aload_n hC d_D_begin_16 rfl ?_
  refine w_get hC f_D_11 hO rfl d_D_begin_17 ?_
  refine u_iload_n hC d_D_begin_20 rfl ?_
  refine w_aldq hC 2 hS9 rfl j rfl hj (by decide) d_D_begin_21 ?_
  rw [ht]
  refine u_ifnull hC d_D_begin_22 ?_
  refine u_iconst hC (nI 0) d_D_begin_25 (by decide) ?_
  exact u_zret hC hr rfl d_D_begin_26 (Nat.le_of_ble_eq_true rfl) (Nat.le_of_ble_eq_true rfl) ⟨rfl, rfl⟩
set_option maxHeartbeats 4000000 in
set_option maxRecDepth 100000 in
theorem c_D_beginT {j : Nat} {md : Int32} (hK : Dk κ z ws h0 hs hl cap cm tr na mo to co sn nb n el ro lv cd pl) (hj : j < 6) (ht : tr j = none) (hm0 : ¬ md < 0) (hm1 : ¬ nI 2 ≤ md) : Ct l y_D_begin b_D_begin 3 (some .boolean) 2 2 13 D (gk κ, z) ws [.ref h0, .int (nI j), .int md] (fun v w' => v = some (.int 1) ∧ ∃ t q : Nat, Dk κ z w' h0 hs hl cap cm (va_up tr j (some t)) (va_up na j q) (upd mo j md) (upd to j (nI 0)) (upd co j (nI 0)) (upd sn j (-1)) (va_up nb j (fun _ => 0)) n el ro lv cd pl) := by
  refine Ct.of (by decide) (Nat.le_of_ble_eq_true rfl) ?_
  intro p e s0 m below meth c A hC hr hn
  obtain ⟨hO, hS9, hLs, hTr, hTi, hNi, hGs, hGi⟩ := id hK
  obtain ⟨mc9, he9, hL, hL2⟩ := id hLs
  refine u_iload_n hC d_D_begin_0 rfl ?_
  refine u_callSr hC (c_D_isT hj) k_D_26 s_D_isSession ⟨(Nat.le_of_ble_eq_true rfl), (Nat.le_of_ble_eq_true rfl)⟩ ⟨(Nat.le_of_ble_eq_true rfl), (Nat.le_of_ble_eq_true rfl)⟩ rfl rfl (Nat.le_of_ble_eq_true rfl) d_D_begin_1 ?_
  refine u_if_eq hC 25 d_D_begin_4 (by decide) (fun h_4 => absurd h_4 (by decide)) (fun h_4 => ?_)
  refine u_iload_n hC d_D_begin_7 rfl ?_
  refine u_if_lt hC 25 d_D_begin_8 (by decide) (fun h_8 => absurd h_8 hm0) (fun h_8 => ?_)
  refine u_iload_n hC d_D_begin_11 rfl ?_
  refine u_iconst hC (nI 2) d_D_begin_12 (by decide) ?_
  refine u_icmp_ge hC 25 d_D_begin_13 (by decide) (fun h_13 => absurd h_13 hm1) (fun h_13 => ?_)
  refine u_aload_n hC d_D_begin_16 rfl ?_
  refine w_get hC f_D_11 hO rfl d_D_begin_17 ?_
  refine u_iload_n hC d_D_begin_20 rfl ?_
  refine w_aldq hC 2 hS9 rfl j rfl hj (by decide) d_D_begin_21 ?_
  rw [ht]
  refine u_ifnullN hC 27 d_D_begin_22 (by decide) ?_
  refine u_aload_n hC d_D_begin_27 rfl ?_
  refine w_get hC f_D_11 hO rfl d_D_begin_28 ?_
  refine u_iload_n hC d_D_begin_31 rfl ?_
  refine w_new hC n_D_9 (Nat.le_of_ble_eq_true rfl) (Nat.le_of_ble_eq_true rfl) d_D_begin_32 (fun t ht9 => ?_)
  have hS1 := wg_app (w2 := [(t, .inr (3, [.int 0, .null, .int 0, .int 0, .int 0]))]) hS9
  refine u_dup hC d_D_begin_35 rfl ?_
  refine u_iload_n hC d_D_begin_36 rfl ?_
  refine u_callI hC (c_T_init (wg_push ht9)) k_D_30 i_T_init rfl ⟨(Nat.le_of_ble_eq_true rfl), (Nat.le_of_ble_eq_true rfl)⟩ ⟨(Nat.le_of_ble_eq_true rfl), (Nat.le_of_ble_eq_true rfl)⟩ rfl rfl (Nat.le_of_ble_eq_true rfl) d_D_begin_37 (fun v w' hp => ?_)
  obtain ⟨rfl, q, hq, rfl⟩ := hp
  have hth : t ≠ hs := fun w => by rw [w, hS9] at ht9; cases ht9
  refine u_non ?_
  refine w_astq (r := (R_T, F_T, 5)) hC 2 (by rw [wg_upN (Ne.symm hth)]; exact wg_app hS1) rfl (wg_up (wg_app (wg_push ht9))) rfl j rfl hj (by decide) d_D_begin_40 ?_
  refine u_iconst hC (nI 1) d_D_begin_41 (by decide) ?_
  exact u_zret hC hr rfl d_D_begin_42 (Nat.le_of_ble_eq_true rfl) (Nat.le_of_ble_eq_true rfl) ⟨rfl, t, q, Dk.beg hK hj ht ht9 hq⟩
set_option maxHeartbeats 4000000 in
set_option maxRecDepth 100000 in
theorem c_D_statementF {s : Int32} (hK : Dk κ z ws h0 hs hl cap cm tr na mo to co sn nb n el ro lv cd pl) (hb : ¬ ∃ j t : Nat, j < 6 ∧ s = nI j ∧ tr j = some t) : Ct l y_D_statement b_D_statement 3 (some .int) 2 0 0 D (gk κ, z) ws [.ref h0, .int s] (rt (.int (-1)) ws) := by
  refine Ct.of (by decide) (Nat.le_of_ble_eq_true rfl) ?_
  intro p e s0 m below meth c A hC hr hn
  obtain ⟨hO, hS9, hLs, hTr, hTi, hNi, hGs, hGi⟩ := id hK
  obtain ⟨mc9, he9, hL, hL2⟩ := id hLs
  refine u_aload_n hC d_D_statement_0 rfl ?_
  refine u_iload_n hC d_D_statement_1 rfl ?_
  refine w_callVr hC (c_D_trF hK hb) k_D_33 i_D_transactionOf hO rfl ⟨(Nat.le_of_ble_eq_true rfl), (Nat.le_of_ble_eq_true rfl)⟩ ⟨(Nat.le_of_ble_eq_true rfl), (Nat.le_of_ble_eq_true rfl)⟩ rfl rfl (Nat.le_of_ble_eq_true rfl) d_D_statement_2 ?_
  refine u_astore_nN hC d_D_statement_5 (by decide) ?_
  refine u_aload_nN hC d_D_statement_6 rfl ?_
  refine u_ifnonnullN hC d_D_statement_7 ?_
  refine u_iconst hC (-1) d_D_statement_10 (by decide) ?_
  exact u_iret hC hr d_D_statement_11 (Nat.le_of_ble_eq_true rfl) (Nat.le_of_ble_eq_true rfl) ⟨rfl, rfl⟩
set_option maxHeartbeats 4000000 in
set_option maxRecDepth 100000 in
theorem c_D_statementA1 {j t : Nat} (hK : Dk κ z ws h0 hs hl cap cm tr na mo to co sn nb n el ro lv cd pl) (hj : j < 6) (ht : tr j = some t) (hm : mo j = 0) : Ct l y_D_statement b_D_statement 3 (some .int) 2 0 0 D (gk κ, z) ws [.ref h0, .int (nI j)] (fun v w' => v = some (.int (co j + nI 1)) ∧ Dk κ z w' h0 hs hl cap cm tr na mo to (upd co j (co j + nI 1)) (upd sn j cm) nb n el ro lv cd pl) := by
  refine Ct.of (by decide) (Nat.le_of_ble_eq_true rfl) ?_
  intro p e s0 m below meth c A hC hr hn
  obtain ⟨hO, hS9, hLs, hTr, hTi, hNi, hGs, hGi⟩ := id hK
  obtain ⟨mc9, he9, hL, hL2⟩ := id hLs
  obtain ⟨hT, hN⟩ := hTr j t hj ht
  refine u_aload_n hC d_D_statement_0 rfl ?_
  refine u_iload_n hC d_D_statement_1 rfl ?_
  refine w_callVr hC (c_D_trT hK hj ht) k_D_33 i_D_transactionOf hO rfl ⟨(Nat.le_of_ble_eq_true rfl), (Nat.le_of_ble_eq_true rfl)⟩ ⟨(Nat.le_of_ble_eq_true rfl), (Nat.le_of_ble_eq_true rfl)⟩ rfl rfl (Nat.le_of_ble_eq_true rfl) d_D_statement_2 ?_
  refine u_astore_n hC d_D_statement_5 (by decide) ?_
  refine u_aload_n hC d_D_statement_6 rfl ?_
  refine u_ifnonnull hC 12 d_D_statement_7 (by decide) ?_
  refine u_aload_n hC d_D_statement_12 rfl ?_
  refine u_dup hC d_D_statement_13 rfl ?_
  refine w_get hC f_D_37 hT rfl d_D_statement_14 ?_
  refine u_iconst hC (nI 1) d_D_statement_17 (by decide) ?_
  refine u_iadd hC d_D_statement_18 ?_
  refine w_put hC f_D_37 (tt_T 3 (by decide)) rfl hT rfl rfl (Nat.le_of_ble_eq_true rfl) d_D_statement_19 ?_
  have hT1 : wg (wup ws t (cT (mo j) (na j) (to j) (co j + nI 1) (sn j))) t = some (cT (mo j) (na j) (to j) (co j + nI 1) (sn j)) := wg_up hT
  have hO1 : wg (wup ws t (cT (mo j) (na j) (to j) (co j + nI 1) (sn j))) h0 = some (cD hs hl cm) := by rw [wg_upN (wg_ne hO hT (by intro w; cases w))]; exact hO
  refine u_aload_n hC d_D_statement_22 rfl ?_
  refine w_get hC f_D_40 hT1 rfl d_D_statement_23 ?_
  refine u_if_eq hC 36 d_D_statement_26 (by decide) (fun h_26 => ?_) (fun h_26 => absurd hm h_26)
  refine u_aload_n hC d_D_statement_36 rfl ?_
  refine u_aload_n hC d_D_statement_37 rfl ?_
  refine w_get hC f_D_22 hO1 rfl d_D_statement_38 ?_
  refine w_put hC f_D_47 (tt_T 4 (by decide)) rfl hT1 rfl rfl (Nat.le_of_ble_eq_true rfl) d_D_statement_41 ?_
  rw [wup_wup]
  refine u_aload_n hC d_D_statement_44 rfl ?_
  refine w_get hC f_D_37 (wg_up hT) rfl d_D_statement_45 ?_
  exact u_iret hC hr d_D_statement_48 (Nat.le_of_ble_eq_true rfl) (Nat.le_of_ble_eq_true rfl) ⟨rfl, by have h9 := hK.updT hj ht (to j) (co j + nI 1) cm; rw [m_upd_id] at h9; exact h9⟩
set_option maxHeartbeats 4000000 in
set_option maxRecDepth 100000 in
theorem c_D_statementA2 {j t : Nat} (hK : Dk κ z ws h0 hs hl cap cm tr na mo to co sn nb n el ro lv cd pl) (hj : j < 6) (ht : tr j = some t) (hm : ¬ mo j = 0) (hs7 : sn j = -1) : Ct l y_D_statement b_D_statement 3 (some .int) 2 0 0 D (gk κ, z) ws [.ref h0, .int (nI j)] (fun v w' => v = some (.int (co j + nI 1)) ∧ Dk κ z w' h0 hs hl cap cm tr na mo to (upd co j (co j + nI 1)) (upd sn j cm) nb n el ro lv cd pl) := by
  refine Ct.of (by decide) (Nat.le_of_ble_eq_true rfl) ?_
  intro p e s0 m below meth c A hC hr hn
  obtain ⟨hO, hS9, hLs, hTr, hTi, hNi, hGs, hGi⟩ := id hK
  obtain ⟨mc9, he9, hL, hL2⟩ := id hLs
  obtain ⟨hT, hN⟩ := hTr j t hj ht
  refine u_aload_n hC d_D_statement_0 rfl ?_
  refine u_iload_n hC d_D_statement_1 rfl ?_
  refine w_callVr hC (c_D_trT hK hj ht) k_D_33 i_D_transactionOf hO rfl ⟨(Nat.le_of_ble_eq_true rfl), (Nat.le_of_ble_eq_true rfl)⟩ ⟨(Nat.le_of_ble_eq_true rfl), (Nat.le_of_ble_eq_true rfl)⟩ rfl rfl (Nat.le_of_ble_eq_true rfl) d_D_statement_2 ?_
  refine u_astore_n hC d_D_statement_5 (by decide) ?_
  refine u_aload_n hC d_D_statement_6 rfl ?_
  refine u_ifnonnull hC 12 d_D_statement_7 (by decide) ?_
  refine u_aload_n hC d_D_statement_12 rfl ?_
  refine u_dup hC d_D_statement_13 rfl ?_
  refine w_get hC f_D_37 hT rfl d_D_statement_14 ?_
  refine u_iconst hC (nI 1) d_D_statement_17 (by decide) ?_
  refine u_iadd hC d_D_statement_18 ?_
  refine w_put hC f_D_37 (tt_T 3 (by decide)) rfl hT rfl rfl (Nat.le_of_ble_eq_true rfl) d_D_statement_19 ?_
  have hT1 : wg (wup ws t (cT (mo j) (na j) (to j) (co j + nI 1) (sn j))) t = some (cT (mo j) (na j) (to j) (co j + nI 1) (sn j)) := wg_up hT
  have hO1 : wg (wup ws t (cT (mo j) (na j) (to j) (co j + nI 1) (sn j))) h0 = some (cD hs hl cm) := by rw [wg_upN (wg_ne hO hT (by intro w; cases w))]; exact hO
  refine u_aload_n hC d_D_statement_22 rfl ?_
  refine w_get hC f_D_40 hT1 rfl d_D_statement_23 ?_
  refine u_if_eq hC 36 d_D_statement_26 (by decide) (fun h_26 => absurd h_26 hm) (fun h_26 => ?_)
  refine u_aload_n hC d_D_statement_29 rfl ?_
  refine w_callVr hC (c_T_hasF hT1 hs7) k_D_43 i_T_hasSnapshot hT1 rfl ⟨(Nat.le_of_ble_eq_true rfl), (Nat.le_of_ble_eq_true rfl)⟩ ⟨(Nat.le_of_ble_eq_true rfl), (Nat.le_of_ble_eq_true rfl)⟩ rfl rfl (Nat.le_of_ble_eq_true rfl) d_D_statement_30 ?_
  refine u_if_ne hC 44 d_D_statement_33 (by decide) (fun h_33 => absurd rfl h_33) (fun h_33 => ?_)
  refine u_aload_n hC d_D_statement_36 rfl ?_
  refine u_aload_n hC d_D_statement_37 rfl ?_
  refine w_get hC f_D_22 hO1 rfl d_D_statement_38 ?_
  refine w_put hC f_D_47 (tt_T 4 (by decide)) rfl hT1 rfl rfl (Nat.le_of_ble_eq_true rfl) d_D_statement_41 ?_
  rw [wup_wup]
  refine u_aload_n hC d_D_statement_44 rfl ?_
  refine w_get hC f_D_37 (wg_up hT) rfl d_D_statement_45 ?_
  exact u_iret hC hr d_D_statement_48 (Nat.le_of_ble_eq_true rfl) (Nat.le_of_ble_eq_true rfl) ⟨rfl, by have h9 := hK.updT hj ht (to j) (co j + nI 1) cm; rw [m_upd_id] at h9; exact h9⟩
set_option maxHeartbeats 4000000 in
set_option maxRecDepth 100000 in
theorem c_D_statementB {j t : Nat} (hK : Dk κ z ws h0 hs hl cap cm tr na mo to co sn nb n el ro lv cd pl) (hj : j < 6) (ht : tr j = some t) (hm : ¬ mo j = 0) (hs7 : ¬ sn j = -1) : Ct l y_D_statement b_D_statement 3 (some .int) 2 0 0 D (gk κ, z) ws [.ref h0, .int (nI j)] (fun v w' => v = some (.int (co j + nI 1)) ∧ Dk κ z w' h0 hs hl cap cm tr na mo to (upd co j (co j + nI 1)) sn nb n el ro lv cd pl) := by
  refine Ct.of (by decide) (Nat.le_of_ble_eq_true rfl) ?_
  intro p e s0 m below meth c A hC hr hn
  obtain ⟨hO, hS9, hLs, hTr, hTi, hNi, hGs, hGi⟩ := id hK
  obtain ⟨mc9, he9, hL, hL2⟩ := id hLs
  obtain ⟨hT, hN⟩ := hTr j t hj ht
  refine u_aload_n hC d_D_statement_0 rfl ?_
  refine u_iload_n hC d_D_statement_1 rfl ?_
  refine w_callVr hC (c_D_trT hK hj ht) k_D_33 i_D_transactionOf hO rfl ⟨(Nat.le_of_ble_eq_true rfl), (Nat.le_of_ble_eq_true rfl)⟩ ⟨(Nat.le_of_ble_eq_true rfl), (Nat.le_of_ble_eq_true rfl)⟩ rfl rfl (Nat.le_of_ble_eq_true rfl) d_D_statement_2 ?_
  refine u_astore_n hC d_D_statement_5 (by decide) ?_
  refine u_aload_n hC d_D_statement_6 rfl ?_
  refine u_ifnonnull hC 12 d_D_statement_7 (by decide) ?_
  refine u_aload_n hC d_D_statement_12 rfl ?_
  refine u_dup hC d_D_statement_13 rfl ?_
  refine w_get hC f_D_37 hT rfl d_D_statement_14 ?_
  refine u_iconst hC (nI 1) d_D_statement_17 (by decide) ?_
  refine u_iadd hC d_D_statement_18 ?_
  refine w_put hC f_D_37 (tt_T 3 (by decide)) rfl hT rfl rfl (Nat.le_of_ble_eq_true rfl) d_D_statement_19 ?_
  have hT1 : wg (wup ws t (cT (mo j) (na j) (to j) (co j + nI 1) (sn j))) t = some (cT (mo j) (na j) (to j) (co j + nI 1) (sn j)) := wg_up hT
  have hO1 : wg (wup ws t (cT (mo j) (na j) (to j) (co j + nI 1) (sn j))) h0 = some (cD hs hl cm) := by rw [wg_upN (wg_ne hO hT (by intro w; cases w))]; exact hO
  refine u_aload_n hC d_D_statement_22 rfl ?_
  refine w_get hC f_D_40 hT1 rfl d_D_statement_23 ?_
  refine u_if_eq hC 36 d_D_statement_26 (by decide) (fun h_26 => absurd h_26 hm) (fun h_26 => ?_)
  refine u_aload_n hC d_D_statement_29 rfl ?_
  refine w_callVr hC (c_T_hasT hT1 hs7) k_D_43 i_T_hasSnapshot hT1 rfl ⟨(Nat.le_of_ble_eq_true rfl), (Nat.le_of_ble_eq_true rfl)⟩ ⟨(Nat.le_of_ble_eq_true rfl), (Nat.le_of_ble_eq_true rfl)⟩ rfl rfl (Nat.le_of_ble_eq_true rfl) d_D_statement_30 ?_
  refine u_if_ne hC 44 d_D_statement_33 (by decide) (fun h_33 => ?_) (fun h_33 => absurd h_33 (by decide))
  refine u_aload_n hC d_D_statement_44 rfl ?_
  refine w_get hC f_D_37 hT1 rfl d_D_statement_45 ?_
  exact u_iret hC hr d_D_statement_48 (Nat.le_of_ble_eq_true rfl) (Nat.le_of_ble_eq_true rfl) ⟨rfl, by have h9 := hK.updT hj ht (to j) (co j + nI 1) (sn j); rw [m_upd_id, m_upd_id] at h9; exact h9⟩
set_option maxHeartbeats 4000000 in
set_option maxRecDepth 100000 in
theorem c_D_saveF {s : Int32} (hK : Dk κ z ws h0 hs hl cap cm tr na mo to co sn nb n el ro lv cd pl) (hb : ¬ ∃ j t : Nat, j < 6 ∧ s = nI j ∧ tr j = some t) : Ct l y_D_save b_D_save 3 (some .int) 2 0 0 D (gk κ, z) ws [.ref h0, .int s] (rt (.int (-1)) ws) := by
  refine Ct.of (by decide) (Nat.le_of_ble_eq_true rfl) ?_
  intro p e s0 m below meth c A hC hr hn
  obtain ⟨hO, hS9, hLs, hTr, hTi, hNi, hGs, hGi⟩ := id hK
  obtain ⟨mc9, he9, hL, hL2⟩ := id hLs
  refine u_aload_n hC d_D_save_0 rfl ?_
  refine u_iload_n hC d_D_save_1 rfl ?_
  refine w_callVr hC (c_D_trF hK hb) k_D_33 i_D_transactionOf hO rfl ⟨(Nat.le_of_ble_eq_true rfl), (Nat.le_of_ble_eq_true rfl)⟩ ⟨(Nat.le_of_ble_eq_true rfl), (Nat.le_of_ble_eq_true rfl)⟩ rfl rfl (Nat.le_of_ble_eq_true rfl) d_D_save_2 ?_
  refine u_astore_nN hC d_D_save_5 (by decide) ?_
  refine u_aload_nN hC d_D_save_6 rfl ?_
  refine u_ifnullN hC 19 d_D_save_7 (by decide) ?_
  refine u_iconst hC (-1) d_D_save_19 (by decide) ?_
  exact u_iret hC hr d_D_save_20 (Nat.le_of_ble_eq_true rfl) (Nat.le_of_ble_eq_true rfl) ⟨rfl, rfl⟩
set_option maxHeartbeats 4000000 in
set_option maxRecDepth 100000 in
theorem c_D_saveN {j t : Nat} (hK : Dk κ z ws h0 hs hl cap cm tr na mo to co sn nb n el ro lv cd pl) (hj : j < 6) (ht : tr j = some t) (h7 : to j = nI 7) : Ct l y_D_save b_D_save 3 (some .int) 2 0 0 D (gk κ, z) ws [.ref h0, .int (nI j)] (rt (.int (-1)) ws) := by
  refine Ct.of (by decide) (Nat.le_of_ble_eq_true rfl) ?_
  intro p e s0 m below meth c A hC hr hn
  obtain ⟨hO, hS9, hLs, hTr, hTi, hNi, hGs, hGi⟩ := id hK
  obtain ⟨mc9, he9, hL, hL2⟩ := id hLs
  obtain ⟨hT, hN⟩ := hTr j t hj ht
  refine u_aload_n hC d_D_save_0 rfl ?_
  refine u_iload_n hC d_D_save_1 rfl ?_
  refine w_callVr hC (c_D_trT hK hj ht) k_D_33 i_D_transactionOf hO rfl ⟨(Nat.le_of_ble_eq_true rfl), (Nat.le_of_ble_eq_true rfl)⟩ ⟨(Nat.le_of_ble_eq_true rfl), (Nat.le_of_ble_eq_true rfl)⟩ rfl rfl (Nat.le_of_ble_eq_true rfl) d_D_save_2 ?_
  refine u_astore_n hC d_D_save_5 (by decide) ?_
  refine u_aload_n hC d_D_save_6 rfl ?_
  refine u_ifnull hC d_D_save_7 ?_
  refine u_aload_n hC d_D_save_10 rfl ?_
  refine w_get hC f_D_66 hT rfl d_D_save_11 ?_
  refine u_bipush hC (nI 7) d_D_save_14 (by decide) ?_
  refine u_icmp_lt hC 21 d_D_save_16 (by decide) (fun h_16 => absurd h_16 (by rw [h7]; decide)) (fun h_16 => ?_)
  refine u_iconst hC (-1) d_D_save_19 (by decide) ?_
  exact u_iret hC hr d_D_save_20 (Nat.le_of_ble_eq_true rfl) (Nat.le_of_ble_eq_true rfl) ⟨rfl, rfl⟩
set_option maxHeartbeats 4000000 in
set_option maxRecDepth 100000 in
theorem c_D_saveT {j t u : Nat} (hK : Dk κ z ws h0 hs hl cap cm tr na mo to co sn nb n el ro lv cd pl) (hj : j < 6) (ht : tr j = some t) (hu : to j = nI u) (hu7 : u < 7) : Ct l y_D_save b_D_save 3 (some .int) 2 0 0 D (gk κ, z) ws [.ref h0, .int (nI j)] (fun v w' => v = some (.int (nI (u + 1))) ∧ Dk κ z w' h0 hs hl cap cm tr na mo (upd to j (nI (u + 1))) co sn nb n el ro lv cd pl) := by
  refine Ct.of (by decide) (Nat.le_of_ble_eq_true rfl) ?_
  intro p e s0 m below meth c A hC hr hn
  obtain ⟨hO, hS9, hLs, hTr, hTi, hNi, hGs, hGi⟩ := id hK
  obtain ⟨mc9, he9, hL, hL2⟩ := id hLs
  obtain ⟨hT, hN⟩ := hTr j t hj ht
  refine u_aload_n hC d_D_save_0 rfl ?_
  refine u_iload_n hC d_D_save_1 rfl ?_
  refine w_callVr hC (c_D_trT hK hj ht) k_D_33 i_D_transactionOf hO rfl ⟨(Nat.le_of_ble_eq_true rfl), (Nat.le_of_ble_eq_true rfl)⟩ ⟨(Nat.le_of_ble_eq_true rfl), (Nat.le_of_ble_eq_true rfl)⟩ rfl rfl (Nat.le_of_ble_eq_true rfl) d_D_save_2 ?_
  refine u_astore_n hC d_D_save_5 (by decide) ?_
  refine u_aload_n hC d_D_save_6 rfl ?_
  refine u_ifnull hC d_D_save_7 ?_
  refine u_aload_n hC d_D_save_10 rfl ?_
  refine w_get hC f_D_66 hT rfl d_D_save_11 ?_
  refine u_bipush hC (nI 7) d_D_save_14 (by decide) ?_
  refine u_icmp_lt hC 21 d_D_save_16 (by decide) (fun h_16 => ?_) (fun h_16 => absurd (by rw [hu]; exact nI_lt hu7 (by decide)) h_16)
  refine u_aload_n hC d_D_save_21 rfl ?_
  refine u_dup hC d_D_save_22 rfl ?_
  refine w_get hC f_D_66 hT rfl d_D_save_23 ?_
  refine u_iconst hC (nI 1) d_D_save_26 (by decide) ?_
  refine u_iadd hC d_D_save_27 ?_
  refine u_val (x' := nI (u + 1)) (by rw [hu, nI_add]) ?_
  refine w_put hC f_D_66 (tt_T 2 (by decide)) rfl hT rfl rfl (Nat.le_of_ble_eq_true rfl) d_D_save_28 ?_
  refine u_aload_n hC d_D_save_31 rfl ?_
  refine w_get hC f_D_66 (wg_up hT) rfl d_D_save_32 ?_
  exact u_iret hC hr d_D_save_35 (Nat.le_of_ble_eq_true rfl) (Nat.le_of_ble_eq_true rfl) ⟨rfl, by have h9 := hK.updT hj ht (nI (u + 1)) (co j) (sn j); rw [m_upd_id, m_upd_id] at h9; exact h9⟩
end DW1
