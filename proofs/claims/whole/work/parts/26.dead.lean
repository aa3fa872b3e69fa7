section MQ0
variable {l : Launch} {D : va_G} {κ : Nat → ClassId} {z : Nat × Nat} {a : Nat → Nat} {g cm : Int32} {st be ro pl ha mo co to sn le : Nat → Int32}
variable {p : Program} {e : Env} {R : Room} {s0 : State} {m : MethodId} {args : Array Value} {below : List Frame} {meth : Method} {c : Code} {A : Nat → Prop} {Q : State → Prop}
set_option maxHeartbeats 4000000 in
set_option maxRecDepth 100000 in
theorem l_M_dead0 {x1 x2 : Int32} (hC : vx p s0 m args meth c b_M_dead 5 R_M D (gk κ, z) A) (exit : U p l e R s0 m args below meth c 5 D A (mw κ a g cm st be ro pl ha mo co to sn le) 0 0 Q 96 [(4, .int (nI 6)), (3, .int (nI 0)), (0, .ref (a 0)), (1, .int x1), (2, .int x2)] []) : ∀ r k : Nat, k + r = 6 → U p l e R s0 m args below meth c 5 D A (mw κ a g cm st be ro pl ha mo co to sn le) 0 0 Q 37 [(4, .int (nI k)), (3, .int (nI 0)), (0, .ref (a 0)), (1, .int x1), (2, .int x2)] [] := by
  intro r
  induction r with
  | zero =>
    intro k hk
    have e : k = 6 := by omega
    subst e
    refine u_iload hC d_M_dead_37 rfl ?_
    refine u_bipush hC (nI 6) d_M_dead_39 (by decide) ?_
    refine u_icmp_ge hC 96 d_M_dead_41 (by decide) (fun h_41 => ?_) (fun h_41 => absurd (by decide) h_41)
    exact exit
  | succ r ih =>
    intro k hk
    refine u_iload hC d_M_dead_37 rfl ?_
    refine u_bipush hC (nI 6) d_M_dead_39 (by decide) ?_
    refine u_icmp_ge hC 96 d_M_dead_41 (by decide) (fun h_41 => absurd h_41 (nI_ge (by omega) (by decide))) (fun h_41 => ?_)
    refine u_iload_n hC d_M_dead_44 rfl ?_
    refine u_if_eq hC 88 d_M_dead_45 (by decide) (fun h_45 => ?_) (fun h_45 => absurd rfl h_45)
    refine u_iconst hC (nI 0) d_M_dead_88 (by decide) ?_
    refine u_istore_n hC d_M_dead_89 (by decide) ?_
    refine u_iinc hC (nI (k + 1)) (j := 1) d_M_dead_90 rfl (nI_1 k) (by decide) ?_
    refine u_goto hC 37 d_M_dead_93 (by decide) ?_
    exact ih (k + 1) (by omega)
set_option maxHeartbeats 4000000 in
set_option maxRecDepth 100000 in
theorem l_M_dead1 {x1 : Int32} {q : Nat} (hq : q ≤ 4000) (hC : vx p s0 m args meth c b_M_dead 5 R_M D (gk κ, z) A) (e1 : (∀ s, s < 6 → m_ok ha sn pl q s) → U p l e R s0 m args below meth c 5 D A (mw κ a g cm st be ro pl ha mo co to sn le) 0 0 Q 96 [(4, .int (nI 6)), (3, .int (nI 1)), (0, .ref (a 0)), (1, .int x1), (2, .int (nI q))] []) (e0 : (∃ s, s < 6 ∧ ¬ m_ok ha sn pl q s) → U p l e R s0 m args below meth c 5 D A (mw κ a g cm st be ro pl ha mo co to sn le) 0 0 Q 96 [(4, .int (nI 6)), (3, .int (nI 0)), (0, .ref (a 0)), (1, .int x1), (2, .int (nI q))] []) : ∀ r k : Nat, k + r = 6 → (∀ s, s < k → m_ok ha sn pl q s) → U p l e R s0 m args below meth c 5 D A (mw κ a g cm st be ro pl ha mo co to sn le) 0 0 Q 37 [(4, .int (nI k)), (3, .int (nI 1)), (0, .ref (a 0)), (1, .int x1), (2, .int (nI q))] [] := by
  intro r
  induction r with
  | zero =>
    intro k hk ho
    have e : k = 6 := by omega
    subst e
    refine u_iload hC d_M_dead_37 rfl ?_
    refine u_bipush hC (nI 6) d_M_dead_39 (by decide) ?_
    refine u_icmp_ge hC 96 d_M_dead_41 (by decide) (fun h_41 => ?_) (fun h_41 => absurd (by decide) h_41)
    exact e1 ho
  | succ r ih =>
    intro k hk ho
    by_cases ok : m_ok ha sn pl q k
    · refine u_iload hC d_M_dead_37 rfl ?_
      refine u_bipush hC (nI 6) d_M_dead_39 (by decide) ?_
      refine u_icmp_ge hC 96 d_M_dead_41 (by decide) (fun h_41 => absurd h_41 (nI_ge (by omega) (by decide))) (fun h_41 => ?_)
      refine u_iload_n hC d_M_dead_44 rfl ?_
      refine u_if_eq hC 88 d_M_dead_45 (by decide) (fun h_45 => absurd h_45 (by decide)) (fun h_45 => ?_)
      refine u_aload_n hC d_M_dead_48 rfl ?_
      refine u_get hC f_M_22 0 rfl rfl d_M_dead_49 ?_
      refine u_iload hC d_M_dead_52 rfl ?_
      refine p_zald hC 5 1 rfl rfl k rfl (by omega) (by decide) d_M_dead_54 ?_
      refine u_if_eq hC 84 d_M_dead_55 (by decide) (fun h_55 => ?_) (fun h_55 => ?_)
      · refine u_iconst hC (nI 1) d_M_dead_84 (by decide) ?_
        refine u_goto hC 89 d_M_dead_85 (by decide) ?_
        refine u_istore_n hC d_M_dead_89 (by decide) ?_
        refine u_iinc hC (nI (k + 1)) (j := 1) d_M_dead_90 rfl (nI_1 k) (by decide) ?_
        refine u_goto hC 37 d_M_dead_93 (by decide) ?_
        exact ih (k + 1) (by omega) (fun s hs => by
          rcases Nat.lt_or_ge s k with w | w
          · exact ho s w
          · have e9 : s = k := by omega
            rw [e9]; exact ok)
      · refine u_aload_n hC d_M_dead_58 rfl ?_
        refine u_get hC f_M_35 0 rfl rfl d_M_dead_59 ?_
        refine u_iload hC d_M_dead_62 rfl ?_
        refine p_iald hC 9 0 rfl rfl k rfl (by omega) (by decide) d_M_dead_64 ?_
        refine u_if_lt hC 84 d_M_dead_65 (by decide) (fun h_65 => ?_) (fun h_65 => ?_)
        · refine u_iconst hC (nI 1) d_M_dead_84 (by decide) ?_
          refine u_goto hC 89 d_M_dead_85 (by decide) ?_
          refine u_istore_n hC d_M_dead_89 (by decide) ?_
          refine u_iinc hC (nI (k + 1)) (j := 1) d_M_dead_90 rfl (nI_1 k) (by decide) ?_
          refine u_goto hC 37 d_M_dead_93 (by decide) ?_
          exact ih (k + 1) (by omega) (fun s hs => by
            rcases Nat.lt_or_ge s k with w | w
            · exact ho s w
            · have e9 : s = k := by omega
              rw [e9]; exact ok)
        · refine u_aload_n hC d_M_dead_68 rfl ?_
          refine u_get hC f_M_19 0 rfl rfl d_M_dead_69 ?_
          refine u_iload_n hC d_M_dead_72 rfl ?_
          refine p_iald hC 4 0 rfl rfl q rfl (by omega) (by decide) d_M_dead_73 ?_
          refine u_aload_n hC d_M_dead_74 rfl ?_
          refine u_get hC f_M_35 0 rfl rfl d_M_dead_75 ?_
          refine u_iload hC d_M_dead_78 rfl ?_
          refine p_iald hC 9 0 rfl rfl k rfl (by omega) (by decide) d_M_dead_80 ?_
          refine u_icmp_gt hC 88 d_M_dead_81 (by decide) (fun h_81 => absurd h_81 (by rcases ok with w | w | w; exact absurd w h_55; exact absurd w h_65; exact w)) (fun h_81 => ?_)
          refine u_iconst hC (nI 1) d_M_dead_84 (by decide) ?_
          refine u_goto hC 89 d_M_dead_85 (by decide) ?_
          refine u_istore_n hC d_M_dead_89 (by decide) ?_
          refine u_iinc hC (nI (k + 1)) (j := 1) d_M_dead_90 rfl (nI_1 k) (by decide) ?_
          refine u_goto hC 37 d_M_dead_93 (by decide) ?_
          exact ih (k + 1) (by omega) (fun s hs => by
            rcases Nat.lt_or_ge s k with w | w
            · exact ho s w
            · have e9 : s = k := by omega
              rw [e9]; exact ok)
    · refine u_iload hC d_M_dead_37 rfl ?_
      refine u_bipush hC (nI 6) d_M_dead_39 (by decide) ?_
      refine u_icmp_ge hC 96 d_M_dead_41 (by decide) (fun h_41 => absurd h_41 (nI_ge (by omega) (by decide))) (fun h_41 => ?_)
      refine u_iload_n hC d_M_dead_44 rfl ?_
      refine u_if_eq hC 88 d_M_dead_45 (by decide) (fun h_45 => absurd h_45 (by decide)) (fun h_45 => ?_)
      refine u_aload_n hC d_M_dead_48 rfl ?_
      refine u_get hC f_M_22 0 rfl rfl d_M_dead_49 ?_
      refine u_iload hC d_M_dead_52 rfl ?_
      refine p_zald hC 5 1 rfl rfl k rfl (by omega) (by decide) d_M_dead_54 ?_
      refine u_if_eq hC 84 d_M_dead_55 (by decide) (fun h_55 => absurd h_55 (fun w => ok (Or.inl w))) (fun h_55 => ?_)
      refine u_aload_n hC d_M_dead_58 rfl ?_
      refine u_get hC f_M_35 0 rfl rfl d_M_dead_59 ?_
      refine u_iload hC d_M_dead_62 rfl ?_
      refine p_iald hC 9 0 rfl rfl k rfl (by omega) (by decide) d_M_dead_64 ?_
      refine u_if_lt hC 84 d_M_dead_65 (by decide) (fun h_65 => absurd h_65 (fun w => ok (Or.inr (Or.inl w)))) (fun h_65 => ?_)
      refine u_aload_n hC d_M_dead_68 rfl ?_
      refine u_get hC f_M_19 0 rfl rfl d_M_dead_69 ?_
      refine u_iload_n hC d_M_dead_72 rfl ?_
      refine p_iald hC 4 0 rfl rfl q rfl (by omega) (by decide) d_M_dead_73 ?_
      refine u_aload_n hC d_M_dead_74 rfl ?_
      refine u_get hC f_M_35 0 rfl rfl d_M_dead_75 ?_
      refine u_iload hC d_M_dead_78 rfl ?_
      refine p_iald hC 9 0 rfl rfl k rfl (by omega) (by decide) d_M_dead_80 ?_
      refine u_icmp_gt hC 88 d_M_dead_81 (by decide) (fun h_81 => ?_) (fun h_81 => absurd (Decidable.byContradiction (fun w => ok (Or.inr (Or.inr w)))) h_81)
      refine u_iconst hC (nI 0) d_M_dead_88 (by decide) ?_
      refine u_istore_n hC d_M_dead_89 (by decide) ?_
      refine u_iinc hC (nI (k + 1)) (j := 1) d_M_dead_90 rfl (nI_1 k) (by decide) ?_
      refine u_goto hC 37 d_M_dead_93 (by decide) ?_
      exact l_M_dead0 hC (e0 ⟨k, by omega, ok⟩) r (k + 1) (by omega)
end MQ0
section MQ1
variable {l : Launch} {D : va_G} {κ : Nat → ClassId} {z : Nat × Nat} {a : Nat → Nat} {g cm : Int32} {st be ro pl ha mo co to sn le : Nat → Int32}
set_option maxHeartbeats 4000000 in
set_option maxRecDepth 100000 in
theorem c_M_deadF {x1 x2 : Int32} {G0 : Nat} (hg : g = nI G0) (hG : G0 ≤ 4000) (hb : ¬ ∃ i : Nat, 1 ≤ i ∧ i ≤ G0 ∧ x1 = nI i) : Ct l y_M_dead b_M_dead 5 (some .boolean) 1 0 0 D (gk κ, z) (mw κ a g cm st be ro pl ha mo co to sn le) [.ref (a 0), .int x1, .int x2] (rt (.int 0) (mw κ a g cm st be ro pl ha mo co to sn le)) := by
  refine Ct.of (by decide) (Nat.le_of_ble_eq_true rfl) ?_
  intro p e s0 m below meth c A hC hr hn
  refine u_aload_n hC d_M_dead_0 rfl ?_
  refine u_iload_n hC d_M_dead_1 rfl ?_
  refine u_callVr hC (c_M_givenF hg hG hb) k_M_63 i_M_isGiven (q0 := 0) rfl rfl ⟨(Nat.le_of_ble_eq_true rfl), (Nat.le_of_ble_eq_true rfl)⟩ ⟨(Nat.le_of_ble_eq_true rfl), (Nat.le_of_ble_eq_true rfl)⟩ rfl rfl (Nat.le_of_ble_eq_true rfl) d_M_dead_2 ?_
  refine u_if_ne hC 10 d_M_dead_5 (by decide) (fun h_5 => absurd rfl h_5) (fun h_5 => ?_)
  refine u_iconst hC (nI 0) d_M_dead_8 (by decide) ?_
  exact u_zret hC hr rfl d_M_dead_9 (Nat.le_of_ble_eq_true rfl) (Nat.le_of_ble_eq_true rfl) ⟨rfl, rfl⟩
set_option maxHeartbeats 4000000 in
set_option maxRecDepth 100000 in
theorem c_M_deadN {i G0 : Nat} (hg : g = nI G0) (hG : G0 ≤ 4000) (h1 : 1 ≤ i) (h2 : i ≤ G0) {x2 : Int32} (hx : ¬ ∃ i : Nat, 1 ≤ i ∧ i ≤ G0 ∧ x2 = nI i) : Ct l y_M_dead b_M_dead 5 (some .boolean) 1 0 0 D (gk κ, z) (mw κ a g cm st be ro pl ha mo co to sn le) [.ref (a 0), .int (nI i), .int x2] (rt (.int (if st i = nI 3 then 1 else 0)) (mw κ a g cm st be ro pl ha mo co to sn le)) := by
  refine Ct.of (by decide) (Nat.le_of_ble_eq_true rfl) ?_
  intro p e s0 m below meth c A hC hr hn
  refine u_aload_n hC d_M_dead_0 rfl ?_
  refine u_iload_n hC d_M_dead_1 rfl ?_
  refine u_callVr hC (c_M_givenT hg hG h1 h2) k_M_63 i_M_isGiven (q0 := 0) rfl rfl ⟨(Nat.le_of_ble_eq_true rfl), (Nat.le_of_ble_eq_true rfl)⟩ ⟨(Nat.le_of_ble_eq_true rfl), (Nat.le_of_ble_eq_true rfl)⟩ rfl rfl (Nat.le_of_ble_eq_true rfl) d_M_dead_2 ?_
  refine u_if_ne hC 10 d_M_dead_5 (by decide) (fun h_5 => ?_) (fun h_5 => absurd h_5 (by decide))
  refine u_aload_n hC d_M_dead_10 rfl ?_
  refine u_iload_n hC d_M_dead_11 rfl ?_
  refine u_callVr hC (c_M_givenF hg hG hx) k_M_63 i_M_isGiven (q0 := 0) rfl rfl ⟨(Nat.le_of_ble_eq_true rfl), (Nat.le_of_ble_eq_true rfl)⟩ ⟨(Nat.le_of_ble_eq_true rfl), (Nat.le_of_ble_eq_true rfl)⟩ rfl rfl (Nat.le_of_ble_eq_true rfl) d_M_dead_12 ?_
  refine u_if_eq hC 32 d_M_dead_15 (by decide) (fun h_15 => ?_) (fun h_15 => absurd rfl h_15)
  refine u_iconst hC (nI 0) d_M_dead_32 (by decide) ?_
  refine u_istore_n hC d_M_dead_33 (by decide) ?_
  refine u_iconst hC (nI 0) d_M_dead_34 (by decide) ?_
  refine u_istore hC d_M_dead_35 (by decide) ?_
  refine l_M_dead0 hC ?_ 6 0 rfl
  refine u_aload_n hC d_M_dead_96 rfl ?_
  refine u_get hC f_M_7 0 rfl rfl d_M_dead_97 ?_
  refine u_iload_n hC d_M_dead_100 rfl ?_
  refine p_iald hC 1 0 rfl rfl i rfl (by omega) (by decide) d_M_dead_101 ?_
  refine u_iconst hC (nI 3) d_M_dead_102 (by decide) ?_
  refine u_icmp_eq hC 110 d_M_dead_103 (by decide) (fun h_103 => ?_) (fun h_103 => ?_)
  · refine u_iconst hC (nI 1) d_M_dead_110 (by decide) ?_
    refine u_goto hC 115 d_M_dead_111 (by decide) ?_
    exact u_zret hC hr rfl d_M_dead_115 (Nat.le_of_ble_eq_true rfl) (Nat.le_of_ble_eq_true rfl) ⟨by first | rfl | (rw [if_pos h_103]; rfl) | (rw [if_neg h_103]; rfl), rfl⟩
  · refine u_iload_n hC d_M_dead_106 rfl ?_
    refine u_if_eq hC 114 d_M_dead_107 (by decide) (fun h_107 => ?_) (fun h_107 => absurd rfl h_107)
    refine u_iconst hC (nI 0) d_M_dead_114 (by decide) ?_
    exact u_zret hC hr rfl d_M_dead_115 (Nat.le_of_ble_eq_true rfl) (Nat.le_of_ble_eq_true rfl) ⟨by first | rfl | (rw [if_pos h_103]; rfl) | (rw [if_neg h_103]; rfl), rfl⟩
set_option maxHeartbeats 4000000 in
set_option maxRecDepth 100000 in
theorem c_M_deadU {i G0 : Nat} (hg : g = nI G0) (hG : G0 ≤ 4000) (h1 : 1 ≤ i) (h2 : i ≤ G0) {q : Nat} (q1 : 1 ≤ q) (q2 : q ≤ G0) (hs : ¬ st q = nI 2) : Ct l y_M_dead b_M_dead 5 (some .boolean) 1 0 0 D (gk κ, z) (mw κ a g cm st be ro pl ha mo co to sn le) [.ref (a 0), .int (nI i), .int (nI q)] (rt (.int (if st i = nI 3 then 1 else 0)) (mw κ a g cm st be ro pl ha mo co to sn le)) := by
  refine Ct.of (by decide) (Nat.le_of_ble_eq_true rfl) ?_
  intro p e s0 m below meth c A hC hr hn
  refine u_aload_n hC d_M_dead_0 rfl ?_
  refine u_iload_n hC d_M_dead_1 rfl ?_
  refine u_callVr hC (c_M_givenT hg hG h1 h2) k_M_63 i_M_isGiven (q0 := 0) rfl rfl ⟨(Nat.le_of_ble_eq_true rfl), (Nat.le_of_ble_eq_true rfl)⟩ ⟨(Nat.le_of_ble_eq_true rfl), (Nat.le_of_ble_eq_true rfl)⟩ rfl rfl (Nat.le_of_ble_eq_true rfl) d_M_dead_2 ?_
  refine u_if_ne hC 10 d_M_dead_5 (by decide) (fun h_5 => ?_) (fun h_5 => absurd h_5 (by decide))
  refine u_aload_n hC d_M_dead_10 rfl ?_
  refine u_iload_n hC d_M_dead_11 rfl ?_
  refine u_callVr hC (c_M_givenT hg hG q1 q2) k_M_63 i_M_isGiven (q0 := 0) rfl rfl ⟨(Nat.le_of_ble_eq_true rfl), (Nat.le_of_ble_eq_true rfl)⟩ ⟨(Nat.le_of_ble_eq_true rfl), (Nat.le_of_ble_eq_true rfl)⟩ rfl rfl (Nat.le_of_ble_eq_true rfl) d_M_dead_12 ?_
  refine u_if_eq hC 32 d_M_dead_15 (by decide) (fun h_15 => absurd h_15 (by decide)) (fun h_15 => ?_)
  refine u_aload_n hC d_M_dead_18 rfl ?_
  refine u_get hC f_M_7 0 rfl rfl d_M_dead_19 ?_
  refine u_iload_n hC d_M_dead_22 rfl ?_
  refine p_iald hC 1 0 rfl rfl q rfl (by omega) (by decide) d_M_dead_23 ?_
  refine u_iconst hC (nI 2) d_M_dead_24 (by decide) ?_
  refine u_icmp_ne hC 32 d_M_dead_25 (by decide) (fun h_25 => ?_) (fun h_25 => absurd h_25 hs)
  refine u_iconst hC (nI 0) d_M_dead_32 (by decide) ?_
  refine u_istore_n hC d_M_dead_33 (by decide) ?_
  refine u_iconst hC (nI 0) d_M_dead_34 (by decide) ?_
  refine u_istore hC d_M_dead_35 (by decide) ?_
  refine l_M_dead0 hC ?_ 6 0 rfl
  refine u_aload_n hC d_M_dead_96 rfl ?_
  refine u_get hC f_M_7 0 rfl rfl d_M_dead_97 ?_
  refine u_iload_n hC d_M_dead_100 rfl ?_
  refine p_iald hC 1 0 rfl rfl i rfl (by omega) (by decide) d_M_dead_101 ?_
  refine u_iconst hC (nI 3) d_M_dead_102 (by decide) ?_
  refine u_icmp_eq hC 110 d_M_dead_103 (by decide) (fun h_103 => ?_) (fun h_103 => ?_)
  · refine u_iconst hC (nI 1) d_M_dead_110 (by decide) ?_
    refine u_goto hC 115 d_M_dead_111 (by decide) ?_
    exact u_zret hC hr rfl d_M_dead_115 (Nat.le_of_ble_eq_true rfl) (Nat.le_of_ble_eq_true rfl) ⟨by first | rfl | (rw [if_pos h_103]; rfl) | (rw [if_neg h_103]; rfl), rfl⟩
  · refine u_iload_n hC d_M_dead_106 rfl ?_
    refine u_if_eq hC 114 d_M_dead_107 (by decide) (fun h_107 => ?_) (fun h_107 => absurd rfl h_107)
    refine u_iconst hC (nI 0) d_M_dead_114 (by decide) ?_
    exact u_zret hC hr rfl d_M_dead_115 (Nat.le_of_ble_eq_true rfl) (Nat.le_of_ble_eq_true rfl) ⟨by first | rfl | (rw [if_pos h_103]; rfl) | (rw [if_neg h_103]; rfl), rfl⟩
set_option maxHeartbeats 4000000 in
set_option maxRecDepth 100000 in
theorem c_M_deadY {i G0 : Nat} (hg : g = nI G0) (hG : G0 ≤ 4000) (h1 : 1 ≤ i) (h2 : i ≤ G0) {q : Nat} (q1 : 1 ≤ q) (q2 : q ≤ G0) (hs : st q = nI 2) (ho : ∀ s, s < 6 → m_ok ha sn pl q s) : Ct l y_M_dead b_M_dead 5 (some .boolean) 1 0 0 D (gk κ, z) (mw κ a g cm st be ro pl ha mo co to sn le) [.ref (a 0), .int (nI i), .int (nI q)] (rt (.int 1) (mw κ a g cm st be ro pl ha mo co to sn le)) := by
  refine Ct.of (by decide) (Nat.le_of_ble_eq_true rfl) ?_
  intro p e s0 m below meth c A hC hr hn
  refine u_aload_n hC d_M_dead_0 rfl ?_
  refine u_iload_n hC d_M_dead_1 rfl ?_
  refine u_callVr hC (c_M_givenT hg hG h1 h2) k_M_63 i_M_isGiven (q0 := 0) rfl rfl ⟨(Nat.le_of_ble_eq_true rfl), (Nat.le_of_ble_eq_true rfl)⟩ ⟨(Nat.le_of_ble_eq_true rfl), (Nat.le_of_ble_eq_true rfl)⟩ rfl rfl (Nat.le_of_ble_eq_true rfl) d_M_dead_2 ?_
  refine u_if_ne hC 10 d_M_dead_5 (by decide) (fun h_5 => ?_) (fun h_5 => absurd h_5 (by decide))
  refine u_aload_n hC d_M_dead_10 rfl ?_
  refine u_iload_n hC d_M_dead_11 rfl ?_
  refine u_callVr hC (c_M_givenT hg hG q1 q2) k_M_63 i_M_isGiven (q0 := 0) rfl rfl ⟨(Nat.le_of_ble_eq_true rfl), (Nat.le_of_ble_eq_true rfl)⟩ ⟨(Nat.le_of_ble_eq_true rfl), (Nat.le_of_ble_eq_true rfl)⟩ rfl rfl (Nat.le_of_ble_eq_true rfl) d_M_dead_12 ?_
  refine u_if_eq hC 32 d_M_dead_15 (by decide) (fun h_15 => absurd h_15 (by decide)) (fun h_15 => ?_)
  refine u_aload_n hC d_M_dead_18 rfl ?_
  refine u_get hC f_M_7 0 rfl rfl d_M_dead_19 ?_
  refine u_iload_n hC d_M_dead_22 rfl ?_
  refine p_iald hC 1 0 rfl rfl q rfl (by omega) (by decide) d_M_dead_23 ?_
  refine u_iconst hC (nI 2) d_M_dead_24 (by decide) ?_
  refine u_icmp_ne hC 32 d_M_dead_25 (by decide) (fun h_25 => absurd hs h_25) (fun h_25 => ?_)
  refine u_iconst hC (nI 1) d_M_dead_28 (by decide) ?_
  refine u_goto hC 33 d_M_dead_29 (by decide) ?_
  refine u_istore_n hC d_M_dead_33 (by decide) ?_
  refine u_iconst hC (nI 0) d_M_dead_34 (by decide) ?_
  refine u_istore hC d_M_dead_35 (by decide) ?_
  refine l_M_dead1 (by omega) hC (fun _ => ?_) (fun w => by obtain ⟨s, w1, w2⟩ := w; exact absurd (ho s w1) w2) 6 0 rfl (fun s w => absurd w (Nat.not_lt_zero s))
  refine u_aload_n hC d_M_dead_96 rfl ?_
  refine u_get hC f_M_7 0 rfl rfl d_M_dead_97 ?_
  refine u_iload_n hC d_M_dead_100 rfl ?_
  refine p_iald hC 1 0 rfl rfl i rfl (by omega) (by decide) d_M_dead_101 ?_
  refine u_iconst hC (nI 3) d_M_dead_102 (by decide) ?_
  refine u_icmp_eq hC 110 d_M_dead_103 (by decide) (fun h_103 => ?_) (fun h_103 => ?_)
  · refine u_iconst hC (nI 1) d_M_dead_110 (by decide) ?_
    refine u_goto hC 115 d_M_dead_111 (by decide) ?_
    exact u_zret hC hr rfl d_M_dead_115 (Nat.le_of_ble_eq_true rfl) (Nat.le_of_ble_eq_true rfl) ⟨by first | rfl | (rw [if_pos h_103]; rfl) | (rw [if_neg h_103]; rfl), rfl⟩
  · refine u_iload_n hC d_M_dead_106 rfl ?_
    refine u_if_eq hC 114 d_M_dead_107 (by decide) (fun h_107 => absurd h_107 (by decide)) (fun h_107 => ?_)
    refine u_iconst hC (nI 1) d_M_dead_110 (by decide) ?_
    refine u_goto hC 115 d_M_dead_111 (by decide) ?_
    exact u_zret hC hr rfl d_M_dead_115 (Nat.le_of_ble_eq_true rfl) (Nat.le_of_ble_eq_true rfl) ⟨by first | rfl | (rw [if_pos h_103]; rfl) | (rw [if_neg h_103]; rfl), rfl⟩
set_option maxHeartbeats 4000000 in
set_option maxRecDepth 100000 in
theorem c_M_deadZ {i G0 : Nat} (hg : g = nI G0) (hG : G0 ≤ 4000) (h1 : 1 ≤ i) (h2 : i ≤ G0) {q : Nat} (q1 : 1 ≤ q) (q2 : q ≤ G0) (hs : st q = nI 2) (ho : ¬ ∀ s, s < 6 → m_ok ha sn pl q s) : Ct l y_M_dead b_M_dead 5 (some .boolean) 1 0 0 D (gk κ, z) (mw κ a g cm st be ro pl ha mo co to sn le) [.ref (a 0), .int (nI i), .int (nI q)] (rt (.int (if st i = nI 3 then 1 else 0)) (mw κ a g cm st be ro pl ha mo co to sn le)) := by
  refine Ct.of (by decide) (Nat.le_of_ble_eq_true rfl) ?_
  intro p e s0 m below meth c A hC hr hn
  refine u_aload_n hC d_M_dead_0 rfl ?_
  refine u_iload_n hC d_M_dead_1 rfl ?_
  refine u_callVr hC (c_M_givenT hg hG h1 h2) k_M_63 i_M_isGiven (q0 := 0) rfl rfl ⟨(Nat.le_of_ble_eq_true rfl), (Nat.le_of_ble_eq_true rfl)⟩ ⟨(Nat.le_of_ble_eq_true rfl), (Nat.le_of_ble_eq_true rfl)⟩ rfl rfl (Nat.le_of_ble_eq_true rfl) d_M_dead_2 ?_
  refine u_if_ne hC 10 d_M_dead_5 (by decide) (fun h_5 => ?_) (fun h_5 => absurd h_5 (by decide))
  refine u_aload_n hC d_M_dead_10 rfl ?_
  refine u_iload_n hC d_M_dead_11 rfl ?_
  refine u_callVr hC (c_M_givenT hg hG q1 q2) k_M_63 i_M_isGiven (q0 := 0) rfl rfl ⟨(Nat.le_of_ble_eq_true rfl), (Nat.le_of_ble_eq_true rfl)⟩ ⟨(Nat.le_of_ble_eq_true rfl), (Nat.le_of_ble_eq_true rfl)⟩ rfl rfl (Nat.le_of_ble_eq_true rfl) d_M_dead_12 ?_
  refine u_if_eq hC 32 d_M_dead_15 (by decide) (fun h_15 => absurd h_15 (by decide)) (fun h_15 => ?_)
  refine u_aload_n hC d_M_dead_18 rfl ?_
  refine u_get hC f_M_7 0 rfl rfl d_M_dead_19 ?_
  refine u_iload_n hC d_M_dead_22 rfl ?_
  refine p_iald hC 1 0 rfl rfl q rfl (by omega) (by decide) d_M_dead_23 ?_
  refine u_iconst hC (nI 2) d_M_dead_24 (by decide) ?_
  refine u_icmp_ne hC 32 d_M_dead_25 (by decide) (fun h_25 => absurd hs h_25) (fun h_25 => ?_)
  refine u_iconst hC (nI 1) d_M_dead_28 (by decide) ?_
  refine u_goto hC 33 d_M_dead_29 (by decide) ?_
  refine u_istore_n hC d_M_dead_33 (by decide) ?_
  refine u_iconst hC (nI 0) d_M_dead_34 (by decide) ?_
  refine u_istore hC d_M_dead_35 (by decide) ?_
  refine l_M_dead1 (by omega) hC (fun w => absurd w ho) (fun _ => ?_) 6 0 rfl (fun s w => absurd w (Nat.not_lt_zero s))
  refine u_aload_n hC d_M_dead_96 rfl ?_
  refine u_get hC f_M_7 0 rfl rfl d_M_dead_97 ?_
  refine u_iload_n hC d_M_dead_100 rfl ?_
  refine p_iald hC 1 0 rfl rfl i rfl (by omega) (by decide) d_M_dead_101 ?_
  refine u_iconst hC (nI 3) d_M_dead_102 (by decide) ?_
  refine u_icmp_eq hC 110 d_M_dead_103 (by decide) (fun h_103 => ?_) (fun h_103 => ?_)
  · refine u_iconst hC (nI 1) d_M_dead_110 (by decide) ?_
    refine u_goto hC 115 d_M_dead_111 (by decide) ?_
    exact u_zret hC hr rfl d_M_dead_115 (Nat.le_of_ble_eq_true rfl) (Nat.le_of_ble_eq_true rfl) ⟨by first | rfl | (rw [if_pos h_103]; rfl) | (rw [if_neg h_103]; rfl), rfl⟩
  · refine u_iload_n hC d_M_dead_106 rfl ?_
    refine u_if_eq hC 114 d_M_dead_107 (by decide) (fun h_107 => ?_) (fun h_107 => absurd rfl h_107)
    refine u_iconst hC (nI 0) d_M_dead_114 (by decide) ?_
    exact u_zret hC hr rfl d_M_dead_115 (Nat.le_of_ble_eq_true rfl) (Nat.le_of_ble_eq_true rfl) ⟨by first | rfl | (rw [if_pos h_103]; rfl) | (rw [if_neg h_103]; rfl), rfl⟩
end MQ1
