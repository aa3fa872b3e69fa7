/-- sessions and conditions behind aborts of the sessions k, .., k + r - 1 -/
abbrev DC : Type := (Nat → Option Nat) × (Nat → Int32)
noncomputable def d_cr (n : Nat) (ro lv : Nat → Int32) (nb : Nat → Nat → Int32) : Nat → Nat → DC → DC
  | 0, _, x => x
  | r + 1, k, x => d_cr n ro lv nb r (k + 1) (match x.1 k with
    | none => x
    | some _ => (va_up x.1 k none, dset (d_up ro lv (nb k 0) (nI 0)) x.2 (nI 3) n))
/-- how many of r levels from k on have no number -/
def d_mis (nb : Nat → Int32) : Nat → Nat → Nat
  | 0, _ => 0
  | r + 1, k => (if nb k = 0 then 1 else 0) + d_mis nb r (k + 1)
theorem d_mis_le (nb : Nat → Int32) : ∀ r k : Nat, d_mis nb r k ≤ r
  | 0, _ => Nat.le_refl _
  | r + 1, k => by
    have := d_mis_le nb r (k + 1)
    unfold d_mis
    split <;> omega
theorem d_mis_upd (nb : Nat → Int32) (q : Nat) (x : Int32) : ∀ r k : Nat, q < k → d_mis (upd nb q x) r k = d_mis nb r k
  | 0, _, _ => rfl
  | r + 1, k, h => by
    unfold d_mis
    rw [d_mis_upd nb q x r (k + 1) (by omega), pk_un (by omega)]
/-- numbers given, the transaction's numbers, roots, levels, conditions, places -/
abbrev DG : Type := Nat × (Nat → Int32) × (Nat → Int32) × (Nat → Int32) × (Nat → Int32) × (Nat → Int32)
def d_new (k : Nat) (x : DG) : DG := (x.1 + 1, upd x.2.1 k (nI (x.1 + 1)), upd x.2.2.1 x.1 (upd x.2.1 k (nI (x.1 + 1)) 0), upd x.2.2.2.1 x.1 (nI k), upd x.2.2.2.2.1 x.1 (nI 1), upd x.2.2.2.2.2 x.1 (nI 0))
def d_gv : Nat → Nat → DG → DG
  | 0, _, x => x
  | r + 1, k, x => d_gv r (k + 1) (if x.2.1 k = 0 then d_new k x else x)
/-- the list's places then -/
def d_cp (nb : Nat → Int32) : Nat → Nat → Nat → Nat → Nat
  | 0, _, _, cap => cap
  | r + 1, k, n, cap => if nb k = 0 then d_cp nb r (k + 1) (n + 1) (gcap n cap) else d_cp nb r (k + 1) n cap
theorem d_cp_upd (nb : Nat → Int32) (q : Nat) (x : Int32) : ∀ r k n cap : Nat, q < k → d_cp (upd nb q x) r k n cap = d_cp nb r k n cap
  | 0, _, _, _, _ => rfl
  | r + 1, k, n, cap, h => by
    unfold d_cp
    rw [d_cp_upd nb q x r (k + 1) (n + 1) (gcap n cap) (by omega), d_cp_upd nb q x r (k + 1) n cap (by omega), pk_un (by omega)]
theorem gcap_ge (n cap : Nat) : cap ≤ gcap n cap := by
  unfold gcap
  split
  · omega
  · split <;> omega
theorem gcap_le {n cap : Nat} (hn : n < 4000) (hc : cap ≤ 6000) : gcap n cap ≤ 6000 := by
  unfold gcap
  split
  · omega
  · split <;> omega
theorem d_cp_ge (nb : Nat → Int32) : ∀ r k n cap : Nat, cap ≤ d_cp nb r k n cap
  | 0, _, _, _ => Nat.le_refl _
  | r + 1, k, n, cap => by
    unfold d_cp
    split
    · exact Nat.le_trans (gcap_ge n cap) (d_cp_ge nb r (k + 1) (n + 1) (gcap n cap))
    · exact d_cp_ge nb r (k + 1) n cap
theorem d_cp_le (nb : Nat → Int32) : ∀ r k n cap : Nat, n + d_mis nb r k ≤ 4000 → cap ≤ 6000 → d_cp nb r k n cap ≤ 6000
  | 0, _, _, _, _, h => h
  | r + 1, k, n, cap, h, hc => by
    unfold d_mis at h
    unfold d_cp
    by_cases c : nb k = 0
    · rw [if_pos c] at h ⊢
      exact d_cp_le nb r (k + 1) (n + 1) (gcap n cap) (by omega) (gcap_le (by omega) hc)
    · rw [if_neg c] at h ⊢
      exact d_cp_le nb r (k + 1) n cap (by omega) hc
theorem gslots_le {n cap : Nat} (h : (n = 0 ∧ cap = 0) ∨ (10 ≤ cap ∧ n ≤ cap)) : gslots n cap + 4 * cap ≤ 4 * gcap n cap := by
  unfold gslots gcap
  by_cases c : n < cap
  · rw [if_pos c, if_pos c]
    omega
  · rw [if_neg c, if_neg c]
    split <;> omega
section DY
variable {l : Launch} {D : va_G} {κ : Nat → ClassId} {z : Nat × Nat} {ws : va_W} {h0 hs hl cap : Nat} {cm : Int32} {tr : Nat → Option Nat} {na : Nat → Nat} {mo to co sn : Nat → Int32} {nb : Nat → Nat → Int32} {n : Nat} {el : Nat → Nat} {ro lv cd pl : Nat → Int32}
theorem Lst_cap {ws : va_W} (h : Lst κ z ws hl n el cap) : (n = 0 ∧ cap = 0) ∨ (10 ≤ cap ∧ n ≤ cap) := by
  obtain ⟨_, _, _, h2⟩ := h
  rcases h2 with ⟨_, a, b⟩ | ⟨a, b, _⟩
  · exact Or.inl ⟨a, b⟩
  · exact Or.inr ⟨a, b⟩
theorem aQn {cap : Nat} {f g : Nat → Option Nat} (h : 6 ≠ cap) : aQ κ 2 6 f ≠ aQ κ 3 cap g := by
  intro w
  have e2 := congrArg (fun q => q.2.1) (Sum.inl.inj w)
  exact h e2
/-- one number more -/
theorem Dk.give {w' : va_W} {q c' : Nat} {r0 l0 d0 p0 : Int32} (hK : Dk κ z ws h0 hs hl cap cm tr na mo to co sn nb n el ro lv cd pl) (hq : wg ws q = some (cG r0 l0 d0 p0)) (hf : ∀ i, i < n → el i ≠ q) (hL : Lst κ z w' hl (n + 1) (va_up el n q) c') (hx : Lfr κ hl cap ws w') :
    Dk κ z w' h0 hs hl c' cm tr na mo to co sn nb (n + 1) (va_up el n q) (upd ro n r0) (upd lv n l0) (upd cd n d0) (upd pl n p0) := by
  obtain ⟨a1, a2, a3, a4, a5, a6, a7, a8⟩ := hK
  have hc6 : 6 ≠ cap := by
    have := Lst_cap a3
    omega
  obtain ⟨mc9, he9, hl9, _⟩ := id a3
  have nh : ∀ {b : Nat} {x : va_E}, wg ws b = some x → (∀ fs, x ≠ .inr (4, fs)) → b ≠ hl := fun hb h => wg_ne hb hl9 (h _)
  refine ⟨hx _ _ a1 (nh a1 (by intro fs w; cases w)) (by intro f w; cases w), hx _ _ a2 (nh a2 (by intro fs w; cases w)) (fun f => aQn hc6), hL, fun j t hj ht => ⟨hx _ _ (a4 j t hj ht).1 (nh (a4 j t hj ht).1 (by intro fs w; cases w)) (by intro f w; cases w), hx _ _ (a4 j t hj ht).2 (nh (a4 j t hj ht).2 (by intro fs w; cases w)) (fun f => aIQ)⟩, a5, a6, ?_, ?_⟩
  · intro i hi
    by_cases c : i = n
    · subst c
      rw [pk_us, pk_us, pk_us, pk_us, show va_up el i q i = q from if_pos rfl]
      exact hx _ _ hq (nh hq (by intro fs w; cases w)) (by intro f w; cases w)
    · rw [pk_un c, pk_un c, pk_un c, pk_un c, show va_up el n q i = el i from if_neg c]
      have h7 := a7 i (by omega)
      exact hx _ _ h7 (nh h7 (by intro fs w; cases w)) (by intro f w; cases w)
  · intro i j hi hj h
    by_cases c1 : i = n
    · by_cases c2 : j = n
      · rw [c1, c2]
      · rw [show va_up el n q i = q from if_pos c1, show va_up el n q j = el j from if_neg c2] at h
        exact absurd h.symm (hf j (by omega))
    · by_cases c2 : j = n
      · rw [show va_up el n q j = q from if_pos c2, show va_up el n q i = el i from if_neg c1] at h
        exact absurd h (hf i (by omega))
      · rw [show va_up el n q i = el i from if_neg c1, show va_up el n q j = el j from if_neg c2] at h
        exact a8 i j (by omega) (by omega) h
end DY
section DZ0
variable {l : Launch} {D : va_G} {κ : Nat → ClassId} {z : Nat × Nat} {h0 hs hl cap : Nat} {cm : Int32} {tr : Nat → Option Nat} {na : Nat → Nat} {mo to co sn : Nat → Int32} {nb : Nat → Nat → Int32} {n : Nat} {el : Nat → Nat} {ro lv cd pl : Nat → Int32}
variable {p : Program} {e : Env} {R : Room} {s0 : State} {m : MethodId} {args : Array Value} {below : List Frame} {meth : Method} {c : Code} {A : Nat → Prop} {Q : State → Prop}
set_option maxHeartbeats 4000000 in
set_option maxRecDepth 100000 in
theorem l_D_crash (hn4 : n ≤ 4000) (hcap : cap ≤ 10000) (hC : vx p s0 m args meth c b_D_crash 2 R_D D (gk κ, z) A) (hR : 4 + 1 ≤ R.frames ∧ 8 + (3 + 11) + 40 * 4 ≤ R.locals) : ∀ (r k : Nat) (x : DC) (ws : va_W), k + r = 6 → Dk κ z ws h0 hs hl cap cm x.1 na mo to co sn nb n el ro lv x.2 pl → (∀ ws : va_W, Dk κ z ws h0 hs hl cap cm (d_cr n ro lv nb r k x).1 na mo to co sn nb n el ro lv (d_cr n ro lv nb r k x).2 pl → U p l e R s0 m args below meth c 2 D A ws 0 0 Q 20 [(1, .int (nI 6)), (0, .ref h0)] []) → U p l e R s0 m args below meth c 2 D A ws 0 0 Q 2 [(1, .int (nI k)), (0, .ref h0)] [] := by
  intro r
  induction r with
  | zero =>
    intro k x ws hk hK exit
    have e : k = 6 := by omega
    subst e
    refine u_iload_n hC d_D_crash_2 rfl ?_
    refine u_bipush hC (nI 6) d_D_crash_3 (by decide) ?_
    refine u_icmp_ge hC 20 d_D_crash_5 (by decide) (fun h_5 => ?_) (fun h_5 => absurd (by decide) h_5)
    exact exit ws hK
  | succ r ih =>
    intro k x ws hk hK exit
    obtain ⟨tr, cd⟩ := x
    unfold d_cr at exit
    dsimp only at hK exit ⊢
    have hO := hK.1
    cases htr : tr k with
    | none =>
      rw [htr] at exit
      dsimp only at exit
      refine u_iload_n hC d_D_crash_2 rfl ?_
      refine u_bipush hC (nI 6) d_D_crash_3 (by decide) ?_
      refine u_icmp_ge hC 20 d_D_crash_5 (by decide) (fun h_5 => absurd h_5 (nI_ge (by omega) (by decide))) (fun h_5 => ?_)
      refine u_aload_n hC d_D_crash_8 rfl ?_
      refine u_iload_n hC d_D_crash_9 rfl ?_
      refine w_callVr hC (c_D_abortF hK (by rintro ⟨j, t, h1, h2, h3⟩; have e9 := (nI_eq (by omega) (by omega)).mp h2; subst e9; rw [htr] at h3; cases h3)) k_D_95 i_D_abort hO rfl hR ⟨Nat.zero_le _, Nat.zero_le _⟩ rfl rfl (Nat.le_of_ble_eq_true rfl) d_D_crash_10 ?_
      refine u_pop hC d_D_crash_13 rfl ?_
      refine u_iinc hC (nI (k + 1)) (j := 0) d_D_crash_14 rfl (nI_1 k) (by decide) ?_
      refine u_goto hC 2 d_D_crash_17 (by decide) ?_
      exact ih (k + 1) (tr, cd) ws (by omega) hK exit
    | some t =>
      rw [htr] at exit
      dsimp only at exit
      refine u_iload_n hC d_D_crash_2 rfl ?_
      refine u_bipush hC (nI 6) d_D_crash_3 (by decide) ?_
      refine u_icmp_ge hC 20 d_D_crash_5 (by decide) (fun h_5 => absurd h_5 (nI_ge (by omega) (by decide))) (fun h_5 => ?_)
      refine u_aload_n hC d_D_crash_8 rfl ?_
      refine u_iload_n hC d_D_crash_9 rfl ?_
      refine w_callV hC (c_D_abortT hK hn4 hcap (by omega) htr) k_D_95 i_D_abort hO rfl hR ⟨Nat.zero_le _, Nat.zero_le _⟩ rfl rfl (Nat.le_of_ble_eq_true rfl) d_D_crash_10 (fun v w1 hp => ?_)
      obtain ⟨rfl, hK1⟩ := hp
      refine u_top ?_
      refine u_pop hC d_D_crash_13 rfl ?_
      refine u_iinc hC (nI (k + 1)) (j := 0) d_D_crash_14 rfl (nI_1 k) (by decide) ?_
      refine u_goto hC 2 d_D_crash_17 (by decide) ?_
      exact ih (k + 1) (va_up tr k none, dset (d_up ro lv (nb k 0) (nI 0)) cd (nI 3) n) w1 (by omega) hK1 exit
set_option maxHeartbeats 4000000 in
set_option maxRecDepth 100000 in
theorem l_D_count {t na0 u : Nat} {md c0 s1 : Int32} {nb0 : Nat → Int32} (hu : u ≤ 7) {ws : va_W} (hT : wg ws t = some (cT md na0 (nI u) c0 s1)) (hN : wg ws na0 = some (aI κ 8 nb0)) (hC : vx p s0 m args meth c b_D_countLevelsWithoutNumber 3 R_D D (gk κ, z) A) : ∀ r k cn : Nat, k + r = u + 1 → U p l e R s0 m args below meth c 3 D A ws 0 0 Q 30 [(2, .int (nI (k + r))), (1, .int (nI (cn + d_mis nb0 r k))), (0, .ref t)] [] → U p l e R s0 m args below meth c 3 D A ws 0 0 Q 4 [(2, .int (nI k)), (1, .int (nI cn)), (0, .ref t)] [] := by
  intro r
  induction r with
  | zero =>
    intro k cn hk exit
    refine u_iload_n hC d_D_countLevelsWithoutNumber_4 rfl ?_
    refine u_aload_n hC d_D_countLevelsWithoutNumber_5 rfl ?_
    refine w_get hC f_D_66 hT rfl d_D_countLevelsWithoutNumber_6 ?_
    refine u_icmp_gt hC 30 d_D_countLevelsWithoutNumber_9 (by decide) (fun h_9 => ?_) (fun h_9 => absurd (nI_lt (by omega) (by omega)) h_9)
    exact exit
  | succ r ih =>
    intro k cn hk exit
    rw [show k + (r + 1) = (k + 1) + r by omega] at exit
    unfold d_mis at exit
    by_cases hz : nb0 k = 0
    · rw [if_pos hz, ← Nat.add_assoc] at exit
      refine u_iload_n hC d_D_countLevelsWithoutNumber_4 rfl ?_
      refine u_aload_n hC d_D_countLevelsWithoutNumber_5 rfl ?_
      refine w_get hC f_D_66 hT rfl d_D_countLevelsWithoutNumber_6 ?_
      refine u_icmp_gt hC 30 d_D_countLevelsWithoutNumber_9 (by decide) (fun h_9 => absurd h_9 (nI_nlt (by omega) (by omega))) (fun h_9 => ?_)
      refine u_aload_n hC d_D_countLevelsWithoutNumber_12 rfl ?_
      refine w_get hC f_D_62 hT rfl d_D_countLevelsWithoutNumber_13 ?_
      refine u_iload_n hC d_D_countLevelsWithoutNumber_16 rfl ?_
      refine w_iald hC 0 hN rfl k rfl (by omega) (by decide) d_D_countLevelsWithoutNumber_17 ?_
      refine u_if_ne hC 24 d_D_countLevelsWithoutNumber_18 (by decide) (fun h_18 => absurd hz h_18) (fun h_18 => ?_)
      refine u_iinc hC (nI (cn + 1)) (j := 1) d_D_countLevelsWithoutNumber_21 rfl (nI_1 cn) (by decide) ?_
      refine u_iinc hC (nI (k + 1)) (j := 1) d_D_countLevelsWithoutNumber_24 rfl (nI_1 k) (by decide) ?_
      refine u_goto hC 4 d_D_countLevelsWithoutNumber_27 (by decide) ?_
      exact ih (k + 1) (cn + 1) (by omega) exit
    · rw [if_neg hz, Nat.zero_add] at exit
      refine u_iload_n hC d_D_countLevelsWithoutNumber_4 rfl ?_
      refine u_aload_n hC d_D_countLevelsWithoutNumber_5 rfl ?_
      refine w_get hC f_D_66 hT rfl d_D_countLevelsWithoutNumber_6 ?_
      refine u_icmp_gt hC 30 d_D_countLevelsWithoutNumber_9 (by decide) (fun h_9 => absurd h_9 (nI_nlt (by omega) (by omega))) (fun h_9 => ?_)
      refine u_aload_n hC d_D_countLevelsWithoutNumber_12 rfl ?_
      refine w_get hC f_D_62 hT rfl d_D_countLevelsWithoutNumber_13 ?_
      refine u_iload_n hC d_D_countLevelsWithoutNumber_16 rfl ?_
      refine w_iald hC 0 hN rfl k rfl (by omega) (by decide) d_D_countLevelsWithoutNumber_17 ?_
      refine u_if_ne hC 24 d_D_countLevelsWithoutNumber_18 (by decide) (fun h_18 => ?_) (fun h_18 => absurd h_18 hz)
      refine u_iinc hC (nI (k + 1)) (j := 0) d_D_countLevelsWithoutNumber_24 rfl (nI_1 k) (by decide) ?_
      refine u_goto hC 4 d_D_countLevelsWithoutNumber_27 (by decide) ?_
      exact ih (k + 1) cn (by omega) exit
set_option maxHeartbeats 4000000 in
set_option maxRecDepth 100000 in
theorem l_D_give {KC KS j t u : Nat} (hj : j < 6) (ht : tr j = some t) (hu : to j = nI u) (hu7 : u ≤ 7) (hC : vx p s0 m args meth c b_D_giveMissingNumbers 3 R_D D (gk κ, z) A) (hR : 6 + 1 ≤ R.frames ∧ 8 + (3 + 11) + 40 * 6 ≤ R.locals) (hKC : KC ≤ R.cells) (hKS : KS ≤ R.slots) : ∀ (r k n cap kc ks : Nat) (ws : va_W) (nb : Nat → Nat → Int32) (el : Nat → Nat) (ro lv cd pl : Nat → Int32), k + r = u + 1 → Dk κ z ws h0 hs hl cap cm tr na mo to co sn nb n el ro lv cd pl → n + d_mis (nb j) r k ≤ 4000 → cap ≤ 6000 → kc + 2 * r ≤ KC → ks + 4 * r + 4 * d_cp (nb j) r k n cap ≤ KS + 4 * cap → (∀ (ws : va_W) (el : Nat → Nat), Dk κ z ws h0 hs hl (d_cp (nb j) r k n cap) cm tr na mo to co sn (va_up nb j (d_gv r k (n, nb j, ro, lv, cd, pl)).2.1) (d_gv r k (n, nb j, ro, lv, cd, pl)).1 el (d_gv r k (n, nb j, ro, lv, cd, pl)).2.2.1 (d_gv r k (n, nb j, ro, lv, cd, pl)).2.2.2.1 (d_gv r k (n, nb j, ro, lv, cd, pl)).2.2.2.2.1 (d_gv r k (n, nb j, ro, lv, cd, pl)).2.2.2.2.2 → U p l e R s0 m args below meth c 3 D A ws KC KS Q 62 [(2, .int (nI (k + r))), (0, .ref h0), (1, .ref t)] []) → U p l e R s0 m args below meth c 3 D A ws kc ks Q 2 [(2, .int (nI k)), (0, .ref h0), (1, .ref t)] [] := by
  have hR0 : 0 + 1 ≤ R.frames ∧ 8 + (1 + 11) + 40 * 0 ≤ R.locals := ⟨by omega, by omega⟩
  have hR1 : 1 + 1 ≤ R.frames ∧ 8 + (3 + 11) + 40 * 1 ≤ R.locals := ⟨by omega, by omega⟩
  have hR6 : 6 + 1 ≤ R.frames ∧ 8 + (2 + 11) + 40 * 6 ≤ R.locals := ⟨by omega, by omega⟩
  intro r
  induction r with
  | zero =>
    intro k n cap kc ks ws nb el ro lv cd pl hk hK hm hcap hkc hks exit
    have hT := (hK.2.2.2.1 j t hj ht).1
    rw [hu] at hT
    unfold d_cp at hks
    refine u_iload_n hC d_D_giveMissingNumbers_2 rfl ?_
    refine u_aload_n hC d_D_giveMissingNumbers_3 rfl ?_
    refine w_get hC f_D_66 hT rfl d_D_giveMissingNumbers_4 ?_
    refine u_icmp_gt hC 62 d_D_giveMissingNumbers_7 (by decide) (fun h_7 => ?_) (fun h_7 => absurd (nI_lt (by omega) (by omega)) h_7)
    refine u_widen (k' := KC) (n' := KS) (by omega) (by omega) ?_
    refine exit ws el ?_
    rw [show va_up nb j (d_gv 0 k (n, nb j, ro, lv, cd, pl)).2.1 = nb from by funext i; unfold va_up; split; rename_i h9; rw [h9]; rfl; rfl]
    exact hK
  | succ r ih =>
    intro k n cap kc ks ws nb el ro lv cd pl hk hK hm hcap hkc hks exit
    obtain ⟨hO, hS9, hLs, hTr, hTi, hNi, hGs, hGi⟩ := id hK
    obtain ⟨mc9, he9, hL, hL2⟩ := id hLs
    obtain ⟨hT, hN⟩ := hTr j t hj ht
    rw [hu] at hT
    rw [show k + (r + 1) = (k + 1) + r by omega] at exit
    unfold d_gv d_cp at exit
    unfold d_mis at hm
    unfold d_cp at hks
    dsimp only at exit
    by_cases hz : nb j k = 0
    · rw [if_pos hz] at hm hks
      rw [if_pos hz, if_pos hz] at exit
      have hge := d_cp_ge (nb j) r (k + 1) (n + 1) (gcap n cap)
      have hgl := gslots_le (Lst_cap hLs)
      have hK1 := hK.updN hj ht (upd (nb j) k (nI (n + 1)))
      obtain ⟨hO1, hS1, hLs1, hTr1, hTi1, hNi1, hGs1, hGi1⟩ := id hK1
      obtain ⟨mc8, he8, hL1, hL18⟩ := id hLs1
      have hT1 := (hTr1 j t hj ht).1
      have hN1 := (hTr1 j t hj ht).2
      rw [show va_up nb j (upd (nb j) k (nI (n + 1))) j = upd (nb j) k (nI (n + 1)) from if_pos rfl] at hN1
      refine u_iload_n hC d_D_giveMissingNumbers_2 rfl ?_
      refine u_aload_n hC d_D_giveMissingNumbers_3 rfl ?_
      refine w_get hC f_D_66 hT rfl d_D_giveMissingNumbers_4 ?_
      refine u_icmp_gt hC 62 d_D_giveMissingNumbers_7 (by decide) (fun h_7 => absurd h_7 (nI_nlt (by omega) (by omega))) (fun h_7 => ?_)
      refine u_aload_n hC d_D_giveMissingNumbers_10 rfl ?_
      refine w_get hC f_D_62 hT rfl d_D_giveMissingNumbers_11 ?_
      refine u_iload_n hC d_D_giveMissingNumbers_14 rfl ?_
      refine w_iald hC 0 hN rfl k rfl (by omega) (by decide) d_D_giveMissingNumbers_15 ?_
      refine u_if_ne hC 56 d_D_giveMissingNumbers_16 (by decide) (fun h_16 => absurd hz h_16) (fun h_16 => ?_)
      refine u_aload_n hC d_D_giveMissingNumbers_19 rfl ?_
      refine w_get hC f_D_62 hT rfl d_D_giveMissingNumbers_20 ?_
      refine u_iload_n hC d_D_giveMissingNumbers_23 rfl ?_
      refine u_aload_n hC d_D_giveMissingNumbers_24 rfl ?_
      refine w_get hC f_D_18 hO rfl d_D_giveMissingNumbers_25 ?_
      refine w_callVr hC (c_L_size hL) k_D_54 i_L_size hL rfl hR0 ⟨by omega, by omega⟩ rfl rfl (Nat.le_of_ble_eq_true rfl) d_D_giveMissingNumbers_28 ?_
      refine u_iconst hC (nI 1) d_D_giveMissingNumbers_31 (by decide) ?_
      refine u_iadd hC d_D_giveMissingNumbers_32 ?_
      refine u_val (nI_add n 1) ?_
      refine w_iast hC 0 hN rfl k rfl (by omega) (by decide) d_D_giveMissingNumbers_33 ?_
      refine u_aload_n hC d_D_giveMissingNumbers_34 rfl ?_
      refine w_get hC f_D_18 hO1 rfl d_D_giveMissingNumbers_35 ?_
      refine w_new hC n_D_76 (by omega) (by omega) d_D_giveMissingNumbers_38 (fun q hq => ?_)
      refine u_dup hC d_D_giveMissingNumbers_41 rfl ?_
      refine u_aload_n hC d_D_giveMissingNumbers_42 rfl ?_
      refine w_get hC f_D_62 (wg_app hT1) rfl d_D_giveMissingNumbers_43 ?_
      refine u_iconst hC (nI 0) d_D_giveMissingNumbers_46 (by decide) ?_
      refine w_iald hC 0 (wg_app hN1) rfl 0 rfl (by decide) (by decide) d_D_giveMissingNumbers_47 ?_
      refine u_iload_n hC d_D_giveMissingNumbers_48 rfl ?_
      refine u_callI hC (c_G_init (wg_push hq)) k_D_122 i_G_init rfl hR1 ⟨by omega, by omega⟩ rfl rfl (Nat.le_of_ble_eq_true rfl) d_D_giveMissingNumbers_49 (fun v w' hp => ?_)
      obtain ⟨rfl, rfl⟩ := hp
      rw [wup_last hq]
      refine u_non ?_
      have hK3 := hK1.ext (w' := ((wup ws (na j) (aI κ 8 (upd (nb j) k (nI (n + 1))))) ++ [(q, cG (upd (nb j) k (nI (n + 1)) 0) (nI k) (nI 1) (nI 0))])) (fun b x h => wg_app h)
      have hq3 : wg ((wup ws (na j) (aI κ 8 (upd (nb j) k (nI (n + 1))))) ++ [(q, cG (upd (nb j) k (nI (n + 1)) 0) (nI k) (nI 1) (nI 0))]) q = some (cG (upd (nb j) k (nI (n + 1)) 0) (nI k) (nI 1) (nI 0)) := wg_push hq
      obtain ⟨mc7, he7, hL7, hL77⟩ := id hK3.2.2.1
      have hfr : ∀ i, i < n → el i ≠ q := fun i hi w => by have h9 := hGs1 i hi; rw [w, hq] at h9; cases h9
      have hlg : Lgv ((wup ws (na j) (aI κ 8 (upd (nb j) k (nI (n + 1))))) ++ [(q, cG (upd (nb j) k (nI (n + 1)) 0) (nI k) (nI 1) (nI 0))]) n el := fun i hi => ⟨_, hK3.2.2.2.2.2.2.1 i hi⟩
      refine w_callV hC (c_L_add hK3.2.2.1 hlg (by omega) (by omega) hq3) k_D_125 i_L_add hL7 rfl hR6 ⟨by omega, by omega⟩ rfl rfl (Nat.le_of_ble_eq_true rfl) d_D_giveMissingNumbers_52 (fun v w4 hp => ?_)
      obtain ⟨rfl, hL4, hF4⟩ := hp
      have hK4 := Dk.give hK3 hq3 hfr hL4 hF4
      refine u_top ?_
      refine u_pop hC d_D_giveMissingNumbers_55 rfl ?_
      refine u_iinc hC (nI (k + 1)) (j := 0) d_D_giveMissingNumbers_56 rfl (nI_1 k) (by decide) ?_
      refine u_goto hC 2 d_D_giveMissingNumbers_59 (by decide) ?_
      have hmu := d_mis_upd (nb j) k (nI (n + 1)) r (k + 1) (by omega)
      have hcu := d_cp_upd (nb j) k (nI (n + 1)) r (k + 1) (n + 1) (gcap n cap) (by omega)
      have eself : va_up nb j (upd (nb j) k (nI (n + 1))) j = upd (nb j) k (nI (n + 1)) := if_pos rfl
      refine ih (k + 1) (n + 1) (gcap n cap) _ _ w4 (va_up nb j (upd (nb j) k (nI (n + 1)))) (va_up el n q) _ _ _ _ (by omega) hK4 (by rw [eself, hmu]; omega) (gcap_le (by omega) hcap) (by omega) (by rw [eself, hcu]; omega) ?_
      intro ws5 el5 hK5
      rw [eself, hcu] at hK5
      rw [show ∀ y : Nat → Int32, va_up (va_up nb j (upd (nb j) k (nI (n + 1)))) j y = va_up nb j y from fun y => by funext i; unfold va_up; split <;> rfl] at hK5
      exact exit ws5 el5 hK5
    · rw [if_neg hz] at hm hks
      rw [if_neg hz, if_neg hz] at exit
      refine u_iload_n hC d_D_giveMissingNumbers_2 rfl ?_
      refine u_aload_n hC d_D_giveMissingNumbers_3 rfl ?_
      refine w_get hC f_D_66 hT rfl d_D_giveMissingNumbers_4 ?_
      refine u_icmp_gt hC 62 d_D_giveMissingNumbers_7 (by decide) (fun h_7 => absurd h_7 (nI_nlt (by omega) (by omega))) (fun h_7 => ?_)
      refine u_aload_n hC d_D_giveMissingNumbers_10 rfl ?_
      refine w_get hC f_D_62 hT rfl d_D_giveMissingNumbers_11 ?_
      refine u_iload_n hC d_D_giveMissingNumbers_14 rfl ?_
      refine w_iald hC 0 hN rfl k rfl (by omega) (by decide) d_D_giveMissingNumbers_15 ?_
      refine u_if_ne hC 56 d_D_giveMissingNumbers_16 (by decide) (fun h_16 => ?_) (fun h_16 => absurd h_16 hz)
      refine u_iinc hC (nI (k + 1)) (j := 0) d_D_giveMissingNumbers_56 rfl (nI_1 k) (by decide) ?_
      refine u_goto hC 2 d_D_giveMissingNumbers_59 (by decide) ?_
      exact ih (k + 1) n cap kc ks ws nb el ro lv cd pl (by omega) hK (by omega) hcap (by omega) (by omega) exit
end DZ0
section DZ1
variable {l : Launch} {D : va_G} {κ : Nat → ClassId} {z : Nat × Nat} {ws : va_W} {h0 hs hl cap : Nat} {cm : Int32} {tr : Nat → Option Nat} {na : Nat → Nat} {mo to co sn : Nat → Int32} {nb : Nat → Nat → Int32} {n : Nat} {el : Nat → Nat} {ro lv cd pl : Nat → Int32}

set_option maxHeartbeats 4000000 in
set_option maxRecDepth 100000 in
theorem c_D_crash (hK : Dk κ z ws h0 hs hl cap cm tr na mo to co sn nb n el ro lv cd pl) (hn4 : n ≤ 4000) (hcap : cap ≤ 10000) : Ct l y_D_crash b_D_crash 2 none 5 0 0 D (gk κ, z) ws [.ref h0] (fun v w' => v = none ∧ Dk κ z w' h0 hs hl cap cm (d_cr n ro lv nb 6 0 (tr, cd)).1 na mo to co sn nb n el ro lv (d_cr n ro lv nb 6 0 (tr, cd)).2 pl) := by
  refine Ct.of (by decide) (Nat.le_of_ble_eq_true rfl) ?_
  intro p e s0 m below meth c A hC hr hn
  refine u_iconst hC (nI 0) d_D_crash_0 (by decide) ?_
  refine u_istore_n hC d_D_crash_1 (by decide) ?_
  refine l_D_crash hn4 hcap hC ⟨(Nat.le_of_ble_eq_true rfl), (Nat.le_of_ble_eq_true rfl)⟩ 6 0 (tr, cd) ws rfl hK (fun w1 hK1 => ?_)
  exact u_vret hC hr d_D_crash_20 (Nat.le_of_ble_eq_true rfl) (Nat.le_of_ble_eq_true rfl) ⟨rfl, hK1⟩
set_option maxHeartbeats 4000000 in
set_option maxRecDepth 100000 in
theorem c_D_count {t na0 u : Nat} {md c0 s1 : Int32} {nb0 : Nat → Int32} (hu : u ≤ 7) (hT : wg ws t = some (cT md na0 (nI u) c0 s1)) (hN : wg ws na0 = some (aI κ 8 nb0)) : Ct l y_D_countLevelsWithoutNumber b_D_countLevelsWithoutNumber 3 (some .int) 0 0 0 D (gk κ, z) ws [.ref t] (rt (.int (nI (d_mis nb0 (u + 1) 0))) ws) := by
  refine Ct.of (by decide) (Nat.le_of_ble_eq_true rfl) ?_
  intro p e s0 m below meth c A hC hr hn
  refine u_iconst hC (nI 0) d_D_countLevelsWithoutNumber_0 (by decide) ?_
  refine u_istore_n hC d_D_countLevelsWithoutNumber_1 (by decide) ?_
  refine u_iconst hC (nI 0) d_D_countLevelsWithoutNumber_2 (by decide) ?_
  refine u_istore_n hC d_D_countLevelsWithoutNumber_3 (by decide) ?_
  refine l_D_count hu hT hN hC (u + 1) 0 0 (by omega) ?_
  rw [Nat.zero_add, Nat.zero_add]
  refine u_iload_n hC d_D_countLevelsWithoutNumber_30 rfl ?_
  exact u_iret hC hr d_D_countLevelsWithoutNumber_31 (Nat.le_of_ble_eq_true rfl) (Nat.le_of_ble_eq_true rfl) ⟨rfl, rfl⟩
set_option maxHeartbeats 4000000 in
set_option maxRecDepth 100000 in
theorem c_D_give {j t u : Nat} (hK : Dk κ z ws h0 hs hl cap cm tr na mo to co sn nb n el ro lv cd pl) (hj : j < 6) (ht : tr j = some t) (hu : to j = nI u) (hu7 : u ≤ 7) (hm : n + d_mis (nb j) (u + 1) 0 ≤ 4000) (hcap : cap ≤ 6000) : Ct l y_D_giveMissingNumbers b_D_giveMissingNumbers 3 none 7 (2 * (u + 1)) (4 * (u + 1) + 4 * (d_cp (nb j) (u + 1) 0 n cap - cap)) D (gk κ, z) ws [.ref h0, .ref t] (fun v w' => v = none ∧ ∃ el' : Nat → Nat, Dk κ z w' h0 hs hl (d_cp (nb j) (u + 1) 0 n cap) cm tr na mo to co sn (va_up nb j (d_gv (u + 1) 0 (n, nb j, ro, lv, cd, pl)).2.1) (d_gv (u + 1) 0 (n, nb j, ro, lv, cd, pl)).1 el' (d_gv (u + 1) 0 (n, nb j, ro, lv, cd, pl)).2.2.1 (d_gv (u + 1) 0 (n, nb j, ro, lv, cd, pl)).2.2.2.1 (d_gv (u + 1) 0 (n, nb j, ro, lv, cd, pl)).2.2.2.2.1 (d_gv (u + 1) 0 (n, nb j, ro, lv, cd, pl)).2.2.2.2.2) := by
  refine Ct.of (by decide) (Nat.le_of_ble_eq_true rfl) ?_
  intro p e s0 m below meth c A hC hr hn
  refine u_iconst hC (nI 0) d_D_giveMissingNumbers_0 (by decide) ?_
  refine u_istore_n hC d_D_giveMissingNumbers_1 (by decide) ?_
  have hge := d_cp_ge (nb j) (u + 1) 0 n cap
  refine l_D_give (KC := 2 * (u + 1)) (KS := (4 * (u + 1) + 4 * (d_cp (nb j) (u + 1) 0 n cap - cap))) hj ht hu hu7 hC ⟨(Nat.le_of_ble_eq_true rfl), (Nat.le_of_ble_eq_true rfl)⟩ (Nat.le_refl _) (Nat.le_refl _) (u + 1) 0 n cap 0 0 ws nb el ro lv cd pl (by omega) hK hm hcap (by omega) (by omega) (fun w1 el1 hK1 => ?_)
  exact u_vret hC hr d_D_giveMissingNumbers_62 (Nat.le_refl _) (Nat.le_refl _) ⟨rfl, el1, hK1⟩
set_option maxHeartbeats 4000000 in
set_option maxRecDepth 100000 in
theorem c_D_numberF {s : Int32} (hK : Dk κ z ws h0 hs hl cap cm tr na mo to co sn nb n el ro lv cd pl) (hb : ¬ ∃ j t : Nat, j < 6 ∧ s = nI j ∧ tr j = some t) : Ct l y_D_number b_D_number 3 (some .int) 8 0 0 D (gk κ, z) ws [.ref h0, .int s] (rt (.int (-1)) ws) := by
  refine Ct.of (by decide) (Nat.le_of_ble_eq_true rfl) ?_
  intro p e s0 m below meth c A hC hr hn
  obtain ⟨hO, hS9, hLs, hTr, hTi, hNi, hGs, hGi⟩ := id hK
  obtain ⟨mc9, he9, hL, hL2⟩ := id hLs
  refine u_aload_n hC d_D_number_0 rfl ?_
  refine u_iload_n hC d_D_number_1 rfl ?_
  refine w_callVr hC (c_D_trF hK hb) k_D_33 i_D_transactionOf hO rfl ⟨(Nat.le_of_ble_eq_true rfl), (Nat.le_of_ble_eq_true rfl)⟩ ⟨(Nat.le_of_ble_eq_true rfl), (Nat.le_of_ble_eq_true rfl)⟩ rfl rfl (Nat.le_of_ble_eq_true rfl) d_D_number_2 ?_
  refine u_astore_nN hC d_D_number_5 (by decide) ?_
  refine u_aload_nN hC d_D_number_6 rfl ?_
  refine u_ifnullN hC 28 d_D_number_7 (by decide) ?_
  refine u_iconst hC (-1) d_D_number_28 (by decide) ?_
  exact u_iret hC hr d_D_number_29 (Nat.le_of_ble_eq_true rfl) (Nat.le_of_ble_eq_true rfl) ⟨rfl, rfl⟩
set_option maxHeartbeats 4000000 in
set_option maxRecDepth 100000 in
theorem c_D_numberN {j t u : Nat} (hK : Dk κ z ws h0 hs hl cap cm tr na mo to co sn nb n el ro lv cd pl) (hn4 : n ≤ 4000) (hj : j < 6) (ht : tr j = some t) (hu : to j = nI u) (hu7 : u ≤ 7) (hm : 4000 < n + d_mis (nb j) (u + 1) 0) : Ct l y_D_number b_D_number 3 (some .int) 8 0 0 D (gk κ, z) ws [.ref h0, .int (nI j)] (rt (.int (-1)) ws) := by
  refine Ct.of (by decide) (Nat.le_of_ble_eq_true rfl) ?_
  intro p e s0 m below meth c A hC hr hn
  obtain ⟨hO, hS9, hLs, hTr, hTi, hNi, hGs, hGi⟩ := id hK
  obtain ⟨mc9, he9, hL, hL2⟩ := id hLs
  obtain ⟨hT, hN⟩ := hTr j t hj ht
  rw [hu] at hT
  refine u_aload_n hC d_D_number_0 rfl ?_
  refine u_iload_n hC d_D_number_1 rfl ?_
  refine w_callVr hC (c_D_trT hK hj ht) k_D_33 i_D_transactionOf hO rfl ⟨(Nat.le_of_ble_eq_true rfl), (Nat.le_of_ble_eq_true rfl)⟩ ⟨(Nat.le_of_ble_eq_true rfl), (Nat.le_of_ble_eq_true rfl)⟩ rfl rfl (Nat.le_of_ble_eq_true rfl) d_D_number_2 ?_
  refine u_astore_n hC d_D_number_5 (by decide) ?_
  refine u_aload_n hC d_D_number_6 rfl ?_
  refine u_ifnull hC d_D_number_7 ?_
  refine u_aload_n hC d_D_number_10 rfl ?_
  refine u_callSr hC (c_D_count hu7 hT hN) k_D_50 s_D_countLevelsWithoutNumber ⟨(Nat.le_of_ble_eq_true rfl), (Nat.le_of_ble_eq_true rfl)⟩ ⟨(Nat.le_of_ble_eq_true rfl), (Nat.le_of_ble_eq_true rfl)⟩ rfl rfl (Nat.le_of_ble_eq_true rfl) d_D_number_11 ?_
  refine u_sipush hC (nI 4000) d_D_number_14 (by decide) ?_
  refine u_aload_n hC d_D_number_17 rfl ?_
  refine w_get hC f_D_18 hO rfl d_D_number_18 ?_
  refine w_callVr hC (c_L_size hL) k_D_54 i_L_size hL rfl ⟨(Nat.le_of_ble_eq_true rfl), (Nat.le_of_ble_eq_true rfl)⟩ ⟨(Nat.le_of_ble_eq_true rfl), (Nat.le_of_ble_eq_true rfl)⟩ rfl rfl (Nat.le_of_ble_eq_true rfl) d_D_number_21 ?_
  refine u_isub hC d_D_number_24 ?_
  refine u_val (x' := nI (4000 - n)) (pk_sub (a := 4000) hn4) ?_
  refine u_icmp_le hC 30 d_D_number_25 (by decide) (fun h_25 => absurd h_25 (nI_ge (by omega) (by have := d_mis_le (nb j) (u + 1) 0; omega))) (fun h_25 => ?_)
  refine u_iconst hC (-1) d_D_number_28 (by decide) ?_
  exact u_iret hC hr d_D_number_29 (Nat.le_of_ble_eq_true rfl) (Nat.le_of_ble_eq_true rfl) ⟨rfl, rfl⟩
set_option maxHeartbeats 4000000 in
set_option maxRecDepth 100000 in
theorem c_D_numberT {j t u : Nat} (hK : Dk κ z ws h0 hs hl cap cm tr na mo to co sn nb n el ro lv cd pl) (hn4 : n ≤ 4000) (hj : j < 6) (ht : tr j = some t) (hu : to j = nI u) (hu7 : u ≤ 7) (hm : n + d_mis (nb j) (u + 1) 0 ≤ 4000) (hcap : cap ≤ 6000) : Ct l y_D_number b_D_number 3 (some .int) 8 (2 * (u + 1)) (4 * (u + 1) + 4 * (d_cp (nb j) (u + 1) 0 n cap - cap)) D (gk κ, z) ws [.ref h0, .int (nI j)] (fun v w' => v = some (.int ((d_gv (u + 1) 0 (n, nb j, ro, lv, cd, pl)).2.1 u)) ∧ ∃ el' : Nat → Nat, Dk κ z w' h0 hs hl (d_cp (nb j) (u + 1) 0 n cap) cm tr na mo to co sn (va_up nb j (d_gv (u + 1) 0 (n, nb j, ro, lv, cd, pl)).2.1) (d_gv (u + 1) 0 (n, nb j, ro, lv, cd, pl)).1 el' (d_gv (u + 1) 0 (n, nb j, ro, lv, cd, pl)).2.2.1 (d_gv (u + 1) 0 (n, nb j, ro, lv, cd, pl)).2.2.2.1 (d_gv (u + 1) 0 (n, nb j, ro, lv, cd, pl)).2.2.2.2.1 (d_gv (u + 1) 0 (n, nb j, ro, lv, cd, pl)).2.2.2.2.2) := by
  refine Ct.of (by decide) (Nat.le_of_ble_eq_true rfl) ?_
  intro p e s0 m below meth c A hC hr hn
  obtain ⟨hO, hS9, hLs, hTr, hTi, hNi, hGs, hGi⟩ := id hK
  obtain ⟨mc9, he9, hL, hL2⟩ := id hLs
  obtain ⟨hT, hN⟩ := hTr j t hj ht
  rw [hu] at hT
  refine u_aload_n hC d_D_number_0 rfl ?_
  refine u_iload_n hC d_D_number_1 rfl ?_
  refine w_callVr hC (c_D_trT hK hj ht) k_D_33 i_D_transactionOf hO rfl ⟨(Nat.le_of_ble_eq_true rfl), (Nat.le_of_ble_eq_true rfl)⟩ ⟨(Nat.le_of_ble_eq_true rfl), (Nat.le_of_ble_eq_true rfl)⟩ rfl rfl (Nat.le_of_ble_eq_true rfl) d_D_number_2 ?_
  refine u_astore_n hC d_D_number_5 (by decide) ?_
  refine u_aload_n hC d_D_number_6 rfl ?_
  refine u_ifnull hC d_D_number_7 ?_
  refine u_aload_n hC d_D_number_10 rfl ?_
  refine u_callSr hC (c_D_count hu7 hT hN) k_D_50 s_D_countLevelsWithoutNumber ⟨(Nat.le_of_ble_eq_true rfl), (Nat.le_of_ble_eq_true rfl)⟩ ⟨(Nat.le_of_ble_eq_true rfl), (Nat.le_of_ble_eq_true rfl)⟩ rfl rfl (Nat.le_of_ble_eq_true rfl) d_D_number_11 ?_
  refine u_sipush hC (nI 4000) d_D_number_14 (by decide) ?_
  refine u_aload_n hC d_D_number_17 rfl ?_
  refine w_get hC f_D_18 hO rfl d_D_number_18 ?_
  refine w_callVr hC (c_L_size hL) k_D_54 i_L_size hL rfl ⟨(Nat.le_of_ble_eq_true rfl), (Nat.le_of_ble_eq_true rfl)⟩ ⟨(Nat.le_of_ble_eq_true rfl), (Nat.le_of_ble_eq_true rfl)⟩ rfl rfl (Nat.le_of_ble_eq_true rfl) d_D_number_21 ?_
  refine u_isub hC d_D_number_24 ?_
  refine u_val (x' := nI (4000 - n)) (pk_sub (a := 4000) hn4) ?_
  refine u_icmp_le hC 30 d_D_number_25 (by decide) (fun h_25 => ?_) (fun h_25 => absurd (nI_le (by omega) (by omega)) h_25)
  refine u_aload_n hC d_D_number_30 rfl ?_
  refine u_aload_n hC d_D_number_31 rfl ?_
  refine w_callV hC (c_D_give hK hj ht hu hu7 hm hcap) k_D_58 i_D_giveMissingNumbers hO rfl ⟨(Nat.le_of_ble_eq_true rfl), (Nat.le_of_ble_eq_true rfl)⟩ ⟨by show 0 + 0 + 0 + _ ≤ 2 * (u + 1); omega, by show 0 + 0 + 0 + _ ≤ (4 * (u + 1) + 4 * (d_cp (nb j) (u + 1) 0 n cap - cap)); omega⟩ rfl rfl (Nat.le_of_ble_eq_true rfl) d_D_number_32 (fun v w1 hp => ?_)
  obtain ⟨rfl, el1, hK1⟩ := hp
  have hT1 := (hK1.2.2.2.1 j t hj ht).1
  have hN1 := (hK1.2.2.2.1 j t hj ht).2
  rw [hu] at hT1
  rw [show va_up nb j (d_gv (u + 1) 0 (n, nb j, ro, lv, cd, pl)).2.1 j = (d_gv (u + 1) 0 (n, nb j, ro, lv, cd, pl)).2.1 from if_pos rfl] at hN1
  refine u_non ?_
  refine u_aload_n hC d_D_number_35 rfl ?_
  refine w_get hC f_D_62 hT1 rfl d_D_number_36 ?_
  refine u_aload_n hC d_D_number_39 rfl ?_
  refine w_get hC f_D_66 hT1 rfl d_D_number_40 ?_
  refine w_iald hC 0 hN1 rfl u rfl (by omega) (by decide) d_D_number_43 ?_
  exact u_iret hC hr d_D_number_44 (by omega) (by omega) ⟨rfl, el1, hK1⟩
set_option maxHeartbeats 4000000 in
set_option maxRecDepth 100000 in
theorem c_D_init (hO : wg ws h0 = some (.inr (1, [.null, .null, .int 0]))) : Ct l y_D_init b_D_init 1 none 4 2 9 D (gk κ, z) ws [.ref h0] (fun v w' => v = none ∧ ∃ hs hl : Nat, Dk κ z w' h0 hs hl 0 0 (fun _ => none) (fun _ => 0) (fun _ => 0) (fun _ => 0) (fun _ => 0) (fun _ => 0) (fun _ _ => 0) 0 (fun _ => 0) (fun _ => 0) (fun _ => 0) (fun _ => 0) (fun _ => 0)) := by
  refine Ct.of (by decide) (Nat.le_of_ble_eq_true rfl) ?_
  intro p e s0 m below meth c A hC hr hn
  refine u_aload_n hC d_D_init_0 rfl ?_
  refine u_objInit hC o_D_1 o_I o_C (Nat.le_of_ble_eq_true rfl) (Nat.le_of_ble_eq_true rfl) (Nat.le_of_ble_eq_true rfl) d_D_init_1 ?_
  refine u_aload_n hC d_D_init_4 rfl ?_
  refine u_bipush hC (nI 6) d_D_init_5 (by decide) ?_
  have hZ := hC.2.2.2.1
  refine u_newq hC (N := 6) 2 rfl l_D_9 hZ.2.2.2.2.1 (by decide) (by decide) (by decide) (Nat.le_of_ble_eq_true rfl) (Nat.le_of_ble_eq_true rfl) d_D_init_7 (fun hs => w_fresh (fun hhs => ?_))
  have hO1 := wg_app (w2 := [(hs, aQ κ 2 6 (fun _ => none))]) hO
  have hne : hs ≠ h0 := fun w => by rw [w, hO] at hhs; cases hhs
  refine w_putF hC f_D_11 (tt_D 0 (by decide)) rfl hn rfl hO1 rfl rfl (Nat.le_of_ble_eq_true rfl) d_D_init_10 ?_
  refine u_eqw (ws' := (wup (ws ++ [(hs, aQ κ 2 6 (fun _ => none))]) h0 (.inr (1, [.ref hs, .null, .int 0])))) rfl ?_
  refine u_aload_n hC d_D_init_13 rfl ?_
  have hO2 : wg (wup (ws ++ [(hs, aQ κ 2 6 (fun _ => none))]) h0 (.inr (1, [.ref hs, .null, .int 0]))) h0 = some (.inr (1, [.ref hs, .null, .int 0])) := wg_up hO1
  have hS2 : wg (wup (ws ++ [(hs, aQ κ 2 6 (fun _ => none))]) h0 (.inr (1, [.ref hs, .null, .int 0]))) hs = some (aQ κ 2 6 (fun _ => none)) := by rw [wg_upN hne]; exact wg_push hhs
  refine w_new hC n_D_15 (Nat.le_of_ble_eq_true rfl) (Nat.le_of_ble_eq_true rfl) d_D_init_14 (fun hl hhl => ?_)
  have hne2 : hl ≠ h0 := fun w => by rw [w, hO2] at hhl; cases hhl
  have hne3 : hl ≠ hs := fun w => by rw [w, hS2] at hhl; cases hhl
  refine u_dup hC d_D_init_17 rfl ?_
  refine u_callIv hC (c_L_init (wg_push hhl)) k_D_17 i_L_init rfl ⟨(Nat.le_of_ble_eq_true rfl), (Nat.le_of_ble_eq_true rfl)⟩ ⟨(Nat.le_of_ble_eq_true rfl), (Nat.le_of_ble_eq_true rfl)⟩ rfl rfl (Nat.le_of_ble_eq_true rfl) d_D_init_18 ?_
  rw [wup_last hhl]
  refine w_putF hC f_D_18 (tt_D 1 (by decide)) rfl hn rfl (wg_app hO2) rfl rfl (Nat.le_of_ble_eq_true rfl) d_D_init_21 ?_
  have hO3 := wg_up (y := (.inr (1, [.ref hs, .ref hl, .int 0]))) (wg_app (w2 := [(hl, .inr (4, [.int (nI 0), .ref z.1, .int 0]))]) hO2)
  refine u_aload_n hC d_D_init_24 rfl ?_
  refine u_iconst hC (nI 0) d_D_init_25 (by decide) ?_
  refine w_put hC f_D_22 (tt_D 2 (by decide)) rfl hO3 rfl rfl (Nat.le_of_ble_eq_true rfl) d_D_init_26 ?_
  rw [wup_wup]
  exact u_vret hC hr d_D_init_29 (Nat.le_of_ble_eq_true rfl) (Nat.le_of_ble_eq_true rfl) ⟨rfl, hs, hl, wg_up (x := (.inr (1, [.ref hs, .null, .int 0]))) (wg_app hO2), by rw [wg_upN hne]; exact wg_app hS2, ⟨nI 0, z.1, by rw [wg_upN hne2]; exact wg_push hhl, Or.inl ⟨rfl, rfl, rfl⟩⟩, (fun j t _ h => by cases h), (fun i j t _ _ h => by cases h), (fun i j s t _ _ h => by cases h), fun i h => absurd h (Nat.not_lt_zero i), fun i j h => absurd h (Nat.not_lt_zero i)⟩
end DZ1
