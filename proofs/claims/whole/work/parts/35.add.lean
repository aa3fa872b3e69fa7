/-- the list at hl holds el 0, .., el (n - 1); cap places -/
def Lst (κ : Nat → ClassId) (z : Nat × Nat) (ws : va_W) (hl n : Nat) (el : Nat → Nat) (cap : Nat) : Prop := ∃ (mc : Int32) (he : Nat), wg ws hl = some (cL mc he n) ∧ ((he = z.1 ∧ n = 0 ∧ cap = 0) ∨ (10 ≤ cap ∧ n ≤ cap ∧ ∃ f : Nat → Option Nat, wg ws he = some (aQ κ 3 cap f) ∧ (∀ i, i < n → f i = some (el i)) ∧ ∀ i, n ≤ i → f i = none))
def gcap (n cap : Nat) : Nat := if n < cap then cap else if cap = 0 then 10 else cap + cap / 2
def gslots (n cap : Nat) : Nat := if n < cap then 0 else gcap n cap
/-- nothing else has changed -/
def Lfr (κ : Nat → ClassId) (hl cap : Nat) (ws w' : va_W) : Prop := ∀ (b : Nat) (x : va_E), wg ws b = some x → b ≠ hl → (∀ f, x ≠ aQ κ 3 cap f) → wg w' b = some x
/-- the elements are objects that the list may hold -/
def Lgv (ws : va_W) (n : Nat) (el : Nat → Nat) : Prop := ∀ i, i < n → ∃ fs : List Value, wg ws (el i) = some (.inr (2, fs))
theorem Lst.moved {κ : Nat → ClassId} {z : Nat × Nat} {ws w' : va_W} {hl n cap : Nat} {el : Nat → Nat} (h : Lst κ z ws hl n el cap) (hk : ∀ b x, wg ws b = some x → (∃ fs, x = .inr (4, fs)) ∨ (∃ f, x = aQ κ 3 cap f ∧ 10 ≤ cap) → wg w' b = some x) : Lst κ z w' hl n el cap := by
  obtain ⟨mc, he, h1, h2⟩ := h
  refine ⟨mc, he, hk _ _ h1 (Or.inl ⟨_, rfl⟩), ?_⟩
  rcases h2 with h2 | ⟨a1, a2, f, a3, a4⟩
  · exact Or.inl h2
  · exact Or.inr ⟨a1, a2, f, hk _ _ a3 (Or.inr ⟨f, rfl, a1⟩), a4⟩
section LJ
variable {l : Launch} {D : va_G} {κ : Nat → ClassId} {z : Nat × Nat} {ws : va_W}
set_option maxHeartbeats 4000000 in
set_option maxRecDepth 100000 in
theorem c_L_addR {hl he n : Nat} {mc : Int32} (hL : wg ws hl = some (cL mc he n)) {cap : Nat} {f : Nat → Option Nat} (hE : wg ws he = some (aQ κ 3 cap f)) (hcap : cap ≤ 10000) {x : Nat} {vs : List Value} (hx : wg ws x = some (.inr (2, vs))) (hn9 : n < cap) : Ct l y_L_add b_L_add 2 (some .boolean) 6 1 0 D (gk κ, z) ws [.ref hl, .ref x] (rt (.int 1) (wup (wup (wup ws hl (cL (mc + nI 1) he n)) he (aQ κ 3 cap (va_up f n (some x)))) hl (cL (mc + nI 1) he (n + 1)))) := by
  refine Ct.of (by decide) (Nat.le_of_ble_eq_true rfl) ?_
  intro p e s0 m below meth c A hC hr hn
  refine u_aload_n hC d_L_add_0 rfl ?_
  refine u_dup hC d_L_add_1 rfl ?_
  refine w_get hC f_L_63 hL rfl d_L_add_2 ?_
  refine u_iconst hC (nI 1) d_L_add_5 (by decide) ?_
  refine u_iadd hC d_L_add_6 ?_
  refine w_put hC f_L_63 (tt_L 0 (by decide)) rfl hL rfl rfl (Nat.le_of_ble_eq_true rfl) d_L_add_7 ?_
  have ne3 : x ≠ hl := wg_ne hx hL (by intro w; cases w)
  have hL1 : wg (wup ws hl (cL (mc + nI 1) he n)) hl = some (cL (mc + nI 1) he n) := wg_up hL
  have hx1 : wg (wup ws hl (cL (mc + nI 1) he n)) x = some (.inr (2, vs)) := by rw [wg_upN ne3]; exact hx
  have hE1 : wg (wup ws hl (cL (mc + nI 1) he n)) he = some (aQ κ 3 cap f) := by rw [wg_upN (wg_ne hE hL (by intro w; cases w))]; exact hE
  refine u_aload_n hC d_L_add_10 rfl ?_
  refine u_aload_n hC d_L_add_11 rfl ?_
  refine u_aload_n hC d_L_add_12 rfl ?_
  refine w_get hC f_L_9 hL1 rfl d_L_add_13 ?_
  refine u_aload_n hC d_L_add_16 rfl ?_
  refine w_get hC f_L_48 hL1 rfl d_L_add_17 ?_
  refine w_callVv hC (c_L_add3R hL1 hE1 hcap hx1 hn9) k_L_131 i_L_add3 hL1 rfl ⟨(Nat.le_of_ble_eq_true rfl), (Nat.le_of_ble_eq_true rfl)⟩ ⟨(Nat.le_of_ble_eq_true rfl), (Nat.le_of_ble_eq_true rfl)⟩ rfl rfl (Nat.le_of_ble_eq_true rfl) d_L_add_20 ?_
  refine u_iconst hC (nI 1) d_L_add_23 (by decide) ?_
  exact u_zret hC hr rfl d_L_add_24 (Nat.le_of_ble_eq_true rfl) (Nat.le_of_ble_eq_true rfl) ⟨rfl, rfl⟩
set_option maxHeartbeats 4000000 in
set_option maxRecDepth 100000 in
theorem c_L_addG {hl he cap : Nat} {mc : Int32} (hL : wg ws hl = some (cL mc he cap)) {f : Nat → Option Nat} (hE : wg ws he = some (aQ κ 3 cap f)) (h1 : 10 ≤ cap) (h2 : cap ≤ 5000) (hel : ∀ i : Nat, i < cap → ∀ y : Nat, f i = some y → ∃ fs : List Value, wg ws y = some (.inr (2, fs))) {x : Nat} {vs : List Value} (hx : wg ws x = some (.inr (2, vs))) : Ct l y_L_add b_L_add 2 (some .boolean) 6 1 (cap + cap / 2) D (gk κ, z) ws [.ref hl, .ref x] (fun v w' => v = some (.int 1) ∧ ∃ q : Nat, wg (wup ws hl (cL (mc + nI 1) he cap)) q = none ∧ w' = wup (wup (wup (wup ws hl (cL (mc + nI 1) he cap) ++ [(q, aQ κ 3 (cap + cap / 2) (va_cpy f (fun _ => none) 0 0 cap))]) hl (cL (mc + nI 1) q cap)) q (aQ κ 3 (cap + cap / 2) (va_up (va_cpy f (fun _ => none) 0 0 cap) cap (some x)))) hl (cL (mc + nI 1) q (cap + 1))) := by
  refine Ct.of (by decide) (Nat.le_of_ble_eq_true rfl) ?_
  intro p e s0 m below meth c A hC hr hn
  refine u_aload_n hC d_L_add_0 rfl ?_
  refine u_dup hC d_L_add_1 rfl ?_
  refine w_get hC f_L_63 hL rfl d_L_add_2 ?_
  refine u_iconst hC (nI 1) d_L_add_5 (by decide) ?_
  refine u_iadd hC d_L_add_6 ?_
  refine w_put hC f_L_63 (tt_L 0 (by decide)) rfl hL rfl rfl (Nat.le_of_ble_eq_true rfl) d_L_add_7 ?_
  have ne3 : x ≠ hl := wg_ne hx hL (by intro w; cases w)
  have hL1 : wg (wup ws hl (cL (mc + nI 1) he cap)) hl = some (cL (mc + nI 1) he cap) := wg_up hL
  have hx1 : wg (wup ws hl (cL (mc + nI 1) he cap)) x = some (.inr (2, vs)) := by rw [wg_upN ne3]; exact hx
  have hE1 : wg (wup ws hl (cL (mc + nI 1) he cap)) he = some (aQ κ 3 cap f) := by rw [wg_upN (wg_ne hE hL (by intro w; cases w))]; exact hE
  have hel1 : ∀ i : Nat, i < cap → ∀ y : Nat, f i = some y → ∃ fs : List Value, wg (wup ws hl (cL (mc + nI 1) he cap)) y = some (.inr (2, fs)) := by
    intro i hi y hy
    obtain ⟨fs, h9⟩ := hel i hi y hy
    exact ⟨fs, by rw [wg_upN (wg_ne h9 hL (by intro w; cases w))]; exact h9⟩
  refine u_aload_n hC d_L_add_10 rfl ?_
  refine u_aload_n hC d_L_add_11 rfl ?_
  refine u_aload_n hC d_L_add_12 rfl ?_
  refine w_get hC f_L_9 hL1 rfl d_L_add_13 ?_
  refine u_aload_n hC d_L_add_16 rfl ?_
  refine w_get hC f_L_48 hL1 rfl d_L_add_17 ?_
  refine w_callV hC (c_L_add3G hL1 hE1 h1 h2 hel1 hx1) k_L_131 i_L_add3 hL1 rfl ⟨(Nat.le_of_ble_eq_true rfl), (Nat.le_of_ble_eq_true rfl)⟩ ⟨(Nat.le_of_ble_eq_true rfl), (Nat.le_of_eq (Nat.zero_add _))⟩ rfl rfl (Nat.le_of_ble_eq_true rfl) d_L_add_20 (fun v w' hp => ?_)
  obtain ⟨rfl, q, hq, rfl⟩ := hp
  refine u_iconst hC (nI 1) d_L_add_23 (by decide) ?_
  exact u_zret hC hr rfl d_L_add_24 (by omega) (by omega) ⟨rfl, q, hq, rfl⟩
set_option maxHeartbeats 4000000 in
set_option maxRecDepth 100000 in
theorem c_L_addF {hl : Nat} {mc : Int32} (hL : wg ws hl = some (cL mc z.1 0)) {x : Nat} {vs : List Value} (hx : wg ws x = some (.inr (2, vs))) : Ct l y_L_add b_L_add 2 (some .boolean) 6 1 10 D (gk κ, z) ws [.ref hl, .ref x] (fun v w' => v = some (.int 1) ∧ ∃ q : Nat, wg (wup ws hl (cL (mc + nI 1) z.1 0)) q = none ∧ w' = wup (wup (wup (wup ws hl (cL (mc + nI 1) z.1 0) ++ [(q, aQ κ 3 10 (fun _ => none))]) hl (cL (mc + nI 1) q 0)) q (aQ κ 3 10 (va_up (fun _ => none) 0 (some x)))) hl (cL (mc + nI 1) q 1)) := by
  refine Ct.of (by decide) (Nat.le_of_ble_eq_true rfl) ?_
  intro p e s0 m below meth c A hC hr hn
  refine u_aload_n hC d_L_add_0 rfl ?_
  refine u_dup hC d_L_add_1 rfl ?_
  refine w_get hC f_L_63 hL rfl d_L_add_2 ?_
  refine u_iconst hC (nI 1) d_L_add_5 (by decide) ?_
  refine u_iadd hC d_L_add_6 ?_
  refine w_put hC f_L_63 (tt_L 0 (by decide)) rfl hL rfl rfl (Nat.le_of_ble_eq_true rfl) d_L_add_7 ?_
  have ne3 : x ≠ hl := wg_ne hx hL (by intro w; cases w)
  have hL1 : wg (wup ws hl (cL (mc + nI 1) z.1 0)) hl = some (cL (mc + nI 1) z.1 0) := wg_up hL
  have hx1 : wg (wup ws hl (cL (mc + nI 1) z.1 0)) x = some (.inr (2, vs)) := by rw [wg_upN ne3]; exact hx
  refine u_aload_n hC d_L_add_10 rfl ?_
  refine u_aload_n hC d_L_add_11 rfl ?_
  refine u_aload_n hC d_L_add_12 rfl ?_
  refine w_get hC f_L_9 hL1 rfl d_L_add_13 ?_
  refine u_aload_n hC d_L_add_16 rfl ?_
  refine w_get hC f_L_48 hL1 rfl d_L_add_17 ?_
  refine w_callV hC (c_L_add3F hL1 hx1) k_L_131 i_L_add3 hL1 rfl ⟨(Nat.le_of_ble_eq_true rfl), (Nat.le_of_ble_eq_true rfl)⟩ ⟨(Nat.le_of_ble_eq_true rfl), (Nat.le_of_ble_eq_true rfl)⟩ rfl rfl (Nat.le_of_ble_eq_true rfl) d_L_add_20 (fun v w' hp => ?_)
  obtain ⟨rfl, q, hq, rfl⟩ := hp
  refine u_iconst hC (nI 1) d_L_add_23 (by decide) ?_
  exact u_zret hC hr rfl d_L_add_24 (Nat.le_of_ble_eq_true rfl) (Nat.le_of_ble_eq_true rfl) ⟨rfl, q, hq, rfl⟩
theorem Ct.mono {y : MethodName} {b : ByteArray} {nL : Nat} {ret : Option FieldType} {h mc ms : Nat} {G : u_G} {av : List Value} {post post' : Option Value → va_W → Prop} (hM : Ct l y b nL ret h mc ms D G ws av post) (hp : ∀ v w', post v w' → post' v w') : Ct l y b nL ret h mc ms D G ws av post' := by
  intro sz p e ha hc hk s m args below hf happ hP hK
  obtain ⟨n, o, h1, h2, h3, ⟨⟨v, w', q1, q2, q3⟩, q4⟩, h5⟩ := hM sz p e ha hc hk s m args below hf happ hP hK
  exact ⟨n, o, h1, h2, h3, ⟨⟨v, w', q1, hp v w' q2, q3⟩, q4⟩, h5⟩
theorem Ct.room {y : MethodName} {b : ByteArray} {nL : Nat} {ret : Option FieldType} {h mc ms mc' ms' : Nat} {G : u_G} {av : List Value} {post : Option Value → va_W → Prop} (hM : Ct l y b nL ret h mc ms D G ws av post) (h1 : mc = mc') (h2 : ms = ms') : Ct l y b nL ret h mc' ms' D G ws av post := by
  subst h1 h2
  exact hM
theorem c_L_get {hl n cap i : Nat} {el : Nat → Nat} (h : Lst κ z ws hl n el cap) (hcap : cap ≤ 10000) (hi : i < n) : Ct l y_L_get b_L_get 2 (some (.object "java/lang/Object")) 2 0 0 D (gk κ, z) ws [.ref hl, .int (nI i)] (rt (.ref (el i)) ws) := by
  obtain ⟨mc, he, h1, h2⟩ := h
  rcases h2 with ⟨_, h3, _⟩ | ⟨_, a2, f, a3, a4, _⟩
  · omega
  · exact c_L_get0 h1 a3 hcap a2 hi (a4 i hi)
theorem c_L_add {hl n cap x : Nat} {el : Nat → Nat} {vs : List Value} (h : Lst κ z ws hl n el cap) (hg : Lgv ws n el) (hn : n ≤ 4000) (hcap : cap ≤ 10000) (hx : wg ws x = some (.inr (2, vs))) : Ct l y_L_add b_L_add 2 (some .boolean) 6 1 (gslots n cap) D (gk κ, z) ws [.ref hl, .ref x] (fun v w' => v = some (.int 1) ∧ Lst κ z w' hl (n + 1) (va_up el n x) (gcap n cap) ∧ Lfr κ hl cap ws w') := by
  obtain ⟨mc, he, hL, h2⟩ := h
  have hup : ∀ i, i < n + 1 → (i = n ∧ va_up el n x i = x) ∨ (i < n ∧ va_up el n x i = el i) := by
    intro i hi
    by_cases c : i = n
    · exact Or.inl ⟨c, by rw [c]; exact if_pos rfl⟩
    · exact Or.inr ⟨by omega, if_neg c⟩
  rcases h2 with ⟨rfl, rfl, rfl⟩ | ⟨a1, a2, f, hE, a4, a5⟩
  · have e1 : gcap 0 0 = 10 := rfl
    have e2 : gslots 0 0 = 10 := rfl
    rw [e1, e2]
    refine Ct.mono (c_L_addF hL hx) (fun v w' hp => ?_)
    obtain ⟨rfl, q, hq, rfl⟩ := hp
    have ne1 : q ≠ hl := fun w => by rw [w, wg_up hL] at hq; cases hq
    have hq0 : wg ws q = none := by rw [wg_upN ne1] at hq; exact hq
    refine ⟨rfl, ⟨mc + nI 1, q, wg_up (x := cL (mc + nI 1) q 0) (by rw [wg_upN (Ne.symm ne1)]; exact wg_up (wg_app (wg_up hL))), Or.inr ⟨by omega, by omega, va_up (fun _ => none) 0 (some x), ?_, ?_, ?_⟩⟩, ?_⟩
    · rw [wg_upN ne1]
      exact wg_up (x := aQ κ 3 10 (fun _ => none)) (by rw [wg_upN ne1]; exact wg_push hq)
    · intro i hi
      have e : i = 0 := by omega
      subst e
      rfl
    · intro i hi
      exact if_neg (by omega)
    · intro b y hb h1 _
      have ne2 : b ≠ q := fun w => by rw [w, hq0] at hb; cases hb
      rw [wg_upN h1, wg_upN ne2, wg_upN h1]
      exact wg_app (by rw [wg_upN h1]; exact hb)
  · by_cases hc : n < cap
    · have e1 : gcap n cap = cap := if_pos hc
      have e2 : gslots n cap = 0 := if_pos hc
      rw [e1, e2]
      refine Ct.mono (c_L_addR hL hE hcap hx hc) (fun v w' hp => ?_)
      obtain ⟨rfl, rfl⟩ := hp
      have ne1 : he ≠ hl := wg_ne hE hL (by intro w; cases w)
      refine ⟨rfl, ⟨mc + nI 1, he, wg_up (x := cL (mc + nI 1) he n) (by rw [wg_upN (Ne.symm ne1)]; exact wg_up hL), Or.inr ⟨a1, by omega, va_up f n (some x), ?_, ?_, ?_⟩⟩, ?_⟩
      · rw [wg_upN ne1]
        exact wg_up (x := aQ κ 3 cap f) (by rw [wg_upN ne1]; exact hE)
      · intro i hi
        rcases hup i hi with ⟨w1, w2⟩ | ⟨w1, w2⟩
        · rw [w2, w1]; exact if_pos rfl
        · rw [w2]; exact (if_neg (by omega)).trans (a4 i w1)
      · intro i hi
        exact (if_neg (by omega)).trans (a5 i (by omega))
      · intro b y hb h1 h3
        have ne2 : b ≠ he := fun w => by
          rw [w, hE] at hb
          exact h3 f (Option.some.inj hb).symm
        rw [wg_upN h1, wg_upN ne2, wg_upN h1]
        exact hb
    · have e0 : n = cap := by omega
      subst e0
      have e1 : gcap n n = n + n / 2 := by
        unfold gcap
        rw [if_neg hc, if_neg (by omega)]
      have e2 : gslots n n = n + n / 2 := (if_neg hc).trans e1
      rw [e1, e2]
      have hel : ∀ i : Nat, i < n → ∀ y : Nat, f i = some y → ∃ fs : List Value, wg ws y = some (.inr (2, fs)) := by
        intro i hi y hy
        rw [a4 i hi] at hy
        rw [← Option.some.inj hy]
        exact hg i hi
      refine Ct.mono (c_L_addG hL hE a1 (by omega) hel hx) (fun v w' hp => ?_)
      obtain ⟨rfl, q, hq, rfl⟩ := hp
      have ne1 : q ≠ hl := fun w => by rw [w, wg_up hL] at hq; cases hq
      have hq0 : wg ws q = none := by rw [wg_upN ne1] at hq; exact hq
      refine ⟨rfl, ⟨mc + nI 1, q, wg_up (x := cL (mc + nI 1) q n) (by rw [wg_upN (Ne.symm ne1)]; exact wg_up (wg_app (wg_up hL))), Or.inr ⟨by omega, by omega, va_up (va_cpy f (fun _ => none) 0 0 n) n (some x), ?_, ?_, ?_⟩⟩, ?_⟩
      · rw [wg_upN ne1]
        exact wg_up (x := aQ κ 3 (n + n / 2) (va_cpy f (fun _ => none) 0 0 n)) (by rw [wg_upN ne1]; exact wg_push hq)
      · intro i hi
        rcases hup i hi with ⟨w1, w2⟩ | ⟨w1, w2⟩
        · rw [w2, w1]; exact if_pos rfl
        · rw [w2]
          refine (if_neg (by omega)).trans ?_
          rw [pk_cpy_in (by omega) (by omega), Nat.zero_add, Nat.sub_zero]
          exact a4 i w1
      · intro i hi
        refine (if_neg (by omega)).trans ?_
        exact pk_cpy_out (Or.inr (by omega))
      · intro b y hb h1 _
        have ne2 : b ≠ q := fun w => by rw [w, hq0] at hb; cases hb
        rw [wg_upN h1, wg_upN ne2, wg_upN h1]
        exact wg_app (by rw [wg_upN h1]; exact hb)
end LJ
