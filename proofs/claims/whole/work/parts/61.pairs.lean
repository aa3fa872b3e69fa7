/-! Each call on both: the answers are one, and the states stay side by side. -/
def Inv (κ : Nat → ClassId) (z : Nat × Nat) (T cap : Nat) (w1 w2 : va_W) (h0 b0 : Nat) : Prop :=
  ∃ (hs hl C : Nat) (tr : Nat → Option Nat) (na : Nat → Nat) (mo to co sn : Nat → Int32) (nb : Nat → Nat → Int32) (n : Nat) (el : Nat → Nat) (ro lv cd pl : Nat → Int32) (a : Nat → Nat) (st be rm pm ha mm cc tm sm le : Nat → Int32),
    Dk κ z w1 h0 hs hl cap (nI C) tr na mo to co sn nb n el ro lv cd pl ∧ cap ≤ 6000 ∧ a 0 = b0 ∧ w2 = mw κ a (nI n) (nI C) st be rm pm ha mm cc tm sm le ∧ Sim T n C tr mo to co sn nb ro lv cd pl st be rm pm ha mm cc tm sm le ∧ Pz n pm
theorem Inv.mono {κ : Nat → ClassId} {z : Nat × Nat} {T T' cap : Nat} {w1 w2 : va_W} {h0 b0 : Nat} (h : Inv κ z T cap w1 w2 h0 b0) (hT : T ≤ T') : Inv κ z T' cap w1 w2 h0 b0 := by
  obtain ⟨hs, hl, C, tr, na, mo, to, co, sn, nb, n, el, ro, lv, cd, pl, a, st, be, rm, pm, ha, mm, cc, tm, sm, le, hK, hcap, h1, h2, hS, hz⟩ := h
  exact ⟨hs, hl, C, tr, na, mo, to, co, sn, nb, n, el, ro, lv, cd, pl, a, st, be, rm, pm, ha, mm, cc, tm, sm, le, hK, hcap, h1, h2, hS.mono hT, hz⟩
theorem Inv.cap6 {κ : Nat → ClassId} {z : Nat × Nat} {T cap : Nat} {w1 w2 : va_W} {h0 b0 : Nat} (h : Inv κ z T cap w1 w2 h0 b0) : cap ≤ 6000 := by
  obtain ⟨hs, hl, C, tr, na, mo, to, co, sn, nb, n, el, ro, lv, cd, pl, a, st, be, rm, pm, ha, mm, cc, tm, sm, le, hK, hcap, _⟩ := h
  exact hcap
def Pr (l : Launch) (D : va_G) (κ : Nat → ClassId) (z : Nat × Nat) (T cap : Nat) (w1 w2 : va_W) (h0 b0 : Nat) (yD yM : MethodName) (bD bM : ByteArray) (nD nM : Nat) (ret : Option FieldType) (hD hM : Nat) (As : List Value) : Prop :=
  ∃ (mc ms cap' : Nat) (r : Int32) (w2' : va_W), mc ≤ 16 ∧ ms + 4 * cap ≤ 4 * cap' + 48 ∧ cap' ≤ 6000 ∧ Ct l yD bD nD ret hD mc ms D (gk κ, z) w1 (.ref h0 :: As) (fun v w' => v = some (.int r) ∧ Inv κ z (T + 1) cap' w' w2' h0 b0) ∧ Ct l yM bM nM ret hM 0 0 D (gk κ, z) w2 (.ref b0 :: As) (rt (.int r) w2')
section PA
variable {l : Launch} {D : va_G} {κ : Nat → ClassId} {z : Nat × Nat} {T cap : Nat} {w1 w2 : va_W} {h0 b0 : Nat}
theorem Pr.read {yD yM : MethodName} {bD bM : ByteArray} {nD nM : Nat} {ret : Option FieldType} {hD hM : Nat} {As : List Value} {r : Int32} (hI : Inv κ z T cap w1 w2 h0 b0) (h1 : Ct l yD bD nD ret hD 0 0 D (gk κ, z) w1 (.ref h0 :: As) (rt (.int r) w1)) (h2 : Ct l yM bM nM ret hM 0 0 D (gk κ, z) w2 (.ref b0 :: As) (rt (.int r) w2)) : Pr l D κ z T cap w1 w2 h0 b0 yD yM bD bM nD nM ret hD hM As :=
  ⟨0, 0, cap, r, w2, by omega, by omega, hI.cap6, h1.mono (fun v w' hp => ⟨hp.1, by rw [hp.2]; exact hI.mono (Nat.le_succ T)⟩), h2⟩
theorem md2 {x : Int32} : ¬ nI 2 ≤ x ↔ ¬ nI 1 < x := by
  rw [Int32.le_iff_toInt_le, Int32.lt_iff_toInt_lt, nI_toInt (by decide), nI_toInt (by decide)]
  omega
variable {n C : Nat} {tr : Nat → Option Nat} {mo to co sn : Nat → Int32} {nb : Nat → Nat → Int32} {ro lv cd pl st be rm pm ha mm cc tm sm le : Nat → Int32}
theorem Sim.has (h : Sim T n C tr mo to co sn nb ro lv cd pl st be rm pm ha mm cc tm sm le) {j : Nat} (hj : j < 6) : ha j = 0 ↔ tr j = none := by
  constructor
  · intro w
    cases ht : tr j with
    | none => rfl
    | some t => exact absurd w (h.2.2.1 j t hj ht).1
  · exact h.2.1 j hj
theorem Sim.run (h : Sim T n C tr mo to co sn nb ro lv cd pl st be rm pm ha mm cc tm sm le) {s : Int32} (hb : ¬ ∃ j t : Nat, j < 6 ∧ s = nI j ∧ tr j = some t) : ¬ ∃ j : Nat, j < 6 ∧ s = nI j ∧ ¬ ha j = 0 := by
  rintro ⟨j, hj, e, hh⟩
  cases ht : tr j with
  | none => exact hh ((h.has hj).mpr ht)
  | some t => exact hb ⟨j, t, hj, e, ht⟩
theorem Sim.snap (h : Sim T n C tr mo to co sn nb ro lv cd pl st be rm pm ha mm cc tm sm le) (hT : T ≤ 600) {j t : Nat} (hj : j < 6) (ht : tr j = some t) : sm j < 0 ↔ sn j = -1 := by
  obtain ⟨_, _, _, _, e, w⟩ := h.2.2.1 j t hj ht
  rw [e]
  constructor
  · intro hlt
    rcases w with w | ⟨x, hx, w⟩
    · exact w
    · rw [w] at hlt; exact absurd hlt (nI_pos (by omega))
  · intro w; rw [w]; decide
theorem pr_begin (hI : Inv κ z T cap w1 w2 h0 b0) (s md : Int32) : Pr l D κ z T cap w1 w2 h0 b0 y_D_begin y_M_begin b_D_begin b_M_begin 3 3 (some .boolean) 2 0 [.int s, .int md] := by
  have hI0 := hI
  obtain ⟨hs, hl, C, tr, na, mo, to, co, sn, nb, n, el, ro, lv, cd, pl, a, st, be, rm, pm, ha, mm, cc, tm, sm, le, hK, hcap, rfl, rfl, hS, hz⟩ := hI
  by_cases hb : (∃ j : Nat, j < 6 ∧ s = nI j ∧ tr j = none) ∧ ¬ md < 0 ∧ ¬ nI 2 ≤ md
  · obtain ⟨⟨j, hj, rfl, ht⟩, hm0, hm1⟩ := hb
    refine ⟨2, 13, cap, 1, _, by omega, by omega, by omega, (c_D_beginT hK hj ht hm0 hm1).mono ?_, c_M_beginT hj ((hS.has hj).mpr ht) hm0 (md2.mp hm1)⟩
    rintro v w' ⟨rfl, t, q, hk⟩
    exact ⟨rfl, hs, hl, C, _, _, _, _, _, _, _, n, el, ro, lv, cd, pl, a, st, be, rm, pm, _, _, _, _, _, _, hk, hcap, rfl, rfl, (hS.beg hj ht).mono (Nat.le_succ T), hz⟩
  · refine Pr.read hI0 (r := 0) ?_ (c_M_beginF (fun w => hb ?_))
    · by_cases hs9 : ∃ j : Nat, j < 6 ∧ s = nI j
      · obtain ⟨j, hj, rfl⟩ := hs9
        by_cases hm : ¬ md < 0 ∧ ¬ nI 2 ≤ md
        · cases ht : tr j with
          | none => exact absurd ⟨⟨j, hj, rfl, ht⟩, hm.1, hm.2⟩ hb
          | some t => exact c_D_beginH hK hj ht hm.1 hm.2
        · exact c_D_beginM hj hm
      · exact c_D_beginB hs9
    · obtain ⟨⟨j, hj, e, hh⟩, a1, a2⟩ := w
      exact ⟨⟨j, hj, e, (hS.has hj).mp hh⟩, a1, md2.mpr a2⟩
theorem pr_statement (hI : Inv κ z T cap w1 w2 h0 b0) (hT : T ≤ 600) (s : Int32) : Pr l D κ z T cap w1 w2 h0 b0 y_D_statement y_M_statement b_D_statement b_M_statement 3 2 (some .int) 2 1 [.int s] := by
  have hI0 := hI
  obtain ⟨hs, hl, C, tr, na, mo, to, co, sn, nb, n, el, ro, lv, cd, pl, a, st, be, rm, pm, ha, mm, cc, tm, sm, le, hK, hcap, rfl, rfl, hS, hz⟩ := hI
  by_cases hb : ∃ j t : Nat, j < 6 ∧ s = nI j ∧ tr j = some t
  · obtain ⟨j, t, hj, rfl, ht⟩ := hb
    obtain ⟨hh, e1, e2, e3, e4, e5⟩ := hS.2.2.1 j t hj ht
    have hM := c_M_statementT (l := l) (D := D) (κ := κ) (z := z) (a := a) (g := nI n) (cm := nI C) (st := st) (be := be) (ro := rm) (pl := pm) (mo := mm) (co := cc) (to := tm) (sn := sm) (le := le) hj hh
    have hsn := hS.snap hT hj ht
    rw [e1, e2] at hM
    by_cases hm : mo j = 0 ∨ sn j = -1
    · rw [if_pos (hm.imp id hsn.mpr)] at hM
      refine ⟨0, 0, cap, co j + nI 1, _, by omega, by omega, by omega, Ct.mono (post := fun v w' => v = some (.int (co j + nI 1)) ∧ Dk κ z w' h0 hs hl cap (nI C) tr na mo to (upd co j (co j + nI 1)) (upd sn j (nI C)) nb n el ro lv cd pl) ?_ ?_, hM⟩
      · by_cases hm0 : mo j = 0
        · exact c_D_statementA1 hK hj ht hm0
        · exact c_D_statementA2 hK hj ht hm0 (hm.resolve_left hm0)
      · rintro v w' ⟨rfl, hk⟩
        exact ⟨rfl, hs, hl, C, _, _, _, _, _, _, _, n, el, ro, lv, cd, pl, a, st, be, rm, pm, _, _, _, _, _, _, hk, hcap, rfl, rfl, (hS.stmt hj (Or.inr ⟨C, hS.1.2, rfl⟩)).mono (Nat.le_succ T), hz⟩
    · rw [if_neg (fun w => hm (w.imp id hsn.mp)), m_upd_id] at hM
      refine ⟨0, 0, cap, co j + nI 1, _, by omega, by omega, by omega, (c_D_statementB hK hj ht (fun w => hm (Or.inl w)) (fun w => hm (Or.inr w))).mono ?_, hM⟩
      rintro v w' ⟨rfl, hk⟩
      have hs9 := (hS.stmt (c' := co j + nI 1) (s' := sn j) hj e5).mono (Nat.le_succ T)
      rw [m_upd_id, ← e4, m_upd_id] at hs9
      exact ⟨rfl, hs, hl, C, _, _, _, _, _, _, _, n, el, ro, lv, cd, pl, a, st, be, rm, pm, _, _, _, _, _, _, hk, hcap, rfl, rfl, hs9, hz⟩
  · exact Pr.read hI0 (c_D_statementF hK hb) (c_M_statementF (hS.run hb))
theorem pr_save (hI : Inv κ z T cap w1 w2 h0 b0) (s : Int32) : Pr l D κ z T cap w1 w2 h0 b0 y_D_save y_M_save b_D_save b_M_save 3 2 (some .int) 2 1 [.int s] := by
  have hI0 := hI
  obtain ⟨hs, hl, C, tr, na, mo, to, co, sn, nb, n, el, ro, lv, cd, pl, a, st, be, rm, pm, ha, mm, cc, tm, sm, le, hK, hcap, rfl, rfl, hS, hz⟩ := hI
  by_cases hb : ∃ j t : Nat, j < 6 ∧ s = nI j ∧ tr j = some t
  · obtain ⟨j, t, hj, rfl, ht⟩ := hb
    obtain ⟨hh, e1, e2, e3, e4, e5⟩ := hS.2.2.1 j t hj ht
    obtain ⟨u, u7, hu, _, _⟩ := hS.2.2.2.1 j t hj ht
    by_cases c : u = 7
    · subst c
      exact Pr.read hI0 (c_D_saveN hK hj ht hu) (c_M_saveN hj hh (e3.trans hu))
    · refine ⟨0, 0, cap, _, _, by omega, by omega, by omega, (c_D_saveT hK hj ht hu (by omega)).mono ?_, c_M_saveT hj hh (e3.trans hu) (by omega)⟩
      rintro v w' ⟨rfl, hk⟩
      exact ⟨rfl, hs, hl, C, _, _, _, _, _, _, _, n, el, ro, lv, cd, pl, a, st, be, rm, pm, _, _, _, _, _, _, hk, hcap, rfl, rfl, (hS.save hj ht hu (by omega)).mono (Nat.le_succ T), hz⟩
  · exact Pr.read hI0 (c_D_saveF hK hb) (c_M_saveF (hS.run hb))
theorem n_lvx {x : Int32} {u : Nat} (hu : u ≤ 7) (hk : ¬ ∃ k : Nat, 1 ≤ k ∧ k ≤ u ∧ x = nI k) : ¬ (¬ x < nI 1 ∧ ¬ nI u < x) := fun w => hk (n_rng (by omega) (by decide) w.1 w.2)
theorem pr_release (hI : Inv κ z T cap w1 w2 h0 b0) (s x : Int32) : Pr l D κ z T cap w1 w2 h0 b0 y_D_release y_M_release b_D_release b_M_release 6 4 (some .boolean) 4 1 [.int s, .int x] := by
  have hI0 := hI
  obtain ⟨hs, hl, C, tr, na, mo, to, co, sn, nb, n, el, ro, lv, cd, pl, a, st, be, rm, pm, ha, mm, cc, tm, sm, le, hK, hcap, rfl, rfl, hS, hz⟩ := hI
  by_cases hb : ∃ j t : Nat, j < 6 ∧ s = nI j ∧ tr j = some t
  · obtain ⟨j, t, hj, rfl, ht⟩ := hb
    obtain ⟨hh, e1, e2, e3, e4, e5⟩ := hS.2.2.1 j t hj ht
    obtain ⟨u, u7, hu, _, _⟩ := hS.2.2.2.1 j t hj ht
    by_cases hk : ∃ k : Nat, 1 ≤ k ∧ k ≤ u ∧ x = nI k
    · obtain ⟨k, k1, k2, rfl⟩ := hk
      refine ⟨0, 0, cap, 1, _, by omega, by omega, by omega, (c_D_releaseT hK hS.1.1 (by omega) hj ht hu u7 k1 k2).mono ?_, c_M_releaseT hj hh (e3.trans hu) u7 rfl hS.1.1 k1 k2⟩
      rintro v w' ⟨rfl, hk⟩
      exact ⟨rfl, hs, hl, C, _, _, _, _, _, _, _, n, el, _, _, _, _, a, _, _, _, _, _, _, _, _, _, _, hk, hcap, rfl, rfl, (hS.release hj ht hu u7 k1 k2).mono (Nat.le_succ T), hz⟩
    · exact Pr.read hI0 (c_D_releaseF1 hK hj ht (by rw [hu]; exact n_lvx u7 hk)) (c_M_releaseF1 hj hh (e3.trans hu) u7 hk)
  · exact Pr.read hI0 (c_D_releaseF0 hK hb) (c_M_releaseF0 (hS.run hb))
theorem pr_back (hI : Inv κ z T cap w1 w2 h0 b0) (s x : Int32) : Pr l D κ z T cap w1 w2 h0 b0 y_D_back y_M_back b_D_back b_M_back 4 4 (some .boolean) 4 1 [.int s, .int x] := by
  have hI0 := hI
  obtain ⟨hs, hl, C, tr, na, mo, to, co, sn, nb, n, el, ro, lv, cd, pl, a, st, be, rm, pm, ha, mm, cc, tm, sm, le, hK, hcap, rfl, rfl, hS, hz⟩ := hI
  by_cases hb : ∃ j t : Nat, j < 6 ∧ s = nI j ∧ tr j = some t
  · obtain ⟨j, t, hj, rfl, ht⟩ := hb
    obtain ⟨hh, e1, e2, e3, e4, e5⟩ := hS.2.2.1 j t hj ht
    obtain ⟨u, u7, hu, _, _⟩ := hS.2.2.2.1 j t hj ht
    by_cases hk : ∃ k : Nat, 1 ≤ k ∧ k ≤ u ∧ x = nI k
    · obtain ⟨k, k1, k2, rfl⟩ := hk
      refine ⟨0, 0, cap, 1, _, by omega, by omega, by omega, (c_D_backT hK hS.1.1 (by omega) hj ht hu u7 k1 k2).mono ?_, c_M_backT hj hh (e3.trans hu) u7 rfl hS.1.1 k1 k2⟩
      rintro v w' ⟨rfl, hk⟩
      exact ⟨rfl, hs, hl, C, _, _, _, _, _, _, _, n, el, _, _, _, _, a, _, _, _, _, _, _, _, _, _, _, hk, hcap, rfl, rfl, (hS.back hj ht hu u7 k1 k2).mono (Nat.le_succ T), hz⟩
    · exact Pr.read hI0 (c_D_backF1 hK hj ht (by rw [hu]; exact n_lvx u7 hk)) (c_M_backF1 hj hh (e3.trans hu) u7 hk)
  · exact Pr.read hI0 (c_D_backF0 hK hb) (c_M_backF0 (hS.run hb))
theorem pr_commit (hI : Inv κ z T cap w1 w2 h0 b0) (s : Int32) : Pr l D κ z T cap w1 w2 h0 b0 y_D_commit y_M_commit b_D_commit b_M_commit 3 3 (some .int) 4 2 [.int s] := by
  have hI0 := hI
  obtain ⟨hs, hl, C, tr, na, mo, to, co, sn, nb, n, el, ro, lv, cd, pl, a, st, be, rm, pm, ha, mm, cc, tm, sm, le, hK, hcap, rfl, rfl, hS, hz⟩ := hI
  by_cases hb : ∃ j t : Nat, j < 6 ∧ s = nI j ∧ tr j = some t
  · obtain ⟨j, t, hj, rfl, ht⟩ := hb
    obtain ⟨hh, e1, e2, e3, e4, e5⟩ := hS.2.2.1 j t hj ht
    by_cases h0z : nb j 0 = 0
    · have hno : ∀ i, i < n → ¬ m_from st be (i + 1) (nI j) (nI 0) := fun i hi => hS.cnt0 hj ht h0z hi
      have hM := c_M_commitZ (l := l) (D := D) (κ := κ) (z := z) (a := a) (g := nI n) (cm := nI C) (st := st) (be := be) (ro := rm) (pl := pm) (mo := mm) (co := cc) (to := tm) (sn := sm) (le := le) hj hh rfl hS.1.1 (cnt_zero (n + 1) (fun i hi => hno i (by omega)))
      rw [show m_set st be st (nI j) (nI 0) (nI 2) (n + 1) = st from funext (m_set_no hno), show m_set st be pm (nI j) (nI 0) (nI C + nI 1) (n + 1) = pm from funext (m_set_no hno)] at hM
      refine ⟨0, 0, cap, 0, _, by omega, by omega, by omega, (c_D_commitZ hK hj ht h0z).mono ?_, hM⟩
      rintro v w' ⟨rfl, hk⟩
      exact ⟨rfl, hs, hl, C, _, _, _, _, _, _, _, n, el, _, _, _, _, a, _, _, _, _, _, _, _, _, _, _, hk, hcap, rfl, rfl, (hS.gone hj ht h0z).mono (Nat.le_succ T), hz⟩
    · refine ⟨0, 0, cap, _, _, by omega, by omega, by omega, (c_D_commitT hK hS.1.1 (by omega) hj ht h0z).mono ?_, c_M_commitT hj hh rfl hS.1.1 (hS.cntP hj ht h0z)⟩
      rintro v w' ⟨rfl, hk⟩
      rw [nI_add] at hk
      exact ⟨rfl, hs, hl, C + 1, _, _, _, _, _, _, _, n, el, _, _, _, _, a, _, _, _, _, _, _, _, _, _, _, hk, hcap, rfl, by rw [nI_add], hS.commit hj ht, hz.set⟩
  · exact Pr.read hI0 (c_D_commitF hK hb) (c_M_commitF (hS.run hb))
theorem pr_abort (hI : Inv κ z T cap w1 w2 h0 b0) (s : Int32) : Pr l D κ z T cap w1 w2 h0 b0 y_D_abort y_M_abort b_D_abort b_M_abort 3 3 (some .boolean) 4 2 [.int s] := by
  have hI0 := hI
  obtain ⟨hs, hl, C, tr, na, mo, to, co, sn, nb, n, el, ro, lv, cd, pl, a, st, be, rm, pm, ha, mm, cc, tm, sm, le, hK, hcap, rfl, rfl, hS, hz⟩ := hI
  by_cases hb : ∃ j t : Nat, j < 6 ∧ s = nI j ∧ tr j = some t
  · obtain ⟨j, t, hj, rfl, ht⟩ := hb
    obtain ⟨hh, e1, e2, e3, e4, e5⟩ := hS.2.2.1 j t hj ht
    refine ⟨0, 0, cap, 1, _, by omega, by omega, by omega, (c_D_abortT hK hS.1.1 (by omega) hj ht).mono ?_, c_M_abortT hj hh rfl hS.1.1⟩
    rintro v w' ⟨rfl, hk⟩
    exact ⟨rfl, hs, hl, C, _, _, _, _, _, _, _, n, el, _, _, _, _, a, _, _, _, _, _, _, _, _, _, _, hk, hcap, rfl, rfl, (hS.abort hj ht).mono (Nat.le_succ T), hz.set⟩
  · exact Pr.read hI0 (c_D_abortF hK hb) (c_M_abortF (hS.run hb))
theorem pr_number (hI : Inv κ z T cap w1 w2 h0 b0) (s : Int32) : Pr l D κ z T cap w1 w2 h0 b0 y_D_number y_M_number b_D_number b_M_number 3 4 (some .int) 8 1 [.int s] := by
  have hI0 := hI
  obtain ⟨hs, hl, C, tr, na, mo, to, co, sn, nb, n, el, ro, lv, cd, pl, a, st, be, rm, pm, ha, mm, cc, tm, sm, le, hK, hcap, rfl, rfl, hS, hz⟩ := hI
  by_cases hb : ∃ j t : Nat, j < 6 ∧ s = nI j ∧ tr j = some t
  · obtain ⟨j, t, hj, rfl, ht⟩ := hb
    obtain ⟨hh, e1, e2, e3, e4, e5⟩ := hS.2.2.1 j t hj ht
    obtain ⟨u, u7, hu, hnl, hn0⟩ := hS.2.2.2.1 j t hj ht
    have hmis : d_mis (nb j) (u + 1) 0 = m_mis j le (u + 1) 0 := mis_eq (u + 1) 0 (fun q _ hq => hnl q (by omega))
    by_cases hm : n + d_mis (nb j) (u + 1) 0 ≤ 4000
    · obtain ⟨g1, g2, g3⟩ := Sim.gv hj ht hu u7 (u + 1) 0 n nb ro lv cd pl st be rm le (by omega) hS hz (Or.inl rfl) hm
      have hans : (d_gv (u + 1) 0 (n, nb j, ro, lv, cd, pl)).2.1 u = (m_gv j (u + 1) 0 (n, le, st, be, rm)).2.1 (8 * j + u) := by
        obtain ⟨v, v7, hv, hvl, _⟩ := g2.2.2.2.1 j t hj ht
        have e : v = u := (nI_eq (by omega) (by omega)).mp (hv.symm.trans hu)
        subst e
        have := hvl v (Nat.le_refl _)
        rw [show va_up nb j (d_gv (v + 1) 0 (n, nb j, ro, lv, cd, pl)).2.1 j = (d_gv (v + 1) 0 (n, nb j, ro, lv, cd, pl)).2.1 from if_pos rfl] at this
        exact this
      have hcp := d_cp_le (nb j) (u + 1) 0 n cap hm hcap
      have hge := d_cp_ge (nb j) (u + 1) 0 n cap
      have hM := c_M_numberT (l := l) (D := D) (κ := κ) (z := z) (a := a) (g := nI n) (cm := nI C) (st := st) (be := be) (ro := rm) (pl := pm) (mo := mm) (co := cc) (to := tm) (sn := sm) (le := le) hj hh (e3.trans hu) u7 rfl hS.1.1 (by rw [← hmis]; exact hm)
      rw [← hans] at hM
      refine ⟨2 * (u + 1), 4 * (u + 1) + 4 * (d_cp (nb j) (u + 1) 0 n cap - cap), d_cp (nb j) (u + 1) 0 n cap, _, _, by omega, by omega, by omega, (c_D_numberT hK hS.1.1 hj ht hu u7 hm hcap).mono ?_, hM⟩
      rintro v w' ⟨rfl, el', hk⟩
      exact ⟨rfl, hs, hl, C, _, _, _, _, _, _, _, _, el', _, _, _, _, a, _, _, _, _, _, _, _, _, _, _, hk, hcp, rfl, by rw [g1], g2.mono (Nat.le_succ T), g3⟩
    · exact Pr.read hI0 (c_D_numberN hK hS.1.1 hj ht hu u7 (by omega)) (c_M_numberN hj hh (e3.trans hu) u7 rfl hS.1.1 (by rw [← hmis]; omega))
  · exact Pr.read hI0 (c_D_numberF hK hb) (c_M_numberF (hS.run hb))
end PA
