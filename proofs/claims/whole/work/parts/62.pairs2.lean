section PB
variable {l : Launch} {D : va_G} {κ : Nat → ClassId} {z : Nat × Nat} {T cap : Nat} {w1 w2 : va_W} {h0 b0 : Nat}
theorem pr_state (hI : Inv κ z T cap w1 w2 h0 b0) (x : Int32) : Pr l D κ z T cap w1 w2 h0 b0 y_D_state y_M_state b_D_state b_M_state 3 2 (some .int) 4 1 [.int x] := by
  have hI0 := hI
  obtain ⟨hs, hl, C, tr, na, mo, to, co, sn, nb, n, el, ro, lv, cd, pl, a, st, be, rm, pm, ha, mm, cc, tm, sm, le, hK, hcap, rfl, rfl, hS, hz⟩ := hI
  by_cases hx : ∃ i : Nat, 1 ≤ i ∧ i ≤ n ∧ x = nI i
  · obtain ⟨i, i1, i2, rfl⟩ := hx
    have e := (hS.2.2.2.2.1 (i - 1) (by omega)).2.1
    rw [show i - 1 + 1 = i by omega] at e
    have hM := c_M_stateT (l := l) (D := D) (κ := κ) (z := z) (a := a) (g := nI n) (cm := nI C) (st := st) (be := be) (ro := rm) (pl := pm) (ha := ha) (mo := mm) (co := cc) (to := tm) (sn := sm) (le := le) rfl hS.1.1 i1 i2
    rw [e] at hM
    exact Pr.read hI0 (c_D_stateT hK hS.1.1 (by omega) i1 i2) hM
  · exact Pr.read hI0 (c_D_stateF hK hS.1.1 (by omega) hx) (c_M_stateF rfl hS.1.1 hx)
theorem pr_root (hI : Inv κ z T cap w1 w2 h0 b0) (x : Int32) : Pr l D κ z T cap w1 w2 h0 b0 y_D_root y_M_root b_D_root b_M_root 3 2 (some .int) 4 1 [.int x] := by
  have hI0 := hI
  obtain ⟨hs, hl, C, tr, na, mo, to, co, sn, nb, n, el, ro, lv, cd, pl, a, st, be, rm, pm, ha, mm, cc, tm, sm, le, hK, hcap, rfl, rfl, hS, hz⟩ := hI
  by_cases hx : ∃ i : Nat, 1 ≤ i ∧ i ≤ n ∧ x = nI i
  · obtain ⟨i, i1, i2, rfl⟩ := hx
    have e := (hS.2.2.2.2.1 (i - 1) (by omega)).1
    rw [show i - 1 + 1 = i by omega] at e
    have hM := c_M_rootT (l := l) (D := D) (κ := κ) (z := z) (a := a) (g := nI n) (cm := nI C) (st := st) (be := be) (ro := rm) (pl := pm) (ha := ha) (mo := mm) (co := cc) (to := tm) (sn := sm) (le := le) rfl hS.1.1 i1 i2
    rw [e] at hM
    exact Pr.read hI0 (c_D_rootT hK hS.1.1 (by omega) i1 i2) hM
  · exact Pr.read hI0 (c_D_rootF hK hS.1.1 (by omega) hx) (c_M_rootF rfl hS.1.1 hx)
theorem pr_place (hI : Inv κ z T cap w1 w2 h0 b0) (x : Int32) : Pr l D κ z T cap w1 w2 h0 b0 y_D_place y_M_place b_D_place b_M_place 3 2 (some .int) 4 1 [.int x] := by
  have hI0 := hI
  obtain ⟨hs, hl, C, tr, na, mo, to, co, sn, nb, n, el, ro, lv, cd, pl, a, st, be, rm, pm, ha, mm, cc, tm, sm, le, hK, hcap, rfl, rfl, hS, hz⟩ := hI
  by_cases hx : ∃ i : Nat, 1 ≤ i ∧ i ≤ n ∧ x = nI i
  · obtain ⟨i, i1, i2, rfl⟩ := hx
    have e := (hS.2.2.2.2.1 (i - 1) (by omega)).2.2.1
    rw [show i - 1 + 1 = i by omega] at e
    have hM := c_M_placeT (l := l) (D := D) (κ := κ) (z := z) (a := a) (g := nI n) (cm := nI C) (st := st) (be := be) (ro := rm) (pl := pm) (ha := ha) (mo := mm) (co := cc) (to := tm) (sn := sm) (le := le) rfl hS.1.1 i1 i2
    rw [e] at hM
    exact Pr.read hI0 (c_D_placeT hK hS.1.1 (by omega) i1 i2) hM
  · exact Pr.read hI0 (c_D_placeF hK hS.1.1 (by omega) hx) (c_M_placeF rfl hS.1.1 hx)
variable {hs hl n C : Nat} {tr : Nat → Option Nat} {na el a : Nat → Nat} {mo to co sn : Nat → Int32} {nb : Nat → Nat → Int32} {ro lv cd pl st be rm pm ha mm cc tm sm le : Nat → Int32}
/-- what a number did in a command: seen on both sides, or on none -/
theorem seen_given (hK : Dk κ z w1 h0 hs hl cap (nI C) tr na mo to co sn nb n el ro lv cd pl) (hS : Sim T n C tr mo to co sn nb ro lv cd pl st be rm pm ha mm cc tm sm le) {j t i : Nat} (hj : j < 6) (ht : tr j = some t) (i1 : 1 ≤ i) (i2 : i ≤ n) (c : Int32) :
    ∃ v : Int32, Ct l y_D_seesDeed b_D_seesDeed 3 (some .boolean) 1 0 0 D (gk κ, z) w1 [.ref t, .ref (el (i - 1)), .int c] (rt (.int v) w1) ∧ Ct l y_M_isSeen b_M_isSeen 4 (some .boolean) 1 0 0 D (gk κ, z) (mw κ a (nI n) (nI C) st be rm pm ha mm cc tm sm le) [.ref (a 0), .int (nI j), .int (nI i), .int c] (rt (.int v) (mw κ a (nI n) (nI C) st be rm pm ha mm cc tm sm le)) := by
  obtain ⟨hT, hN⟩ := hK.2.2.2.1 j t hj ht
  have hG := hK.2.2.2.2.2.2.1 (i - 1) (by omega)
  obtain ⟨hh, e1, e2, e3, e4, e5⟩ := hS.2.2.1 j t hj ht
  obtain ⟨f1, f2, f3, f4, f5, _⟩ := hS.2.2.2.2.1 (i - 1) (by omega)
  have ei : i - 1 + 1 = i := by omega
  rw [ei] at f1 f2 f3
  have hn4 := hS.1.1
  rcases f4 with d | d | d
  · obtain ⟨j', t', q, b1, b2, b3, b4, b5, b6⟩ := hS.2.2.2.2.2.1 (i - 1) (by omega) d
    rw [ei] at b4
    have hdv : be i / nI 8 = nI j' := by rw [b4, n_8d (by omega)]; congr 1; omega
    have hM := c_M_isSeenR (l := l) (D := D) (κ := κ) (z := z) (a := a) (g := nI n) (cm := nI C) (st := st) (be := be) (ro := rm) (pl := pm) (ha := ha) (mo := mm) (co := cc) (to := tm) (sn := sm) (le := le) (cd := c) hj rfl hn4 i1 i2 (f2.trans d)
    rw [hdv, e2] at hM
    by_cases ho : ro (i - 1) = nb j 0
    · obtain ⟨q', c1, c2, c3⟩ := hS.of1 hj ht (by omega) d ho
      rw [ei, b4] at c2
      have ej : j' = j := by
        have := (nI_eq (by omega) (by omega)).mp c2
        omega
      subst ej
      refine ⟨_, c_D_sdO hT hN hG (by rw [d]; exact n13) ho, ?_⟩
      have eif : (if nI j' = nI j' ∧ c < co j' then (1 : Int32) else 0) = if c < co j' then 1 else 0 := by
        by_cases w : c < co j'
        · rw [if_pos w, if_pos ⟨rfl, w⟩]
        · rw [if_neg w, if_neg (fun q => w q.2)]
      rw [eif] at hM
      exact hM
    · have ej : ¬ nI j' = nI j := fun w => by
        have := (nI_eq (by omega) (by omega)).mp w
        subst this
        exact ho b6
      rw [if_neg (fun q => ej q.1)] at hM
      have hD := c_D_sdE (l := l) (D := D) (z := z) hT hN hG (x := c) (by rw [d]; exact n13) ho
      rw [if_neg (fun q => n12 (d.symm.trans q.1))] at hD
      exact ⟨0, hD, hM⟩
  · have ho : ¬ ro (i - 1) = nb j 0 := fun w => by
      rcases hS.2.2.2.2.2.2.1 j t (i - 1) hj ht (by omega) w with q | ⟨q, _⟩
      · exact n23 (d.symm.trans q)
      · exact n12 (q.symm.trans d)
    have hM := c_M_isSeenC (l := l) (D := D) (κ := κ) (z := z) (a := a) (g := nI n) (cm := nI C) (st := st) (be := be) (ro := rm) (pl := pm) (ha := ha) (mo := mm) (co := cc) (to := tm) (sn := sm) (le := le) (cd := c) hj rfl hn4 i1 i2 (by rw [f2, d]; exact n23) (by rw [f2, d]; exact fun q => n12 q.symm)
    have hD := c_D_sdE (l := l) (D := D) (z := z) hT hN hG (x := c) (by rw [d]; exact n23) ho
    rw [e4, f3] at hM
    refine ⟨_, hD, ?_⟩
    have eif : (if sn j < pl (i - 1) then (0 : Int32) else 1) = if cd (i - 1) = nI 2 ∧ ¬ sn j < pl (i - 1) then 1 else 0 := by
      by_cases w : sn j < pl (i - 1)
      · rw [if_pos w, if_neg (fun q => q.2 w)]
      · rw [if_neg w, if_pos ⟨d, w⟩]
    rw [eif] at hM
    exact hM
  · exact ⟨0, c_D_sdA hT hN hG d, c_M_isSeenF3 hj rfl hn4 i1 i2 (f2.trans d)⟩
theorem seen_any (hK : Dk κ z w1 h0 hs hl cap (nI C) tr na mo to co sn nb n el ro lv cd pl) (hcap : cap ≤ 6000) (hS : Sim T n C tr mo to co sn nb ro lv cd pl st be rm pm ha mm cc tm sm le) {j t : Nat} (hj : j < 6) (ht : tr j = some t) (x c : Int32) :
    ∃ (w : Value) (v : Int32), Ct l y_D_find b_D_find 2 (some (.object "SnapshotDesk$Given")) 3 0 0 D (gk κ, z) w1 [.ref h0, .int x] (rt w w1) ∧ Ct l y_D_seesDeed b_D_seesDeed 3 (some .boolean) 1 0 0 D (gk κ, z) w1 [.ref t, w, .int c] (rt (.int v) w1) ∧ Ct l y_M_isSeen b_M_isSeen 4 (some .boolean) 1 0 0 D (gk κ, z) (mw κ a (nI n) (nI C) st be rm pm ha mm cc tm sm le) [.ref (a 0), .int (nI j), .int x, .int c] (rt (.int v) (mw κ a (nI n) (nI C) st be rm pm ha mm cc tm sm le)) := by
  by_cases hx : ∃ i : Nat, 1 ≤ i ∧ i ≤ n ∧ x = nI i
  · obtain ⟨i, i1, i2, rfl⟩ := hx
    obtain ⟨v, h1, h2⟩ := seen_given (l := l) (D := D) (a := a) hK hS hj ht i1 i2 c
    exact ⟨_, v, c_D_findT hK hS.1.1 (by omega) i1 i2, h1, h2⟩
  · exact ⟨.null, 0, c_D_findF hK hS.1.1 (by omega) hx, c_D_sdN, c_M_isSeenF0 rfl hS.1.1 hx⟩
theorem pr_sees (hI : Inv κ z T cap w1 w2 h0 b0) (hT : T ≤ 600) (s x1 c1 x2 c2 : Int32) : Pr l D κ z T cap w1 w2 h0 b0 y_D_sees y_M_sees b_D_sees b_M_sees 7 6 (some .boolean) 4 2 [.int s, .int x1, .int c1, .int x2, .int c2] := by
  have hI0 := hI
  obtain ⟨hs, hl, C, tr, na, mo, to, co, sn, nb, n, el, ro, lv, cd, pl, a, st, be, rm, pm, ha, mm, cc, tm, sm, le, hK, hcap, rfl, rfl, hS, hz⟩ := hI
  by_cases hb : ∃ j t : Nat, j < 6 ∧ s = nI j ∧ tr j = some t
  · obtain ⟨j, t, hj, rfl, ht⟩ := hb
    have hh := (hS.2.2.1 j t hj ht).1
    have hsn := hS.snap hT hj ht
    by_cases h1 : sn j = -1
    · exact Pr.read hI0 (c_D_seesF1 hK hj ht h1) (c_M_seesF1 hj hh (hsn.mpr h1))
    · obtain ⟨wa, va, A1, A2, A3⟩ := seen_any (l := l) (D := D) (a := a) hK hcap hS hj ht x1 c1
      obtain ⟨wb, vb, B1, B2, B3⟩ := seen_any (l := l) (D := D) (a := a) hK hcap hS hj ht x2 c2
      exact Pr.read hI0 (c_D_seesT hK hj ht h1 A1 A2 B1 B2) (c_M_seesT hj hh (fun w => h1 (hsn.mp w)) A3 B3)
  · exact Pr.read hI0 (c_D_seesF0 hK hb) (c_M_seesF0 (hS.run hb))
theorem pr_ending (hI : Inv κ z T cap w1 w2 h0 b0) (hT : T ≤ 600) (s x c : Int32) : Pr l D κ z T cap w1 w2 h0 b0 y_D_ending y_M_ending b_D_ending b_M_ending 7 5 (some .int) 4 2 [.int s, .int x, .int c] := by
  have hI0 := hI
  obtain ⟨hs, hl, C, tr, na, mo, to, co, sn, nb, n, el, ro, lv, cd, pl, a, st, be, rm, pm, ha, mm, cc, tm, sm, le, hK, hcap, rfl, rfl, hS, hz⟩ := hI
  by_cases hb : ∃ j t : Nat, j < 6 ∧ s = nI j ∧ tr j = some t
  · obtain ⟨j, t, hj, rfl, ht⟩ := hb
    have hh := (hS.2.2.1 j t hj ht).1
    have hsn := hS.snap hT hj ht
    have hn4 := hS.1.1
    by_cases h1 : sn j = -1
    · exact Pr.read hI0 (c_D_endF1 hK hj ht h1) (c_M_endingF1 hj hh (hsn.mpr h1))
    · have h1m : ¬ sm j < 0 := fun w => h1 (hsn.mp w)
      by_cases hx : ∃ i : Nat, 1 ≤ i ∧ i ≤ n ∧ x = nI i
      · obtain ⟨i, i1, i2, rfl⟩ := hx
        have ei : i - 1 + 1 = i := by omega
        obtain ⟨f1, f2, f3, f4, f5, _⟩ := hS.2.2.2.2.1 (i - 1) (by omega)
        rw [ei] at f1 f2 f3
        obtain ⟨v, A2, A3⟩ := seen_given (l := l) (D := D) (a := a) hK hS hj ht i1 i2 c
        rcases f4 with d | d | d
        · obtain ⟨j', t', q, b1, b2, b3, b4, b5, b6⟩ := hS.2.2.2.2.2.1 (i - 1) (by omega) d
          rw [ei] at b4
          have hdv : be i / nI 8 = nI j' := by rw [b4, n_8d (by omega)]; congr 1; omega
          have hM := c_M_endingR hj hh h1m rfl hn4 i1 i2 (f2.trans d) A3
          rw [hdv] at hM
          by_cases ho : ro (i - 1) = nb j 0
          · obtain ⟨q', k1, k2, k3⟩ := hS.of1 hj ht (by omega) d ho
            rw [ei, b4] at k2
            have ej : j' = j := by
              have := (nI_eq (by omega) (by omega)).mp k2
              omega
            subst ej
            rw [if_pos rfl] at hM
            exact Pr.read hI0 (c_D_endO hK hn4 (by omega) hj ht h1 i1 i2 (by rw [d]; exact n13) A2 ho) hM
          · have ej : ¬ nI j' = nI j := fun w => by
              have := (nI_eq (by omega) (by omega)).mp w
              subst this
              exact ho b6
            rw [if_neg ej] at hM
            exact Pr.read hI0 (c_D_endR hK hn4 (by omega) hj ht h1 i1 i2 d A2 ho) hM
        · have ho : ¬ ro (i - 1) = nb j 0 := fun w => by
            rcases hS.2.2.2.2.2.2.1 j t (i - 1) hj ht (by omega) w with q | ⟨q, _⟩
            · exact n23 (d.symm.trans q)
            · exact n12 (q.symm.trans d)
          exact Pr.read hI0 (c_D_endC hK hn4 (by omega) hj ht h1 i1 i2 (by rw [d]; exact n23) (by rw [d]; exact fun q => n12 q.symm) A2 ho) (c_M_endingC hj hh h1m rfl hn4 i1 i2 (by rw [f2, d]; exact n23) (by rw [f2, d]; exact fun q => n12 q.symm) A3)
        · exact Pr.read hI0 (c_D_endA hK hn4 (by omega) hj ht h1 i1 i2 d) (c_M_endingA hj hh h1m rfl hn4 i1 i2 (f2.trans d))
      · exact Pr.read hI0 (c_D_endN hK hn4 (by omega) hj ht h1 hx) (c_M_endingN hj hh h1m rfl hn4 hx)
  · exact Pr.read hI0 (c_D_endF0 hK hb) (c_M_endingF0 (hS.run hb))
theorem ok_iff (hS : Sim T n C tr mo to co sn nb ro lv cd pl st be rm pm ha mm cc tm sm le) (hT : T ≤ 600) {q : Nat} {x : Int32} (hx : pm q = x) {s : Nat} (hs9 : s < 6) : m_ok ha sm pm q s ↔ d_ok tr sn x s := by
  unfold m_ok d_ok
  rw [hx]
  constructor
  · intro w t ht
    rcases w with w | w | w
    · exact absurd w (hS.2.2.1 s t hs9 ht).1
    · exact Or.inl ((hS.snap hT hs9 ht).mp w)
    · rw [(hS.2.2.1 s t hs9 ht).2.2.2.2.1] at w; exact Or.inr w
  · intro w
    cases ht : tr s with
    | none => exact Or.inl (hS.2.1 s hs9 ht)
    | some t =>
      rcases w t ht with w | w
      · exact Or.inr (Or.inl ((hS.snap hT hs9 ht).mpr w))
      · rw [(hS.2.2.1 s t hs9 ht).2.2.2.2.1]; exact Or.inr (Or.inr w)
theorem pr_dead (hI : Inv κ z T cap w1 w2 h0 b0) (hT : T ≤ 600) (x y : Int32) : Pr l D κ z T cap w1 w2 h0 b0 y_D_dead y_M_dead b_D_dead b_M_dead 4 5 (some .boolean) 4 1 [.int x, .int y] := by
  have hI0 := hI
  obtain ⟨hs, hl, C, tr, na, mo, to, co, sn, nb, n, el, ro, lv, cd, pl, a, st, be, rm, pm, ha, mm, cc, tm, sm, le, hK, hcap, rfl, rfl, hS, hz⟩ := hI
  have hn4 := hS.1.1
  by_cases hx : ∃ i : Nat, 1 ≤ i ∧ i ≤ n ∧ x = nI i
  · obtain ⟨i, i1, i2, rfl⟩ := hx
    have ei : i - 1 + 1 = i := by omega
    have f2 := (hS.2.2.2.2.1 (i - 1) (by omega)).2.1
    rw [ei] at f2
    have hM : ∃ r : Int32, (st i = nI 3 → r = 1) ∧ (¬ st i = nI 3 → ∃ (w : Value) (v : Int32), r = (if v = 0 then 0 else 1) ∧ Ct l y_D_find b_D_find 2 (some (.object "SnapshotDesk$Given")) 3 0 0 D (gk κ, z) w1 [.ref h0, .int y] (rt w w1) ∧ Ct l y_D_isInEveryLiveSnapshot b_D_isInEveryLiveSnapshot 4 (some .boolean) 1 0 0 D (gk κ, z) w1 [.ref h0, w] (rt (.int v) w1)) ∧ Ct l y_M_dead b_M_dead 5 (some .boolean) 1 0 0 D (gk κ, z) (mw κ a (nI n) (nI C) st be rm pm ha mm cc tm sm le) [.ref (a 0), .int (nI i), .int y] (rt (.int r) (mw κ a (nI n) (nI C) st be rm pm ha mm cc tm sm le)) := by
      by_cases hy : ∃ q : Nat, 1 ≤ q ∧ q ≤ n ∧ y = nI q
      · obtain ⟨q, q1, q2, rfl⟩ := hy
        have eq : q - 1 + 1 = q := by omega
        have g2 := (hS.2.2.2.2.1 (q - 1) (by omega)).2.1
        have g3 := (hS.2.2.2.2.1 (q - 1) (by omega)).2.2.1
        rw [eq] at g2 g3
        have hG := hK.2.2.2.2.2.2.1 (q - 1) (by omega)
        by_cases h2 : st q = nI 2
        · by_cases ho : ∀ s, s < 6 → m_ok ha sm pm q s
          · refine ⟨1, fun _ => rfl, fun _ => ⟨_, 1, rfl, c_D_findT hK hn4 (by omega) q1 q2, c_D_ieT hG hK (g2.symm.trans h2) (fun s hs9 => (ok_iff hS hT g3 hs9).mp (ho s hs9))⟩, c_M_deadY rfl hn4 i1 i2 q1 q2 h2 ho⟩
          · refine ⟨_, fun w => if_pos w, fun w => ⟨_, 0, (if_neg w).trans rfl, c_D_findT hK hn4 (by omega) q1 q2, c_D_ieF hG hK (g2.symm.trans h2) (fun w9 => ho (fun s hs9 => (ok_iff hS hT g3 hs9).mpr (w9 s hs9)))⟩, c_M_deadZ rfl hn4 i1 i2 q1 q2 h2 ho⟩
        · refine ⟨_, fun w => if_pos w, fun w => ⟨_, 0, (if_neg w).trans rfl, c_D_findT hK hn4 (by omega) q1 q2, c_D_ieU hG (fun w9 => h2 (g2.trans w9))⟩, c_M_deadU rfl hn4 i1 i2 q1 q2 h2⟩
      · refine ⟨_, fun w => if_pos w, fun w => ⟨_, 0, (if_neg w).trans rfl, c_D_findF hK hn4 (by omega) hy, c_D_ieN⟩, c_M_deadN rfl hn4 i1 i2 hy⟩
    obtain ⟨r, r1, r2, hM⟩ := hM
    by_cases h3 : cd (i - 1) = nI 3
    · have e := r1 (f2.trans h3)
      subst e
      exact Pr.read hI0 (c_D_deadA hK hn4 (by omega) i1 i2 h3) hM
    · obtain ⟨w, v, e, k1, k2⟩ := r2 (fun w => h3 (f2.symm.trans w))
      subst e
      exact Pr.read hI0 (c_D_deadE hK hn4 (by omega) i1 i2 h3 k1 k2) hM
  · exact Pr.read hI0 (c_D_deadF hK hn4 (by omega) hx) (c_M_deadF rfl hn4 hx)
theorem pr_look (hI : Inv κ z T cap w1 w2 h0 b0) (s x : Int32) : Pr l D κ z T cap w1 w2 h0 b0 y_D_look y_M_look b_D_look b_M_look 4 3 (some .int) 2 1 [.int s, .int x] := by
  have hI0 := hI
  obtain ⟨hs, hl, C, tr, na, mo, to, co, sn, nb, n, el, ro, lv, cd, pl, a, st, be, rm, pm, ha, mm, cc, tm, sm, le, hK, hcap, rfl, rfl, hS, hz⟩ := hI
  by_cases h5 : x = nI 5
  · subst h5; exact Pr.read hI0 (c_D_look5 hK) c_M_look5
  · by_cases h6 : x = nI 6
    · subst h6; exact Pr.read hI0 (c_D_look6 hK) c_M_look6
    · by_cases hb : ∃ j t : Nat, j < 6 ∧ s = nI j ∧ tr j = some t
      · obtain ⟨j, t, hj, rfl, ht⟩ := hb
        obtain ⟨hh, e1, e2, e3, e4, e5⟩ := hS.2.2.1 j t hj ht
        obtain ⟨u, u7, hu, hnl, _⟩ := hS.2.2.2.1 j t hj ht
        obtain ⟨hT, hN⟩ := hK.2.2.2.1 j t hj ht
        by_cases hx : ∃ i : Nat, i ≤ 4 ∧ x = nI i
        · obtain ⟨i, i4, rfl⟩ := hx
          have hc : i = 0 ∨ i = 1 ∨ i = 2 ∨ i = 3 ∨ i = 4 := by omega
          rcases hc with rfl | rfl | rfl | rfl | rfl
          · have hM := c_M_look0 (l := l) (D := D) (κ := κ) (z := z) (a := a) (g := nI n) (cm := nI C) (st := st) (be := be) (ro := rm) (pl := pm) (mo := mm) (co := cc) (to := tm) (sn := sm) (le := le) hj hh (e3.trans hu) u7
            rw [e1] at hM
            exact Pr.read hI0 (c_D_lookT hK hj ht h5 h6 (c_D_la0 hT hN hu u7)) hM
          · have hM := c_M_look1 (l := l) (D := D) (κ := κ) (z := z) (a := a) (g := nI n) (cm := nI C) (st := st) (be := be) (ro := rm) (pl := pm) (mo := mm) (co := cc) (to := tm) (sn := sm) (le := le) hj hh (e3.trans hu) u7
            rw [e2] at hM
            exact Pr.read hI0 (c_D_lookT hK hj ht h5 h6 (c_D_la1 hT hN hu u7)) hM
          · have hM := c_M_look2 (l := l) (D := D) (κ := κ) (z := z) (a := a) (g := nI n) (cm := nI C) (st := st) (be := be) (ro := rm) (pl := pm) (mo := mm) (co := cc) (to := tm) (sn := sm) (le := le) hj hh (e3.trans hu) u7
            rw [e3] at hM
            exact Pr.read hI0 (c_D_lookT hK hj ht h5 h6 (c_D_la2 hT hN hu u7)) hM
          · have hM := c_M_look3 (l := l) (D := D) (κ := κ) (z := z) (a := a) (g := nI n) (cm := nI C) (st := st) (be := be) (ro := rm) (pl := pm) (mo := mm) (co := cc) (to := tm) (sn := sm) (le := le) hj hh (e3.trans hu) u7
            rw [← hnl u (Nat.le_refl _)] at hM
            exact Pr.read hI0 (c_D_lookT hK hj ht h5 h6 (c_D_la3 hT hN hu u7)) hM
          · have hM := c_M_look4 (l := l) (D := D) (κ := κ) (z := z) (a := a) (g := nI n) (cm := nI C) (st := st) (be := be) (ro := rm) (pl := pm) (mo := mm) (co := cc) (to := tm) (sn := sm) (le := le) hj hh (e3.trans hu) u7
            rw [e4] at hM
            exact Pr.read hI0 (c_D_lookT hK hj ht h5 h6 (c_D_la4 hT hN hu u7)) hM
        · exact Pr.read hI0 (c_D_lookT hK hj ht h5 h6 (c_D_laX hx)) (c_M_lookF1 hj hh h5 h6 hx)
      · exact Pr.read hI0 (c_D_lookF hK hb h5 h6) (c_M_lookF0 (hS.run hb) h5 h6)
theorem pr_crash (hI : Inv κ z T cap w1 w2 h0 b0) : ∃ w2' : va_W, Ct l y_D_crash b_D_crash 2 none 5 0 0 D (gk κ, z) w1 [.ref h0] (fun v w' => v = none ∧ Inv κ z (T + 1) cap w' w2' h0 b0) ∧ Ct l y_M_crash b_M_crash 3 none 3 0 0 D (gk κ, z) w2 [.ref b0] (rtv w2') := by
  obtain ⟨hs, hl, C, tr, na, mo, to, co, sn, nb, n, el, ro, lv, cd, pl, a, st, be, rm, pm, ha, mm, cc, tm, sm, le, hK, hcap, rfl, rfl, hS, hz⟩ := hI
  obtain ⟨k1, k2⟩ := Sim.crash be rm mm cc tm sm le mo to co sn ro lv pl nb 6 0 tr cd st pm ha rfl hS hz
  refine ⟨_, (c_D_crash hK hS.1.1 (by omega)).mono ?_, c_M_crash rfl hS.1.1⟩
  rintro v w' ⟨rfl, hk⟩
  exact ⟨rfl, hs, hl, C, _, _, _, _, _, _, _, n, el, _, _, _, _, a, _, _, _, _, _, _, _, _, _, _, hk, hcap, rfl, rfl, k1.mono (Nat.le_succ T), k2⟩
end PB
