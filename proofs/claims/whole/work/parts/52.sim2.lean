section SJ
variable {T n C : Nat} {tr : Nat → Option Nat} {mo to co sn : Nat → Int32} {nb : Nat → Nat → Int32} {ro lv cd pl st be rm pm ha mm cc tm sm le : Nat → Int32}
/-- a running number is of one transaction -/
theorem Sim.of1 (h : Sim T n C tr mo to co sn nb ro lv cd pl st be rm pm ha mm cc tm sm le) {j t i : Nat} (hj : j < 6) (ht : tr j = some t) (hi : i < n) (hc : cd i = nI 1) (hr : ro i = nb j 0) : ∃ q, q < 8 ∧ be (i + 1) = nI (8 * j + q) ∧ lv i = nI q := by
  rcases h.2.2.2.2.2.2.1 j t i hj ht hi hr with w | ⟨_, w⟩
  · rw [hc] at w; exact absurd w n13
  · exact w
theorem Sim.release (h : Sim T n C tr mo to co sn nb ro lv cd pl st be rm pm ha mm cc tm sm le) {j t u k : Nat} (hj : j < 6) (ht : tr j = some t) (hu : to j = nI u) (hu7 : u ≤ 7) (h1 : 1 ≤ k) (h2 : k ≤ u) :
    Sim T n C tr mo (upd to j (nI (k - 1))) co sn (va_up nb j (t_clr (nb j) k 8)) ro (dset (d_up ro lv (nb j 0) (nI k)) lv (nI k - nI 1) n) cd pl st (m_set st be be (nI j) (nI k) (nI (8 * j + k - 1)) (n + 1)) rm pm ha mm cc (upd tm j (nI (k - 1))) sm le := by
  have h0 := h
  obtain ⟨a1, a2, a3, a4, a5, a6, a7, a8⟩ := h
  have nb0 : ∀ i, va_up nb j (t_clr (nb j) k 8) i 0 = nb i 0 := by
    intro i
    unfold va_up
    split
    · rename_i e; rw [e]; exact if_neg (by omega)
    · rfl
  have key : ∀ i j' t' q, i < n → cd i = nI 1 → j' < 6 → q < 8 → tr j' = some t' → be (i + 1) = nI (8 * j' + q) → lv i = nI q → ro i = nb j' 0 → ∃ q', q' < 8 ∧ m_set st be be (nI j) (nI k) (nI (8 * j + k - 1)) (n + 1) (i + 1) = nI (8 * j' + q') ∧ dset (d_up ro lv (nb j 0) (nI k)) lv (nI k - nI 1) n i = nI q' ∧ (q = 0 → q' = 0) := by
    intro i j' t' q hi hc hj' hq ht' hb hl hr
    have ho := h0.own hj ht hi (k := k) (by omega)
    by_cases hf : m_from st be (i + 1) (nI j) (nI k)
    · have h3 := ho.mp hf
      obtain ⟨_, e, hkq⟩ := (from_iff hb hj hj' hq (by omega)).mp hf
      subst e
      exact ⟨k - 1, by omega, by rw [m_set_in (by omega) (by omega) hf]; congr 1; omega, by rw [dset_in hi h3.2]; exact n_pred h1, fun _ => by omega⟩
    · have h3 : ¬ d_up ro lv (nb j 0) (nI k) i := fun w => hf (ho.mpr ⟨hc, w⟩)
      exact ⟨q, hq, by rw [m_set_out hf]; exact hb, by rw [dset_out (fun w => h3 w.2)]; exact hl, fun w => w⟩
  refine ⟨a1, a2, fun i t' hi ht' => ?_, fun i t' hi ht' => ?_, a5, fun i hi hc => ?_, fun i t' k' hi ht' hk hr => ?_, fun i t' hi ht' hz => ?_⟩
  · obtain ⟨b1, b2, b3, b4, b5, b6⟩ := a3 i t' hi ht'
    by_cases c : i = j
    · subst c
      rw [pk_us, pk_us]
      exact ⟨b1, b2, b3, rfl, b5, b6⟩
    · rw [pk_un c, pk_un c]
      exact ⟨b1, b2, b3, b4, b5, b6⟩
  · obtain ⟨v, b1, b2, b3, b4⟩ := a4 i t' hi ht'
    by_cases c : i = j
    · subst c
      have e : v = u := (nI_eq (by omega) (by omega)).mp (b2.symm.trans hu)
      subst e
      rw [show va_up nb i (t_clr (nb i) k 8) i = t_clr (nb i) k 8 from if_pos rfl]
      exact ⟨k - 1, by omega, pk_us, fun q hq => (if_neg (by omega)).trans (b3 q (by omega)), fun q h3 h4 => if_pos ⟨by omega, h4⟩⟩
    · rw [show va_up nb j (t_clr (nb j) k 8) i = nb i from if_neg c, pk_un c]
      exact ⟨v, b1, b2, b3, b4⟩
  · obtain ⟨j', t', q, b1, b2, b3, b4, b5, b6⟩ := a6 i hi hc
    obtain ⟨q', c1, c2, c3, _⟩ := key i j' t' q hi hc b1 b2 b3 b4 b5 b6
    exact ⟨j', t', q', b1, c1, b3, c2, c3, by rw [nb0]; exact b6⟩
  · rw [nb0] at hr
    rcases a7 i t' k' hi ht' hk hr with w | ⟨w1, q, w2, w3, w4⟩
    · exact Or.inl w
    · obtain ⟨q', c1, c2, c3, _⟩ := key k' i t' q hk w1 hi w2 ht' w3 w4 hr
      exact Or.inr ⟨w1, q', c1, c2, c3⟩
  · rw [nb0] at hz ⊢
    obtain ⟨m, b1, b2, b3, b4, b5⟩ := a8 i t' hi ht' hz
    have hro : ro m = nb i 0 := by
      obtain ⟨j', t9, q, c1, c2, c3, c4, c5, c6⟩ := a6 m b1 b3
      rw [c4] at b4
      have := (nI_eq (by omega) (by omega)).mp b4
      have e : j' = i := by omega
      rw [← e]
      exact c6
    obtain ⟨q', c1, c2, c3, c4⟩ := key m i t' 0 b1 b3 hi (by omega) ht' b4 b5 hro
    have e := c4 rfl
    subst e
    exact ⟨m, b1, b2, b3, c2, c3⟩
/-- a property that takes all running numbers of a transaction from a level on: what is aborted -/
theorem Sim.abt (h : Sim T n C tr mo to co sn nb ro lv cd pl st be rm pm ha mm cc tm sm le) {j t k : Nat} (hj : j < 6) (ht : tr j = some t) (hk : k ≤ 8) {i : Nat} (hi : i < n) :
    m_set st be st (nI j) (nI k) (nI 3) (n + 1) (i + 1) = dset (d_up ro lv (nb j 0) (nI k)) cd (nI 3) n i ∧ (dset (d_up ro lv (nb j 0) (nI k)) cd (nI 3) n i = nI 1 → cd i = nI 1 ∧ ¬ d_up ro lv (nb j 0) (nI k) i) ∧ (¬ d_up ro lv (nb j 0) (nI k) i → dset (d_up ro lv (nb j 0) (nI k)) cd (nI 3) n i = cd i) ∧ (d_up ro lv (nb j 0) (nI k) i → dset (d_up ro lv (nb j 0) (nI k)) cd (nI 3) n i = nI 3) := by
  have h0 := h
  obtain ⟨a1, a2, a3, a4, a5, a6, a7, a8⟩ := h
  have ho := h0.own hj ht hi (k := k) hk
  by_cases hu : d_up ro lv (nb j 0) (nI k) i
  · rw [dset_in hi hu]
    refine ⟨?_, fun w => absurd w.symm n13, fun w => absurd hu w, fun _ => rfl⟩
    rcases a7 j t i hj ht hi hu.1 with w | ⟨w, _⟩
    · have hf : ¬ m_from st be (i + 1) (nI j) (nI k) := fun q => by
        have := (ho.mp q).1
        rw [w] at this
        exact n13 this.symm
      rw [m_set_out hf, (a5 i hi).2.1, w]
    · exact m_set_in (by omega) (by omega) (ho.mpr ⟨w, hu⟩)
  · rw [dset_out (fun w => hu w.2)]
    exact ⟨by rw [m_set_out (fun q => hu (ho.mp q).2)]; exact (a5 i hi).2.1, fun w => ⟨w, hu⟩, fun _ => rfl, fun w => absurd w hu⟩
theorem Sim.back (h : Sim T n C tr mo to co sn nb ro lv cd pl st be rm pm ha mm cc tm sm le) {j t u k : Nat} (hj : j < 6) (ht : tr j = some t) (hu : to j = nI u) (hu7 : u ≤ 7) (h1 : 1 ≤ k) (h2 : k ≤ u) :
    Sim T n C tr mo (upd to j (nI k)) co sn (va_up nb j (t_clr (nb j) k 8)) ro lv (dset (d_up ro lv (nb j 0) (nI k)) cd (nI 3) n) pl (m_set st be st (nI j) (nI k) (nI 3) (n + 1)) be rm pm ha mm cc (upd tm j (nI k)) sm (upd le (8 * j + k) 0) := by
  have h0 := h
  obtain ⟨a1, a2, a3, a4, a5, a6, a7, a8⟩ := h
  have nb0 : ∀ i, va_up nb j (t_clr (nb j) k 8) i 0 = nb i 0 := by
    intro i
    unfold va_up
    split
    · rename_i e; rw [e]; exact if_neg (by omega)
    · rfl
  have ab := fun i hi => h0.abt hj ht (k := k) (by omega) (i := i) hi
  refine ⟨a1, a2, fun i t' hi ht' => ?_, fun i t' hi ht' => ?_, fun i hi => ?_, fun i hi hc => ?_, fun i t' k' hi ht' hk hr => ?_, fun i t' hi ht' hz => ?_⟩
  · obtain ⟨b1, b2, b3, b4, b5, b6⟩ := a3 i t' hi ht'
    by_cases c : i = j
    · subst c
      rw [pk_us, pk_us]
      exact ⟨b1, b2, b3, rfl, b5, b6⟩
    · rw [pk_un c, pk_un c]
      exact ⟨b1, b2, b3, b4, b5, b6⟩
  · obtain ⟨v, b1, b2, b3, b4⟩ := a4 i t' hi ht'
    by_cases c : i = j
    · subst c
      have e : v = u := (nI_eq (by omega) (by omega)).mp (b2.symm.trans hu)
      subst e
      rw [show va_up nb i (t_clr (nb i) k 8) i = t_clr (nb i) k 8 from if_pos rfl]
      refine ⟨k, by omega, pk_us, fun q hq => ?_, fun q h3 h4 => if_pos ⟨by omega, h4⟩⟩
      by_cases c2 : q = k
      · subst c2
        rw [pk_us]
        exact if_pos ⟨by omega, by omega⟩
      · rw [pk_un (by omega)]
        exact (if_neg (by omega)).trans (b3 q (by omega))
    · rw [show va_up nb j (t_clr (nb j) k 8) i = nb i from if_neg c, pk_un c]
      refine ⟨v, b1, b2, fun q hq => ?_, b4⟩
      rw [pk_un (by omega)]
      exact b3 q hq
  · obtain ⟨b1, b2, b3, b4, b5, b6⟩ := a5 i hi
    obtain ⟨c1, c2, c3, c4⟩ := ab i hi
    refine ⟨b1, c1, b3, ?_, fun w => b5 (c2 w).1, b6⟩
    by_cases hd : d_up ro lv (nb j 0) (nI k) i
    · exact Or.inr (Or.inr (c4 hd))
    · rw [c3 hd]; exact b4
  · obtain ⟨c1, c2, _⟩ := ab i hi
    obtain ⟨j', t', q, b1, b2, b3, b4, b5, b6⟩ := a6 i hi (c2 hc).1
    exact ⟨j', t', q, b1, b2, b3, b4, b5, by rw [nb0]; exact b6⟩
  · rw [nb0] at hr
    obtain ⟨c1, c2, c3, c4⟩ := ab k' hk
    by_cases hd : d_up ro lv (nb j 0) (nI k) k'
    · exact Or.inl (c4 hd)
    · rw [c3 hd]; exact a7 i t' k' hi ht' hk hr
  · rw [nb0] at hz ⊢
    obtain ⟨m, b1, b2, b3, b4, b5⟩ := a8 i t' hi ht' hz
    obtain ⟨c1, c2, c3, c4⟩ := ab m b1
    refine ⟨m, b1, b2, ?_, b4, b5⟩
    rw [c3 (fun w => by
      have := w.2
      rw [b5] at this
      exact this (nI_lt (by omega) (by omega)))]
    exact b3
theorem Sim.abort (h : Sim T n C tr mo to co sn nb ro lv cd pl st be rm pm ha mm cc tm sm le) {j t : Nat} (hj : j < 6) (ht : tr j = some t) :
    Sim T n C (va_up tr j none) mo to co sn nb ro lv (dset (d_up ro lv (nb j 0) (nI 0)) cd (nI 3) n) pl (m_set st be st (nI j) (nI 0) (nI 3) (n + 1)) be rm (m_set st be pm (nI j) (nI 0) (nI 0) (n + 1)) (upd ha j 0) mm cc tm sm le := by
  have h0 := h
  obtain ⟨a1, a2, a3, a4, a5, a6, a7, a8⟩ := h
  have ab := fun i hi => h0.abt hj ht (k := 0) (by omega) (i := i) hi
  have old : ∀ {i s : Nat}, va_up tr j none i = some s → i ≠ j ∧ tr i = some s := by
    intro i s hi
    unfold va_up at hi
    by_cases c : i = j
    · rw [if_pos c] at hi; cases hi
    · rw [if_neg c] at hi; exact ⟨c, hi⟩
  refine ⟨a1, fun i hi hn => ?_, fun i t' hi ht' => ?_, fun i t' hi ht' => a4 i t' hi (old ht').2, fun i hi => ?_, fun i hi hc => ?_, fun i t' k' hi ht' hk hr => ?_, fun i t' hi ht' hz => ?_⟩
  · by_cases c : i = j
    · subst c; exact pk_us
    · rw [show va_up tr j none i = tr i from if_neg c] at hn
      rw [pk_un c]
      exact a2 i hi hn
  · rw [pk_un (old ht').1]
    exact a3 i t' hi (old ht').2
  · obtain ⟨b1, b2, b3, b4, b5, b6⟩ := a5 i hi
    obtain ⟨c1, c2, c3, c4⟩ := ab i hi
    refine ⟨b1, c1, ?_, ?_, fun w => b5 (c2 w).1, b6⟩
    · by_cases hf : m_from st be (i + 1) (nI j) (nI 0)
      · rw [m_set_in (by omega) (by omega) hf]
        exact (b5 (by rw [← b2]; exact hf.1)).symm
      · rw [m_set_out hf]; exact b3
    · by_cases hd : d_up ro lv (nb j 0) (nI 0) i
      · exact Or.inr (Or.inr (c4 hd))
      · rw [c3 hd]; exact b4
  · obtain ⟨c1, c2, _⟩ := ab i hi
    obtain ⟨d1, d2⟩ := c2 hc
    obtain ⟨j', t', q, b1, b2, b3, b4, b5, b6⟩ := a6 i hi d1
    have c : j' ≠ j := fun w => by
      subst w
      exact d2 ⟨b6, by rw [b5]; exact nI_nlt (by omega) (by omega)⟩
    exact ⟨j', t', q, b1, b2, (if_neg c).trans b3, b4, b5, b6⟩
  · obtain ⟨c, ht9⟩ := old ht'
    obtain ⟨c1, c2, c3, c4⟩ := ab k' hk
    by_cases hd : d_up ro lv (nb j 0) (nI 0) k'
    · exact Or.inl (c4 hd)
    · rw [c3 hd]; exact a7 i t' k' hi ht9 hk hr
  · obtain ⟨c, ht9⟩ := old ht'
    obtain ⟨m, b1, b2, b3, b4, b5⟩ := a8 i t' hi ht9 hz
    obtain ⟨c1, c2, c3, c4⟩ := ab m b1
    refine ⟨m, b1, b2, ?_, b4, b5⟩
    rw [c3 (fun w => by
      obtain ⟨q, e1, e2, e3⟩ := h0.of1 hj ht b1 b3 w.1
      rw [b4] at e2
      have := (nI_eq (by omega) (by omega)).mp e2
      omega)]
    exact b3
theorem Sim.commit (h : Sim T n C tr mo to co sn nb ro lv cd pl st be rm pm ha mm cc tm sm le) {j t : Nat} (hj : j < 6) (ht : tr j = some t) {x : Int32} :
    Sim (T + 1) n (C + 1) (va_up tr j none) mo to co sn nb ro lv (dset (d_run ro cd (nb j 0)) cd (nI 2) n) (dset (d_run ro cd (nb j 0)) pl x n) (m_set st be st (nI j) (nI 0) (nI 2) (n + 1)) be rm (m_set st be pm (nI j) (nI 0) x (n + 1)) (upd ha j 0) mm cc tm sm le := by
  have h0 := h.mono (Nat.le_succ T)
  obtain ⟨⟨hn4, hCT⟩, _⟩ := id h
  obtain ⟨a1, a2, a3, a4, a5, a6, a7, a8⟩ := h0
  have own : ∀ i, i < n → (m_from st be (i + 1) (nI j) (nI 0) ↔ d_run ro cd (nb j 0) i) := by
    intro i hi
    refine (h.own hj ht hi (k := 0) (by omega)).trans ⟨fun w => ⟨w.2.1, w.1⟩, fun w => ⟨w.2, w.1, ?_⟩⟩
    obtain ⟨q, e1, e2, e3⟩ := h.of1 hj ht hi w.2 w.1
    rw [e3]
    exact nI_nlt (by omega) (by omega)
  have old : ∀ {i s : Nat}, va_up tr j none i = some s → i ≠ j ∧ tr i = some s := by
    intro i s hi
    unfold va_up at hi
    by_cases c : i = j
    · rw [if_pos c] at hi; cases hi
    · rw [if_neg c] at hi; exact ⟨c, hi⟩
  have run1 : ∀ {i : Nat}, i < n → dset (d_run ro cd (nb j 0)) cd (nI 2) n i = nI 1 → cd i = nI 1 ∧ ¬ d_run ro cd (nb j 0) i := by
    intro i hi w
    by_cases hd : d_run ro cd (nb j 0) i
    · rw [dset_in hi hd] at w; exact absurd w.symm n12
    · rw [dset_out (fun q => hd q.2)] at w; exact ⟨w, hd⟩
  refine ⟨⟨hn4, by omega⟩, fun i hi hn => ?_, fun i t' hi ht' => ?_, fun i t' hi ht' => a4 i t' hi (old ht').2, fun i hi => ?_, fun i hi hc => ?_, fun i t' k' hi ht' hk hr => ?_, fun i t' hi ht' hz => ?_⟩
  · by_cases c : i = j
    · subst c; exact pk_us
    · rw [show va_up tr j none i = tr i from if_neg c] at hn
      rw [pk_un c]
      exact a2 i hi hn
  · rw [pk_un (old ht').1]
    exact a3 i t' hi (old ht').2
  · obtain ⟨b1, b2, b3, b4, b5, b6⟩ := a5 i hi
    by_cases hd : d_run ro cd (nb j 0) i
    · have hf := (own i hi).mpr hd
      rw [dset_in hi hd, dset_in hi hd, m_set_in (by omega) (by omega) hf, m_set_in (by omega) (by omega) hf]
      exact ⟨b1, rfl, rfl, Or.inr (Or.inl rfl), fun w => absurd w.symm n12, b6⟩
    · have hf : ¬ m_from st be (i + 1) (nI j) (nI 0) := fun w => hd ((own i hi).mp w)
      rw [dset_out (fun q => hd q.2), dset_out (fun q => hd q.2), m_set_out hf, m_set_out hf]
      exact ⟨b1, b2, b3, b4, b5, b6⟩
  · obtain ⟨d1, d2⟩ := run1 hi hc
    obtain ⟨j', t', q, b1, b2, b3, b4, b5, b6⟩ := a6 i hi d1
    have c : j' ≠ j := fun w => by
      subst w
      exact d2 ⟨b6, d1⟩
    exact ⟨j', t', q, b1, b2, (if_neg c).trans b3, b4, b5, b6⟩
  · obtain ⟨c, ht9⟩ := old ht'
    by_cases hd : d_run ro cd (nb j 0) k'
    · obtain ⟨q, e1, e2, e3⟩ := h.of1 hj ht hk hd.2 hd.1
      rcases a7 i t' k' hi ht9 hk hr with w | ⟨_, q', w2, w3, _⟩
      · rw [hd.2] at w; exact absurd w n13
      · rw [e2] at w3
        have := (nI_eq (by omega) (by omega)).mp w3
        omega
    · rw [dset_out (fun q => hd q.2)]; exact a7 i t' k' hi ht9 hk hr
  · obtain ⟨c, ht9⟩ := old ht'
    obtain ⟨m, b1, b2, b3, b4, b5⟩ := a8 i t' hi ht9 hz
    refine ⟨m, b1, b2, ?_, b4, b5⟩
    rw [dset_out (fun w => by
      obtain ⟨q, e1, e2, e3⟩ := h.of1 hj ht b1 b3 w.2.1
      rw [b4] at e2
      have := (nI_eq (by omega) (by omega)).mp e2
      omega)]
    exact b3
/-- how many the reference ends -/
theorem Sim.cnt0 (h : Sim T n C tr mo to co sn nb ro lv cd pl st be rm pm ha mm cc tm sm le) {j t : Nat} (hj : j < 6) (ht : tr j = some t) (hz : nb j 0 = 0) {i : Nat} (hi : i < n) : ¬ m_from st be (i + 1) (nI j) (nI 0) := by
  intro w
  have := ((h.own hj ht hi (k := 0) (by omega)).mp w).2.1
  rw [hz] at this
  exact h.root0 hi this
theorem cnt_zero {s k : Int32} : ∀ m : Nat, (∀ i, i + 1 < m → ¬ m_from st be (i + 1) s k) → m_cnt st be s k m = 0
  | 0, _ => rfl
  | m + 1, h => by
    show m_cnt st be s k m + (if 1 ≤ m ∧ m_from st be m s k then 1 else 0) = 0
    rw [cnt_zero m (fun i hi => h i (by omega)), if_neg (fun w => by
      obtain ⟨i, rfl⟩ : ∃ i, m = i + 1 := ⟨m - 1, by omega⟩
      exact h i (by omega) w.2)]
theorem cnt_pos {s k : Int32} {i : Nat} (hf : m_from st be (i + 1) s k) : ∀ m : Nat, i + 1 < m → 0 < m_cnt st be s k m
  | 0, h => by omega
  | m + 1, h => by
    show 0 < m_cnt st be s k m + (if 1 ≤ m ∧ m_from st be m s k then 1 else 0)
    by_cases c : i + 1 = m
    · subst c
      rw [if_pos ⟨by omega, hf⟩]
      omega
    · have := cnt_pos hf m (by omega)
      omega
theorem Sim.cntP (h : Sim T n C tr mo to co sn nb ro lv cd pl st be rm pm ha mm cc tm sm le) {j t : Nat} (hj : j < 6) (ht : tr j = some t) (hz : ¬ nb j 0 = 0) : 0 < m_cnt st be (nI j) (nI 0) (n + 1) := by
  obtain ⟨m, b1, b2, b3, b4, b5⟩ := h.2.2.2.2.2.2.2 j t hj ht hz
  refine cnt_pos (i := m) ?_ (n + 1) (by omega)
  exact (from_iff b4 hj hj (by omega) (by omega)).mpr ⟨by rw [(h.2.2.2.2.1 m b1).2.1]; exact b3, rfl, by omega⟩
/-- nothing runs: nothing changes -/
theorem m_set_no {f : Nat → Int32} {s k x : Int32} (h : ∀ i, i < n → ¬ m_from st be (i + 1) s k) (i : Nat) : m_set st be f s k x (n + 1) i = f i := by
  refine if_neg (fun w => ?_)
  obtain ⟨m, rfl⟩ : ∃ m, i = m + 1 := ⟨i - 1, by omega⟩
  exact h m (by omega) w.2.2
theorem Sim.gone (h : Sim T n C tr mo to co sn nb ro lv cd pl st be rm pm ha mm cc tm sm le) {j t : Nat} (hj : j < 6) (ht : tr j = some t) (hz : nb j 0 = 0) : Sim T n C (va_up tr j none) mo to co sn nb ro lv cd pl st be rm pm (upd ha j 0) mm cc tm sm le := by
  have h0 := h
  obtain ⟨a1, a2, a3, a4, a5, a6, a7, a8⟩ := h
  have old : ∀ {i s : Nat}, va_up tr j none i = some s → i ≠ j ∧ tr i = some s := by
    intro i s hi
    unfold va_up at hi
    by_cases c : i = j
    · rw [if_pos c] at hi; cases hi
    · rw [if_neg c] at hi; exact ⟨c, hi⟩
  refine ⟨a1, fun i hi hn => ?_, fun i t' hi ht' => ?_, fun i t' hi ht' => a4 i t' hi (old ht').2, a5, fun i hi hc => ?_, fun i t' k' hi ht' hk hr => a7 i t' k' hi (old ht').2 hk hr, fun i t' hi ht' hz => a8 i t' hi (old ht').2 hz⟩
  · by_cases c : i = j
    · subst c; exact pk_us
    · rw [show va_up tr j none i = tr i from if_neg c] at hn
      rw [pk_un c]
      exact a2 i hi hn
  · rw [pk_un (old ht').1]
    exact a3 i t' hi (old ht').2
  · obtain ⟨j', t', q, b1, b2, b3, b4, b5, b6⟩ := a6 i hi hc
    have c : j' ≠ j := fun w => by
      subst w
      rw [hz] at b6
      exact h0.root0 hi b6
    exact ⟨j', t', q, b1, b2, (if_neg c).trans b3, b4, b5, b6⟩
end SJ
