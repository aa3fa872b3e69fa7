/-! The program's state beside the reference's. -/
def Sim (T n C : Nat) (tr : Nat → Option Nat) (mo to co sn : Nat → Int32) (nb : Nat → Nat → Int32) (ro lv cd pl : Nat → Int32) (st be rm pm ha mm cc tm sm le : Nat → Int32) : Prop :=
  (n ≤ 4000 ∧ C ≤ T) ∧
  (∀ j, j < 6 → tr j = none → ha j = 0) ∧
  (∀ j t, j < 6 → tr j = some t → ¬ ha j = 0 ∧ mm j = mo j ∧ cc j = co j ∧ tm j = to j ∧ sm j = sn j ∧ (sn j = -1 ∨ ∃ x, x ≤ T ∧ sn j = nI x)) ∧
  (∀ j t, j < 6 → tr j = some t → ∃ u, u ≤ 7 ∧ to j = nI u ∧ (∀ k, k ≤ u → nb j k = le (8 * j + k)) ∧ ∀ k, u < k → k < 8 → nb j k = 0) ∧
  (∀ i, i < n → rm (i + 1) = ro i ∧ st (i + 1) = cd i ∧ pm (i + 1) = pl i ∧ (cd i = nI 1 ∨ cd i = nI 2 ∨ cd i = nI 3) ∧ (cd i = nI 1 → pl i = nI 0) ∧ ∃ x, 1 ≤ x ∧ x ≤ n ∧ ro i = nI x) ∧
  (∀ i, i < n → cd i = nI 1 → ∃ j t q, j < 6 ∧ q < 8 ∧ tr j = some t ∧ be (i + 1) = nI (8 * j + q) ∧ lv i = nI q ∧ ro i = nb j 0) ∧
  (∀ j t i, j < 6 → tr j = some t → i < n → ro i = nb j 0 → cd i = nI 3 ∨ (cd i = nI 1 ∧ ∃ q, q < 8 ∧ be (i + 1) = nI (8 * j + q) ∧ lv i = nI q)) ∧
  (∀ j t, j < 6 → tr j = some t → ¬ nb j 0 = 0 → ∃ i, i < n ∧ nb j 0 = nI (i + 1) ∧ cd i = nI 1 ∧ be (i + 1) = nI (8 * j + 0) ∧ lv i = nI 0)
theorem n13 : ¬ nI 1 = nI 3 := by decide
theorem n12 : ¬ nI 1 = nI 2 := by decide
theorem n23 : ¬ nI 2 = nI 3 := by decide
theorem from_iff {st be : Nat → Int32} {i j j' q k : Nat} (hb : be i = nI (8 * j' + q)) (hj : j < 6) (hj' : j' < 6) (hq : q < 8) (hk : k ≤ 8) : m_from st be i (nI j) (nI k) ↔ (st i = nI 1 ∧ j' = j ∧ k ≤ q) := by
  unfold m_from
  rw [hb, n_8r (by omega), n_8d (by omega), show (8 * j' + q) / 8 = j' by omega, show (8 * j' + q) % 8 = q by omega, nI_eq (by omega) (by omega), nI_ltI (by omega) (by omega)]
  constructor
  · rintro ⟨a, b, c⟩; exact ⟨a, b, by omega⟩
  · rintro ⟨a, b, c⟩; exact ⟨a, b, by omega⟩
theorem m_set_in {st be f : Nat → Int32} {s k x : Int32} {n i : Nat} (h1 : 1 ≤ i) (h2 : i < n) (h : m_from st be i s k) : m_set st be f s k x n i = x := if_pos ⟨h1, h2, h⟩
theorem m_set_out {st be f : Nat → Int32} {s k x : Int32} {n i : Nat} (h : ¬ m_from st be i s k) : m_set st be f s k x n i = f i := if_neg (fun q => h q.2.2)
section SI
variable {T n C : Nat} {tr : Nat → Option Nat} {mo to co sn : Nat → Int32} {nb : Nat → Nat → Int32} {ro lv cd pl st be rm pm ha mm cc tm sm le : Nat → Int32}
theorem Sim.mono {T' : Nat} (h : Sim T n C tr mo to co sn nb ro lv cd pl st be rm pm ha mm cc tm sm le) (hT : T ≤ T') : Sim T' n C tr mo to co sn nb ro lv cd pl st be rm pm ha mm cc tm sm le := by
  obtain ⟨⟨a1, a2⟩, a3, a4, a5⟩ := h
  refine ⟨⟨a1, by omega⟩, a3, fun j t hj ht => ?_, a5⟩
  obtain ⟨b1, b2, b3, b4, b5, b6⟩ := a4 j t hj ht
  refine ⟨b1, b2, b3, b4, b5, ?_⟩
  rcases b6 with b6 | ⟨x, hx, e⟩
  · exact Or.inl b6
  · exact Or.inr ⟨x, by omega, e⟩
/-- which numbers the reference takes, and which the program -/
theorem Sim.own (h : Sim T n C tr mo to co sn nb ro lv cd pl st be rm pm ha mm cc tm sm le) {j t i k : Nat} (hj : j < 6) (ht : tr j = some t) (hi : i < n) (hk : k ≤ 8) : m_from st be (i + 1) (nI j) (nI k) ↔ (cd i = nI 1 ∧ d_up ro lv (nb j 0) (nI k) i) := by
  obtain ⟨_, _, _, _, s5, s6, s7, _⟩ := h
  constructor
  · intro hf
    have hc : cd i = nI 1 := by rw [← (s5 i hi).2.1]; exact hf.1
    obtain ⟨j', t', q, b1, b2, b3, b4, b5, b6⟩ := s6 i hi hc
    obtain ⟨_, e, hq⟩ := (from_iff b4 hj b1 b2 hk).mp hf
    subst e
    exact ⟨hc, b6, by rw [b5]; exact nI_nlt hq (by omega)⟩
  · rintro ⟨hc, h1, h2⟩
    rcases s7 j t i hj ht hi h1 with w | ⟨_, q, b1, b2, b3⟩
    · rw [hc] at w; exact absurd w n13
    · rw [b3, nI_ltI (by omega) (by omega)] at h2
      exact (from_iff b2 hj hj b1 hk).mpr ⟨by rw [(s5 i hi).2.1]; exact hc, rfl, by omega⟩
/-- two transactions with a number have different roots -/
theorem Sim.root (h : Sim T n C tr mo to co sn nb ro lv cd pl st be rm pm ha mm cc tm sm le) {j t j' t' : Nat} (hj : j < 6) (ht : tr j = some t) (hj' : j' < 6) (ht' : tr j' = some t') (h0 : ¬ nb j 0 = 0) (he : nb j 0 = nb j' 0) : j = j' := by
  obtain ⟨⟨hn, _⟩, _, _, _, _, _, _, s8⟩ := h
  obtain ⟨i, a1, a2, _, a4, _⟩ := s8 j t hj ht h0
  obtain ⟨i', b1, b2, _, b4, _⟩ := s8 j' t' hj' ht' (by rw [← he]; exact h0)
  rw [a2, b2] at he
  have e : i = i' := by
    have := (nI_eq (by omega) (by omega)).mp he
    omega
  subst e
  rw [a4] at b4
  have := (nI_eq (by omega) (by omega)).mp b4
  omega
/-- the numbers' root is never 0 -/
theorem Sim.root0 (h : Sim T n C tr mo to co sn nb ro lv cd pl st be rm pm ha mm cc tm sm le) {i : Nat} (hi : i < n) : ¬ ro i = 0 := by
  obtain ⟨⟨hn, _⟩, _, _, _, s5, _⟩ := h
  obtain ⟨x, h1, h2, h3⟩ := (s5 i hi).2.2.2.2.2
  rw [h3]
  exact nI_ne0 (by omega) (by omega)
theorem Sim.stmt (h : Sim T n C tr mo to co sn nb ro lv cd pl st be rm pm ha mm cc tm sm le) {j : Nat} (hj : j < 6) {c' s' : Int32} (hs : s' = -1 ∨ ∃ x, x ≤ T ∧ s' = nI x) : Sim T n C tr mo to (upd co j c') (upd sn j s') nb ro lv cd pl st be rm pm ha mm (upd cc j c') tm (upd sm j s') le := by
  obtain ⟨a1, a2, a3, a4⟩ := h
  refine ⟨a1, a2, fun i t hi ht => ?_, a4⟩
  obtain ⟨b1, b2, b3, b4, b5, b6⟩ := a3 i t hi ht
  by_cases c : i = j
  · subst c
    rw [pk_us, pk_us, pk_us, pk_us]
    exact ⟨b1, b2, rfl, b4, rfl, hs⟩
  · rw [pk_un c, pk_un c, pk_un c, pk_un c]
    exact ⟨b1, b2, b3, b4, b5, b6⟩
theorem Sim.save (h : Sim T n C tr mo to co sn nb ro lv cd pl st be rm pm ha mm cc tm sm le) {j t u : Nat} (hj : j < 6) (ht : tr j = some t) (hu : to j = nI u) (hu7 : u < 7) : Sim T n C tr mo (upd to j (nI (u + 1))) co sn nb ro lv cd pl st be rm pm ha mm cc (upd tm j (nI (u + 1))) sm (upd le (8 * j + (u + 1)) 0) := by
  obtain ⟨a1, a2, a3, a4, a5⟩ := h
  refine ⟨a1, a2, fun i t' hi ht' => ?_, fun i t' hi ht' => ?_, a5⟩
  · obtain ⟨b1, b2, b3, b4, b5, b6⟩ := a3 i t' hi ht'
    by_cases c : i = j
    · subst c
      rw [pk_us, pk_us]
      exact ⟨b1, b2, b3, rfl, b5, b6⟩
    · rw [pk_un c, pk_un c]
      exact ⟨b1, b2, b3, b4, b5, b6⟩
  · obtain ⟨v, b1, b2, b3, b4⟩ := a4 i t' hi ht'
    by_cases c : i = j
    · subst c
      have e : v = u := (nI_eq (by omega) (by omega)).mp (b2.symm.trans hu)
      subst e
      refine ⟨v + 1, by omega, pk_us, fun k hk => ?_, fun k h1 h2 => b4 k (by omega) h2⟩
      by_cases c2 : k = v + 1
      · subst c2
        rw [pk_us]
        exact b4 (v + 1) (by omega) (by omega)
      · rw [pk_un (by omega)]
        exact b3 k (by omega)
    · refine ⟨v, b1, by rw [pk_un c]; exact b2, fun k hk => ?_, b4⟩
      rw [pk_un (by omega)]
      exact b3 k hk
theorem Sim.beg (h : Sim T n C tr mo to co sn nb ro lv cd pl st be rm pm ha mm cc tm sm le) {j t : Nat} {md : Int32} (hj : j < 6) (ht : tr j = none) : Sim T n C (va_up tr j (some t)) (upd mo j md) (upd to j (nI 0)) (upd co j (nI 0)) (upd sn j (-1)) (va_up nb j (fun _ => 0)) ro lv cd pl st be rm pm (upd ha j 1) (upd mm j md) (upd cc j 0) (upd tm j 0) (upd sm j (-1)) (upd le (8 * j) 0) := by
  have h0 := h
  obtain ⟨a1, a2, a3, a4, a5, a6, a7, a8⟩ := h
  have self : va_up tr j (some t) j = some t := if_pos rfl
  have oth : ∀ {i : Nat}, i ≠ j → va_up tr j (some t) i = tr i := fun c => if_neg c
  have nbs : va_up nb j (fun _ => 0) j = fun _ => (0 : Int32) := if_pos rfl
  have nbo : ∀ {i : Nat}, i ≠ j → va_up nb j (fun _ => (0 : Int32)) i = nb i := fun c => if_neg c
  refine ⟨a1, fun i hi hn => ?_, fun i t' hi ht' => ?_, fun i t' hi ht' => ?_, a5, fun i hi hc => ?_, fun i t' k hi ht' hk hr => ?_, fun i t' hi ht' hz => ?_⟩
  · by_cases c : i = j
    · subst c; rw [self] at hn; cases hn
    · rw [oth c] at hn
      rw [pk_un c]
      exact a2 i hi hn
  · by_cases c : i = j
    · subst c
      rw [pk_us, pk_us, pk_us, pk_us, pk_us, pk_us, pk_us, pk_us, pk_us]
      exact ⟨by decide, rfl, rfl, rfl, rfl, Or.inl rfl⟩
    · rw [oth c] at ht'
      rw [pk_un c, pk_un c, pk_un c, pk_un c, pk_un c, pk_un c, pk_un c, pk_un c, pk_un c]
      exact a3 i t' hi ht'
  · by_cases c : i = j
    · subst c
      refine ⟨0, by omega, pk_us, fun k hk => ?_, fun k _ _ => by rw [nbs]⟩
      have e : k = 0 := by omega
      subst e
      rw [nbs, Nat.add_zero, pk_us]
    · rw [oth c] at ht'
      obtain ⟨v, b1, b2, b3, b4⟩ := a4 i t' hi ht'
      refine ⟨v, b1, by rw [pk_un c]; exact b2, fun k hk => ?_, fun k h1 h2 => by rw [nbo c]; exact b4 k h1 h2⟩
      rw [nbo c, pk_un (by omega)]
      exact b3 k hk
  · obtain ⟨j', t', q, b1, b2, b3, b4, b5, b6⟩ := a6 i hi hc
    have c : j' ≠ j := fun w => by rw [w, ht] at b3; cases b3
    exact ⟨j', t', q, b1, b2, by rw [oth c]; exact b3, b4, b5, by rw [nbo c]; exact b6⟩
  · by_cases c : i = j
    · subst c
      rw [nbs] at hr
      exact absurd hr (h0.root0 hk)
    · rw [oth c] at ht'
      rw [nbo c] at hr
      exact a7 i t' k hi ht' hk hr
  · by_cases c : i = j
    · subst c
      rw [nbs] at hz
      exact absurd rfl hz
    · rw [oth c] at ht'
      rw [nbo c] at hz ⊢
      exact a8 i t' hi ht' hz
end SI
