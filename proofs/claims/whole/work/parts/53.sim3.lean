/-- places beyond the numbers given are 0 -/
def Pz (n : Nat) (pm : Nat → Int32) : Prop := ∀ i, n < i → pm i = nI 0
theorem Pz.set {n : Nat} {pm st be : Nat → Int32} {s k x : Int32} (h : Pz n pm) : Pz n (m_set st be pm s k x (n + 1)) := fun i hi => (if_neg (fun w => by omega)).trans (h i hi)
section SK
variable {T n C : Nat} {tr : Nat → Option Nat} {mo to co sn : Nat → Int32} {nb : Nat → Nat → Int32} {ro lv cd pl st be rm pm ha mm cc tm sm le : Nat → Int32}
theorem Sim.crash (be rm mm cc tm sm le mo to co sn ro lv pl : Nat → Int32) (nb : Nat → Nat → Int32) : ∀ (r k : Nat) (tr : Nat → Option Nat) (cd st pm ha : Nat → Int32), k + r = 6 → Sim T n C tr mo to co sn nb ro lv cd pl st be rm pm ha mm cc tm sm le → Pz n pm →
    Sim T n C (d_cr n ro lv nb r k (tr, cd)).1 mo to co sn nb ro lv (d_cr n ro lv nb r k (tr, cd)).2 pl (m_cr be n r k (st, pm, ha)).1 be rm (m_cr be n r k (st, pm, ha)).2.1 (m_cr be n r k (st, pm, ha)).2.2 mm cc tm sm le ∧ Pz n (m_cr be n r k (st, pm, ha)).2.1 := by
  intro r
  induction r with
  | zero => intro k tr cd st pm ha _ h hz; exact ⟨h, hz⟩
  | succ r ih =>
    intro k tr cd st pm ha hk h hz
    unfold d_cr m_cr
    dsimp only
    cases htr : tr k with
    | none =>
      rw [if_pos (h.2.1 k (by omega) htr)]
      exact ih (k + 1) tr cd st pm ha (by omega) h hz
    | some t =>
      rw [if_neg (h.2.2.1 k t (by omega) htr).1]
      exact ih (k + 1) _ _ _ _ _ (by omega) (h.abort (by omega) htr) hz.set
theorem Sim.new (h : Sim T n C tr mo to co sn nb ro lv cd pl st be rm pm ha mm cc tm sm le) (hz : Pz n pm) {j t u k : Nat} (hj : j < 6) (ht : tr j = some t) (hu : to j = nI u) (hu7 : u ≤ 7) (hk : k ≤ u) (hz9 : nb j k = 0) (h0 : k = 0 ∨ ¬ nb j 0 = 0) (hn : n < 4000) :
    Sim T (n + 1) C tr mo to co sn (va_up nb j (upd (nb j) k (nI (n + 1)))) (upd ro n (upd (nb j) k (nI (n + 1)) 0)) (upd lv n (nI k)) (upd cd n (nI 1)) (upd pl n (nI 0)) (upd st (n + 1) (nI 1)) (upd be (n + 1) (nI (8 * j + k))) (upd rm (n + 1) (upd le (8 * j + k) (nI (n + 1)) (8 * j))) pm ha mm cc tm sm (upd le (8 * j + k) (nI (n + 1))) := by
  have hh := h
  obtain ⟨⟨a0, a1⟩, a2, a3, a4, a5, a6, a7, a8⟩ := h
  have nbs : va_up nb j (upd (nb j) k (nI (n + 1))) j = upd (nb j) k (nI (n + 1)) := if_pos rfl
  have nbo : ∀ {i : Nat}, i ≠ j → va_up nb j (upd (nb j) k (nI (n + 1))) i = nb i := fun c => if_neg c
  have root : (k = 0 ∧ upd (nb j) k (nI (n + 1)) 0 = nI (n + 1)) ∨ (k ≠ 0 ∧ ¬ nb j 0 = 0 ∧ upd (nb j) k (nI (n + 1)) 0 = nb j 0) := by
    by_cases c : k = 0
    · subst c; exact Or.inl ⟨rfl, pk_us⟩
    · exact Or.inr ⟨c, h0.resolve_left c, pk_un (Ne.symm c)⟩
  have le0 : upd le (8 * j + k) (nI (n + 1)) (8 * j) = upd (nb j) k (nI (n + 1)) 0 := by
    obtain ⟨v, b1, b2, b3, b4⟩ := a4 j t hj ht
    rcases root with ⟨c, e⟩ | ⟨c, _, e⟩
    · rw [e, c, Nat.add_zero]; exact pk_us
    · rw [e, pk_un (by omega), ← Nat.add_zero (8 * j)]
      exact (b3 0 (by omega)).symm
  have rng : ∃ x, 1 ≤ x ∧ x ≤ n + 1 ∧ upd (nb j) k (nI (n + 1)) 0 = nI x := by
    rcases root with ⟨_, e⟩ | ⟨_, c, e⟩
    · exact ⟨n + 1, by omega, by omega, e⟩
    · obtain ⟨m, b1, b2, _⟩ := a8 j t hj ht c
      exact ⟨m + 1, by omega, by omega, e.trans b2⟩
  refine ⟨⟨by omega, a1⟩, a2, a3, fun i t' hi ht' => ?_, fun i hi => ?_, fun i hi hc => ?_, fun i t' k' hi ht' hk' hr => ?_, fun i t' hi ht' hz' => ?_⟩
  · obtain ⟨v, b1, b2, b3, b4⟩ := a4 i t' hi ht'
    by_cases c : i = j
    · subst c
      have e : v = u := (nI_eq (by omega) (by omega)).mp (b2.symm.trans hu)
      subst e
      rw [nbs]
      refine ⟨v, b1, b2, fun q hq => ?_, fun q h1 h2 => ?_⟩
      · by_cases c2 : q = k
        · subst c2; rw [pk_us, pk_us]
        · rw [pk_un c2, pk_un (by omega)]; exact b3 q hq
      · rw [pk_un (by omega)]; exact b4 q h1 h2
    · rw [nbo c]
      refine ⟨v, b1, b2, fun q hq => ?_, b4⟩
      rw [pk_un (by omega)]; exact b3 q hq
  · by_cases c : i = n
    · subst c
      rw [pk_us, pk_us, pk_us, pk_us, pk_us, le0]
      obtain ⟨x, x1, x2, x3⟩ := rng
      exact ⟨rfl, rfl, hz (i + 1) (by omega), Or.inl rfl, fun _ => rfl, x, x1, x2, x3⟩
    · rw [pk_un c, pk_un c, pk_un c, pk_un (show i + 1 ≠ n + 1 by omega), pk_un (show i + 1 ≠ n + 1 by omega)]
      obtain ⟨b1, b2, b3, b4, b5, x, x1, x2, x3⟩ := a5 i (by omega)
      exact ⟨b1, b2, b3, b4, b5, x, x1, by omega, x3⟩
  · by_cases c : i = n
    · subst c
      exact ⟨j, t, k, hj, by omega, ht, pk_us, pk_us, by rw [pk_us, nbs]⟩
    · rw [pk_un c] at hc
      obtain ⟨j', t', q, b1, b2, b3, b4, b5, b6⟩ := a6 i (by omega) hc
      refine ⟨j', t', q, b1, b2, b3, by rw [pk_un (by omega)]; exact b4, by rw [pk_un c]; exact b5, ?_⟩
      rw [pk_un c, b6]
      by_cases c2 : j' = j
      · subst c2
        rw [nbs]
        rcases root with ⟨c3, e⟩ | ⟨_, _, e⟩
        · exfalso
          subst c3
          have hne : ¬ nb j' 0 = 0 := by rw [← b6]; exact hh.root0 (by omega)
          exact hne hz9
        · exact e.symm
      · rw [nbo c2]
  · by_cases c : k' = n
    · subst c
      rw [pk_us] at hr
      by_cases c2 : i = j
      · subst c2
        exact Or.inr ⟨pk_us, k, by omega, pk_us, pk_us⟩
      · exfalso
        rw [nbo c2] at hr
        rcases root with ⟨_, e⟩ | ⟨_, hne, e⟩
        · rw [e] at hr
          have hne : ¬ nb i 0 = 0 := by rw [← hr]; exact nI_ne0 (by omega) (by omega)
          obtain ⟨m, b1, b2, _⟩ := a8 i t' hi ht' hne
          rw [b2] at hr
          have := (nI_eq (by omega) (by omega)).mp hr
          omega
        · rw [e] at hr
          exact c2 (hh.root hj ht hi ht' hne hr).symm
    · rw [pk_un c] at hr
      rw [pk_un c, pk_un c, pk_un (show k' + 1 ≠ n + 1 by omega)]
      by_cases c2 : i = j
      · subst c2
        rw [nbs] at hr
        rcases root with ⟨_, e⟩ | ⟨_, _, e⟩
        · exfalso
          rw [e] at hr
          obtain ⟨x, x1, x2, x3⟩ := (a5 k' (by omega)).2.2.2.2.2
          rw [x3] at hr
          have := (nI_eq (by omega) (by omega)).mp hr
          omega
        · rw [e] at hr
          exact a7 i t' k' hi ht' (by omega) hr
      · rw [nbo c2] at hr
        exact a7 i t' k' hi ht' (by omega) hr
  · by_cases c : i = j
    · subst c
      rw [nbs] at hz' ⊢
      rcases root with ⟨c3, e⟩ | ⟨_, hne, e⟩
      · subst c3
        exact ⟨n, by omega, e, pk_us, pk_us, pk_us⟩
      · rw [e]
        obtain ⟨m, b1, b2, b3, b4, b5⟩ := a8 i t' hi ht' hne
        exact ⟨m, by omega, b2, by rw [pk_un (by omega)]; exact b3, by rw [pk_un (by omega)]; exact b4, by rw [pk_un (by omega)]; exact b5⟩
    · rw [nbo c] at hz' ⊢
      obtain ⟨m, b1, b2, b3, b4, b5⟩ := a8 i t' hi ht' hz'
      exact ⟨m, by omega, b2, by rw [pk_un (by omega)]; exact b3, by rw [pk_un (by omega)]; exact b4, by rw [pk_un (by omega)]; exact b5⟩
end SK
