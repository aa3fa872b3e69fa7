theorem mis_eq {j : Nat} {nb le : Nat → Int32} : ∀ r k : Nat, (∀ q, k ≤ q → q < k + r → nb q = le (8 * j + q)) → d_mis nb r k = m_mis j le r k
  | 0, _, _ => rfl
  | r + 1, k, h => by
    unfold d_mis m_mis
    rw [mis_eq r (k + 1) (fun q h1 h2 => h q (by omega) (by omega)), h k (by omega) (by omega)]
section SL
variable {T C : Nat} {tr : Nat → Option Nat} {mo to co sn : Nat → Int32} {pm ha mm cc tm sm : Nat → Int32}
theorem Sim.gv {j t u : Nat} (hj : j < 6) (ht : tr j = some t) (hu : to j = nI u) (hu7 : u ≤ 7) : ∀ (r k n : Nat) (nb : Nat → Nat → Int32) (ro lv cd pl st be rm le : Nat → Int32), k + r = u + 1 → Sim T n C tr mo to co sn nb ro lv cd pl st be rm pm ha mm cc tm sm le → Pz n pm → (k = 0 ∨ ¬ nb j 0 = 0) → n + d_mis (nb j) r k ≤ 4000 →
    (d_gv r k (n, nb j, ro, lv, cd, pl)).1 = (m_gv j r k (n, le, st, be, rm)).1 ∧ Sim T (d_gv r k (n, nb j, ro, lv, cd, pl)).1 C tr mo to co sn (va_up nb j (d_gv r k (n, nb j, ro, lv, cd, pl)).2.1) (d_gv r k (n, nb j, ro, lv, cd, pl)).2.2.1 (d_gv r k (n, nb j, ro, lv, cd, pl)).2.2.2.1 (d_gv r k (n, nb j, ro, lv, cd, pl)).2.2.2.2.1 (d_gv r k (n, nb j, ro, lv, cd, pl)).2.2.2.2.2 (m_gv j r k (n, le, st, be, rm)).2.2.1 (m_gv j r k (n, le, st, be, rm)).2.2.2.1 (m_gv j r k (n, le, st, be, rm)).2.2.2.2 pm ha mm cc tm sm (m_gv j r k (n, le, st, be, rm)).2.1 ∧ Pz (d_gv r k (n, nb j, ro, lv, cd, pl)).1 pm := by
  intro r
  induction r with
  | zero =>
    intro k n nb ro lv cd pl st be rm le _ h hz _ _
    have e : va_up nb j (nb j) = nb := by
      funext i
      unfold va_up
      split
      · rename_i h9; rw [h9]
      · rfl
    refine ⟨rfl, ?_, hz⟩
    show Sim T n C tr mo to co sn (va_up nb j (nb j)) ro lv cd pl st be rm pm ha mm cc tm sm le
    rw [e]
    exact h
  | succ r ih =>
    intro k n nb ro lv cd pl st be rm le hk h hz h0 hm
    obtain ⟨v, b1, b2, b3, b4⟩ := h.2.2.2.1 j t hj ht
    have e : v = u := (nI_eq (by omega) (by omega)).mp (b2.symm.trans hu)
    subst e
    have hnl := b3 k (by omega)
    unfold d_mis at hm
    unfold d_gv m_gv
    dsimp only
    by_cases c : nb j k = 0
    · rw [if_pos c] at hm
      rw [if_pos c, if_pos (by rw [← hnl]; exact c)]
      have hs := h.new hz hj ht hu hu7 (k := k) (by omega) c h0 (by omega)
      have eself : va_up nb j (upd (nb j) k (nI (n + 1))) j = upd (nb j) k (nI (n + 1)) := if_pos rfl
      have hmu := d_mis_upd (nb j) k (nI (n + 1)) r (k + 1) (by omega)
      have key := ih (k + 1) (n + 1) (va_up nb j (upd (nb j) k (nI (n + 1)))) _ _ _ _ _ _ _ _ (by omega) hs (fun i hi => hz i (by omega)) (Or.inr (by
        rw [eself]
        by_cases c2 : k = 0
        · subst c2
          rw [pk_us]
          exact nI_ne0 (by omega) (by omega)
        · rw [pk_un (Ne.symm c2)]
          exact h0.resolve_left c2)) (by rw [eself, hmu]; omega)
      rw [eself] at key
      rw [show ∀ y : Nat → Int32, va_up (va_up nb j (upd (nb j) k (nI (n + 1)))) j y = va_up nb j y from fun y => by funext i; unfold va_up; split <;> rfl] at key
      exact key
    · rw [if_neg c] at hm
      rw [if_neg c, if_neg (by rw [← hnl]; exact c)]
      exact ih (k + 1) n nb ro lv cd pl st be rm le (by omega) h hz (Or.inr (by
        rcases h0 with h0 | h0
        · rw [h0] at c; exact c
        · exact h0)) (by omega)
end SL
