/-! The program's state: what its cells hold. -/
def Dk (κ : Nat → ClassId) (z : Nat × Nat) (ws : va_W) (h0 hs hl cap : Nat) (cm : Int32) (tr : Nat → Option Nat) (na : Nat → Nat) (mo to co sn : Nat → Int32) (nb : Nat → Nat → Int32) (n : Nat) (el : Nat → Nat) (ro lv cd pl : Nat → Int32) : Prop :=
  wg ws h0 = some (cD hs hl cm) ∧ wg ws hs = some (aQ κ 2 6 tr) ∧ Lst κ z ws hl n el cap ∧
  (∀ j t, j < 6 → tr j = some t → wg ws t = some (cT (mo j) (na j) (to j) (co j) (sn j)) ∧ wg ws (na j) = some (aI κ 8 (nb j))) ∧
  (∀ i j t, i < 6 → j < 6 → tr i = some t → tr j = some t → i = j) ∧
  (∀ i j s t, i < 6 → j < 6 → tr i = some s → tr j = some t → na i = na j → i = j) ∧
  (∀ i, i < n → wg ws (el i) = some (cG (ro i) (lv i) (cd i) (pl i))) ∧
  (∀ i j, i < n → j < n → el i = el j → i = j)
section DS
variable {κ : Nat → ClassId} {z : Nat × Nat} {ws : va_W} {h0 hs hl cap : Nat} {cm : Int32} {tr : Nat → Option Nat} {na : Nat → Nat} {mo to co sn : Nat → Int32} {nb : Nat → Nat → Int32} {n : Nat} {el : Nat → Nat} {ro lv cd pl : Nat → Int32}
theorem Lst.up {a : Nat} {x y : va_E} (h : Lst κ z ws hl n el cap) (hx : wg ws a = some x) (h1 : ∀ fs, x ≠ .inr (4, fs)) (h2 : ∀ f, 10 ≤ cap → x ≠ aQ κ 3 cap f) : Lst κ z (wup ws a y) hl n el cap := by
  refine h.moved (fun b u hb hu => ?_)
  have ne : b ≠ a := by
    intro q
    subst q
    have e := Option.some.inj (hb.symm.trans hx)
    subst e
    rcases hu with ⟨fs, e⟩ | ⟨f, e, g⟩
    · exact h1 fs e
    · exact h2 f g e
  rw [wg_upN ne]
  exact hb
theorem aIQ {n i m : Nat} {f : Nat → Int32} {g : Nat → Option Nat} : aI κ n f ≠ aQ κ i m g := by
  intro w
  have e := congrArg (fun q => q.2.2) (Sum.inl.inj w)
  cases e
/-- another transaction's content -/
theorem Dk.updT (h : Dk κ z ws h0 hs hl cap cm tr na mo to co sn nb n el ro lv cd pl) {j t : Nat} (hj : j < 6) (ht : tr j = some t) (tp' co' sn' : Int32) : Dk κ z (wup ws t (cT (mo j) (na j) tp' co' sn')) h0 hs hl cap cm tr na mo (upd to j tp') (upd co j co') (upd sn j sn') nb n el ro lv cd pl := by
  obtain ⟨a1, a2, a3, a4, a5, a6, a7, a8⟩ := h
  have hT := (a4 j t hj ht).1
  have key : ∀ {b : Nat} {x : va_E}, wg ws b = some x → (∀ fs, x ≠ .inr (3, fs)) → wg (wup ws t (cT (mo j) (na j) tp' co' sn')) b = some x := by
    intro b x hb hx
    rw [wg_upN (wg_ne hb hT (hx _))]
    exact hb
  refine ⟨key a1 (by intro fs w; cases w), key a2 (by intro fs w; cases w), a3.up hT (by intro fs w; cases w) (by intro f _ w; cases w), ?_, a5, a6, fun i hi => key (a7 i hi) (by intro fs w; cases w), a8⟩
  intro i s hi hs9
  have hi4 := a4 i s hi hs9
  refine ⟨?_, key hi4.2 (by intro fs w; cases w)⟩
  by_cases c : i = j
  · subst c
    have e : s = t := Option.some.inj (hs9.symm.trans ht)
    subst e
    rw [pk_us, pk_us, pk_us]
    exact wg_up hT
  · rw [pk_un c, pk_un c, pk_un c, wg_upN (fun w => c (a5 i j t hi hj (by rw [← w]; exact hs9) ht))]
    exact hi4.1
/-- another content of a transaction's numbers -/
theorem Dk.updN (h : Dk κ z ws h0 hs hl cap cm tr na mo to co sn nb n el ro lv cd pl) {j t : Nat} (hj : j < 6) (ht : tr j = some t) (nb' : Nat → Int32) : Dk κ z (wup ws (na j) (aI κ 8 nb')) h0 hs hl cap cm tr na mo to co sn (va_up nb j nb') n el ro lv cd pl := by
  obtain ⟨a1, a2, a3, a4, a5, a6, a7, a8⟩ := h
  have hN := (a4 j t hj ht).2
  have key : ∀ {b : Nat} {x : va_E}, wg ws b = some x → (∀ f, x ≠ aI κ 8 f) → wg (wup ws (na j) (aI κ 8 nb')) b = some x := by
    intro b x hb hx
    rw [wg_upN (wg_ne hb hN (hx _))]
    exact hb
  refine ⟨key a1 (by intro fs w; cases w), key a2 (fun f => Ne.symm aIQ), a3.up hN (by intro fs w; cases w) (fun f _ => aIQ), ?_, a5, a6, fun i hi => key (a7 i hi) (by intro fs w; cases w), a8⟩
  intro i s hi hs9
  have hi4 := a4 i s hi hs9
  refine ⟨key hi4.1 (by intro fs w; cases w), ?_⟩
  by_cases c : i = j
  · subst c
    rw [show va_up nb i nb' i = nb' from if_pos rfl]
    exact wg_up hN
  · rw [show va_up nb j nb' i = nb i from if_neg c, wg_upN (fun w => c (a6 i j s t hi hj hs9 ht w))]
    exact hi4.2
/-- another content of a number's object -/
theorem Dk.updG (h : Dk κ z ws h0 hs hl cap cm tr na mo to co sn nb n el ro lv cd pl) {i : Nat} (hi : i < n) (lv' cd' pl' : Int32) : Dk κ z (wup ws (el i) (cG (ro i) lv' cd' pl')) h0 hs hl cap cm tr na mo to co sn nb n el ro (upd lv i lv') (upd cd i cd') (upd pl i pl') := by
  obtain ⟨a1, a2, a3, a4, a5, a6, a7, a8⟩ := h
  have hG := a7 i hi
  have key : ∀ {b : Nat} {x : va_E}, wg ws b = some x → (∀ fs, x ≠ .inr (2, fs)) → wg (wup ws (el i) (cG (ro i) lv' cd' pl')) b = some x := by
    intro b x hb hx
    rw [wg_upN (wg_ne hb hG (hx _))]
    exact hb
  refine ⟨key a1 (by intro fs w; cases w), key a2 (by intro fs w; cases w), a3.up hG (by intro fs w; cases w) (by intro f _ w; cases w), fun j t hj ht => ⟨key (a4 j t hj ht).1 (by intro fs w; cases w), key (a4 j t hj ht).2 (by intro fs w; cases w)⟩, a5, a6, ?_, a8⟩
  intro k hk
  by_cases c : k = i
  · subst c
    rw [pk_us, pk_us, pk_us]
    exact wg_up hG
  · rw [pk_un c, pk_un c, pk_un c, wg_upN (fun w => c (a8 k i hk hi w))]
    exact a7 k hk
/-- another number of commits -/
theorem Dk.updD (h : Dk κ z ws h0 hs hl cap cm tr na mo to co sn nb n el ro lv cd pl) (cm' : Int32) : Dk κ z (wup ws h0 (cD hs hl cm')) h0 hs hl cap cm' tr na mo to co sn nb n el ro lv cd pl := by
  obtain ⟨a1, a2, a3, a4, a5, a6, a7, a8⟩ := h
  have key : ∀ {b : Nat} {x : va_E}, wg ws b = some x → (∀ fs, x ≠ .inr (1, fs)) → wg (wup ws h0 (cD hs hl cm')) b = some x := by
    intro b x hb hx
    rw [wg_upN (wg_ne hb a1 (hx _))]
    exact hb
  exact ⟨wg_up a1, key a2 (by intro fs w; cases w), a3.up a1 (by intro fs w; cases w) (by intro f _ w; cases w), fun j t hj ht => ⟨key (a4 j t hj ht).1 (by intro fs w; cases w), key (a4 j t hj ht).2 (by intro fs w; cases w)⟩, a5, a6, fun i hi => key (a7 i hi) (by intro fs w; cases w), a8⟩
theorem aQ6 {cap : Nat} {f g : Nat → Option Nat} (h : 10 ≤ cap) : aQ κ 2 6 f ≠ aQ κ 3 cap g := by
  intro w
  have e := Sum.inl.inj w
  have e2 := congrArg (fun q => q.2.1) e
  have e3 : 6 = cap := e2
  omega
/-- a session's transaction goes -/
theorem Dk.drop (h : Dk κ z ws h0 hs hl cap cm tr na mo to co sn nb n el ro lv cd pl) (j : Nat) : Dk κ z (wup ws hs (aQ κ 2 6 (va_up tr j none))) h0 hs hl cap cm (va_up tr j none) na mo to co sn nb n el ro lv cd pl := by
  obtain ⟨a1, a2, a3, a4, a5, a6, a7, a8⟩ := h
  have key : ∀ {b : Nat} {x : va_E}, wg ws b = some x → (∀ f, x ≠ aQ κ 2 6 f) → wg (wup ws hs (aQ κ 2 6 (va_up tr j none))) b = some x := by
    intro b x hb hx
    rw [wg_upN (wg_ne hb a2 (hx _))]
    exact hb
  have old : ∀ {i t : Nat}, va_up tr j none i = some t → tr i = some t := by
    intro i t hi
    unfold va_up at hi
    by_cases c : i = j
    · rw [if_pos c] at hi; cases hi
    · rw [if_neg c] at hi; exact hi
  exact ⟨key a1 (by intro fs w; cases w), wg_up a2, a3.up a2 (by intro fs w; cases w) (fun f g => aQ6 g), fun i t hi ht => ⟨key (a4 i t hi (old ht)).1 (by intro fs w; cases w), key (a4 i t hi (old ht)).2 (fun f => aIQ)⟩, fun i k t hi hk h1 h2 => a5 i k t hi hk (old h1) (old h2), fun i k s t hi hk h1 h2 h3 => a6 i k s t hi hk (old h1) (old h2) h3, fun i hi => key (a7 i hi) (by intro fs w; cases w), a8⟩
end DS
/-- what a property singles out among the first m gets x -/
noncomputable def dset (P : Nat → Prop) (f : Nat → Int32) (x : Int32) (m : Nat) : Nat → Int32 := fun i => @ite Int32 (i < m ∧ P i) (Classical.propDecidable _) x (f i)
theorem dset_in {P : Nat → Prop} {f : Nat → Int32} {x : Int32} {m i : Nat} (h1 : i < m) (h2 : P i) : dset P f x m i = x := by
  unfold dset
  exact if_pos ⟨h1, h2⟩
theorem dset_out {P : Nat → Prop} {f : Nat → Int32} {x : Int32} {m i : Nat} (h : ¬ (i < m ∧ P i)) : dset P f x m i = f i := by
  unfold dset
  exact if_neg h
theorem dset_0 {P : Nat → Prop} {f : Nat → Int32} {x : Int32} : dset P f x 0 = f := by
  funext i
  exact dset_out (fun h => by omega)
theorem dset_T {P : Nat → Prop} {f : Nat → Int32} {x : Int32} {m : Nat} (h : P m) : upd (dset P f x m) m x = dset P f x (m + 1) := by
  funext i
  by_cases c : i = m
  · subst c
    rw [pk_us, dset_in (by omega) h]
  · rw [pk_un c]
    by_cases c2 : i < m ∧ P i
    · rw [dset_in c2.1 c2.2, dset_in (by omega) c2.2]
    · rw [dset_out c2, dset_out (fun q => c2 ⟨by omega, q.2⟩)]
theorem dset_F {P : Nat → Prop} {f : Nat → Int32} {x : Int32} {m : Nat} (h : ¬ P m) : dset P f x m = dset P f x (m + 1) := by
  funext i
  by_cases c2 : i < m ∧ P i
  · rw [dset_in c2.1 c2.2, dset_in (by omega) c2.2]
  · rw [dset_out c2, dset_out (fun q => c2 ⟨by
      rcases Nat.lt_or_ge i m with w | w
      · exact w
      · have e : i = m := by omega
        rw [e] at q
        exact absurd q.2 h, q.2⟩)]
theorem dset_at {P : Nat → Prop} {f : Nat → Int32} {x : Int32} {m i : Nat} (h : m ≤ i) : dset P f x m i = f i := dset_out (fun q => by omega)
