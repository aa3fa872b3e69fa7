/-! The law: its start and its loop. -/
section LW
variable {p : Program} {l : Launch} {e : Env} {R : Room} {s : State} {m : MethodId} {args : Array Value} {below : List Frame} {meth : Method} {c : Code} {k n : Nat} {Q : State → Prop}
variable {cc : ByteArray} {nL : Nat} {own : String} {D : va_G} {G : u_G} {A : Nat → Prop} {pc : Nat} {L0 : List (Nat × Value)} {st : List Value} {ws : va_W}
theorem u_sld (hC : vx p s m args meth c cc nL own D G A) {b L : Nat} {xs : Nat → Int32} (hX : va_X b L xs s s.heap) (hbl : b < s.heap.size) (hbA : ¬ A b) {i : Int32} (q : Nat) (hi : i = nI q) (hq : q < L) (hL : L < 2 ^ 31) (d : decode cc pc = .ok (.iaload, 1))
    (kk : U p l e R s m args below meth c nL D A ws k n Q (pc + 1) L0 (.int (xs q) :: st)) : U p l e R s m args below meth c nL D A ws k n Q pc L0 (.int i :: .ref b :: st) := by
  intro ls hl H locs hP hD hS
  subst hi
  have e9 : (nI q).toNatClampNeg = q := nI_clamp (Nat.lt_trans hq hL)
  exact va_sld hC.1.1 hC.1.2.1 hX hbl hbA hS (vp_in_nI hq hL) d (by rw [e9]; exact kk ls hl H locs hP hD hS)
theorem u_slen (hC : vx p s m args meth c cc nL own D G A) {b L : Nat} {xs : Nat → Int32} (hX : va_X b L xs s s.heap) (hbl : b < s.heap.size) (hbA : ¬ A b) (d : decode cc pc = .ok (.arraylength, 1))
    (kk : U p l e R s m args below meth c nL D A ws k n Q (pc + 1) L0 (.int (nI L) :: st)) : U p l e R s m args below meth c nL D A ws k n Q pc L0 (.ref b :: st) := by
  intro ls hl H locs hP hD hS
  exact va_slen hC.1.1 hC.1.2.1 hX hbl hbA hS d (kk ls hl H locs hP hD hS)
theorem u_lret {b : Nat} (hC : vx p s m #[Value.ref b] meth c code 4 own D G (fun q => s.heap.size ≤ q)) (hr : meth.sig.returnType = ret) (hk : k ≤ 600000) (hn : n ≤ 7302250) (d : decode code pc = .ok (.ireturn, 1)) : U p l e room_1 s m #[Value.ref b] below meth c 4 D (fun q => s.heap.size ≤ q) ws k n (lw_Z below #[Value.ref b] s) pc L0 [.int 1] := by
  intro ls hl H locs hP hD hS
  refine va_forget (fun q hq => hS.2.2 q hq) ?_
  refine W.widen hk hn ?_
  exact lw_ret hC.1.1 hC.1.2.1 hr hC.2.2.2.2 d
theorem ar_prim {ty : FieldType} (hp : ∀ C, ty ≠ .object C) (h : (Cond.arrayClass ty).before args s = true) : ∃ cA : ClassId, ArrOfT s cA ty ∧ va_RA s cA ty := by
  obtain ⟨cA, kA, comp, h1, h2, h3⟩ := Cond.arrayClass_spec h
  refine ⟨cA, fun n z => ⟨fun k h => (by cases h), kA, h2, comp, h3⟩, ?_⟩
  cases ty with
  | object C => exact absurd rfl (hp C)
  | _ => exact h1
theorem ar_obj {C : String} (h : (Cond.arrayOver (.object C)).before args s = true) : ∃ cA : ClassId, ArrOfT s cA (.object C) ∧ va_RA s cA (.object C) := by
  obtain ⟨comp, cA, kA, h1, h2, h3, h4, h5⟩ := Cond.arrayOver_spec h
  exact ⟨cA, fun n z => ⟨fun k h => (by cases h), kA, h3, comp, h4⟩, kA, comp, h3, h4, h1, h5⟩
set_option maxHeartbeats 4000000 in
set_option maxRecDepth 100000 in
theorem lw_ctx {b L : Nat} {xs : Nat → Int32} (C0 : lw_At p s m meth c b L xs) : ∃ (D : va_G) (κ : Nat → ClassId) (z : Nat × Nat), vx p s m #[Value.ref b] meth c code 4 R_W D (gk κ, z) (fun q => s.heap.size ≤ q) := by
  obtain ⟨hx, hb, hr, hml, hown, hts, hX, hbl, hlocks, hgv⟩ := id C0
  have htg : ∀ w ∈ gw, w.before #[Value.ref b] s = true := fun w h => hts w (List.mem_filter.mp h).1
  have hs := flat_of_before _ hgv
  have hA : ∀ a : Nat, a < s.heap.size → ¬ (fun q : Nat => s.heap.size ≤ q) a := fun a h => Nat.not_le.mpr h
  obtain ⟨c0, iS0, hKn0⟩ := u_known (C := R_M) (T := F_M) (N := 12) (n := 12) htg i_M (hts (.instantiable R_M 12) (List.mem_append_right _ (List.mem_of_getElem? (i := 299) (by decide +kernel))))
  obtain ⟨c1, iS1, hKn1⟩ := u_known (C := R_D) (T := F_D) (N := 3) (n := 3) htg i_D (hts (.instantiable R_D 3) (List.mem_append_right _ (List.mem_of_getElem? (i := 15) (by decide +kernel))))
  obtain ⟨c2, iS2, hKn2⟩ := u_known (C := R_G) (T := F_G) (N := 4) (n := 4) htg i_G (hts (.instantiable R_G 4) (List.mem_append_right _ (List.mem_of_getElem? (i := 122) (by decide +kernel))))
  obtain ⟨c3, iS3, hKn3⟩ := u_known (C := R_T) (T := F_T) (N := 5) (n := 5) htg i_T (hts (.instantiable R_T 5) (List.mem_append_right _ (List.mem_of_getElem? (i := 67) (by decide +kernel))))
  obtain ⟨c4, iS4, hKn4⟩ := u_known (C := R_L) (T := F_L) (N := 3) (n := 3) htg i_L (hts (.instantiable R_L 3) (List.mem_append_right _ (List.mem_of_getElem? (i := 25) (by decide +kernel))))
  obtain ⟨dC, dI, hKc⟩ : ∃ (dC : Nat → ClassId) (dI : Nat → Nat → Nat), ∀ (k : Nat) (q : vw_C), cls[k]? = some q → u_Kn s q.1 q.2.1 q.2.2 (dC k) (dI k) := by
    refine ⟨fun k => if k = 0 then c0 else if k = 1 then c1 else if k = 2 then c2 else if k = 3 then c3 else c4, fun k => if k = 0 then iS0 else if k = 1 then iS1 else if k = 2 then iS2 else if k = 3 then iS3 else iS4, ?_⟩
    intro k q hq
    match k, hq with
    | 0, hq => cases hq; exact hKn0
    | 1, hq => cases hq; exact hKn1
    | 2, hq => cases hq; exact hKn2
    | 3, hq => cases hq; exact hKn3
    | 4, hq => cases hq; exact hKn4
    | k + 5, hq => simp [cls] at hq
  obtain ⟨κ0, g0⟩ := ar_prim (s := s) (args := #[Value.ref b]) (ty := .int) (by intro C w; cases w) (htg _ a_int)
  obtain ⟨κ1, g1⟩ := ar_prim (s := s) (args := #[Value.ref b]) (ty := .boolean) (by intro C w; cases w) (htg _ a_bool)
  have hoT : (Cond.arrayOver (.object "SnapshotDesk$Transaction")).before #[Value.ref b] s = true := hts _ (List.mem_append_right _ (List.mem_of_getElem? (i := 23) (by decide +kernel)))
  have hoO : (Cond.arrayOver (.object "java/lang/Object")).before #[Value.ref b] s = true := hts _ (List.mem_append_right _ (List.mem_of_getElem? (i := 187) (by decide +kernel)))
  obtain ⟨κ2, g2⟩ := ar_obj hoT
  obtain ⟨κ3, g3⟩ := ar_obj hoO
  have hK : va_K (dC, dI) cls (gk (fun i => if i = 0 then κ0 else if i = 1 then κ1 else if i = 2 then κ2 else κ3)) s := by
    refine ⟨hKc, fun k q hq => ?_⟩
    match k, hq with
    | 0, hq => cases hq; exact g0
    | 1, hq => cases hq; exact g1
    | 2, hq => cases hq; exact g2
    | 3, hq => cases hq; exact g3
    | k + 4, hq => simp [gk] at hq
  obtain ⟨z1, hz1, hz2⟩ := va_Tof (args := #[Value.ref b]) (s := s) (tm := .static "java/util/ArrayList" "DEFAULTCAPACITY_EMPTY_ELEMENTDATA" "[Ljava/lang/Object;") (ty := .object "java/lang/Object") (N := 0) (f := fun _ => .null) (A := fun q : Nat => s.heap.size ≤ q) (by decide) (hs _ (by decide +kernel)) (va_eqt (z := 0) (hs _ (by decide +kernel))) (fun j hj => absurd hj (Nat.not_lt_zero j)) hA
  have hz3 := va_Zref (A := fun q : Nat => s.heap.size ≤ q) (hts (.laysStatic "java/util/ArrayList" "DEFAULTCAPACITY_EMPTY_ELEMENTDATA" "[Ljava/lang/Object;") (List.mem_append_right _ (List.mem_of_getElem? (i := 37) (by decide +kernel)))) (hts (.initialized "java/util/ArrayList") (List.mem_append_right _ (List.mem_of_getElem? (i := 4) (by decide +kernel)))) hz1 hA
  obtain ⟨mi, hmi⟩ := va_Mi.of (args := #[Value.ref b]) (s := s) (C := "[Ljava/lang/Object;") (hs _ (by decide +kernel))
  have hca : va_Nw (.castable R_G "java/lang/Object") s := va_Nw.of rfl (hts (.castable R_G "java/lang/Object") (List.mem_append_right _ (List.mem_of_getElem? (i := 434) (by decide +kernel))))
  have hdc : va_Dc s := va_Dc.of (hts (.declares ⟨"java/lang/Object", "getClass", "()Ljava/lang/Class;"⟩) (List.mem_append_right _ (List.mem_of_getElem? (i := 430) (by decide +kernel))))
  exact ⟨(dC, dI), (fun i => if i = 0 then κ0 else if i = 1 then κ1 else if i = 2 then κ2 else κ3), (z1, mi), ⟨hx, hb, hml, hown, htg⟩, hK, fun q h => h, ⟨hz3, hz2, hmi, hca, va_AO.of hoT, va_AO.of hoO, hdc⟩, hlocks⟩
theorem n_gt {L i : Nat} (hL : L ≤ 3072) (hi : i ≤ 3072) : nI L - nI 6 < nI i ↔ L < i + 6 := by
  rw [Int32.lt_iff_toInt_lt, pk_sub_toInt (by omega) (by omega), nI_toInt (by omega)]
  omega
end LW
