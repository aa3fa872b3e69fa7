set_option maxHeartbeats 4000000 in
set_option maxRecDepth 100000 in
/-- from the entry, for every script of at most 3072 ints, the law comes to its end with true -/
theorem whole_start {p : Program} {e : Env} {s : State} {m : MethodId} {below : List Frame} {meth : Method} {c : Code} (l : Launch) {b L : Nat} {xs : Nat → Int32} (hL : L ≤ 3072) (C0 : lw_At p s m meth c b L xs) : W p l e room_1 s m #[Value.ref b] below meth c s.heap [] 0 0 (lw_Z below #[Value.ref b] s) (entryFrame m ([Value.ref b] : List Value).toArray 4) := by
  obtain ⟨D, κ, z, hC⟩ := lw_ctx C0
  suffices hU : U p l e room_1 s m #[Value.ref b] below meth c 4 D (fun q : Nat => s.heap.size ≤ q) [] 0 0 (lw_Z below #[Value.ref b] s) 0 (lv_args 0 [.ref b]) [] by
    have hl := lv_entry ([.ref b]) (n := 4) (Nat.le_of_ble_eq_true rfl)
    rw [lg_entry_eq]
    exact hU _ hl s.heap [] (fun k q h => by simp at h) ⟨fun i j p q h => by simp at h, fun k q h => by simp at h⟩ va_S.rf
  refine w_new hC n_W_7 (Nat.le_of_ble_eq_true rfl) (Nat.le_of_ble_eq_true rfl) d_law_0 (fun h0 hh0 => ?_)
  refine u_dup hC d_law_3 rfl ?_
  refine u_callI hC (c_D_init (wg_push hh0)) k_W_9 i_D_init rfl ⟨(Nat.le_of_ble_eq_true rfl), (Nat.le_of_ble_eq_true rfl)⟩ ⟨(Nat.le_of_ble_eq_true rfl), (Nat.le_of_ble_eq_true rfl)⟩ rfl rfl (Nat.le_of_ble_eq_true rfl) d_law_4 (fun v w1 hp => ?_)
  obtain ⟨rfl, hs, hl, hK⟩ := hp
  refine u_non ?_
  refine u_astore_n hC d_law_7 (by decide) ?_
  refine w_new hC n_W_10 (Nat.le_of_ble_eq_true rfl) (Nat.le_of_ble_eq_true rfl) d_law_8 (fun b0 hb0 => ?_)
  refine u_dup hC d_law_11 rfl ?_
  refine u_swap ?_
  refine u_callIF hC c_M_init k_W_12 i_M_init rfl ⟨(Nat.le_of_ble_eq_true rfl), (Nat.le_of_ble_eq_true rfl)⟩ ⟨(Nat.le_of_ble_eq_true rfl), (Nat.le_of_ble_eq_true rfl)⟩ rfl rfl (Nat.le_of_ble_eq_true rfl) d_law_12 (fun v w2 hp => ?_)
  obtain ⟨rfl, a, rfl, rfl⟩ := hp
  refine u_non ?_
  refine u_swap ?_
  refine u_astore_n hC d_law_15 (by decide) ?_
  refine u_iconst hC (nI 0) d_law_16 (by decide) ?_
  refine u_istore_n hC d_law_17 (by decide) ?_
  refine u_widen (k' := 100) (n' := 20000) (Nat.le_of_ble_eq_true rfl) (Nat.le_of_ble_eq_true rfl) ?_
  refine law_loop hL C0 hC (L / 6 + 1) 0 0 100 20000 w1 _ (by omega) (by omega) ?_ (by omega) (by omega)
  refine ⟨hs, hl, 0, _, _, _, _, _, _, _, 0, _, _, _, _, _, a, _, _, _, _, _, _, _, _, _, _, hK, by omega, rfl, rfl, ⟨⟨by omega, by omega⟩, fun _ _ _ => rfl, (fun j t _ h => by cases h), (fun j t _ h => by cases h), fun i h => absurd h (Nat.not_lt_zero i), fun i h => absurd h (Nat.not_lt_zero i), (fun j t i _ h => by cases h), (fun j t _ h => by cases h)⟩, fun _ _ => rfl⟩
