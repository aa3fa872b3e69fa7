set_option maxHeartbeats 4000000 in
set_option maxRecDepth 100000 in
theorem c_M_init {l : Launch} {D : va_G} {κ : Nat → ClassId} {z : Nat × Nat} {q0 : Nat} : Ct l y_M_init b_M_init 1 none 1 10 16082 D (gk κ, z) [(q0, .inr (0, [.int 0, .int 0, .null, .null, .null, .null, .null, .null, .null, .null, .null, .null]))] [.ref q0] (fun v w' => v = none ∧ ∃ a : Nat → Nat, a 0 = q0 ∧ w' = mw κ a 0 0 (fun _ => 0) (fun _ => 0) (fun _ => 0) (fun _ => 0) (fun _ => 0) (fun _ => 0) (fun _ => 0) (fun _ => 0) (fun _ => 0) (fun _ => 0)) := by
  refine Ct.of (by decide) (Nat.le_of_ble_eq_true rfl) ?_
  intro p e s0 m below meth c A hC hr hn
  refine u_aload_n hC d_M_init_0 rfl ?_
  refine u_objInit hC o_M_1 o_I o_C (Nat.le_of_ble_eq_true rfl) (Nat.le_of_ble_eq_true rfl) (Nat.le_of_ble_eq_true rfl) d_M_init_1 ?_
  refine u_aload_n hC d_M_init_4 rfl ?_
  refine u_sipush hC (nI 4001) d_M_init_5 (by decide) ?_
  refine u_newi hC (N := 4001) 0 rfl a_int (by decide) (by decide) (by decide) (Nat.le_of_ble_eq_true rfl) (Nat.le_of_ble_eq_true rfl) d_M_init_8 (fun q1 => ?_)
  refine u_putF hC f_M_7 (tt_M 2 (by decide)) rfl hn rfl 0 rfl rfl rfl (Nat.le_of_ble_eq_true rfl) rfl d_M_init_10 ?_
  refine u_aload_n hC d_M_init_13 rfl ?_
  refine u_sipush hC (nI 4001) d_M_init_14 (by decide) ?_
  refine u_newi hC (N := 4001) 0 rfl a_int (by decide) (by decide) (by decide) (Nat.le_of_ble_eq_true rfl) (Nat.le_of_ble_eq_true rfl) d_M_init_17 (fun q2 => ?_)
  refine u_putF hC f_M_13 (tt_M 3 (by decide)) rfl hn rfl 0 rfl rfl rfl (Nat.le_of_ble_eq_true rfl) rfl d_M_init_19 ?_
  refine u_aload_n hC d_M_init_22 rfl ?_
  refine u_sipush hC (nI 4001) d_M_init_23 (by decide) ?_
  refine u_newi hC (N := 4001) 0 rfl a_int (by decide) (by decide) (by decide) (Nat.le_of_ble_eq_true rfl) (Nat.le_of_ble_eq_true rfl) d_M_init_26 (fun q3 => ?_)
  refine u_putF hC f_M_16 (tt_M 4 (by decide)) rfl hn rfl 0 rfl rfl rfl (Nat.le_of_ble_eq_true rfl) rfl d_M_init_28 ?_
  refine u_aload_n hC d_M_init_31 rfl ?_
  refine u_sipush hC (nI 4001) d_M_init_32 (by decide) ?_
  refine u_newi hC (N := 4001) 0 rfl a_int (by decide) (by decide) (by decide) (Nat.le_of_ble_eq_true rfl) (Nat.le_of_ble_eq_true rfl) d_M_init_35 (fun q4 => ?_)
  refine u_putF hC f_M_19 (tt_M 5 (by decide)) rfl hn rfl 0 rfl rfl rfl (Nat.le_of_ble_eq_true rfl) rfl d_M_init_37 ?_
  refine u_aload_n hC d_M_init_40 rfl ?_
  refine u_bipush hC (nI 6) d_M_init_41 (by decide) ?_
  refine u_newz hC (N := 6) 1 rfl a_bool (by decide) (by decide) (by decide) (Nat.le_of_ble_eq_true rfl) (Nat.le_of_ble_eq_true rfl) d_M_init_43 (fun q5 => ?_)
  refine u_putF hC f_M_22 (tt_M 6 (by decide)) rfl hn rfl 0 rfl rfl rfl (Nat.le_of_ble_eq_true rfl) rfl d_M_init_45 ?_
  refine u_aload_n hC d_M_init_48 rfl ?_
  refine u_bipush hC (nI 6) d_M_init_49 (by decide) ?_
  refine u_newi hC (N := 6) 0 rfl a_int (by decide) (by decide) (by decide) (Nat.le_of_ble_eq_true rfl) (Nat.le_of_ble_eq_true rfl) d_M_init_51 (fun q6 => ?_)
  refine u_putF hC f_M_26 (tt_M 7 (by decide)) rfl hn rfl 0 rfl rfl rfl (Nat.le_of_ble_eq_true rfl) rfl d_M_init_53 ?_
  refine u_aload_n hC d_M_init_56 rfl ?_
  refine u_bipush hC (nI 6) d_M_init_57 (by decide) ?_
  refine u_newi hC (N := 6) 0 rfl a_int (by decide) (by decide) (by decide) (Nat.le_of_ble_eq_true rfl) (Nat.le_of_ble_eq_true rfl) d_M_init_59 (fun q7 => ?_)
  refine u_putF hC f_M_29 (tt_M 8 (by decide)) rfl hn rfl 0 rfl rfl rfl (Nat.le_of_ble_eq_true rfl) rfl d_M_init_61 ?_
  refine u_aload_n hC d_M_init_64 rfl ?_
  refine u_bipush hC (nI 6) d_M_init_65 (by decide) ?_
  refine u_newi hC (N := 6) 0 rfl a_int (by decide) (by decide) (by decide) (Nat.le_of_ble_eq_true rfl) (Nat.le_of_ble_eq_true rfl) d_M_init_67 (fun q8 => ?_)
  refine u_putF hC f_M_32 (tt_M 9 (by decide)) rfl hn rfl 0 rfl rfl rfl (Nat.le_of_ble_eq_true rfl) rfl d_M_init_69 ?_
  refine u_aload_n hC d_M_init_72 rfl ?_
  refine u_bipush hC (nI 6) d_M_init_73 (by decide) ?_
  refine u_newi hC (N := 6) 0 rfl a_int (by decide) (by decide) (by decide) (Nat.le_of_ble_eq_true rfl) (Nat.le_of_ble_eq_true rfl) d_M_init_75 (fun q9 => ?_)
  refine u_putF hC f_M_35 (tt_M 10 (by decide)) rfl hn rfl 0 rfl rfl rfl (Nat.le_of_ble_eq_true rfl) rfl d_M_init_77 ?_
  refine u_aload_n hC d_M_init_80 rfl ?_
  refine u_bipush hC (nI 48) d_M_init_81 (by decide) ?_
  refine u_newi hC (N := 48) 0 rfl a_int (by decide) (by decide) (by decide) (Nat.le_of_ble_eq_true rfl) (Nat.le_of_ble_eq_true rfl) d_M_init_83 (fun q10 => ?_)
  refine u_putF hC f_M_38 (tt_M 11 (by decide)) rfl hn rfl 0 rfl rfl rfl (Nat.le_of_ble_eq_true rfl) rfl d_M_init_85 ?_
  exact u_vret hC hr d_M_init_88 (Nat.le_of_ble_eq_true rfl) (Nat.le_of_ble_eq_true rfl) ⟨rfl, fun i => [q0, q1, q2, q3, q4, q5, q6, q7, q8, q9, q10].getD i 0, rfl, rfl⟩
