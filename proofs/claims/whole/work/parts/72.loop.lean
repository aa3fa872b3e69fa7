set_option maxHeartbeats 8000000 in
set_option maxRecDepth 100000 in
theorem law_loop {p : Program} {l : Launch} {e : Env} {s : State} {m : MethodId} {below : List Frame} {meth : Method} {c : Code} {D : va_G} {κ : Nat → ClassId} {z : Nat × Nat} {b L h0 b0 : Nat} {xs : Nat → Int32} (hL : L ≤ 3072) (C0 : lw_At p s m meth c b L xs) (hC : vx p s m #[Value.ref b] meth c code 4 R_W D (gk κ, z) (fun q : Nat => s.heap.size ≤ q)) :
    ∀ (r T cap kc ks : Nat) (w1 w2 : va_W), 6 * T ≤ L → L < 6 * T + 6 * r → Inv κ z T cap w1 w2 h0 b0 → kc ≤ 100 + 16 * T → ks ≤ 20000 + 48 * T + 4 * cap → U p l e room_1 s m #[Value.ref b] below meth c 4 D (fun q : Nat => s.heap.size ≤ q) (w1 ++ w2) kc ks (lw_Z below #[Value.ref b] s) 18 [(3, .int (nI (6 * T))), (2, .ref b0), (1, .ref h0), (0, .ref b)] [] := by
  obtain ⟨hx, hb, hr, hml, hown, hts, hX, hbl, hlocks, hgv⟩ := id C0
  have hbA : ¬ (fun q : Nat => s.heap.size ≤ q) b := Nat.not_le.mpr hbl
  intro r
  induction r with
  | zero =>
    intro T cap kc ks w1 w2 h1 h2
    omega
  | succ r ih =>
    intro T cap kc ks w1 w2 h1 h2 hI hkc hks
    have hcap : cap ≤ 6000 := by
      obtain ⟨hs, hl, C, tr, na, mo, to, co, sn, nb, n, el, ro, lv, cd, pl, a, st, be, rm, pm, ha, mm, cc, tm, sm, le, hK, hcap, _⟩ := hI
      exact hcap
    obtain ⟨qD, fsD, heD⟩ : ∃ (q : Nat) (fs : List Value), w1[q]? = some (h0, .inr (1, fs)) := by
      obtain ⟨hs, hl, C, tr, na, mo, to, co, sn, nb, n, el, ro, lv, cd, pl, a, st, be, rm, pm, ha, mm, cc, tm, sm, le, hK, _⟩ := hI
      obtain ⟨q, hq⟩ := wg_ix hK.1
      exact ⟨q, _, hq⟩
    obtain ⟨fsM, heM⟩ : ∃ fs : List Value, w2[0]? = some (b0, .inr (0, fs)) := by
      obtain ⟨hs, hl, C, tr, na, mo, to, co, sn, nb, n, el, ro, lv, cd, pl, a, st, be, rm, pm, ha, mm, cc, tm, sm, le, hK, _, rfl, rfl, _⟩ := hI
      exact ⟨_, rfl⟩
    have hTT : T ≤ 600 := by omega
    refine u_iload_n hC d_law_18 rfl ?_
    refine u_aload_n hC d_law_19 rfl ?_
    refine u_slen hC hX hbl hbA d_law_20 ?_
    refine u_bipush hC (nI 6) d_law_21 (by decide) ?_
    refine u_isub hC d_law_23 ?_
    refine u_icmp_gt hC 584 d_law_24 (by decide) (fun c9 => ?_) (fun c9 => ?_)
    · refine u_iconst hC 1 d_law_584 (by decide) ?_
      exact u_lret hC hr (by omega) (by omega) d_law_585
    · have hin : 6 * T + 6 ≤ L := by
        have := mt (n_gt hL (by omega)).mpr c9
        omega
      refine u_aload_n hC d_law_27 rfl ?_
      refine u_iload_n hC d_law_28 rfl ?_
      refine u_sld hC hX hbl hbA (6 * T) rfl (by omega) (by omega) d_law_29 ?_
      refine u_bipush hC (nI 15) d_law_30 (by decide) ?_
      refine u_iand hC d_law_32 ?_
      obtain ⟨o9, ho9, eo9⟩ := pk_andE (xs (6 * T)) (m := nI 15) 4 (by decide)
      refine u_val eo9 ?_
      have hcs : o9 = 0 ∨ o9 = 1 ∨ o9 = 2 ∨ o9 = 3 ∨ o9 = 4 ∨ o9 = 5 ∨ o9 = 6 ∨ o9 = 7 ∨ o9 = 8 ∨ o9 = 9 ∨ o9 = 10 ∨ o9 = 11 ∨ o9 = 12 ∨ o9 = 13 ∨ o9 = 14 ∨ o9 = 15 := by omega
      rcases hcs with rfl | rfl | rfl | rfl | rfl | rfl | rfl | rfl | rfl | rfl | rfl | rfl | rfl | rfl | rfl | rfl
      · refine u_tableIn hC (off := 79) 112 d_law_33 (by decide) (by decide) (by decide) (by decide) ?_
        obtain ⟨mc, ms, cap1, rr, w2n, hmc, hms, hc1, CD, CM⟩ := pr_begin (l := l) (D := D) hI (xs (6 * T + 1)) (xs (6 * T + 2))
        refine u_aload_n hC d_law_112 rfl ?_
        refine u_aload_n hC d_law_113 rfl ?_
        refine u_iload_n hC d_law_114 rfl ?_
        refine u_iconst hC (nI 1) d_law_115 (by decide) ?_
        refine u_iadd hC d_law_116 ?_
        refine u_sld hC hX hbl hbA (6 * T + 1) (nI_add _ _) (by omega) (by omega) d_law_117 ?_
        refine u_aload_n hC d_law_118 rfl ?_
        refine u_iload_n hC d_law_119 rfl ?_
        refine u_iconst hC (nI 2) d_law_120 (by decide) ?_
        refine u_iadd hC d_law_121 ?_
        refine u_sld hC hX hbl hbA (6 * T + 2) (nI_add _ _) (by omega) (by omega) d_law_122 ?_
        refine u_callVF hC CD k_W_13 i_D_begin heD rfl ⟨(Nat.le_of_ble_eq_true rfl), (Nat.le_of_ble_eq_true rfl)⟩ ⟨by show kc + mc ≤ 600000; omega, by show ks + ms ≤ 7302250; omega⟩ rfl rfl (Nat.le_of_ble_eq_true rfl) d_law_123 (fun v w1n hp => ?_)
        obtain ⟨rfl, hIn⟩ := hp
        refine u_top ?_
        refine u_swap ?_
        refine u_aload_n hC d_law_126 rfl ?_
        refine u_aload_n hC d_law_127 rfl ?_
        refine u_iload_n hC d_law_128 rfl ?_
        refine u_iconst hC (nI 1) d_law_129 (by decide) ?_
        refine u_iadd hC d_law_130 ?_
        refine u_sld hC hX hbl hbA (6 * T + 1) (nI_add _ _) (by omega) (by omega) d_law_131 ?_
        refine u_aload_n hC d_law_132 rfl ?_
        refine u_iload_n hC d_law_133 rfl ?_
        refine u_iconst hC (nI 2) d_law_134 (by decide) ?_
        refine u_iadd hC d_law_135 ?_
        refine u_sld hC hX hbl hbA (6 * T + 2) (nI_add _ _) (by omega) (by omega) d_law_136 ?_
        refine u_callVF hC CM k_W_17 i_M_begin heM rfl ⟨(Nat.le_of_ble_eq_true rfl), (Nat.le_of_ble_eq_true rfl)⟩ ⟨by show kc + mc + 0 ≤ 600000; omega, by show ks + ms + 0 ≤ 7302250; omega⟩ rfl rfl (Nat.le_of_ble_eq_true rfl) d_law_137 (fun v w2m hp => ?_)
        obtain ⟨rfl, rfl⟩ := hp
        refine u_top ?_
        refine u_swap ?_
        refine u_icmp_eq hC 578 d_law_140 (by decide) (fun _ => ?_) (fun w => absurd rfl w)
        refine u_iinc hC (nI (6 * (T + 1))) (j := 0) d_law_578 rfl (show nI (6 * T) + nI 6 = nI (6 * (T + 1)) from by rw [nI_add]; congr 1) (by decide) ?_
        refine u_goto hC 18 d_law_581 (by decide) ?_
        exact ih (T + 1) cap1 _ _ w1n w2m (by omega) (by omega) hIn (by omega) (by omega)
      · refine u_tableIn hC (off := 112) 145 d_law_33 (by decide) (by decide) (by decide) (by decide) ?_
        obtain ⟨mc, ms, cap1, rr, w2n, hmc, hms, hc1, CD, CM⟩ := pr_statement (l := l) (D := D) hI hTT (xs (6 * T + 1))
        refine u_aload_n hC d_law_145 rfl ?_
        refine u_aload_n hC d_law_146 rfl ?_
        refine u_iload_n hC d_law_147 rfl ?_
        refine u_iconst hC (nI 1) d_law_148 (by decide) ?_
        refine u_iadd hC d_law_149 ?_
        refine u_sld hC hX hbl hbA (6 * T + 1) (nI_add _ _) (by omega) (by omega) d_law_150 ?_
        refine u_callVF hC CD k_W_18 i_D_statement heD rfl ⟨(Nat.le_of_ble_eq_true rfl), (Nat.le_of_ble_eq_true rfl)⟩ ⟨by show kc + mc ≤ 600000; omega, by show ks + ms ≤ 7302250; omega⟩ rfl rfl (Nat.le_of_ble_eq_true rfl) d_law_151 (fun v w1n hp => ?_)
        obtain ⟨rfl, hIn⟩ := hp
        refine u_top ?_
        refine u_swap ?_
        refine u_aload_n hC d_law_154 rfl ?_
        refine u_aload_n hC d_law_155 rfl ?_
        refine u_iload_n hC d_law_156 rfl ?_
        refine u_iconst hC (nI 1) d_law_157 (by decide) ?_
        refine u_iadd hC d_law_158 ?_
        refine u_sld hC hX hbl hbA (6 * T + 1) (nI_add _ _) (by omega) (by omega) d_law_159 ?_
        refine u_callVF hC CM k_W_22 i_M_statement heM rfl ⟨(Nat.le_of_ble_eq_true rfl), (Nat.le_of_ble_eq_true rfl)⟩ ⟨by show kc + mc + 0 ≤ 600000; omega, by show ks + ms + 0 ≤ 7302250; omega⟩ rfl rfl (Nat.le_of_ble_eq_true rfl) d_law_160 (fun v w2m hp => ?_)
        obtain ⟨rfl, rfl⟩ := hp
        refine u_top ?_
        refine u_swap ?_
        refine u_icmp_eq hC 578 d_law_163 (by decide) (fun _ => ?_) (fun w => absurd rfl w)
        refine u_iinc hC (nI (6 * (T + 1))) (j := 0) d_law_578 rfl (show nI (6 * T) + nI 6 = nI (6 * (T + 1)) from by rw [nI_add]; congr 1) (by decide) ?_
        refine u_goto hC 18 d_law_581 (by decide) ?_
        exact ih (T + 1) cap1 _ _ w1n w2m (by omega) (by omega) hIn (by omega) (by omega)
      · refine u_tableIn hC (off := 135) 168 d_law_33 (by decide) (by decide) (by decide) (by decide) ?_
        obtain ⟨mc, ms, cap1, rr, w2n, hmc, hms, hc1, CD, CM⟩ := pr_number (l := l) (D := D) hI (xs (6 * T + 1))
        refine u_aload_n hC d_law_168 rfl ?_
        refine u_aload_n hC d_law_169 rfl ?_
        refine u_iload_n hC d_law_170 rfl ?_
        refine u_iconst hC (nI 1) d_law_171 (by decide) ?_
        refine u_iadd hC d_law_172 ?_
        refine u_sld hC hX hbl hbA (6 * T + 1) (nI_add _ _) (by omega) (by omega) d_law_173 ?_
        refine u_callVF hC CD k_W_23 i_D_number heD rfl ⟨(Nat.le_of_ble_eq_true rfl), (Nat.le_of_ble_eq_true rfl)⟩ ⟨by show kc + mc ≤ 600000; omega, by show ks + ms ≤ 7302250; omega⟩ rfl rfl (Nat.le_of_ble_eq_true rfl) d_law_174 (fun v w1n hp => ?_)
        obtain ⟨rfl, hIn⟩ := hp
        refine u_top ?_
        refine u_swap ?_
        refine u_aload_n hC d_law_177 rfl ?_
        refine u_aload_n hC d_law_178 rfl ?_
        refine u_iload_n hC d_law_179 rfl ?_
        refine u_iconst hC (nI 1) d_law_180 (by decide) ?_
        refine u_iadd hC d_law_181 ?_
        refine u_sld hC hX hbl hbA (6 * T + 1) (nI_add _ _) (by omega) (by omega) d_law_182 ?_
        refine u_callVF hC CM k_W_26 i_M_number heM rfl ⟨(Nat.le_of_ble_eq_true rfl), (Nat.le_of_ble_eq_true rfl)⟩ ⟨by show kc + mc + 0 ≤ 600000; omega, by show ks + ms + 0 ≤ 7302250; omega⟩ rfl rfl (Nat.le_of_ble_eq_true rfl) d_law_183 (fun v w2m hp => ?_)
        obtain ⟨rfl, rfl⟩ := hp
        refine u_top ?_
        refine u_swap ?_
        refine u_icmp_eq hC 578 d_law_186 (by decide) (fun _ => ?_) (fun w => absurd rfl w)
        refine u_iinc hC (nI (6 * (T + 1))) (j := 0) d_law_578 rfl (show nI (6 * T) + nI 6 = nI (6 * (T + 1)) from by rw [nI_add]; congr 1) (by decide) ?_
        refine u_goto hC 18 d_law_581 (by decide) ?_
        exact ih (T + 1) cap1 _ _ w1n w2m (by omega) (by omega) hIn (by omega) (by omega)
      · refine u_tableIn hC (off := 158) 191 d_law_33 (by decide) (by decide) (by decide) (by decide) ?_
        obtain ⟨mc, ms, cap1, rr, w2n, hmc, hms, hc1, CD, CM⟩ := pr_save (l := l) (D := D) hI (xs (6 * T + 1))
        refine u_aload_n hC d_law_191 rfl ?_
        refine u_aload_n hC d_law_192 rfl ?_
        refine u_iload_n hC d_law_193 rfl ?_
        refine u_iconst hC (nI 1) d_law_194 (by decide) ?_
        refine u_iadd hC d_law_195 ?_
        refine u_sld hC hX hbl hbA (6 * T + 1) (nI_add _ _) (by omega) (by omega) d_law_196 ?_
        refine u_callVF hC CD k_W_27 i_D_save heD rfl ⟨(Nat.le_of_ble_eq_true rfl), (Nat.le_of_ble_eq_true rfl)⟩ ⟨by show kc + mc ≤ 600000; omega, by show ks + ms ≤ 7302250; omega⟩ rfl rfl (Nat.le_of_ble_eq_true rfl) d_law_197 (fun v w1n hp => ?_)
        obtain ⟨rfl, hIn⟩ := hp
        refine u_top ?_
        refine u_swap ?_
        refine u_aload_n hC d_law_200 rfl ?_
        refine u_aload_n hC d_law_201 rfl ?_
        refine u_iload_n hC d_law_202 rfl ?_
        refine u_iconst hC (nI 1) d_law_203 (by decide) ?_
        refine u_iadd hC d_law_204 ?_
        refine u_sld hC hX hbl hbA (6 * T + 1) (nI_add _ _) (by omega) (by omega) d_law_205 ?_
        refine u_callVF hC CM k_W_30 i_M_save heM rfl ⟨(Nat.le_of_ble_eq_true rfl), (Nat.le_of_ble_eq_true rfl)⟩ ⟨by show kc + mc + 0 ≤ 600000; omega, by show ks + ms + 0 ≤ 7302250; omega⟩ rfl rfl (Nat.le_of_ble_eq_true rfl) d_law_206 (fun v w2m hp => ?_)
        obtain ⟨rfl, rfl⟩ := hp
        refine u_top ?_
        refine u_swap ?_
        refine u_icmp_eq hC 578 d_law_209 (by decide) (fun _ => ?_) (fun w => absurd rfl w)
        refine u_iinc hC (nI (6 * (T + 1))) (j := 0) d_law_578 rfl (show nI (6 * T) + nI 6 = nI (6 * (T + 1)) from by rw [nI_add]; congr 1) (by decide) ?_
        refine u_goto hC 18 d_law_581 (by decide) ?_
        exact ih (T + 1) cap1 _ _ w1n w2m (by omega) (by omega) hIn (by omega) (by omega)
      · refine u_tableIn hC (off := 181) 214 d_law_33 (by decide) (by decide) (by decide) (by decide) ?_
        obtain ⟨mc, ms, cap1, rr, w2n, hmc, hms, hc1, CD, CM⟩ := pr_release (l := l) (D := D) hI (xs (6 * T + 1)) (xs (6 * T + 2))
        refine u_aload_n hC d_law_214 rfl ?_
        refine u_aload_n hC d_law_215 rfl ?_
        refine u_iload_n hC d_law_216 rfl ?_
        refine u_iconst hC (nI 1) d_law_217 (by decide) ?_
        refine u_iadd hC d_law_218 ?_
        refine u_sld hC hX hbl hbA (6 * T + 1) (nI_add _ _) (by omega) (by omega) d_law_219 ?_
        refine u_aload_n hC d_law_220 rfl ?_
        refine u_iload_n hC d_law_221 rfl ?_
        refine u_iconst hC (nI 2) d_law_222 (by decide) ?_
        refine u_iadd hC d_law_223 ?_
        refine u_sld hC hX hbl hbA (6 * T + 2) (nI_add _ _) (by omega) (by omega) d_law_224 ?_
        refine u_callVF hC CD k_W_31 i_D_release heD rfl ⟨(Nat.le_of_ble_eq_true rfl), (Nat.le_of_ble_eq_true rfl)⟩ ⟨by show kc + mc ≤ 600000; omega, by show ks + ms ≤ 7302250; omega⟩ rfl rfl (Nat.le_of_ble_eq_true rfl) d_law_225 (fun v w1n hp => ?_)
        obtain ⟨rfl, hIn⟩ := hp
        refine u_top ?_
        refine u_swap ?_
        refine u_aload_n hC d_law_228 rfl ?_
        refine u_aload_n hC d_law_229 rfl ?_
        refine u_iload_n hC d_law_230 rfl ?_
        refine u_iconst hC (nI 1) d_law_231 (by decide) ?_
        refine u_iadd hC d_law_232 ?_
        refine u_sld hC hX hbl hbA (6 * T + 1) (nI_add _ _) (by omega) (by omega) d_law_233 ?_
        refine u_aload_n hC d_law_234 rfl ?_
        refine u_iload_n hC d_law_235 rfl ?_
        refine u_iconst hC (nI 2) d_law_236 (by decide) ?_
        refine u_iadd hC d_law_237 ?_
        refine u_sld hC hX hbl hbA (6 * T + 2) (nI_add _ _) (by omega) (by omega) d_law_238 ?_
        refine u_callVF hC CM k_W_34 i_M_release heM rfl ⟨(Nat.le_of_ble_eq_true rfl), (Nat.le_of_ble_eq_true rfl)⟩ ⟨by show kc + mc + 0 ≤ 600000; omega, by show ks + ms + 0 ≤ 7302250; omega⟩ rfl rfl (Nat.le_of_ble_eq_true rfl) d_law_239 (fun v w2m hp => ?_)
        obtain ⟨rfl, rfl⟩ := hp
        refine u_top ?_
        refine u_swap ?_
        refine u_icmp_eq hC 578 d_law_242 (by decide) (fun _ => ?_) (fun w => absurd rfl w)
        refine u_iinc hC (nI (6 * (T + 1))) (j := 0) d_law_578 rfl (show nI (6 * T) + nI 6 = nI (6 * (T + 1)) from by rw [nI_add]; congr 1) (by decide) ?_
        refine u_goto hC 18 d_law_581 (by decide) ?_
        exact ih (T + 1) cap1 _ _ w1n w2m (by omega) (by omega) hIn (by omega) (by omega)
      · refine u_tableIn hC (off := 214) 247 d_law_33 (by decide) (by decide) (by decide) (by decide) ?_
        obtain ⟨mc, ms, cap1, rr, w2n, hmc, hms, hc1, CD, CM⟩ := pr_back (l := l) (D := D) hI (xs (6 * T + 1)) (xs (6 * T + 2))
        refine u_aload_n hC d_law_247 rfl ?_
        refine u_aload_n hC d_law_248 rfl ?_
        refine u_iload_n hC d_law_249 rfl ?_
        refine u_iconst hC (nI 1) d_law_250 (by decide) ?_
        refine u_iadd hC d_law_251 ?_
        refine u_sld hC hX hbl hbA (6 * T + 1) (nI_add _ _) (by omega) (by omega) d_law_252 ?_
        refine u_aload_n hC d_law_253 rfl ?_
        refine u_iload_n hC d_law_254 rfl ?_
        refine u_iconst hC (nI 2) d_law_255 (by decide) ?_
        refine u_iadd hC d_law_256 ?_
        refine u_sld hC hX hbl hbA (6 * T + 2) (nI_add _ _) (by omega) (by omega) d_law_257 ?_
        refine u_callVF hC CD k_W_35 i_D_back heD rfl ⟨(Nat.le_of_ble_eq_true rfl), (Nat.le_of_ble_eq_true rfl)⟩ ⟨by show kc + mc ≤ 600000; omega, by show ks + ms ≤ 7302250; omega⟩ rfl rfl (Nat.le_of_ble_eq_true rfl) d_law_258 (fun v w1n hp => ?_)
        obtain ⟨rfl, hIn⟩ := hp
        refine u_top ?_
        refine u_swap ?_
        refine u_aload_n hC d_law_261 rfl ?_
        refine u_aload_n hC d_law_262 rfl ?_
        refine u_iload_n hC d_law_263 rfl ?_
        refine u_iconst hC (nI 1) d_law_264 (by decide) ?_
        refine u_iadd hC d_law_265 ?_
        refine u_sld hC hX hbl hbA (6 * T + 1) (nI_add _ _) (by omega) (by omega) d_law_266 ?_
        refine u_aload_n hC d_law_267 rfl ?_
        refine u_iload_n hC d_law_268 rfl ?_
        refine u_iconst hC (nI 2) d_law_269 (by decide) ?_
        refine u_iadd hC d_law_270 ?_
        refine u_sld hC hX hbl hbA (6 * T + 2) (nI_add _ _) (by omega) (by omega) d_law_271 ?_
        refine u_callVF hC CM k_W_38 i_M_back heM rfl ⟨(Nat.le_of_ble_eq_true rfl), (Nat.le_of_ble_eq_true rfl)⟩ ⟨by show kc + mc + 0 ≤ 600000; omega, by show ks + ms + 0 ≤ 7302250; omega⟩ rfl rfl (Nat.le_of_ble_eq_true rfl) d_law_272 (fun v w2m hp => ?_)
        obtain ⟨rfl, rfl⟩ := hp
        refine u_top ?_
        refine u_swap ?_
        refine u_icmp_eq hC 578 d_law_275 (by decide) (fun _ => ?_) (fun w => absurd rfl w)
        refine u_iinc hC (nI (6 * (T + 1))) (j := 0) d_law_578 rfl (show nI (6 * T) + nI 6 = nI (6 * (T + 1)) from by rw [nI_add]; congr 1) (by decide) ?_
        refine u_goto hC 18 d_law_581 (by decide) ?_
        exact ih (T + 1) cap1 _ _ w1n w2m (by omega) (by omega) hIn (by omega) (by omega)
      · refine u_tableIn hC (off := 247) 280 d_law_33 (by decide) (by decide) (by decide) (by decide) ?_
        obtain ⟨mc, ms, cap1, rr, w2n, hmc, hms, hc1, CD, CM⟩ := pr_commit (l := l) (D := D) hI (xs (6 * T + 1))
        refine u_aload_n hC d_law_280 rfl ?_
        refine u_aload_n hC d_law_281 rfl ?_
        refine u_iload_n hC d_law_282 rfl ?_
        refine u_iconst hC (nI 1) d_law_283 (by decide) ?_
        refine u_iadd hC d_law_284 ?_
        refine u_sld hC hX hbl hbA (6 * T + 1) (nI_add _ _) (by omega) (by omega) d_law_285 ?_
        refine u_callVF hC CD k_W_39 i_D_commit heD rfl ⟨(Nat.le_of_ble_eq_true rfl), (Nat.le_of_ble_eq_true rfl)⟩ ⟨by show kc + mc ≤ 600000; omega, by show ks + ms ≤ 7302250; omega⟩ rfl rfl (Nat.le_of_ble_eq_true rfl) d_law_286 (fun v w1n hp => ?_)
        obtain ⟨rfl, hIn⟩ := hp
        refine u_top ?_
        refine u_swap ?_
        refine u_aload_n hC d_law_289 rfl ?_
        refine u_aload_n hC d_law_290 rfl ?_
        refine u_iload_n hC d_law_291 rfl ?_
        refine u_iconst hC (nI 1) d_law_292 (by decide) ?_
        refine u_iadd hC d_law_293 ?_
        refine u_sld hC hX hbl hbA (6 * T + 1) (nI_add _ _) (by omega) (by omega) d_law_294 ?_
        refine u_callVF hC CM k_W_42 i_M_commit heM rfl ⟨(Nat.le_of_ble_eq_true rfl), (Nat.le_of_ble_eq_true rfl)⟩ ⟨by show kc + mc + 0 ≤ 600000; omega, by show ks + ms + 0 ≤ 7302250; omega⟩ rfl rfl (Nat.le_of_ble_eq_true rfl) d_law_295 (fun v w2m hp => ?_)
        obtain ⟨rfl, rfl⟩ := hp
        refine u_top ?_
        refine u_swap ?_
        refine u_icmp_eq hC 578 d_law_298 (by decide) (fun _ => ?_) (fun w => absurd rfl w)
        refine u_iinc hC (nI (6 * (T + 1))) (j := 0) d_law_578 rfl (show nI (6 * T) + nI 6 = nI (6 * (T + 1)) from by rw [nI_add]; congr 1) (by decide) ?_
        refine u_goto hC 18 d_law_581 (by decide) ?_
        exact ih (T + 1) cap1 _ _ w1n w2m (by omega) (by omega) hIn (by omega) (by omega)
      · refine u_tableIn hC (off := 270) 303 d_law_33 (by decide) (by decide) (by decide) (by decide) ?_
        obtain ⟨mc, ms, cap1, rr, w2n, hmc, hms, hc1, CD, CM⟩ := pr_abort (l := l) (D := D) hI (xs (6 * T + 1))
        refine u_aload_n hC d_law_303 rfl ?_
        refine u_aload_n hC d_law_304 rfl ?_
        refine u_iload_n hC d_law_305 rfl ?_
        refine u_iconst hC (nI 1) d_law_306 (by decide) ?_
        refine u_iadd hC d_law_307 ?_
        refine u_sld hC hX hbl hbA (6 * T + 1) (nI_add _ _) (by omega) (by omega) d_law_308 ?_
        refine u_callVF hC CD k_W_43 i_D_abort heD rfl ⟨(Nat.le_of_ble_eq_true rfl), (Nat.le_of_ble_eq_true rfl)⟩ ⟨by show kc + mc ≤ 600000; omega, by show ks + ms ≤ 7302250; omega⟩ rfl rfl (Nat.le_of_ble_eq_true rfl) d_law_309 (fun v w1n hp => ?_)
        obtain ⟨rfl, hIn⟩ := hp
        refine u_top ?_
        refine u_swap ?_
        refine u_aload_n hC d_law_312 rfl ?_
        refine u_aload_n hC d_law_313 rfl ?_
        refine u_iload_n hC d_law_314 rfl ?_
        refine u_iconst hC (nI 1) d_law_315 (by decide) ?_
        refine u_iadd hC d_law_316 ?_
        refine u_sld hC hX hbl hbA (6 * T + 1) (nI_add _ _) (by omega) (by omega) d_law_317 ?_
        refine u_callVF hC CM k_W_47 i_M_abort heM rfl ⟨(Nat.le_of_ble_eq_true rfl), (Nat.le_of_ble_eq_true rfl)⟩ ⟨by show kc + mc + 0 ≤ 600000; omega, by show ks + ms + 0 ≤ 7302250; omega⟩ rfl rfl (Nat.le_of_ble_eq_true rfl) d_law_318 (fun v w2m hp => ?_)
        obtain ⟨rfl, rfl⟩ := hp
        refine u_top ?_
        refine u_swap ?_
        refine u_icmp_eq hC 578 d_law_321 (by decide) (fun _ => ?_) (fun w => absurd rfl w)
        refine u_iinc hC (nI (6 * (T + 1))) (j := 0) d_law_578 rfl (show nI (6 * T) + nI 6 = nI (6 * (T + 1)) from by rw [nI_add]; congr 1) (by decide) ?_
        refine u_goto hC 18 d_law_581 (by decide) ?_
        exact ih (T + 1) cap1 _ _ w1n w2m (by omega) (by omega) hIn (by omega) (by omega)
      · refine u_tableIn hC (off := 293) 326 d_law_33 (by decide) (by decide) (by decide) (by decide) ?_
        obtain ⟨w2n, CD, CM⟩ := pr_crash (l := l) (D := D) hI
        refine u_aload_n hC d_law_326 rfl ?_
        refine u_callVF hC CD k_W_48 i_D_crash heD rfl ⟨(Nat.le_of_ble_eq_true rfl), (Nat.le_of_ble_eq_true rfl)⟩ ⟨by show kc + 0 ≤ 600000; omega, by show ks + 0 ≤ 7302250; omega⟩ rfl rfl (Nat.le_of_ble_eq_true rfl) d_law_327 (fun v w1n hp => ?_)
        obtain ⟨rfl, hIn⟩ := hp
        refine u_non ?_
        refine u_swap ?_
        refine u_aload_n hC d_law_330 rfl ?_
        refine u_callVF hC CM k_W_51 i_M_crash heM rfl ⟨(Nat.le_of_ble_eq_true rfl), (Nat.le_of_ble_eq_true rfl)⟩ ⟨by show kc + 0 + 0 ≤ 600000; omega, by show ks + 0 + 0 ≤ 7302250; omega⟩ rfl rfl (Nat.le_of_ble_eq_true rfl) d_law_331 (fun v w2m hp => ?_)
        obtain ⟨rfl, rfl⟩ := hp
        refine u_non ?_
        refine u_swap ?_
        refine u_goto hC 578 d_law_334 (by decide) ?_
        refine u_iinc hC (nI (6 * (T + 1))) (j := 0) d_law_578 rfl (show nI (6 * T) + nI 6 = nI (6 * (T + 1)) from by rw [nI_add]; congr 1) (by decide) ?_
        refine u_goto hC 18 d_law_581 (by decide) ?_
        exact ih (T + 1) cap _ _ w1n w2m (by omega) (by omega) hIn (by omega) (by omega)
      · refine u_tableIn hC (off := 304) 337 d_law_33 (by decide) (by decide) (by decide) (by decide) ?_
        obtain ⟨mc, ms, cap1, rr, w2n, hmc, hms, hc1, CD, CM⟩ := pr_state (l := l) (D := D) hI (xs (6 * T + 1))
        refine u_aload_n hC d_law_337 rfl ?_
        refine u_aload_n hC d_law_338 rfl ?_
        refine u_iload_n hC d_law_339 rfl ?_
        refine u_iconst hC (nI 1) d_law_340 (by decide) ?_
        refine u_iadd hC d_law_341 ?_
        refine u_sld hC hX hbl hbA (6 * T + 1) (nI_add _ _) (by omega) (by omega) d_law_342 ?_
        refine u_callVF hC CD k_W_52 i_D_state heD rfl ⟨(Nat.le_of_ble_eq_true rfl), (Nat.le_of_ble_eq_true rfl)⟩ ⟨by show kc + mc ≤ 600000; omega, by show ks + ms ≤ 7302250; omega⟩ rfl rfl (Nat.le_of_ble_eq_true rfl) d_law_343 (fun v w1n hp => ?_)
        obtain ⟨rfl, hIn⟩ := hp
        refine u_top ?_
        refine u_swap ?_
        refine u_aload_n hC d_law_346 rfl ?_
        refine u_aload_n hC d_law_347 rfl ?_
        refine u_iload_n hC d_law_348 rfl ?_
        refine u_iconst hC (nI 1) d_law_349 (by decide) ?_
        refine u_iadd hC d_law_350 ?_
        refine u_sld hC hX hbl hbA (6 * T + 1) (nI_add _ _) (by omega) (by omega) d_law_351 ?_
        refine u_callVF hC CM k_W_55 i_M_state heM rfl ⟨(Nat.le_of_ble_eq_true rfl), (Nat.le_of_ble_eq_true rfl)⟩ ⟨by show kc + mc + 0 ≤ 600000; omega, by show ks + ms + 0 ≤ 7302250; omega⟩ rfl rfl (Nat.le_of_ble_eq_true rfl) d_law_352 (fun v w2m hp => ?_)
        obtain ⟨rfl, rfl⟩ := hp
        refine u_top ?_
        refine u_swap ?_
        refine u_icmp_eq hC 578 d_law_355 (by decide) (fun _ => ?_) (fun w => absurd rfl w)
        refine u_iinc hC (nI (6 * (T + 1))) (j := 0) d_law_578 rfl (show nI (6 * T) + nI 6 = nI (6 * (T + 1)) from by rw [nI_add]; congr 1) (by decide) ?_
        refine u_goto hC 18 d_law_581 (by decide) ?_
        exact ih (T + 1) cap1 _ _ w1n w2m (by omega) (by omega) hIn (by omega) (by omega)
      · refine u_tableIn hC (off := 327) 360 d_law_33 (by decide) (by decide) (by decide) (by decide) ?_
        obtain ⟨mc, ms, cap1, rr, w2n, hmc, hms, hc1, CD, CM⟩ := pr_root (l := l) (D := D) hI (xs (6 * T + 1))
        refine u_aload_n hC d_law_360 rfl ?_
        refine u_aload_n hC d_law_361 rfl ?_
        refine u_iload_n hC d_law_362 rfl ?_
        refine u_iconst hC (nI 1) d_law_363 (by decide) ?_
        refine u_iadd hC d_law_364 ?_
        refine u_sld hC hX hbl hbA (6 * T + 1) (nI_add _ _) (by omega) (by omega) d_law_365 ?_
        refine u_callVF hC CD k_W_56 i_D_root heD rfl ⟨(Nat.le_of_ble_eq_true rfl), (Nat.le_of_ble_eq_true rfl)⟩ ⟨by show kc + mc ≤ 600000; omega, by show ks + ms ≤ 7302250; omega⟩ rfl rfl (Nat.le_of_ble_eq_true rfl) d_law_366 (fun v w1n hp => ?_)
        obtain ⟨rfl, hIn⟩ := hp
        refine u_top ?_
        refine u_swap ?_
        refine u_aload_n hC d_law_369 rfl ?_
        refine u_aload_n hC d_law_370 rfl ?_
        refine u_iload_n hC d_law_371 rfl ?_
        refine u_iconst hC (nI 1) d_law_372 (by decide) ?_
        refine u_iadd hC d_law_373 ?_
        refine u_sld hC hX hbl hbA (6 * T + 1) (nI_add _ _) (by omega) (by omega) d_law_374 ?_
        refine u_callVF hC CM k_W_59 i_M_root heM rfl ⟨(Nat.le_of_ble_eq_true rfl), (Nat.le_of_ble_eq_true rfl)⟩ ⟨by show kc + mc + 0 ≤ 600000; omega, by show ks + ms + 0 ≤ 7302250; omega⟩ rfl rfl (Nat.le_of_ble_eq_true rfl) d_law_375 (fun v w2m hp => ?_)
        obtain ⟨rfl, rfl⟩ := hp
        refine u_top ?_
        refine u_swap ?_
        refine u_icmp_eq hC 578 d_law_378 (by decide) (fun _ => ?_) (fun w => absurd rfl w)
        refine u_iinc hC (nI (6 * (T + 1))) (j := 0) d_law_578 rfl (show nI (6 * T) + nI 6 = nI (6 * (T + 1)) from by rw [nI_add]; congr 1) (by decide) ?_
        refine u_goto hC 18 d_law_581 (by decide) ?_
        exact ih (T + 1) cap1 _ _ w1n w2m (by omega) (by omega) hIn (by omega) (by omega)
      · refine u_tableIn hC (off := 350) 383 d_law_33 (by decide) (by decide) (by decide) (by decide) ?_
        obtain ⟨mc, ms, cap1, rr, w2n, hmc, hms, hc1, CD, CM⟩ := pr_place (l := l) (D := D) hI (xs (6 * T + 1))
        refine u_aload_n hC d_law_383 rfl ?_
        refine u_aload_n hC d_law_384 rfl ?_
        refine u_iload_n hC d_law_385 rfl ?_
        refine u_iconst hC (nI 1) d_law_386 (by decide) ?_
        refine u_iadd hC d_law_387 ?_
        refine u_sld hC hX hbl hbA (6 * T + 1) (nI_add _ _) (by omega) (by omega) d_law_388 ?_
        refine u_callVF hC CD k_W_60 i_D_place heD rfl ⟨(Nat.le_of_ble_eq_true rfl), (Nat.le_of_ble_eq_true rfl)⟩ ⟨by show kc + mc ≤ 600000; omega, by show ks + ms ≤ 7302250; omega⟩ rfl rfl (Nat.le_of_ble_eq_true rfl) d_law_389 (fun v w1n hp => ?_)
        obtain ⟨rfl, hIn⟩ := hp
        refine u_top ?_
        refine u_swap ?_
        refine u_aload_n hC d_law_392 rfl ?_
        refine u_aload_n hC d_law_393 rfl ?_
        refine u_iload_n hC d_law_394 rfl ?_
        refine u_iconst hC (nI 1) d_law_395 (by decide) ?_
        refine u_iadd hC d_law_396 ?_
        refine u_sld hC hX hbl hbA (6 * T + 1) (nI_add _ _) (by omega) (by omega) d_law_397 ?_
        refine u_callVF hC CM k_W_63 i_M_place heM rfl ⟨(Nat.le_of_ble_eq_true rfl), (Nat.le_of_ble_eq_true rfl)⟩ ⟨by show kc + mc + 0 ≤ 600000; omega, by show ks + ms + 0 ≤ 7302250; omega⟩ rfl rfl (Nat.le_of_ble_eq_true rfl) d_law_398 (fun v w2m hp => ?_)
        obtain ⟨rfl, rfl⟩ := hp
        refine u_top ?_
        refine u_swap ?_
        refine u_icmp_eq hC 578 d_law_401 (by decide) (fun _ => ?_) (fun w => absurd rfl w)
        refine u_iinc hC (nI (6 * (T + 1))) (j := 0) d_law_578 rfl (show nI (6 * T) + nI 6 = nI (6 * (T + 1)) from by rw [nI_add]; congr 1) (by decide) ?_
        refine u_goto hC 18 d_law_581 (by decide) ?_
        exact ih (T + 1) cap1 _ _ w1n w2m (by omega) (by omega) hIn (by omega) (by omega)
      · refine u_tableIn hC (off := 373) 406 d_law_33 (by decide) (by decide) (by decide) (by decide) ?_
        obtain ⟨mc, ms, cap1, rr, w2n, hmc, hms, hc1, CD, CM⟩ := pr_sees (l := l) (D := D) hI hTT (xs (6 * T + 1)) (xs (6 * T + 2)) (xs (6 * T + 3)) (xs (6 * T + 4)) (xs (6 * T + 5))
        refine u_aload_n hC d_law_406 rfl ?_
        refine u_aload_n hC d_law_407 rfl ?_
        refine u_iload_n hC d_law_408 rfl ?_
        refine u_iconst hC (nI 1) d_law_409 (by decide) ?_
        refine u_iadd hC d_law_410 ?_
        refine u_sld hC hX hbl hbA (6 * T + 1) (nI_add _ _) (by omega) (by omega) d_law_411 ?_
        refine u_aload_n hC d_law_412 rfl ?_
        refine u_iload_n hC d_law_413 rfl ?_
        refine u_iconst hC (nI 2) d_law_414 (by decide) ?_
        refine u_iadd hC d_law_415 ?_
        refine u_sld hC hX hbl hbA (6 * T + 2) (nI_add _ _) (by omega) (by omega) d_law_416 ?_
        refine u_aload_n hC d_law_417 rfl ?_
        refine u_iload_n hC d_law_418 rfl ?_
        refine u_iconst hC (nI 3) d_law_419 (by decide) ?_
        refine u_iadd hC d_law_420 ?_
        refine u_sld hC hX hbl hbA (6 * T + 3) (nI_add _ _) (by omega) (by omega) d_law_421 ?_
        refine u_aload_n hC d_law_422 rfl ?_
        refine u_iload_n hC d_law_423 rfl ?_
        refine u_iconst hC (nI 4) d_law_424 (by decide) ?_
        refine u_iadd hC d_law_425 ?_
        refine u_sld hC hX hbl hbA (6 * T + 4) (nI_add _ _) (by omega) (by omega) d_law_426 ?_
        refine u_aload_n hC d_law_427 rfl ?_
        refine u_iload_n hC d_law_428 rfl ?_
        refine u_iconst hC (nI 5) d_law_429 (by decide) ?_
        refine u_iadd hC d_law_430 ?_
        refine u_sld hC hX hbl hbA (6 * T + 5) (nI_add _ _) (by omega) (by omega) d_law_431 ?_
        refine u_callVF hC CD k_W_64 i_D_sees heD rfl ⟨(Nat.le_of_ble_eq_true rfl), (Nat.le_of_ble_eq_true rfl)⟩ ⟨by show kc + mc ≤ 600000; omega, by show ks + ms ≤ 7302250; omega⟩ rfl rfl (Nat.le_of_ble_eq_true rfl) d_law_432 (fun v w1n hp => ?_)
        obtain ⟨rfl, hIn⟩ := hp
        refine u_top ?_
        refine u_swap ?_
        refine u_aload_n hC d_law_435 rfl ?_
        refine u_aload_n hC d_law_436 rfl ?_
        refine u_iload_n hC d_law_437 rfl ?_
        refine u_iconst hC (nI 1) d_law_438 (by decide) ?_
        refine u_iadd hC d_law_439 ?_
        refine u_sld hC hX hbl hbA (6 * T + 1) (nI_add _ _) (by omega) (by omega) d_law_440 ?_
        refine u_aload_n hC d_law_441 rfl ?_
        refine u_iload_n hC d_law_442 rfl ?_
        refine u_iconst hC (nI 2) d_law_443 (by decide) ?_
        refine u_iadd hC d_law_444 ?_
        refine u_sld hC hX hbl hbA (6 * T + 2) (nI_add _ _) (by omega) (by omega) d_law_445 ?_
        refine u_aload_n hC d_law_446 rfl ?_
        refine u_iload_n hC d_law_447 rfl ?_
        refine u_iconst hC (nI 3) d_law_448 (by decide) ?_
        refine u_iadd hC d_law_449 ?_
        refine u_sld hC hX hbl hbA (6 * T + 3) (nI_add _ _) (by omega) (by omega) d_law_450 ?_
        refine u_aload_n hC d_law_451 rfl ?_
        refine u_iload_n hC d_law_452 rfl ?_
        refine u_iconst hC (nI 4) d_law_453 (by decide) ?_
        refine u_iadd hC d_law_454 ?_
        refine u_sld hC hX hbl hbA (6 * T + 4) (nI_add _ _) (by omega) (by omega) d_law_455 ?_
        refine u_aload_n hC d_law_456 rfl ?_
        refine u_iload_n hC d_law_457 rfl ?_
        refine u_iconst hC (nI 5) d_law_458 (by decide) ?_
        refine u_iadd hC d_law_459 ?_
        refine u_sld hC hX hbl hbA (6 * T + 5) (nI_add _ _) (by omega) (by omega) d_law_460 ?_
        refine u_callVF hC CM k_W_68 i_M_sees heM rfl ⟨(Nat.le_of_ble_eq_true rfl), (Nat.le_of_ble_eq_true rfl)⟩ ⟨by show kc + mc + 0 ≤ 600000; omega, by show ks + ms + 0 ≤ 7302250; omega⟩ rfl rfl (Nat.le_of_ble_eq_true rfl) d_law_461 (fun v w2m hp => ?_)
        obtain ⟨rfl, rfl⟩ := hp
        refine u_top ?_
        refine u_swap ?_
        refine u_icmp_eq hC 578 d_law_464 (by decide) (fun _ => ?_) (fun w => absurd rfl w)
        refine u_iinc hC (nI (6 * (T + 1))) (j := 0) d_law_578 rfl (show nI (6 * T) + nI 6 = nI (6 * (T + 1)) from by rw [nI_add]; congr 1) (by decide) ?_
        refine u_goto hC 18 d_law_581 (by decide) ?_
        exact ih (T + 1) cap1 _ _ w1n w2m (by omega) (by omega) hIn (by omega) (by omega)
      · refine u_tableIn hC (off := 436) 469 d_law_33 (by decide) (by decide) (by decide) (by decide) ?_
        obtain ⟨mc, ms, cap1, rr, w2n, hmc, hms, hc1, CD, CM⟩ := pr_ending (l := l) (D := D) hI hTT (xs (6 * T + 1)) (xs (6 * T + 2)) (xs (6 * T + 3))
        refine u_aload_n hC d_law_469 rfl ?_
        refine u_aload_n hC d_law_470 rfl ?_
        refine u_iload_n hC d_law_471 rfl ?_
        refine u_iconst hC (nI 1) d_law_472 (by decide) ?_
        refine u_iadd hC d_law_473 ?_
        refine u_sld hC hX hbl hbA (6 * T + 1) (nI_add _ _) (by omega) (by omega) d_law_474 ?_
        refine u_aload_n hC d_law_475 rfl ?_
        refine u_iload_n hC d_law_476 rfl ?_
        refine u_iconst hC (nI 2) d_law_477 (by decide) ?_
        refine u_iadd hC d_law_478 ?_
        refine u_sld hC hX hbl hbA (6 * T + 2) (nI_add _ _) (by omega) (by omega) d_law_479 ?_
        refine u_aload_n hC d_law_480 rfl ?_
        refine u_iload_n hC d_law_481 rfl ?_
        refine u_iconst hC (nI 3) d_law_482 (by decide) ?_
        refine u_iadd hC d_law_483 ?_
        refine u_sld hC hX hbl hbA (6 * T + 3) (nI_add _ _) (by omega) (by omega) d_law_484 ?_
        refine u_callVF hC CD k_W_69 i_D_ending heD rfl ⟨(Nat.le_of_ble_eq_true rfl), (Nat.le_of_ble_eq_true rfl)⟩ ⟨by show kc + mc ≤ 600000; omega, by show ks + ms ≤ 7302250; omega⟩ rfl rfl (Nat.le_of_ble_eq_true rfl) d_law_485 (fun v w1n hp => ?_)
        obtain ⟨rfl, hIn⟩ := hp
        refine u_top ?_
        refine u_swap ?_
        refine u_aload_n hC d_law_488 rfl ?_
        refine u_aload_n hC d_law_489 rfl ?_
        refine u_iload_n hC d_law_490 rfl ?_
        refine u_iconst hC (nI 1) d_law_491 (by decide) ?_
        refine u_iadd hC d_law_492 ?_
        refine u_sld hC hX hbl hbA (6 * T + 1) (nI_add _ _) (by omega) (by omega) d_law_493 ?_
        refine u_aload_n hC d_law_494 rfl ?_
        refine u_iload_n hC d_law_495 rfl ?_
        refine u_iconst hC (nI 2) d_law_496 (by decide) ?_
        refine u_iadd hC d_law_497 ?_
        refine u_sld hC hX hbl hbA (6 * T + 2) (nI_add _ _) (by omega) (by omega) d_law_498 ?_
        refine u_aload_n hC d_law_499 rfl ?_
        refine u_iload_n hC d_law_500 rfl ?_
        refine u_iconst hC (nI 3) d_law_501 (by decide) ?_
        refine u_iadd hC d_law_502 ?_
        refine u_sld hC hX hbl hbA (6 * T + 3) (nI_add _ _) (by omega) (by omega) d_law_503 ?_
        refine u_callVF hC CM k_W_73 i_M_ending heM rfl ⟨(Nat.le_of_ble_eq_true rfl), (Nat.le_of_ble_eq_true rfl)⟩ ⟨by show kc + mc + 0 ≤ 600000; omega, by show ks + ms + 0 ≤ 7302250; omega⟩ rfl rfl (Nat.le_of_ble_eq_true rfl) d_law_504 (fun v w2m hp => ?_)
        obtain ⟨rfl, rfl⟩ := hp
        refine u_top ?_
        refine u_swap ?_
        refine u_icmp_eq hC 578 d_law_507 (by decide) (fun _ => ?_) (fun w => absurd rfl w)
        refine u_iinc hC (nI (6 * (T + 1))) (j := 0) d_law_578 rfl (show nI (6 * T) + nI 6 = nI (6 * (T + 1)) from by rw [nI_add]; congr 1) (by decide) ?_
        refine u_goto hC 18 d_law_581 (by decide) ?_
        exact ih (T + 1) cap1 _ _ w1n w2m (by omega) (by omega) hIn (by omega) (by omega)
      · refine u_tableIn hC (off := 479) 512 d_law_33 (by decide) (by decide) (by decide) (by decide) ?_
        obtain ⟨mc, ms, cap1, rr, w2n, hmc, hms, hc1, CD, CM⟩ := pr_dead (l := l) (D := D) hI hTT (xs (6 * T + 1)) (xs (6 * T + 2))
        refine u_aload_n hC d_law_512 rfl ?_
        refine u_aload_n hC d_law_513 rfl ?_
        refine u_iload_n hC d_law_514 rfl ?_
        refine u_iconst hC (nI 1) d_law_515 (by decide) ?_
        refine u_iadd hC d_law_516 ?_
        refine u_sld hC hX hbl hbA (6 * T + 1) (nI_add _ _) (by omega) (by omega) d_law_517 ?_
        refine u_aload_n hC d_law_518 rfl ?_
        refine u_iload_n hC d_law_519 rfl ?_
        refine u_iconst hC (nI 2) d_law_520 (by decide) ?_
        refine u_iadd hC d_law_521 ?_
        refine u_sld hC hX hbl hbA (6 * T + 2) (nI_add _ _) (by omega) (by omega) d_law_522 ?_
        refine u_callVF hC CD k_W_74 i_D_dead heD rfl ⟨(Nat.le_of_ble_eq_true rfl), (Nat.le_of_ble_eq_true rfl)⟩ ⟨by show kc + mc ≤ 600000; omega, by show ks + ms ≤ 7302250; omega⟩ rfl rfl (Nat.le_of_ble_eq_true rfl) d_law_523 (fun v w1n hp => ?_)
        obtain ⟨rfl, hIn⟩ := hp
        refine u_top ?_
        refine u_swap ?_
        refine u_aload_n hC d_law_526 rfl ?_
        refine u_aload_n hC d_law_527 rfl ?_
        refine u_iload_n hC d_law_528 rfl ?_
        refine u_iconst hC (nI 1) d_law_529 (by decide) ?_
        refine u_iadd hC d_law_530 ?_
        refine u_sld hC hX hbl hbA (6 * T + 1) (nI_add _ _) (by omega) (by omega) d_law_531 ?_
        refine u_aload_n hC d_law_532 rfl ?_
        refine u_iload_n hC d_law_533 rfl ?_
        refine u_iconst hC (nI 2) d_law_534 (by decide) ?_
        refine u_iadd hC d_law_535 ?_
        refine u_sld hC hX hbl hbA (6 * T + 2) (nI_add _ _) (by omega) (by omega) d_law_536 ?_
        refine u_callVF hC CM k_W_77 i_M_dead heM rfl ⟨(Nat.le_of_ble_eq_true rfl), (Nat.le_of_ble_eq_true rfl)⟩ ⟨by show kc + mc + 0 ≤ 600000; omega, by show ks + ms + 0 ≤ 7302250; omega⟩ rfl rfl (Nat.le_of_ble_eq_true rfl) d_law_537 (fun v w2m hp => ?_)
        obtain ⟨rfl, rfl⟩ := hp
        refine u_top ?_
        refine u_swap ?_
        refine u_icmp_eq hC 578 d_law_540 (by decide) (fun _ => ?_) (fun w => absurd rfl w)
        refine u_iinc hC (nI (6 * (T + 1))) (j := 0) d_law_578 rfl (show nI (6 * T) + nI 6 = nI (6 * (T + 1)) from by rw [nI_add]; congr 1) (by decide) ?_
        refine u_goto hC 18 d_law_581 (by decide) ?_
        exact ih (T + 1) cap1 _ _ w1n w2m (by omega) (by omega) hIn (by omega) (by omega)
      · refine u_tableIn hC (off := 512) 545 d_law_33 (by decide) (by decide) (by decide) (by decide) ?_
        obtain ⟨mc, ms, cap1, rr, w2n, hmc, hms, hc1, CD, CM⟩ := pr_look (l := l) (D := D) hI (xs (6 * T + 1)) (xs (6 * T + 2))
        refine u_aload_n hC d_law_545 rfl ?_
        refine u_aload_n hC d_law_546 rfl ?_
        refine u_iload_n hC d_law_547 rfl ?_
        refine u_iconst hC (nI 1) d_law_548 (by decide) ?_
        refine u_iadd hC d_law_549 ?_
        refine u_sld hC hX hbl hbA (6 * T + 1) (nI_add _ _) (by omega) (by omega) d_law_550 ?_
        refine u_aload_n hC d_law_551 rfl ?_
        refine u_iload_n hC d_law_552 rfl ?_
        refine u_iconst hC (nI 2) d_law_553 (by decide) ?_
        refine u_iadd hC d_law_554 ?_
        refine u_sld hC hX hbl hbA (6 * T + 2) (nI_add _ _) (by omega) (by omega) d_law_555 ?_
        refine u_callVF hC CD k_W_78 i_D_look heD rfl ⟨(Nat.le_of_ble_eq_true rfl), (Nat.le_of_ble_eq_true rfl)⟩ ⟨by show kc + mc ≤ 600000; omega, by show ks + ms ≤ 7302250; omega⟩ rfl rfl (Nat.le_of_ble_eq_true rfl) d_law_556 (fun v w1n hp => ?_)
        obtain ⟨rfl, hIn⟩ := hp
        refine u_top ?_
        refine u_swap ?_
        refine u_aload_n hC d_law_559 rfl ?_
        refine u_aload_n hC d_law_560 rfl ?_
        refine u_iload_n hC d_law_561 rfl ?_
        refine u_iconst hC (nI 1) d_law_562 (by decide) ?_
        refine u_iadd hC d_law_563 ?_
        refine u_sld hC hX hbl hbA (6 * T + 1) (nI_add _ _) (by omega) (by omega) d_law_564 ?_
        refine u_aload_n hC d_law_565 rfl ?_
        refine u_iload_n hC d_law_566 rfl ?_
        refine u_iconst hC (nI 2) d_law_567 (by decide) ?_
        refine u_iadd hC d_law_568 ?_
        refine u_sld hC hX hbl hbA (6 * T + 2) (nI_add _ _) (by omega) (by omega) d_law_569 ?_
        refine u_callVF hC CM k_W_82 i_M_look heM rfl ⟨(Nat.le_of_ble_eq_true rfl), (Nat.le_of_ble_eq_true rfl)⟩ ⟨by show kc + mc + 0 ≤ 600000; omega, by show ks + ms + 0 ≤ 7302250; omega⟩ rfl rfl (Nat.le_of_ble_eq_true rfl) d_law_570 (fun v w2m hp => ?_)
        obtain ⟨rfl, rfl⟩ := hp
        refine u_top ?_
        refine u_swap ?_
        refine u_icmp_eq hC 578 d_law_573 (by decide) (fun _ => ?_) (fun w => absurd rfl w)
        refine u_iinc hC (nI (6 * (T + 1))) (j := 0) d_law_578 rfl (show nI (6 * T) + nI 6 = nI (6 * (T + 1)) from by rw [nI_add]; congr 1) (by decide) ?_
        refine u_goto hC 18 d_law_581 (by decide) ?_
        exact ih (T + 1) cap1 _ _ w1n w2m (by omega) (by omega) hIn (by omega) (by omega)
