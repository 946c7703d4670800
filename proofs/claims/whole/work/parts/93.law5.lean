/-! The law's loop: one round calls the class and then the reference with the same words. Laid by wip/whole/prog/p41.py. -/
section LAW
variable {p : Program} {l : Launch} {e : Env} {s : State} {m : MethodId} {below : List Frame} {meth : Method} {c : Code} {Q : State → Prop} {b L : Nat} {xs : Nat → Int32} {qF qM : xg_T} {H : Heap} {ls : Array Slot} {i pc cells slots : Nat} {rest : List Value}
/-- what stays through the loop -/
def lw_C (p : Program) (s : State) (m : MethodId) (meth : Method) (c : Code) (b L : Nat) (xs : Nat → Int32) (qF qM : xg_T) : Prop :=
  zz_C p s m #[Value.ref b] meth c b_Law_law 4 ret "TreeCoverForgeLaw" ∧ zz_K (xg_G qF) s s.heap ∧ zz_K (mg_G qM) s s.heap ∧ va_X b L xs s s.heap ∧ b < s.heap.size ∧ L ≤ 3072 ∧ (∀ x, zz_A (xg_G qF) x → lw_A s x) ∧ (∀ x, zz_A (mg_G qM) x → lw_A s x) ∧ (∀ x, zz_A (mg_G qM) x → ¬ zz_A (xg_G qF) x) ∧ (∀ x, zz_A (xg_G qF) x → ¬ zz_A (mg_G qM) x)
/-- what a round gives on -/
def lw_J (s : State) (qF qM : xg_T) (H : Heap) : Prop := ∃ F M, lw_Z2 s (xg_G qF) F H ∧ lw_Z2 s (mg_G qM) M H ∧ lj_ok F M ∧ va_S (lw_A s) s.heap H []
abbrev lw_V (b : Nat) (qF qM : xg_T) (i : Nat) : List (Nat × Value) := [(3, .int (nI i)), (2, .ref (zz_ad (mg_G qM) 0)), (1, .ref (zz_ad (xg_G qF) 0)), (0, .ref b)]
theorem lw_arg (hC : lw_C p s m meth c b L xs qF qM) (hS : va_S (lw_A s) s.heap H []) (hl : lv_has ls 4 (lw_V b qF qM i)) (k : Nat) (hk : i + k < L) {z : Int} (hz : Int32.ofInt z = nI k) (d0 : decode b_Law_law pc = .ok (.aload_n 0, 1)) (d1 : decode b_Law_law (pc + 1) = .ok (.iload_n 3, 1)) (d2 : decode b_Law_law (pc + 2) = .ok (.iconst z, 1)) (d3 : decode b_Law_law (pc + 3) = .ok (.iadd, 1)) (d4 : decode b_Law_law (pc + 4) = .ok (.iaload, 1)) (kk : W p l e room_1 s m #[Value.ref b] below meth c H [] cells slots Q (F0 m (pc + 5) ls (.int (xs (i + k)) :: rest))) : W p l e room_1 s m #[Value.ref b] below meth c H [] cells slots Q (F0 m pc ls rest) := by
  have hL := hC.2.2.2.2.2.1
  refine lv_aload_n hC.1.1 hC.1.2.1 d0 rfl (lv_at hl 3 rfl) ?_
  refine lv_iload_n hC.1.1 hC.1.2.1 d1 rfl (lv_at hl 0 rfl) ?_
  refine lv_iconst (v := nI k) hC.1.1 hC.1.2.1 d2 hz ?_
  refine lv_iadd hC.1.1 hC.1.2.1 d3 ?_
  refine zz_topi (nI_add i k) ?_
  refine va_sld hC.1.1 hC.1.2.1 hC.2.2.2.1 hC.2.2.2.2.1 (Nat.not_le.mpr hC.2.2.2.2.1) hS (vp_in_nI hk (by omega)) d4 ?_
  rw [nI_clamp (by omega)]
  exact kk
set_option maxHeartbeats 2000000 in
theorem lw_case_rule (hC : lw_C p s m meth c b L xs qF qM) (hJ : lw_J s qF qM H) (hl : lv_has ls 4 (lw_V b qF qM i)) (hi : i + 6 ≤ L) (hcs : cells ≤ room_1.cells ∧ slots ≤ room_1.slots) (kk : ∀ H1, lw_J s qF qM H1 → W p l e room_1 s m #[Value.ref b] below meth c H1 [] cells slots Q (F0 m 505 ls [])) : W p l e room_1 s m #[Value.ref b] below meth c H [] cells slots Q (F0 m 116 ls []) := by
  obtain ⟨F, M, hF, hM, ⟨rl, R, op, nu, sz, ht, mm, t, ps, reg, vr, cs, pl, sc, hj⟩, hS⟩ := hJ
  refine lv_aload_n hC.1.1 hC.1.2.1 d_Law_law_116 rfl (lv_at hl 2 rfl) ?_
  refine lw_arg hC hS hl 1 (by omega) (by decide) d_Law_law_117 d_Law_law_118 d_Law_law_119 d_Law_law_120 d_Law_law_121 ?_
  refine lw_arg hC hS hl 2 (by omega) (by decide) d_Law_law_122 d_Law_law_123 d_Law_law_124 d_Law_law_125 d_Law_law_126 ?_
  refine lw_arg hC hS hl 3 (by omega) (by decide) d_Law_law_127 d_Law_law_128 d_Law_law_129 d_Law_law_130 d_Law_law_131 ?_
  refine lw_arg hC hS hl 4 (by omega) (by decide) d_Law_law_132 d_Law_law_133 d_Law_law_134 d_Law_law_135 d_Law_law_136 ?_
  refine lw_arg hC hS hl 5 (by omega) (by decide) d_Law_law_137 d_Law_law_138 d_Law_law_139 d_Law_law_140 d_Law_law_141 ?_
  refine lw_ci (zz_rV (As := [.int (xs (i + 1)), .int (xs (i + 2)), .int (xs (i + 3)), .int (xs (i + 4)), .int (xs (i + 5))]) (rest := []) hC.1 hC.2.1 (lw_Zof hF hS) 0 (c_Forge_rule l qF F (xs (i + 1)) (xs (i + 2)) (xs (i + 3)) (xs (i + 4)) (xs (i + 5)) rl R op nu sz ht mm t reg vr cs pl sc hj.1) k_Forge_rule (Nat.le_of_ble_eq_true rfl) (xc_0 qF _ _) rfl wd_248 ⟨rfl, rfl, by decide, by decide⟩ rfl hl.1 rfl (Nat.le_of_ble_eq_true rfl) d_Law_law_142 hcs) hS hC.2.2.2.2.2.2.1 hM hC.2.2.2.2.2.2.2.2.1 (fun x F1 H hx hF hM hS => ?_)
  refine lv_aload_n hC.1.1 hC.1.2.1 d_Law_law_145 rfl (lv_at hl 1 rfl) ?_
  refine lw_arg hC hS hl 1 (by omega) (by decide) d_Law_law_146 d_Law_law_147 d_Law_law_148 d_Law_law_149 d_Law_law_150 ?_
  refine lw_arg hC hS hl 2 (by omega) (by decide) d_Law_law_151 d_Law_law_152 d_Law_law_153 d_Law_law_154 d_Law_law_155 ?_
  refine lw_arg hC hS hl 3 (by omega) (by decide) d_Law_law_156 d_Law_law_157 d_Law_law_158 d_Law_law_159 d_Law_law_160 ?_
  refine lw_arg hC hS hl 4 (by omega) (by decide) d_Law_law_161 d_Law_law_162 d_Law_law_163 d_Law_law_164 d_Law_law_165 ?_
  refine lw_arg hC hS hl 5 (by omega) (by decide) d_Law_law_166 d_Law_law_167 d_Law_law_168 d_Law_law_169 d_Law_law_170 ?_
  refine lw_ci (zz_rV (As := [.int (xs (i + 1)), .int (xs (i + 2)), .int (xs (i + 3)), .int (xs (i + 4)), .int (xs (i + 5))]) (rest := [.int x]) hC.1 hC.2.2.1 (lw_Zof hM hS) 0 (c_Model_rule l qM M (xs (i + 1)) (xs (i + 2)) (xs (i + 3)) (xs (i + 4)) (xs (i + 5)) rl R hj.2.1.1) k_Model_rule (Nat.le_of_ble_eq_true rfl) (mc_0 qM _ _) rfl wd_625 ⟨rfl, rfl, by decide, by decide⟩ rfl hl.1 rfl (Nat.le_of_ble_eq_true rfl) d_Law_law_171 hcs) hS hC.2.2.2.2.2.2.2.1 hF hC.2.2.2.2.2.2.2.2.2 (fun y M1 H hy hM hF hS => ?_)
  obtain ⟨hxy, hJ⟩ := lj_rule hj hx hy
  refine zz_rjeq (tgt := 505) hC.1 d_Law_law_174 (by decide) (fun _ => ?_) (fun h => absurd (congrArg Int32.toInt hxy) h)
  exact kk H ⟨F1, M1, hF, hM, hJ, hS⟩
set_option maxHeartbeats 2000000 in
theorem lw_case_clear (hC : lw_C p s m meth c b L xs qF qM) (hJ : lw_J s qF qM H) (hl : lv_has ls 4 (lw_V b qF qM i)) (hi : i + 6 ≤ L) (hcs : cells ≤ room_1.cells ∧ slots ≤ room_1.slots) (kk : ∀ H1, lw_J s qF qM H1 → W p l e room_1 s m #[Value.ref b] below meth c H1 [] cells slots Q (F0 m 505 ls [])) : W p l e room_1 s m #[Value.ref b] below meth c H [] cells slots Q (F0 m 179 ls []) := by
  obtain ⟨F, M, hF, hM, ⟨rl, R, op, nu, sz, ht, mm, t, ps, reg, vr, cs, pl, sc, hj⟩, hS⟩ := hJ
  refine lv_aload_n hC.1.1 hC.1.2.1 d_Law_law_179 rfl (lv_at hl 2 rfl) ?_
  refine lw_cv (zz_rV (As := []) (rest := []) hC.1 hC.2.1 (lw_Zof hF hS) 0 (c_Forge_clear l qF F  rl R op nu sz ht mm t reg vr cs pl sc hj.1) k_Forge_clear (Nat.le_of_ble_eq_true rfl) (xc_0 qF _ _) rfl wd_271 ⟨rfl, rfl, by decide, by decide⟩ rfl hl.1 rfl (Nat.le_of_ble_eq_true rfl) d_Law_law_180 hcs) hS hC.2.2.2.2.2.2.1 hM hC.2.2.2.2.2.2.2.2.1 (fun F1 H hx hF hM hS => ?_)
  refine lv_aload_n hC.1.1 hC.1.2.1 d_Law_law_183 rfl (lv_at hl 1 rfl) ?_
  refine lw_cv (zz_rV (As := []) (rest := []) hC.1 hC.2.2.1 (lw_Zof hM hS) 0 (c_Model_clear l qM M  ) k_Model_clear (Nat.le_of_ble_eq_true rfl) (mc_0 qM _ _) rfl wd_632 ⟨rfl, rfl, by decide, by decide⟩ rfl hl.1 rfl (Nat.le_of_ble_eq_true rfl) d_Law_law_184 hcs) hS hC.2.2.2.2.2.2.2.1 hF hC.2.2.2.2.2.2.2.2.2 (fun M1 H hy hM hF hS => ?_)
  refine lv_goto (tgt := 505) hC.1.1 hC.1.2.1 d_Law_law_187 (by decide) ?_
  exact kk H ⟨F1, M1, hF, hM, lj_clear hj hx hy, hS⟩
set_option maxHeartbeats 2000000 in
theorem lw_case_states (hC : lw_C p s m meth c b L xs qF qM) (hJ : lw_J s qF qM H) (hl : lv_has ls 4 (lw_V b qF qM i)) (hi : i + 6 ≤ L) (hcs : cells ≤ room_1.cells ∧ slots ≤ room_1.slots) (kk : ∀ H1, lw_J s qF qM H1 → W p l e room_1 s m #[Value.ref b] below meth c H1 [] cells slots Q (F0 m 505 ls [])) : W p l e room_1 s m #[Value.ref b] below meth c H [] cells slots Q (F0 m 190 ls []) := by
  obtain ⟨F, M, hF, hM, ⟨rl, R, op, nu, sz, ht, mm, t, ps, reg, vr, cs, pl, sc, hj⟩, hS⟩ := hJ
  refine lv_aload_n hC.1.1 hC.1.2.1 d_Law_law_190 rfl (lv_at hl 2 rfl) ?_
  refine lw_ci (zz_rV (As := []) (rest := []) hC.1 hC.2.1 (lw_Zof hF hS) 0 (c_Forge_states l qF F  rl R op nu sz ht mm t reg vr cs pl sc hj.1) k_Forge_states (Nat.le_of_ble_eq_true rfl) (xc_0 qF _ _) rfl wd_282 ⟨rfl, rfl, by decide, by decide⟩ rfl hl.1 rfl (Nat.le_of_ble_eq_true rfl) d_Law_law_191 hcs) hS hC.2.2.2.2.2.2.1 hM hC.2.2.2.2.2.2.2.2.1 (fun x F1 H hx hF hM hS => ?_)
  refine lv_aload_n hC.1.1 hC.1.2.1 d_Law_law_194 rfl (lv_at hl 1 rfl) ?_
  refine lw_ci (zz_rV (As := []) (rest := [.int x]) hC.1 hC.2.2.1 (lw_Zof hM hS) 0 (c_Model_states l qM M  rl R hj.2.1.1) k_Model_states (Nat.le_of_ble_eq_true rfl) (mc_0 qM _ _) rfl wd_636 ⟨rfl, rfl, by decide, by decide⟩ rfl hl.1 rfl (Nat.le_of_ble_eq_true rfl) d_Law_law_195 hcs) hS hC.2.2.2.2.2.2.2.1 hF hC.2.2.2.2.2.2.2.2.2 (fun y M1 H hy hM hF hS => ?_)
  obtain ⟨hxy, hJ⟩ := lj_states hj hx hy
  refine zz_rjeq (tgt := 505) hC.1 d_Law_law_198 (by decide) (fun _ => ?_) (fun h => absurd (congrArg Int32.toInt hxy) h)
  exact kk H ⟨F1, M1, hF, hM, hJ, hS⟩
set_option maxHeartbeats 2000000 in
theorem lw_case_push (hC : lw_C p s m meth c b L xs qF qM) (hJ : lw_J s qF qM H) (hl : lv_has ls 4 (lw_V b qF qM i)) (hi : i + 6 ≤ L) (hcs : cells ≤ room_1.cells ∧ slots ≤ room_1.slots) (kk : ∀ H1, lw_J s qF qM H1 → W p l e room_1 s m #[Value.ref b] below meth c H1 [] cells slots Q (F0 m 505 ls [])) : W p l e room_1 s m #[Value.ref b] below meth c H [] cells slots Q (F0 m 203 ls []) := by
  obtain ⟨F, M, hF, hM, ⟨rl, R, op, nu, sz, ht, mm, t, ps, reg, vr, cs, pl, sc, hj⟩, hS⟩ := hJ
  refine lv_aload_n hC.1.1 hC.1.2.1 d_Law_law_203 rfl (lv_at hl 2 rfl) ?_
  refine lw_arg hC hS hl 1 (by omega) (by decide) d_Law_law_204 d_Law_law_205 d_Law_law_206 d_Law_law_207 d_Law_law_208 ?_
  refine lw_arg hC hS hl 2 (by omega) (by decide) d_Law_law_209 d_Law_law_210 d_Law_law_211 d_Law_law_212 d_Law_law_213 ?_
  refine lw_ci (zz_rV (As := [.int (xs (i + 1)), .int (xs (i + 2))]) (rest := []) hC.1 hC.2.1 (lw_Zof hF hS) 0 (c_Forge_push l qF F (xs (i + 1)) (xs (i + 2)) rl R op nu sz ht mm t reg vr cs pl sc hj.1 ps hj.2.1.2.1.2.2.2.2.2.2.2.1) k_Forge_push (Nat.le_of_ble_eq_true rfl) (xc_0 qF _ _) rfl wd_331 ⟨rfl, rfl, by decide, by decide⟩ rfl hl.1 rfl (Nat.le_of_ble_eq_true rfl) d_Law_law_214 hcs) hS hC.2.2.2.2.2.2.1 hM hC.2.2.2.2.2.2.2.2.1 (fun x F1 H hx hF hM hS => ?_)
  refine lv_aload_n hC.1.1 hC.1.2.1 d_Law_law_217 rfl (lv_at hl 1 rfl) ?_
  refine lw_arg hC hS hl 1 (by omega) (by decide) d_Law_law_218 d_Law_law_219 d_Law_law_220 d_Law_law_221 d_Law_law_222 ?_
  refine lw_arg hC hS hl 2 (by omega) (by decide) d_Law_law_223 d_Law_law_224 d_Law_law_225 d_Law_law_226 d_Law_law_227 ?_
  refine lw_ci (zz_rV (As := [.int (xs (i + 1)), .int (xs (i + 2))]) (rest := [.int x]) hC.1 hC.2.2.1 (lw_Zof hM hS) 0 (c_Model_push l qM M (xs (i + 1)) (xs (i + 2)) op nu sz ht mm t ps hj.2.1.2.1) k_Model_push (Nat.le_of_ble_eq_true rfl) (mc_0 qM _ _) rfl wd_664 ⟨rfl, rfl, by decide, by decide⟩ rfl hl.1 rfl (Nat.le_of_ble_eq_true rfl) d_Law_law_228 hcs) hS hC.2.2.2.2.2.2.2.1 hF hC.2.2.2.2.2.2.2.2.2 (fun y M1 H hy hM hF hS => ?_)
  obtain ⟨hxy, hJ⟩ := lj_push hj hx hy
  refine zz_rjeq (tgt := 505) hC.1 d_Law_law_231 (by decide) (fun _ => ?_) (fun h => absurd (congrArg Int32.toInt hxy) h)
  exact kk H ⟨F1, M1, hF, hM, hJ, hS⟩
set_option maxHeartbeats 2000000 in
theorem lw_case_pop (hC : lw_C p s m meth c b L xs qF qM) (hJ : lw_J s qF qM H) (hl : lv_has ls 4 (lw_V b qF qM i)) (hi : i + 6 ≤ L) (hcs : cells ≤ room_1.cells ∧ slots ≤ room_1.slots) (kk : ∀ H1, lw_J s qF qM H1 → W p l e room_1 s m #[Value.ref b] below meth c H1 [] cells slots Q (F0 m 505 ls [])) : W p l e room_1 s m #[Value.ref b] below meth c H [] cells slots Q (F0 m 236 ls []) := by
  obtain ⟨F, M, hF, hM, ⟨rl, R, op, nu, sz, ht, mm, t, ps, reg, vr, cs, pl, sc, hj⟩, hS⟩ := hJ
  refine lv_aload_n hC.1.1 hC.1.2.1 d_Law_law_236 rfl (lv_at hl 2 rfl) ?_
  refine lw_ci (zz_rV (As := []) (rest := []) hC.1 hC.2.1 (lw_Zof hF hS) 0 (c_Forge_pop l qF F  rl R op nu sz ht mm t reg vr cs pl sc hj.1 ps hj.2.1.2.1.2.2.2.2.2.2.2.1) k_Forge_pop (Nat.le_of_ble_eq_true rfl) (xc_0 qF _ _) rfl wd_358 ⟨rfl, rfl, by decide, by decide⟩ rfl hl.1 rfl (Nat.le_of_ble_eq_true rfl) d_Law_law_237 hcs) hS hC.2.2.2.2.2.2.1 hM hC.2.2.2.2.2.2.2.2.1 (fun x F1 H hx hF hM hS => ?_)
  refine lv_aload_n hC.1.1 hC.1.2.1 d_Law_law_240 rfl (lv_at hl 1 rfl) ?_
  refine lw_ci (zz_rV (As := []) (rest := [.int x]) hC.1 hC.2.2.1 (lw_Zof hM hS) 0 (c_Model_pop l qM M  op nu sz ht mm t ps hj.2.1.2.1) k_Model_pop (Nat.le_of_ble_eq_true rfl) (mc_0 qM _ _) rfl wd_668 ⟨rfl, rfl, by decide, by decide⟩ rfl hl.1 rfl (Nat.le_of_ble_eq_true rfl) d_Law_law_241 hcs) hS hC.2.2.2.2.2.2.2.1 hF hC.2.2.2.2.2.2.2.2.2 (fun y M1 H hy hM hF hS => ?_)
  obtain ⟨hxy, hJ⟩ := lj_pop hj hx hy
  refine zz_rjeq (tgt := 505) hC.1 d_Law_law_244 (by decide) (fun _ => ?_) (fun h => absurd (congrArg Int32.toInt hxy) h)
  exact kk H ⟨F1, M1, hF, hM, hJ, hS⟩
set_option maxHeartbeats 2000000 in
theorem lw_case_trees (hC : lw_C p s m meth c b L xs qF qM) (hJ : lw_J s qF qM H) (hl : lv_has ls 4 (lw_V b qF qM i)) (hi : i + 6 ≤ L) (hcs : cells ≤ room_1.cells ∧ slots ≤ room_1.slots) (kk : ∀ H1, lw_J s qF qM H1 → W p l e room_1 s m #[Value.ref b] below meth c H1 [] cells slots Q (F0 m 505 ls [])) : W p l e room_1 s m #[Value.ref b] below meth c H [] cells slots Q (F0 m 249 ls []) := by
  obtain ⟨F, M, hF, hM, ⟨rl, R, op, nu, sz, ht, mm, t, ps, reg, vr, cs, pl, sc, hj⟩, hS⟩ := hJ
  refine lv_aload_n hC.1.1 hC.1.2.1 d_Law_law_249 rfl (lv_at hl 2 rfl) ?_
  refine lw_ci (zz_rV (As := []) (rest := []) hC.1 hC.2.1 (lw_Zof hF hS) 0 (c_Forge_trees l qF F  rl R op nu sz ht mm t reg vr cs pl sc hj.1) k_Forge_trees (Nat.le_of_ble_eq_true rfl) (xc_0 qF _ _) rfl wd_373 ⟨rfl, rfl, by decide, by decide⟩ rfl hl.1 rfl (Nat.le_of_ble_eq_true rfl) d_Law_law_250 hcs) hS hC.2.2.2.2.2.2.1 hM hC.2.2.2.2.2.2.2.2.1 (fun x F1 H hx hF hM hS => ?_)
  refine lv_aload_n hC.1.1 hC.1.2.1 d_Law_law_253 rfl (lv_at hl 1 rfl) ?_
  refine lw_ci (zz_rV (As := []) (rest := [.int x]) hC.1 hC.2.2.1 (lw_Zof hM hS) 0 (c_Model_trees l qM M  op nu sz ht mm t ps hj.2.1.2.1) k_Model_trees (Nat.le_of_ble_eq_true rfl) (mc_0 qM _ _) rfl wd_672 ⟨rfl, rfl, by decide, by decide⟩ rfl hl.1 rfl (Nat.le_of_ble_eq_true rfl) d_Law_law_254 hcs) hS hC.2.2.2.2.2.2.2.1 hF hC.2.2.2.2.2.2.2.2.2 (fun y M1 H hy hM hF hS => ?_)
  obtain ⟨hxy, hJ⟩ := lj_same hj hx.1 hy.1 hx.2 hy.2
  refine zz_rjeq (tgt := 505) hC.1 d_Law_law_257 (by decide) (fun _ => ?_) (fun h => absurd (congrArg Int32.toInt hxy) h)
  exact kk H ⟨F1, M1, hF, hM, hJ, hS⟩
set_option maxHeartbeats 2000000 in
theorem lw_case_nodes (hC : lw_C p s m meth c b L xs qF qM) (hJ : lw_J s qF qM H) (hl : lv_has ls 4 (lw_V b qF qM i)) (hi : i + 6 ≤ L) (hcs : cells ≤ room_1.cells ∧ slots ≤ room_1.slots) (kk : ∀ H1, lw_J s qF qM H1 → W p l e room_1 s m #[Value.ref b] below meth c H1 [] cells slots Q (F0 m 505 ls [])) : W p l e room_1 s m #[Value.ref b] below meth c H [] cells slots Q (F0 m 262 ls []) := by
  obtain ⟨F, M, hF, hM, ⟨rl, R, op, nu, sz, ht, mm, t, ps, reg, vr, cs, pl, sc, hj⟩, hS⟩ := hJ
  refine lv_aload_n hC.1.1 hC.1.2.1 d_Law_law_262 rfl (lv_at hl 2 rfl) ?_
  refine lw_ci (zz_rV (As := []) (rest := []) hC.1 hC.2.1 (lw_Zof hF hS) 0 (c_Forge_nodes l qF F  rl R op nu sz ht mm t reg vr cs pl sc hj.1) k_Forge_nodes (Nat.le_of_ble_eq_true rfl) (xc_0 qF _ _) rfl wd_377 ⟨rfl, rfl, by decide, by decide⟩ rfl hl.1 rfl (Nat.le_of_ble_eq_true rfl) d_Law_law_263 hcs) hS hC.2.2.2.2.2.2.1 hM hC.2.2.2.2.2.2.2.2.1 (fun x F1 H hx hF hM hS => ?_)
  refine lv_aload_n hC.1.1 hC.1.2.1 d_Law_law_266 rfl (lv_at hl 1 rfl) ?_
  refine lw_ci (zz_rV (As := []) (rest := [.int x]) hC.1 hC.2.2.1 (lw_Zof hM hS) 0 (c_Model_nodes l qM M  op nu sz ht mm t ps hj.2.1.2.1) k_Model_nodes (Nat.le_of_ble_eq_true rfl) (mc_0 qM _ _) rfl wd_676 ⟨rfl, rfl, by decide, by decide⟩ rfl hl.1 rfl (Nat.le_of_ble_eq_true rfl) d_Law_law_267 hcs) hS hC.2.2.2.2.2.2.2.1 hF hC.2.2.2.2.2.2.2.2.2 (fun y M1 H hy hM hF hS => ?_)
  obtain ⟨hxy, hJ⟩ := lj_same hj hx.1 hy.1 hx.2 hy.2
  refine zz_rjeq (tgt := 505) hC.1 d_Law_law_270 (by decide) (fun _ => ?_) (fun h => absurd (congrArg Int32.toInt hxy) h)
  exact kk H ⟨F1, M1, hF, hM, hJ, hS⟩
set_option maxHeartbeats 2000000 in
theorem lw_case_relative (hC : lw_C p s m meth c b L xs qF qM) (hJ : lw_J s qF qM H) (hl : lv_has ls 4 (lw_V b qF qM i)) (hi : i + 6 ≤ L) (hcs : cells ≤ room_1.cells ∧ slots ≤ room_1.slots) (kk : ∀ H1, lw_J s qF qM H1 → W p l e room_1 s m #[Value.ref b] below meth c H1 [] cells slots Q (F0 m 505 ls [])) : W p l e room_1 s m #[Value.ref b] below meth c H [] cells slots Q (F0 m 275 ls []) := by
  obtain ⟨F, M, hF, hM, ⟨rl, R, op, nu, sz, ht, mm, t, ps, reg, vr, cs, pl, sc, hj⟩, hS⟩ := hJ
  refine lv_aload_n hC.1.1 hC.1.2.1 d_Law_law_275 rfl (lv_at hl 2 rfl) ?_
  refine lw_arg hC hS hl 1 (by omega) (by decide) d_Law_law_276 d_Law_law_277 d_Law_law_278 d_Law_law_279 d_Law_law_280 ?_
  refine lw_arg hC hS hl 2 (by omega) (by decide) d_Law_law_281 d_Law_law_282 d_Law_law_283 d_Law_law_284 d_Law_law_285 ?_
  refine lw_ci (zz_rV (As := [.int (xs (i + 1)), .int (xs (i + 2))]) (rest := []) hC.1 hC.2.1 (lw_Zof hF hS) 0 (c_Forge_relative l qF F (xs (i + 1)) (xs (i + 2)) rl R op nu sz ht mm t reg vr cs pl sc hj.1) k_Forge_relative (Nat.le_of_ble_eq_true rfl) (xc_0 qF _ _) rfl wd_382 ⟨rfl, rfl, by decide, by decide⟩ rfl hl.1 rfl (Nat.le_of_ble_eq_true rfl) d_Law_law_286 hcs) hS hC.2.2.2.2.2.2.1 hM hC.2.2.2.2.2.2.2.2.1 (fun x F1 H hx hF hM hS => ?_)
  refine lv_aload_n hC.1.1 hC.1.2.1 d_Law_law_289 rfl (lv_at hl 1 rfl) ?_
  refine lw_arg hC hS hl 1 (by omega) (by decide) d_Law_law_290 d_Law_law_291 d_Law_law_292 d_Law_law_293 d_Law_law_294 ?_
  refine lw_arg hC hS hl 2 (by omega) (by decide) d_Law_law_295 d_Law_law_296 d_Law_law_297 d_Law_law_298 d_Law_law_299 ?_
  refine lw_ci (zz_rV (As := [.int (xs (i + 1)), .int (xs (i + 2))]) (rest := [.int x]) hC.1 hC.2.2.1 (lw_Zof hM hS) 0 (c_Model_relative l qM M (xs (i + 1)) (xs (i + 2)) rl R hj.2.1.1 op nu sz ht mm t ps hj.2.1.2.1) k_Model_relative (Nat.le_of_ble_eq_true rfl) (mc_0 qM _ _) rfl wd_680 ⟨rfl, rfl, by decide, by decide⟩ rfl hl.1 rfl (Nat.le_of_ble_eq_true rfl) d_Law_law_300 hcs) hS hC.2.2.2.2.2.2.2.1 hF hC.2.2.2.2.2.2.2.2.2 (fun y M1 H hy hM hF hS => ?_)
  obtain ⟨hxy, hJ⟩ := lj_relative hj hx hy
  refine zz_rjeq (tgt := 505) hC.1 d_Law_law_303 (by decide) (fun _ => ?_) (fun h => absurd (congrArg Int32.toInt hxy) h)
  exact kk H ⟨F1, M1, hF, hM, hJ, hS⟩
set_option maxHeartbeats 2000000 in
theorem lw_case_choice (hC : lw_C p s m meth c b L xs qF qM) (hJ : lw_J s qF qM H) (hl : lv_has ls 4 (lw_V b qF qM i)) (hi : i + 6 ≤ L) (hcs : cells ≤ room_1.cells ∧ slots ≤ room_1.slots) (kk : ∀ H1, lw_J s qF qM H1 → W p l e room_1 s m #[Value.ref b] below meth c H1 [] cells slots Q (F0 m 505 ls [])) : W p l e room_1 s m #[Value.ref b] below meth c H [] cells slots Q (F0 m 308 ls []) := by
  obtain ⟨F, M, hF, hM, ⟨rl, R, op, nu, sz, ht, mm, t, ps, reg, vr, cs, pl, sc, hj⟩, hS⟩ := hJ
  refine lv_aload_n hC.1.1 hC.1.2.1 d_Law_law_308 rfl (lv_at hl 2 rfl) ?_
  refine lw_arg hC hS hl 1 (by omega) (by decide) d_Law_law_309 d_Law_law_310 d_Law_law_311 d_Law_law_312 d_Law_law_313 ?_
  refine lw_arg hC hS hl 2 (by omega) (by decide) d_Law_law_314 d_Law_law_315 d_Law_law_316 d_Law_law_317 d_Law_law_318 ?_
  refine lw_ci (zz_rV (As := [.int (xs (i + 1)), .int (xs (i + 2))]) (rest := []) hC.1 hC.2.1 (lw_Zof hF hS) 0 (c_Forge_choice l qF F (xs (i + 1)) (xs (i + 2)) rl R op nu sz ht mm t reg vr cs pl sc hj.1) k_Forge_choice (Nat.le_of_ble_eq_true rfl) (xc_0 qF _ _) rfl wd_401 ⟨rfl, rfl, by decide, by decide⟩ rfl hl.1 rfl (Nat.le_of_ble_eq_true rfl) d_Law_law_319 hcs) hS hC.2.2.2.2.2.2.1 hM hC.2.2.2.2.2.2.2.2.1 (fun x F1 H hx hF hM hS => ?_)
  refine lv_aload_n hC.1.1 hC.1.2.1 d_Law_law_322 rfl (lv_at hl 1 rfl) ?_
  refine lw_arg hC hS hl 1 (by omega) (by decide) d_Law_law_323 d_Law_law_324 d_Law_law_325 d_Law_law_326 d_Law_law_327 ?_
  refine lw_arg hC hS hl 2 (by omega) (by decide) d_Law_law_328 d_Law_law_329 d_Law_law_330 d_Law_law_331 d_Law_law_332 ?_
  refine lw_ci (zz_rV (As := [.int (xs (i + 1)), .int (xs (i + 2))]) (rest := [.int x]) hC.1 hC.2.2.1 (lw_Zof hM hS) 0 (c_Model_choice l qM M (xs (i + 1)) (xs (i + 2)) rl R hj.2.1.1 op nu sz ht mm t ps hj.2.1.2.1) k_Model_choice (Nat.le_of_ble_eq_true rfl) (mc_0 qM _ _) rfl wd_697 ⟨rfl, rfl, by decide, by decide⟩ rfl hl.1 rfl (Nat.le_of_ble_eq_true rfl) d_Law_law_333 hcs) hS hC.2.2.2.2.2.2.2.1 hF hC.2.2.2.2.2.2.2.2.2 (fun y M1 H hy hM hF hS => ?_)
  obtain ⟨hxy, hJ⟩ := lj_choice hj hx hy
  refine zz_rjeq (tgt := 505) hC.1 d_Law_law_336 (by decide) (fun _ => ?_) (fun h => absurd (congrArg Int32.toInt hxy) h)
  exact kk H ⟨F1, M1, hF, hM, hJ, hS⟩
set_option maxHeartbeats 2000000 in
theorem lw_case_cost (hC : lw_C p s m meth c b L xs qF qM) (hJ : lw_J s qF qM H) (hl : lv_has ls 4 (lw_V b qF qM i)) (hi : i + 6 ≤ L) (hcs : cells ≤ room_1.cells ∧ slots ≤ room_1.slots) (kk : ∀ H1, lw_J s qF qM H1 → W p l e room_1 s m #[Value.ref b] below meth c H1 [] cells slots Q (F0 m 505 ls [])) : W p l e room_1 s m #[Value.ref b] below meth c H [] cells slots Q (F0 m 341 ls []) := by
  obtain ⟨F, M, hF, hM, ⟨rl, R, op, nu, sz, ht, mm, t, ps, reg, vr, cs, pl, sc, hj⟩, hS⟩ := hJ
  refine lv_aload_n hC.1.1 hC.1.2.1 d_Law_law_341 rfl (lv_at hl 2 rfl) ?_
  refine lw_arg hC hS hl 1 (by omega) (by decide) d_Law_law_342 d_Law_law_343 d_Law_law_344 d_Law_law_345 d_Law_law_346 ?_
  refine lw_ci (zz_rV (As := [.int (xs (i + 1))]) (rest := []) hC.1 hC.2.1 (lw_Zof hF hS) 0 (c_Forge_cost l qF F (xs (i + 1)) rl R op nu sz ht mm t reg vr cs pl sc hj.1) k_Forge_cost (Nat.le_of_ble_eq_true rfl) (xc_0 qF _ _) rfl wd_405 ⟨rfl, rfl, by decide, by decide⟩ rfl hl.1 rfl (Nat.le_of_ble_eq_true rfl) d_Law_law_347 hcs) hS hC.2.2.2.2.2.2.1 hM hC.2.2.2.2.2.2.2.2.1 (fun x F1 H hx hF hM hS => ?_)
  refine lv_aload_n hC.1.1 hC.1.2.1 d_Law_law_350 rfl (lv_at hl 1 rfl) ?_
  refine lw_arg hC hS hl 1 (by omega) (by decide) d_Law_law_351 d_Law_law_352 d_Law_law_353 d_Law_law_354 d_Law_law_355 ?_
  refine lw_ci (zz_rV (As := [.int (xs (i + 1))]) (rest := [.int x]) hC.1 hC.2.2.1 (lw_Zof hM hS) 0 (c_Model_cost l qM M (xs (i + 1)) rl R hj.2.1.1 op nu sz ht mm t ps hj.2.1.2.1) k_Model_cost (Nat.le_of_ble_eq_true rfl) (mc_0 qM _ _) rfl wd_701 ⟨rfl, rfl, by decide, by decide⟩ rfl hl.1 rfl (Nat.le_of_ble_eq_true rfl) d_Law_law_356 hcs) hS hC.2.2.2.2.2.2.2.1 hF hC.2.2.2.2.2.2.2.2.2 (fun y M1 H hy hM hF hS => ?_)
  obtain ⟨hxy, hJ⟩ := lj_cost hj hx hy
  refine zz_rjeq (tgt := 505) hC.1 d_Law_law_359 (by decide) (fun _ => ?_) (fun h => absurd (congrArg Int32.toInt hxy) h)
  exact kk H ⟨F1, M1, hF, hM, hJ, hS⟩
set_option maxHeartbeats 2000000 in
theorem lw_case_registers (hC : lw_C p s m meth c b L xs qF qM) (hJ : lw_J s qF qM H) (hl : lv_has ls 4 (lw_V b qF qM i)) (hi : i + 6 ≤ L) (hcs : cells ≤ room_1.cells ∧ slots ≤ room_1.slots) (kk : ∀ H1, lw_J s qF qM H1 → W p l e room_1 s m #[Value.ref b] below meth c H1 [] cells slots Q (F0 m 505 ls [])) : W p l e room_1 s m #[Value.ref b] below meth c H [] cells slots Q (F0 m 364 ls []) := by
  obtain ⟨F, M, hF, hM, ⟨rl, R, op, nu, sz, ht, mm, t, ps, reg, vr, cs, pl, sc, hj⟩, hS⟩ := hJ
  refine lv_aload_n hC.1.1 hC.1.2.1 d_Law_law_364 rfl (lv_at hl 2 rfl) ?_
  refine lw_arg hC hS hl 1 (by omega) (by decide) d_Law_law_365 d_Law_law_366 d_Law_law_367 d_Law_law_368 d_Law_law_369 ?_
  refine lw_ci (zz_rV (As := [.int (xs (i + 1))]) (rest := []) hC.1 hC.2.1 (lw_Zof hF hS) 0 (c_Forge_registers l qF F (xs (i + 1)) rl R op nu sz ht mm t reg vr cs pl sc hj.1) k_Forge_registers (Nat.le_of_ble_eq_true rfl) (xc_0 qF _ _) rfl wd_409 ⟨rfl, rfl, by decide, by decide⟩ rfl hl.1 rfl (Nat.le_of_ble_eq_true rfl) d_Law_law_370 hcs) hS hC.2.2.2.2.2.2.1 hM hC.2.2.2.2.2.2.2.2.1 (fun x F1 H hx hF hM hS => ?_)
  refine lv_aload_n hC.1.1 hC.1.2.1 d_Law_law_373 rfl (lv_at hl 1 rfl) ?_
  refine lw_arg hC hS hl 1 (by omega) (by decide) d_Law_law_374 d_Law_law_375 d_Law_law_376 d_Law_law_377 d_Law_law_378 ?_
  refine lw_ci (zz_rV (As := [.int (xs (i + 1))]) (rest := [.int x]) hC.1 hC.2.2.1 (lw_Zof hM hS) 0 (c_Model_registers l qM M (xs (i + 1)) ) k_Model_registers (Nat.le_of_ble_eq_true rfl) (mc_0 qM _ _) rfl wd_705 ⟨rfl, rfl, by decide, by decide⟩ rfl hl.1 rfl (Nat.le_of_ble_eq_true rfl) d_Law_law_379 hcs) hS hC.2.2.2.2.2.2.2.1 hF hC.2.2.2.2.2.2.2.2.2 (fun y M1 H hy hM hF hS => ?_)
  obtain ⟨hxy, hJ⟩ := lj_registers hj hx hy
  refine zz_rjeq (tgt := 505) hC.1 d_Law_law_382 (by decide) (fun _ => ?_) (fun h => absurd (congrArg Int32.toInt hxy) h)
  exact kk H ⟨F1, M1, hF, hM, hJ, hS⟩
set_option maxHeartbeats 2000000 in
theorem lw_case_cover (hC : lw_C p s m meth c b L xs qF qM) (hJ : lw_J s qF qM H) (hl : lv_has ls 4 (lw_V b qF qM i)) (hi : i + 6 ≤ L) (hcs : cells ≤ room_1.cells ∧ slots ≤ room_1.slots) (kk : ∀ H1, lw_J s qF qM H1 → W p l e room_1 s m #[Value.ref b] below meth c H1 [] cells slots Q (F0 m 505 ls [])) : W p l e room_1 s m #[Value.ref b] below meth c H [] cells slots Q (F0 m 387 ls []) := by
  obtain ⟨F, M, hF, hM, ⟨rl, R, op, nu, sz, ht, mm, t, ps, reg, vr, cs, pl, sc, hj⟩, hS⟩ := hJ
  refine lv_aload_n hC.1.1 hC.1.2.1 d_Law_law_387 rfl (lv_at hl 2 rfl) ?_
  refine lw_ci (zz_rV (As := []) (rest := []) hC.1 hC.2.1 (lw_Zof hF hS) 0 (c_Forge_cover l qF F  rl R op nu sz ht mm t reg vr cs pl sc hj.1 hj.2.2.2.2) k_Forge_cover (Nat.le_of_ble_eq_true rfl) (xc_0 qF _ _) rfl wd_413 ⟨rfl, rfl, by decide, by decide⟩ rfl hl.1 rfl (Nat.le_of_ble_eq_true rfl) d_Law_law_388 hcs) hS hC.2.2.2.2.2.2.1 hM hC.2.2.2.2.2.2.2.2.1 (fun x F1 H hx hF hM hS => ?_)
  refine lv_aload_n hC.1.1 hC.1.2.1 d_Law_law_391 rfl (lv_at hl 1 rfl) ?_
  refine lw_ci (zz_rV (As := []) (rest := [.int x]) hC.1 hC.2.2.1 (lw_Zof hM hS) 0 (c_Model_cover l qM M  rl R hj.2.1.1 op nu sz ht mm t ps hj.2.1.2.1 reg hj.2.1.2.2.1 hj.2.2.2.2) k_Model_cover (Nat.le_of_ble_eq_true rfl) (mc_0 qM _ _) rfl wd_709 ⟨rfl, rfl, by decide, by decide⟩ rfl hl.1 rfl (Nat.le_of_ble_eq_true rfl) d_Law_law_392 hcs) hS hC.2.2.2.2.2.2.2.1 hF hC.2.2.2.2.2.2.2.2.2 (fun y M1 H hy hM hF hS => ?_)
  obtain ⟨hxy, hJ⟩ := lj_cover hj hx hy
  refine zz_rjeq (tgt := 505) hC.1 d_Law_law_395 (by decide) (fun _ => ?_) (fun h => absurd (congrArg Int32.toInt hxy) h)
  exact kk H ⟨F1, M1, hF, hM, hJ, hS⟩
set_option maxHeartbeats 2000000 in
theorem lw_case_instruction (hC : lw_C p s m meth c b L xs qF qM) (hJ : lw_J s qF qM H) (hl : lv_has ls 4 (lw_V b qF qM i)) (hi : i + 6 ≤ L) (hcs : cells ≤ room_1.cells ∧ slots ≤ room_1.slots) (kk : ∀ H1, lw_J s qF qM H1 → W p l e room_1 s m #[Value.ref b] below meth c H1 [] cells slots Q (F0 m 505 ls [])) : W p l e room_1 s m #[Value.ref b] below meth c H [] cells slots Q (F0 m 400 ls []) := by
  obtain ⟨F, M, hF, hM, ⟨rl, R, op, nu, sz, ht, mm, t, ps, reg, vr, cs, pl, sc, hj⟩, hS⟩ := hJ
  refine lv_aload_n hC.1.1 hC.1.2.1 d_Law_law_400 rfl (lv_at hl 2 rfl) ?_
  refine lw_arg hC hS hl 1 (by omega) (by decide) d_Law_law_401 d_Law_law_402 d_Law_law_403 d_Law_law_404 d_Law_law_405 ?_
  refine lw_arg hC hS hl 2 (by omega) (by decide) d_Law_law_406 d_Law_law_407 d_Law_law_408 d_Law_law_409 d_Law_law_410 ?_
  refine lw_ci (zz_rV (As := [.int (xs (i + 1)), .int (xs (i + 2))]) (rest := []) hC.1 hC.2.1 (lw_Zof hF hS) 0 (c_Forge_instruction l qF F (xs (i + 1)) (xs (i + 2)) rl R op nu sz ht mm t reg vr cs pl sc hj.1 hj.2.2.2.1) k_Forge_instruction (Nat.le_of_ble_eq_true rfl) (xc_0 qF _ _) rfl wd_461 ⟨rfl, rfl, by decide, by decide⟩ rfl hl.1 rfl (Nat.le_of_ble_eq_true rfl) d_Law_law_411 hcs) hS hC.2.2.2.2.2.2.1 hM hC.2.2.2.2.2.2.2.2.1 (fun x F1 H hx hF hM hS => ?_)
  refine lv_aload_n hC.1.1 hC.1.2.1 d_Law_law_414 rfl (lv_at hl 1 rfl) ?_
  refine lw_arg hC hS hl 1 (by omega) (by decide) d_Law_law_415 d_Law_law_416 d_Law_law_417 d_Law_law_418 d_Law_law_419 ?_
  refine lw_arg hC hS hl 2 (by omega) (by decide) d_Law_law_420 d_Law_law_421 d_Law_law_422 d_Law_law_423 d_Law_law_424 ?_
  refine lw_ci (zz_rV (As := [.int (xs (i + 1)), .int (xs (i + 2))]) (rest := [.int x]) hC.1 hC.2.2.1 (lw_Zof hM hS) 0 (c_Model_instruction l qM M (xs (i + 1)) (xs (i + 2)) cs pl hj.2.1.2.2.2.2.1 hj.2.2.2.1.1 hj.2.1.2.2.2.2.2.2) k_Model_instruction (Nat.le_of_ble_eq_true rfl) (mc_0 qM _ _) rfl wd_733 ⟨rfl, rfl, by decide, by decide⟩ rfl hl.1 rfl (Nat.le_of_ble_eq_true rfl) d_Law_law_425 hcs) hS hC.2.2.2.2.2.2.2.1 hF hC.2.2.2.2.2.2.2.2.2 (fun y M1 H hy hM hF hS => ?_)
  obtain ⟨hxy, hJ⟩ := lj_same hj hx.1 hy.1 rfl (by rcases hx.2 with ⟨a, b⟩ | ⟨a, b⟩ <;> rcases hy.2 with ⟨c, d⟩ | ⟨c, d⟩ <;> first | exact d.trans b.symm | exact absurd c a | exact absurd a c)
  refine zz_rjeq (tgt := 505) hC.1 d_Law_law_428 (by decide) (fun _ => ?_) (fun h => absurd (congrArg Int32.toInt hxy) h)
  exact kk H ⟨F1, M1, hF, hM, hJ, hS⟩
set_option maxHeartbeats 2000000 in
theorem lw_case_slots (hC : lw_C p s m meth c b L xs qF qM) (hJ : lw_J s qF qM H) (hl : lv_has ls 4 (lw_V b qF qM i)) (hi : i + 6 ≤ L) (hcs : cells ≤ room_1.cells ∧ slots ≤ room_1.slots) (kk : ∀ H1, lw_J s qF qM H1 → W p l e room_1 s m #[Value.ref b] below meth c H1 [] cells slots Q (F0 m 505 ls [])) : W p l e room_1 s m #[Value.ref b] below meth c H [] cells slots Q (F0 m 433 ls []) := by
  obtain ⟨F, M, hF, hM, ⟨rl, R, op, nu, sz, ht, mm, t, ps, reg, vr, cs, pl, sc, hj⟩, hS⟩ := hJ
  refine lv_aload_n hC.1.1 hC.1.2.1 d_Law_law_433 rfl (lv_at hl 2 rfl) ?_
  refine lw_ci (zz_rV (As := []) (rest := []) hC.1 hC.2.1 (lw_Zof hF hS) 0 (c_Forge_slots l qF F  rl R op nu sz ht mm t reg vr cs pl sc hj.1) k_Forge_slots (Nat.le_of_ble_eq_true rfl) (xc_0 qF _ _) rfl wd_473 ⟨rfl, rfl, by decide, by decide⟩ rfl hl.1 rfl (Nat.le_of_ble_eq_true rfl) d_Law_law_434 hcs) hS hC.2.2.2.2.2.2.1 hM hC.2.2.2.2.2.2.2.2.1 (fun x F1 H hx hF hM hS => ?_)
  refine lv_aload_n hC.1.1 hC.1.2.1 d_Law_law_437 rfl (lv_at hl 1 rfl) ?_
  refine lw_ci (zz_rV (As := []) (rest := [.int x]) hC.1 hC.2.2.1 (lw_Zof hM hS) 0 (c_Model_slots l qM M  sc hj.2.1.2.2.2.2.2.1) k_Model_slots (Nat.le_of_ble_eq_true rfl) (mc_0 qM _ _) rfl wd_737 ⟨rfl, rfl, by decide, by decide⟩ rfl hl.1 rfl (Nat.le_of_ble_eq_true rfl) d_Law_law_438 hcs) hS hC.2.2.2.2.2.2.2.1 hF hC.2.2.2.2.2.2.2.2.2 (fun y M1 H hy hM hF hS => ?_)
  obtain ⟨hxy, hJ⟩ := lj_same hj hx.1 hy.1 hx.2 hy.2
  refine zz_rjeq (tgt := 505) hC.1 d_Law_law_441 (by decide) (fun _ => ?_) (fun h => absurd (congrArg Int32.toInt hxy) h)
  exact kk H ⟨F1, M1, hF, hM, hJ, hS⟩
set_option maxHeartbeats 2000000 in
theorem lw_case_set (hC : lw_C p s m meth c b L xs qF qM) (hJ : lw_J s qF qM H) (hl : lv_has ls 4 (lw_V b qF qM i)) (hi : i + 6 ≤ L) (hcs : cells ≤ room_1.cells ∧ slots ≤ room_1.slots) (kk : ∀ H1, lw_J s qF qM H1 → W p l e room_1 s m #[Value.ref b] below meth c H1 [] cells slots Q (F0 m 505 ls [])) : W p l e room_1 s m #[Value.ref b] below meth c H [] cells slots Q (F0 m 446 ls []) := by
  obtain ⟨F, M, hF, hM, ⟨rl, R, op, nu, sz, ht, mm, t, ps, reg, vr, cs, pl, sc, hj⟩, hS⟩ := hJ
  refine lv_aload_n hC.1.1 hC.1.2.1 d_Law_law_446 rfl (lv_at hl 2 rfl) ?_
  refine lw_arg hC hS hl 1 (by omega) (by decide) d_Law_law_447 d_Law_law_448 d_Law_law_449 d_Law_law_450 d_Law_law_451 ?_
  refine lw_arg hC hS hl 2 (by omega) (by decide) d_Law_law_452 d_Law_law_453 d_Law_law_454 d_Law_law_455 d_Law_law_456 ?_
  refine lw_ci (zz_rV (As := [.int (xs (i + 1)), .int (xs (i + 2))]) (rest := []) hC.1 hC.2.1 (lw_Zof hF hS) 0 (c_Forge_set l qF F (xs (i + 1)) (xs (i + 2)) rl R op nu sz ht mm t reg vr cs pl sc hj.1) k_Forge_set (Nat.le_of_ble_eq_true rfl) (xc_0 qF _ _) rfl wd_477 ⟨rfl, rfl, by decide, by decide⟩ rfl hl.1 rfl (Nat.le_of_ble_eq_true rfl) d_Law_law_457 hcs) hS hC.2.2.2.2.2.2.1 hM hC.2.2.2.2.2.2.2.2.1 (fun x F1 H hx hF hM hS => ?_)
  refine lv_aload_n hC.1.1 hC.1.2.1 d_Law_law_460 rfl (lv_at hl 1 rfl) ?_
  refine lw_arg hC hS hl 1 (by omega) (by decide) d_Law_law_461 d_Law_law_462 d_Law_law_463 d_Law_law_464 d_Law_law_465 ?_
  refine lw_arg hC hS hl 2 (by omega) (by decide) d_Law_law_466 d_Law_law_467 d_Law_law_468 d_Law_law_469 d_Law_law_470 ?_
  refine lw_ci (zz_rV (As := [.int (xs (i + 1)), .int (xs (i + 2))]) (rest := [.int x]) hC.1 hC.2.2.1 (lw_Zof hM hS) 0 (c_Model_set l qM M (xs (i + 1)) (xs (i + 2)) ) k_Model_set (Nat.le_of_ble_eq_true rfl) (mc_0 qM _ _) rfl wd_741 ⟨rfl, rfl, by decide, by decide⟩ rfl hl.1 rfl (Nat.le_of_ble_eq_true rfl) d_Law_law_471 hcs) hS hC.2.2.2.2.2.2.2.1 hF hC.2.2.2.2.2.2.2.2.2 (fun y M1 H hy hM hF hS => ?_)
  obtain ⟨hxy, hJ⟩ := lj_set hj hx hy
  refine zz_rjeq (tgt := 505) hC.1 d_Law_law_474 (by decide) (fun _ => ?_) (fun h => absurd (congrArg Int32.toInt hxy) h)
  exact kk H ⟨F1, M1, hF, hM, hJ, hS⟩
set_option maxHeartbeats 2000000 in
theorem lw_case_run (hC : lw_C p s m meth c b L xs qF qM) (hJ : lw_J s qF qM H) (hl : lv_has ls 4 (lw_V b qF qM i)) (hi : i + 6 ≤ L) (hcs : cells ≤ room_1.cells ∧ slots ≤ room_1.slots) (kk : ∀ H1, lw_J s qF qM H1 → W p l e room_1 s m #[Value.ref b] below meth c H1 [] cells slots Q (F0 m 505 ls [])) : W p l e room_1 s m #[Value.ref b] below meth c H [] cells slots Q (F0 m 479 ls []) := by
  obtain ⟨F, M, hF, hM, ⟨rl, R, op, nu, sz, ht, mm, t, ps, reg, vr, cs, pl, sc, hj⟩, hS⟩ := hJ
  refine lv_aload_n hC.1.1 hC.1.2.1 d_Law_law_479 rfl (lv_at hl 2 rfl) ?_
  refine lw_ci (zz_rV (As := []) (rest := []) hC.1 hC.2.1 (lw_Zof hF hS) 0 (c_Forge_run l qF F  rl R op nu sz ht mm t reg vr cs pl sc hj.1 hj.2.2.2.1) k_Forge_run (Nat.le_of_ble_eq_true rfl) (xc_0 qF _ _) rfl wd_481 ⟨rfl, rfl, by decide, by decide⟩ rfl hl.1 rfl (Nat.le_of_ble_eq_true rfl) d_Law_law_480 hcs) hS hC.2.2.2.2.2.2.1 hM hC.2.2.2.2.2.2.2.2.1 (fun x F1 H hx hF hM hS => ?_)
  refine lv_aload_n hC.1.1 hC.1.2.1 d_Law_law_483 rfl (lv_at hl 1 rfl) ?_
  refine lw_ci (zz_rV (As := []) (rest := [.int x]) hC.1 hC.2.2.1 (lw_Zof hM hS) 0 (c_Model_run l qM M  vr hj.2.1.2.2.2.1 cs hj.2.1.2.2.2.2.1 hj.2.2.2.1.1 hj.2.2.2.1.2.2.2) k_Model_run (Nat.le_of_ble_eq_true rfl) (mc_0 qM _ _) rfl wd_745 ⟨rfl, rfl, by decide, by decide⟩ rfl hl.1 rfl (Nat.le_of_ble_eq_true rfl) d_Law_law_484 hcs) hS hC.2.2.2.2.2.2.2.1 hF hC.2.2.2.2.2.2.2.2.2 (fun y M1 H hy hM hF hS => ?_)
  obtain ⟨hxy, hJ⟩ := lj_run hj hx hy
  refine zz_rjeq (tgt := 505) hC.1 d_Law_law_487 (by decide) (fun _ => ?_) (fun h => absurd (congrArg Int32.toInt hxy) h)
  exact kk H ⟨F1, M1, hF, hM, hJ, hS⟩
set_option maxHeartbeats 2000000 in
theorem lw_case_value (hC : lw_C p s m meth c b L xs qF qM) (hJ : lw_J s qF qM H) (hl : lv_has ls 4 (lw_V b qF qM i)) (hi : i + 6 ≤ L) (hcs : cells ≤ room_1.cells ∧ slots ≤ room_1.slots) (kk : ∀ H1, lw_J s qF qM H1 → W p l e room_1 s m #[Value.ref b] below meth c H1 [] cells slots Q (F0 m 505 ls [])) : W p l e room_1 s m #[Value.ref b] below meth c H [] cells slots Q (F0 m 492 ls []) := by
  obtain ⟨F, M, hF, hM, ⟨rl, R, op, nu, sz, ht, mm, t, ps, reg, vr, cs, pl, sc, hj⟩, hS⟩ := hJ
  refine lv_aload_n hC.1.1 hC.1.2.1 d_Law_law_492 rfl (lv_at hl 2 rfl) ?_
  refine lw_ci (zz_rV (As := []) (rest := []) hC.1 hC.2.1 (lw_Zof hF hS) 0 (c_Forge_value l qF F  rl R op nu sz ht mm t reg vr cs pl sc hj.1 hj.2.2.1) k_Forge_value (Nat.le_of_ble_eq_true rfl) (xc_0 qF _ _) rfl wd_492 ⟨rfl, rfl, by decide, by decide⟩ rfl hl.1 rfl (Nat.le_of_ble_eq_true rfl) d_Law_law_493 hcs) hS hC.2.2.2.2.2.2.1 hM hC.2.2.2.2.2.2.2.2.1 (fun x F1 H hx hF hM hS => ?_)
  refine lv_aload_n hC.1.1 hC.1.2.1 d_Law_law_496 rfl (lv_at hl 1 rfl) ?_
  refine lw_ci (zz_rV (As := []) (rest := [.int x]) hC.1 hC.2.2.1 (lw_Zof hM hS) 0 (c_Model_value l qM M  op nu sz ht mm t ps hj.2.1.2.1 vr hj.2.1.2.2.2.1 hj.2.2.1) k_Model_value (Nat.le_of_ble_eq_true rfl) (mc_0 qM _ _) rfl wd_753 ⟨rfl, rfl, by decide, by decide⟩ rfl hl.1 rfl (Nat.le_of_ble_eq_true rfl) d_Law_law_497 hcs) hS hC.2.2.2.2.2.2.2.1 hF hC.2.2.2.2.2.2.2.2.2 (fun y M1 H hy hM hF hS => ?_)
  obtain ⟨hxy, hJ⟩ := lj_value hj hx hy
  refine zz_rjeq (tgt := 505) hC.1 d_Law_law_500 (by decide) (fun _ => ?_) (fun h => absurd (congrArg Int32.toInt hxy) h)
  exact kk H ⟨F1, M1, hF, hM, hJ, hS⟩
end LAW
