/-! The reference: push. Laid by wip/whole/prog/p23.py. -/
set_option maxHeartbeats 4000000 in
set_option maxRecDepth 100000 in
theorem c_Model_push (l : Launch) (q : xg_T) (S : zz_S) (o v : Int32) (op : Nat → Nat) (nu : Nat → Int32) (sz ht : Nat → Nat) (m t : Nat) (ps : Nat → Nat) (hT : mt_ok S op nu sz ht m t ps) : Met l y_Model_push (Cond.code y_Model_push b_Model_push 6 (some .int) :: zz_tbl) rm_Model_push (zz_Pc [.ref (zz_ad (mg_G q) 0), .int o, .int v] (mg_G q) S) (va_Qi (fun ans S1 => (¬ pv_ok o v t ∧ ans = -1 ∧ S = S1) ∨ (pv_ok o v t ∧ (m = 40 ∨ 10 < xp_hi sz ht m o.toNatClampNeg) ∧ ans = -2 ∧ S = S1) ∨ (pv_ok o v t ∧ m < 40 ∧ xp_hi sz ht m o.toNatClampNeg ≤ 10 ∧ ans = nI (t + 1 - zz_kd o.toNatClampNeg) ∧ S1 = zz_u (zz_u (zz_u (zz_u (zz_u (zz_u (zz_u S 6 m (nI o.toNatClampNeg)) 7 m v) 8 m (nI (xp_sz sz m o.toNatClampNeg))) 9 m (nI (xp_hi sz ht m o.toNatClampNeg))) 0 11 (nI (t + 1 - zz_kd o.toNatClampNeg))) 10 (t + 1 - zz_kd o.toNatClampNeg - 1) (nI (m + 1 - xp_sz sz m o.toNatClampNeg))) 0 6 (nI (m + 1)))) (zz_P (mg_G q)) (zz_A (mg_G q))) 0 0 (zz_A (mg_G q)) := by
  refine zz_met (by decide) (Nat.le_of_ble_eq_true rfl) ?_
  intro p_ e_ s_ m_ bl_ mt_ c_ ls hC hK hZ hl
  have hC : zz_C p_ s_ m_ _ mt_ c_ b_Model_push 6 (some .int) "TreeCoverForgeModel" := hC
  have hx_ := hC.1
  have hb_ := hC.2.1
  have hl : lv_has ls 6 [(0, .ref (zz_ad (mg_G q) 0)), (1, .int o), (2, .int v)] := hl
  have hm := hT.2.2.1
  have htm := hT.2.2.2.1
  have hrow := hT.2.2.2.2.1
  have h2ts := ts_two hT.2.2.2.2.2.2.2.1
  have hszb : ∀ i, i < m → sz i ≤ i + 1 ∧ 1 ≤ sz i := fun i hi => ⟨(hT.2.2.2.2.2.1 i hi).2.2.1, (hT.2.2.2.2.2.1 i hi).2.1⟩
  have J129 : ∀ (fk : Int32) (hh : Nat) (H : Heap) (locs : List Loc) (ls : Array Slot) (hpv : pv_ok o v t) (hfr : 0 < zz_kd o.toNatClampNeg → fk = nI (xp_fk sz m o.toNatClampNeg)) (hhi : hh = xp_hi sz ht m o.toNatClampNeg) (hZ : zz_Z (mg_G q) S s_.heap H locs) (hl : lv_has ls 6 [(0, .ref (zz_ad (mg_G q) 0)), (1, .int o), (2, .int v), (3, .int (nI (zz_kd o.toNatClampNeg))), (4, .int fk), (5, .int (nI hh))]), W p_ l e_ rm_Model_push s_ m_ ([.ref (zz_ad (mg_G q) 0), .int o, .int v] : List Value).toArray bl_ mt_ c_ H locs 0 0 (MQ bl_ (va_Qi (fun ans S1 => (¬ pv_ok o v t ∧ ans = -1 ∧ S = S1) ∨ (pv_ok o v t ∧ (m = 40 ∨ 10 < xp_hi sz ht m o.toNatClampNeg) ∧ ans = -2 ∧ S = S1) ∨ (pv_ok o v t ∧ m < 40 ∧ xp_hi sz ht m o.toNatClampNeg ≤ 10 ∧ ans = nI (t + 1 - zz_kd o.toNatClampNeg) ∧ S1 = zz_u (zz_u (zz_u (zz_u (zz_u (zz_u (zz_u S 6 m (nI o.toNatClampNeg)) 7 m v) 8 m (nI (xp_sz sz m o.toNatClampNeg))) 9 m (nI (xp_hi sz ht m o.toNatClampNeg))) 0 11 (nI (t + 1 - zz_kd o.toNatClampNeg))) 10 (t + 1 - zz_kd o.toNatClampNeg - 1) (nI (m + 1 - xp_sz sz m o.toNatClampNeg))) 0 6 (nI (m + 1)))) (zz_P (mg_G q)) (zz_A (mg_G q))) ([.ref (zz_ad (mg_G q) 0), .int o, .int v] : List Value).toArray s_ 0 0 (zz_A (mg_G q))) (F0 m_ 129 ls []) := by
    intro fk hh H locs ls hpv hfr hhi hZ hl
    have ho8 := hpv.1
    have hpk := hpv.2.2
    have hco := zz_clamp ho8.1
    have hkd := tr_kd o.toNatClampNeg
    have hk1 : 0 < zz_kd o.toNatClampNeg → 1 ≤ m := fun h => by omega
    have hk2 : zz_kd o.toNatClampNeg = 2 → sz (m - 1) + 1 ≤ m := fun h => h2ts.2 (by omega)
    have hfk1 : zz_kd o.toNatClampNeg = 2 → xp_fk sz m o.toNatClampNeg = m - 1 - sz (m - 1) := fun h => by rw [xp_fk, if_pos h]
    have hfk2 : zz_kd o.toNatClampNeg ≠ 2 → xp_fk sz m o.toNatClampNeg = m - 1 := fun h => by rw [xp_fk, if_neg h]
    have hfkm : 0 < zz_kd o.toNatClampNeg → xp_fk sz m o.toNatClampNeg < m := fun h => by have := hk1 h; have := hk2; omega
    have hxs := xs_sz hk1 hk2
    have hxh0 : zz_kd o.toNatClampNeg = 0 → xp_hi sz ht m o.toNatClampNeg = 1 := fun h => by rw [xp_hi, if_pos h]
    have hxh1 : zz_kd o.toNatClampNeg ≠ 0 → xp_hi sz ht m o.toNatClampNeg = 1 + max (ht (xp_fk sz m o.toNatClampNeg)) (ht (m - 1)) := fun h => by rw [xp_hi, if_neg h]
    have hhb : hh ≤ 11 := by by_cases e : zz_kd o.toNatClampNeg = 0; (rw [hhi, hxh0 e]; omega); (have a1 := (hrow (xp_fk sz m o.toNatClampNeg) (hfkm (by omega))).2.2.2.2; have a2 := (hrow (m - 1) (by omega)).2.2.2.2; rw [hhi, hxh1 e]; omega)
    refine lv_aload_n hx_ hb_ d_Model_push_129 rfl (lv_at hl 0 rfl) ?_
    refine zz_get hC hK hZ 0 6 (Nat.le_of_ble_eq_true rfl) (mc_0 q _ _) rfl hin_Model (by decide) wd_513 rfl rfl d_Model_push_130 ?_
    refine zz_topi (y := nI m) hT.1 ?_
    refine lv_bipush (v := nI 40) hx_ hb_ d_Model_push_133 (by decide) ?_
    refine zz_jeq (tgt := 145) hC d_Model_push_135 (by decide) (by omega) (by omega) (fun h135 => ?_) (fun h135 => ?_)
    · refine lv_bipush (v := (-2)) hx_ hb_ d_Model_push_145 (by decide) ?_
      exact zz_iret hC hK hZ rfl d_Model_push_147 (Or.inr (Or.inl ⟨hpv, by omega, rfl, rfl⟩))
    · refine lv_iload hx_ hb_ d_Model_push_138 (lv_at hl 5 rfl) ?_
      refine lv_bipush (v := nI 10) hx_ hb_ d_Model_push_140 (by decide) ?_
      refine zz_jle (tgt := 148) hC d_Model_push_142 (by decide) (by omega) (by omega) (fun h142 => ?_) (fun h142 => ?_)
      · have hm40 : m < 40 := by omega
        have hsz1 : 0 < zz_kd o.toNatClampNeg → sz (m - 1) ≤ m := fun h => by have := (hszb (m - 1) (by have := hk1 h; omega)).1; have := hk1 h; omega
        have hszf : 0 < zz_kd o.toNatClampNeg → sz (xp_fk sz m o.toNatClampNeg) ≤ xp_fk sz m o.toNatClampNeg + 1 := fun h => (hszb _ (hfkm h)).1
        have hxb : xp_sz sz m o.toNatClampNeg ≤ m + 1 := by have := hxs.1; have := hxs.2.1; have := hxs.2.2; omega
        refine lv_aload_n hx_ hb_ d_Model_push_148 rfl (lv_at hl 0 rfl) ?_
        refine zz_get hC hK hZ 0 7 (Nat.le_of_ble_eq_true rfl) (mc_0 q _ _) rfl hin_Model (by decide) wd_514 rfl rfl d_Model_push_149 ?_
        refine lv_aload_n hx_ hb_ d_Model_push_152 rfl (lv_at hl 0 rfl) ?_
        refine zz_get hC hK hZ 0 6 (Nat.le_of_ble_eq_true rfl) (mc_0 q _ _) rfl hin_Model (by decide) wd_513 rfl rfl d_Model_push_153 ?_
        refine zz_topi (y := nI m) hT.1 ?_
        refine lv_iload_n hx_ hb_ d_Model_push_156 rfl (lv_at hl 1 rfl) ?_
        refine zz_topi (y := nI o.toNatClampNeg) hco.1 ?_
        refine zz_iast hC hK hZ 6 0 m (Nat.le_of_ble_eq_true rfl) (fun _ => mc_6 q _ _) rfl rfl (by omega) (by decide) d_Model_push_157 (fun H locs hZ => ?_)
        refine lv_aload_n hx_ hb_ d_Model_push_158 rfl (lv_at hl 0 rfl) ?_
        refine zz_get hC hK hZ 0 8 (Nat.le_of_ble_eq_true rfl) (mc_0 q _ _) rfl hin_Model (by decide) wd_515 rfl rfl d_Model_push_159 ?_
        refine lv_aload_n hx_ hb_ d_Model_push_162 rfl (lv_at hl 0 rfl) ?_
        refine zz_get hC hK hZ 0 6 (Nat.le_of_ble_eq_true rfl) (mc_0 q _ _) rfl hin_Model (by decide) wd_513 rfl rfl d_Model_push_163 ?_
        refine zz_topi (y := nI m) hT.1 ?_
        refine lv_iload_n hx_ hb_ d_Model_push_166 rfl (lv_at hl 2 rfl) ?_
        refine zz_iast hC hK hZ 7 0 m (Nat.le_of_ble_eq_true rfl) (fun _ => mc_7 q _ _) rfl rfl (by omega) (by decide) d_Model_push_167 (fun H locs hZ => ?_)
        refine lv_aload_n hx_ hb_ d_Model_push_168 rfl (lv_at hl 0 rfl) ?_
        refine zz_get hC hK hZ 0 9 (Nat.le_of_ble_eq_true rfl) (mc_0 q _ _) rfl hin_Model (by decide) wd_516 rfl rfl d_Model_push_169 ?_
        refine lv_aload_n hx_ hb_ d_Model_push_172 rfl (lv_at hl 0 rfl) ?_
        refine zz_get hC hK hZ 0 6 (Nat.le_of_ble_eq_true rfl) (mc_0 q _ _) rfl hin_Model (by decide) wd_513 rfl rfl d_Model_push_173 ?_
        refine zz_topi (y := nI m) hT.1 ?_
        refine lv_iconst (v := nI 1) hx_ hb_ d_Model_push_176 (by decide) ?_
        refine lv_iload_n hx_ hb_ d_Model_push_177 rfl (lv_at hl 3 rfl) ?_
        refine zz_ile (tgt := 191) hC d_Model_push_178 (by decide) (by omega) (fun h178 => ?_) (fun h178 => ?_)
        · refine lv_iconst (v := nI 0) hx_ hb_ d_Model_push_191 (by decide) ?_
          refine lv_iadd hx_ hb_ d_Model_push_192 ?_
          refine zz_topi (y := nI 1) (nI_add _ _) ?_
          refine lv_iload_n hx_ hb_ d_Model_push_193 rfl (lv_at hl 3 rfl) ?_
          refine lv_iconst (v := nI 1) hx_ hb_ d_Model_push_194 (by decide) ?_
          refine zz_jle (tgt := 212) hC d_Model_push_195 (by decide) (by omega) (by omega) (fun h195 => ?_) (fun h195 => ?_)
          · refine lv_iconst (v := nI 0) hx_ hb_ d_Model_push_212 (by decide) ?_
            refine lv_iadd hx_ hb_ d_Model_push_213 ?_
            refine zz_topi (y := nI (xp_sz sz m o.toNatClampNeg)) (by rw [nI_add]; first | (exfalso; omega) | rw [hxs.2.2 (by omega)] | rw [hxs.2.1 (by omega), Nat.add_zero] | rw [hxs.1 (by omega)]) ?_
            refine zz_iast hC hK hZ 8 0 m (Nat.le_of_ble_eq_true rfl) (fun _ => mc_8 q _ _) rfl rfl (by omega) (by decide) d_Model_push_214 (fun H locs hZ => ?_)
            refine lv_aload_n hx_ hb_ d_Model_push_215 rfl (lv_at hl 0 rfl) ?_
            refine zz_get hC hK hZ 0 10 (Nat.le_of_ble_eq_true rfl) (mc_0 q _ _) rfl hin_Model (by decide) wd_517 rfl rfl d_Model_push_216 ?_
            refine lv_aload_n hx_ hb_ d_Model_push_219 rfl (lv_at hl 0 rfl) ?_
            refine zz_get hC hK hZ 0 6 (Nat.le_of_ble_eq_true rfl) (mc_0 q _ _) rfl hin_Model (by decide) wd_513 rfl rfl d_Model_push_220 ?_
            refine zz_topi (y := nI m) hT.1 ?_
            refine lv_iload hx_ hb_ d_Model_push_223 (lv_at hl 5 rfl) ?_
            refine zz_topi (y := nI (xp_hi sz ht m o.toNatClampNeg)) (by rw [hhi]) ?_
            refine zz_iast hC hK hZ 9 0 m (Nat.le_of_ble_eq_true rfl) (fun _ => mc_9 q _ _) rfl rfl (by omega) (by decide) d_Model_push_225 (fun H locs hZ => ?_)
            refine lv_aload_n hx_ hb_ d_Model_push_226 rfl (lv_at hl 0 rfl) ?_
            refine lv_aload_n hx_ hb_ d_Model_push_227 rfl (lv_at hl 0 rfl) ?_
            refine zz_get hC hK hZ 0 11 (Nat.le_of_ble_eq_true rfl) (mc_0 q _ _) rfl hin_Model (by decide) wd_518 rfl rfl d_Model_push_228 ?_
            refine zz_topi (y := nI t) hT.2.1 ?_
            refine lv_iconst (v := nI 1) hx_ hb_ d_Model_push_231 (by decide) ?_
            refine lv_iadd hx_ hb_ d_Model_push_232 ?_
            refine zz_topi (y := nI (t + 1)) (nI_add _ _) ?_
            refine lv_iload_n hx_ hb_ d_Model_push_233 rfl (lv_at hl 3 rfl) ?_
            refine lv_isub hx_ hb_ d_Model_push_234 ?_
            refine zz_topi (y := nI (t + 1 - (zz_kd o.toNatClampNeg))) (pk_sub (by omega)) ?_
            refine zz_put hC hK hZ 0 11 (Nat.le_of_ble_eq_true rfl) (mc_0 q _ _) rfl hin_Model t_Model t_Model_ok n_Model (by decide) wd_518 rfl rfl rfl (Nat.le_of_ble_eq_true rfl) (mput_11 q _ _ _ (mc_0 q _ _)) d_Model_push_235 (fun H locs hZ => ?_)
            refine lv_aload_n hx_ hb_ d_Model_push_238 rfl (lv_at hl 0 rfl) ?_
            refine zz_get hC hK hZ 0 12 (Nat.le_of_ble_eq_true rfl) (mc_0 q _ _) rfl hin_Model (by decide) wd_519 rfl rfl d_Model_push_239 ?_
            refine lv_aload_n hx_ hb_ d_Model_push_242 rfl (lv_at hl 0 rfl) ?_
            refine zz_get hC hK hZ 0 11 (Nat.le_of_ble_eq_true rfl) (mc_0 q _ _) rfl hin_Model (by decide) wd_518 rfl rfl d_Model_push_243 ?_
            refine zz_topi (y := nI (t + 1 - zz_kd o.toNatClampNeg)) (by rw [zz_u1s, pk_us]) ?_
            refine lv_iconst (v := nI 1) hx_ hb_ d_Model_push_246 (by decide) ?_
            refine lv_isub hx_ hb_ d_Model_push_247 ?_
            refine zz_topi (y := nI (t + 1 - zz_kd o.toNatClampNeg - 1)) (pk_sub (by omega)) ?_
            refine lv_aload_n hx_ hb_ d_Model_push_248 rfl (lv_at hl 0 rfl) ?_
            refine zz_get hC hK hZ 0 6 (Nat.le_of_ble_eq_true rfl) (mc_0 q _ _) rfl hin_Model (by decide) wd_513 rfl rfl d_Model_push_249 ?_
            refine zz_topi (y := nI m) hT.1 ?_
            refine lv_iconst (v := nI 1) hx_ hb_ d_Model_push_252 (by decide) ?_
            refine lv_iadd hx_ hb_ d_Model_push_253 ?_
            refine zz_topi (y := nI (m + 1)) (nI_add _ _) ?_
            refine lv_aload_n hx_ hb_ d_Model_push_254 rfl (lv_at hl 0 rfl) ?_
            refine zz_get hC hK hZ 0 9 (Nat.le_of_ble_eq_true rfl) (mc_0 q _ _) rfl hin_Model (by decide) wd_516 rfl rfl d_Model_push_255 ?_
            refine lv_aload_n hx_ hb_ d_Model_push_258 rfl (lv_at hl 0 rfl) ?_
            refine zz_get hC hK hZ 0 6 (Nat.le_of_ble_eq_true rfl) (mc_0 q _ _) rfl hin_Model (by decide) wd_513 rfl rfl d_Model_push_259 ?_
            refine zz_topi (y := nI m) hT.1 ?_
            refine zz_iald hC hK hZ 8 0 m (Nat.le_of_ble_eq_true rfl) (mc_8 q _ _) rfl rfl (by omega) (by decide) rfl d_Model_push_262 ?_
            refine zz_topi (y := nI (xp_sz sz m o.toNatClampNeg)) (by rw [zz_u1 _ 0 _ _ 8 (by omega), zz_u1 _ 9 _ _ 8 (by omega), zz_u1s, pk_us]) ?_
            refine lv_isub hx_ hb_ d_Model_push_263 ?_
            refine zz_topi (y := nI (m + 1 - (xp_sz sz m o.toNatClampNeg))) (pk_sub (by omega)) ?_
            refine zz_iast hC hK hZ 10 0 (t + 1 - zz_kd o.toNatClampNeg - 1) (Nat.le_of_ble_eq_true rfl) (fun _ => mc_10 q _ _) rfl rfl (by omega) (by decide) d_Model_push_264 (fun H locs hZ => ?_)
            refine lv_aload_n hx_ hb_ d_Model_push_265 rfl (lv_at hl 0 rfl) ?_
            refine lv_dup hx_ hb_ d_Model_push_266 rfl ?_
            refine zz_get hC hK hZ 0 6 (Nat.le_of_ble_eq_true rfl) (mc_0 q _ _) rfl hin_Model (by decide) wd_513 rfl rfl d_Model_push_267 ?_
            refine zz_topi (y := nI m) hT.1 ?_
            refine lv_iconst (v := nI 1) hx_ hb_ d_Model_push_270 (by decide) ?_
            refine lv_iadd hx_ hb_ d_Model_push_271 ?_
            refine zz_topi (y := nI (m + 1)) (nI_add _ _) ?_
            refine zz_put hC hK hZ 0 6 (Nat.le_of_ble_eq_true rfl) (mc_0 q _ _) rfl hin_Model t_Model t_Model_ok n_Model (by decide) wd_513 rfl rfl rfl (Nat.le_of_ble_eq_true rfl) (mput_6 q _ _ _ (mc_0 q _ _)) d_Model_push_272 (fun H locs hZ => ?_)
            refine lv_aload_n hx_ hb_ d_Model_push_275 rfl (lv_at hl 0 rfl) ?_
            refine zz_get hC hK hZ 0 11 (Nat.le_of_ble_eq_true rfl) (mc_0 q _ _) rfl hin_Model (by decide) wd_518 rfl rfl d_Model_push_276 ?_
            refine zz_topi (y := nI (t + 1 - zz_kd o.toNatClampNeg)) (by rw [zz_u1s, pk_un (by omega), zz_u1 _ 10 _ _ 0 (by omega), zz_u1s, pk_us]) ?_
            exact zz_iret hC hK hZ rfl d_Model_push_279 (Or.inr (Or.inr ⟨hpv, by omega, by omega, rfl, rfl⟩))
          · refine lv_aload_n hx_ hb_ d_Model_push_198 rfl (lv_at hl 0 rfl) ?_
            refine zz_get hC hK hZ 0 9 (Nat.le_of_ble_eq_true rfl) (mc_0 q _ _) rfl hin_Model (by decide) wd_516 rfl rfl d_Model_push_199 ?_
            refine lv_aload_n hx_ hb_ d_Model_push_202 rfl (lv_at hl 0 rfl) ?_
            refine zz_get hC hK hZ 0 6 (Nat.le_of_ble_eq_true rfl) (mc_0 q _ _) rfl hin_Model (by decide) wd_513 rfl rfl d_Model_push_203 ?_
            refine zz_topi (y := nI m) hT.1 ?_
            refine lv_iconst (v := nI 1) hx_ hb_ d_Model_push_206 (by decide) ?_
            refine lv_isub hx_ hb_ d_Model_push_207 ?_
            refine zz_topi (y := nI (m - 1)) (pk_sub (by omega)) ?_
            refine zz_iald hC hK hZ 8 0 (m - 1) (Nat.le_of_ble_eq_true rfl) (mc_8 q _ _) rfl rfl (by omega) (by decide) rfl d_Model_push_208 ?_
            refine zz_topi (y := nI (sz (m - 1))) (hrow (m - 1) (by omega)).2.2.1 ?_
            refine lv_goto (tgt := 213) hx_ hb_ d_Model_push_209 (by decide) ?_
            refine lv_iadd hx_ hb_ d_Model_push_213 ?_
            refine zz_topi (y := nI (xp_sz sz m o.toNatClampNeg)) (by rw [nI_add]; first | (exfalso; omega) | rw [hxs.2.2 (by omega)] | rw [hxs.2.1 (by omega), Nat.add_zero] | rw [hxs.1 (by omega)]) ?_
            refine zz_iast hC hK hZ 8 0 m (Nat.le_of_ble_eq_true rfl) (fun _ => mc_8 q _ _) rfl rfl (by omega) (by decide) d_Model_push_214 (fun H locs hZ => ?_)
            refine lv_aload_n hx_ hb_ d_Model_push_215 rfl (lv_at hl 0 rfl) ?_
            refine zz_get hC hK hZ 0 10 (Nat.le_of_ble_eq_true rfl) (mc_0 q _ _) rfl hin_Model (by decide) wd_517 rfl rfl d_Model_push_216 ?_
            refine lv_aload_n hx_ hb_ d_Model_push_219 rfl (lv_at hl 0 rfl) ?_
            refine zz_get hC hK hZ 0 6 (Nat.le_of_ble_eq_true rfl) (mc_0 q _ _) rfl hin_Model (by decide) wd_513 rfl rfl d_Model_push_220 ?_
            refine zz_topi (y := nI m) hT.1 ?_
            refine lv_iload hx_ hb_ d_Model_push_223 (lv_at hl 5 rfl) ?_
            refine zz_topi (y := nI (xp_hi sz ht m o.toNatClampNeg)) (by rw [hhi]) ?_
            refine zz_iast hC hK hZ 9 0 m (Nat.le_of_ble_eq_true rfl) (fun _ => mc_9 q _ _) rfl rfl (by omega) (by decide) d_Model_push_225 (fun H locs hZ => ?_)
            refine lv_aload_n hx_ hb_ d_Model_push_226 rfl (lv_at hl 0 rfl) ?_
            refine lv_aload_n hx_ hb_ d_Model_push_227 rfl (lv_at hl 0 rfl) ?_
            refine zz_get hC hK hZ 0 11 (Nat.le_of_ble_eq_true rfl) (mc_0 q _ _) rfl hin_Model (by decide) wd_518 rfl rfl d_Model_push_228 ?_
            refine zz_topi (y := nI t) hT.2.1 ?_
            refine lv_iconst (v := nI 1) hx_ hb_ d_Model_push_231 (by decide) ?_
            refine lv_iadd hx_ hb_ d_Model_push_232 ?_
            refine zz_topi (y := nI (t + 1)) (nI_add _ _) ?_
            refine lv_iload_n hx_ hb_ d_Model_push_233 rfl (lv_at hl 3 rfl) ?_
            refine lv_isub hx_ hb_ d_Model_push_234 ?_
            refine zz_topi (y := nI (t + 1 - (zz_kd o.toNatClampNeg))) (pk_sub (by omega)) ?_
            refine zz_put hC hK hZ 0 11 (Nat.le_of_ble_eq_true rfl) (mc_0 q _ _) rfl hin_Model t_Model t_Model_ok n_Model (by decide) wd_518 rfl rfl rfl (Nat.le_of_ble_eq_true rfl) (mput_11 q _ _ _ (mc_0 q _ _)) d_Model_push_235 (fun H locs hZ => ?_)
            refine lv_aload_n hx_ hb_ d_Model_push_238 rfl (lv_at hl 0 rfl) ?_
            refine zz_get hC hK hZ 0 12 (Nat.le_of_ble_eq_true rfl) (mc_0 q _ _) rfl hin_Model (by decide) wd_519 rfl rfl d_Model_push_239 ?_
            refine lv_aload_n hx_ hb_ d_Model_push_242 rfl (lv_at hl 0 rfl) ?_
            refine zz_get hC hK hZ 0 11 (Nat.le_of_ble_eq_true rfl) (mc_0 q _ _) rfl hin_Model (by decide) wd_518 rfl rfl d_Model_push_243 ?_
            refine zz_topi (y := nI (t + 1 - zz_kd o.toNatClampNeg)) (by rw [zz_u1s, pk_us]) ?_
            refine lv_iconst (v := nI 1) hx_ hb_ d_Model_push_246 (by decide) ?_
            refine lv_isub hx_ hb_ d_Model_push_247 ?_
            refine zz_topi (y := nI (t + 1 - zz_kd o.toNatClampNeg - 1)) (pk_sub (by omega)) ?_
            refine lv_aload_n hx_ hb_ d_Model_push_248 rfl (lv_at hl 0 rfl) ?_
            refine zz_get hC hK hZ 0 6 (Nat.le_of_ble_eq_true rfl) (mc_0 q _ _) rfl hin_Model (by decide) wd_513 rfl rfl d_Model_push_249 ?_
            refine zz_topi (y := nI m) hT.1 ?_
            refine lv_iconst (v := nI 1) hx_ hb_ d_Model_push_252 (by decide) ?_
            refine lv_iadd hx_ hb_ d_Model_push_253 ?_
            refine zz_topi (y := nI (m + 1)) (nI_add _ _) ?_
            refine lv_aload_n hx_ hb_ d_Model_push_254 rfl (lv_at hl 0 rfl) ?_
            refine zz_get hC hK hZ 0 9 (Nat.le_of_ble_eq_true rfl) (mc_0 q _ _) rfl hin_Model (by decide) wd_516 rfl rfl d_Model_push_255 ?_
            refine lv_aload_n hx_ hb_ d_Model_push_258 rfl (lv_at hl 0 rfl) ?_
            refine zz_get hC hK hZ 0 6 (Nat.le_of_ble_eq_true rfl) (mc_0 q _ _) rfl hin_Model (by decide) wd_513 rfl rfl d_Model_push_259 ?_
            refine zz_topi (y := nI m) hT.1 ?_
            refine zz_iald hC hK hZ 8 0 m (Nat.le_of_ble_eq_true rfl) (mc_8 q _ _) rfl rfl (by omega) (by decide) rfl d_Model_push_262 ?_
            refine zz_topi (y := nI (xp_sz sz m o.toNatClampNeg)) (by rw [zz_u1 _ 0 _ _ 8 (by omega), zz_u1 _ 9 _ _ 8 (by omega), zz_u1s, pk_us]) ?_
            refine lv_isub hx_ hb_ d_Model_push_263 ?_
            refine zz_topi (y := nI (m + 1 - (xp_sz sz m o.toNatClampNeg))) (pk_sub (by omega)) ?_
            refine zz_iast hC hK hZ 10 0 (t + 1 - zz_kd o.toNatClampNeg - 1) (Nat.le_of_ble_eq_true rfl) (fun _ => mc_10 q _ _) rfl rfl (by omega) (by decide) d_Model_push_264 (fun H locs hZ => ?_)
            refine lv_aload_n hx_ hb_ d_Model_push_265 rfl (lv_at hl 0 rfl) ?_
            refine lv_dup hx_ hb_ d_Model_push_266 rfl ?_
            refine zz_get hC hK hZ 0 6 (Nat.le_of_ble_eq_true rfl) (mc_0 q _ _) rfl hin_Model (by decide) wd_513 rfl rfl d_Model_push_267 ?_
            refine zz_topi (y := nI m) hT.1 ?_
            refine lv_iconst (v := nI 1) hx_ hb_ d_Model_push_270 (by decide) ?_
            refine lv_iadd hx_ hb_ d_Model_push_271 ?_
            refine zz_topi (y := nI (m + 1)) (nI_add _ _) ?_
            refine zz_put hC hK hZ 0 6 (Nat.le_of_ble_eq_true rfl) (mc_0 q _ _) rfl hin_Model t_Model t_Model_ok n_Model (by decide) wd_513 rfl rfl rfl (Nat.le_of_ble_eq_true rfl) (mput_6 q _ _ _ (mc_0 q _ _)) d_Model_push_272 (fun H locs hZ => ?_)
            refine lv_aload_n hx_ hb_ d_Model_push_275 rfl (lv_at hl 0 rfl) ?_
            refine zz_get hC hK hZ 0 11 (Nat.le_of_ble_eq_true rfl) (mc_0 q _ _) rfl hin_Model (by decide) wd_518 rfl rfl d_Model_push_276 ?_
            refine zz_topi (y := nI (t + 1 - zz_kd o.toNatClampNeg)) (by rw [zz_u1s, pk_un (by omega), zz_u1 _ 10 _ _ 0 (by omega), zz_u1s, pk_us]) ?_
            exact zz_iret hC hK hZ rfl d_Model_push_279 (Or.inr (Or.inr ⟨hpv, by omega, by omega, rfl, rfl⟩))
        · refine lv_aload_n hx_ hb_ d_Model_push_181 rfl (lv_at hl 0 rfl) ?_
          refine zz_get hC hK hZ 0 9 (Nat.le_of_ble_eq_true rfl) (mc_0 q _ _) rfl hin_Model (by decide) wd_516 rfl rfl d_Model_push_182 ?_
          refine lv_iload hx_ hb_ d_Model_push_185 (lv_at hl 4 rfl) ?_
          refine zz_topi (y := nI (xp_fk sz m o.toNatClampNeg)) (hfr (by omega)) ?_
          refine zz_iald hC hK hZ 8 0 (xp_fk sz m o.toNatClampNeg) (Nat.le_of_ble_eq_true rfl) (mc_8 q _ _) rfl rfl (by omega) (by decide) rfl d_Model_push_187 ?_
          refine zz_topi (y := nI (sz (xp_fk sz m o.toNatClampNeg))) (hrow (xp_fk sz m o.toNatClampNeg) (hfkm (by omega))).2.2.1 ?_
          refine lv_goto (tgt := 192) hx_ hb_ d_Model_push_188 (by decide) ?_
          refine lv_iadd hx_ hb_ d_Model_push_192 ?_
          refine zz_topi (y := nI (1 + (sz (xp_fk sz m o.toNatClampNeg)))) (nI_add _ _) ?_
          refine lv_iload_n hx_ hb_ d_Model_push_193 rfl (lv_at hl 3 rfl) ?_
          refine lv_iconst (v := nI 1) hx_ hb_ d_Model_push_194 (by decide) ?_
          refine zz_jle (tgt := 212) hC d_Model_push_195 (by decide) (by omega) (by omega) (fun h195 => ?_) (fun h195 => ?_)
          · refine lv_iconst (v := nI 0) hx_ hb_ d_Model_push_212 (by decide) ?_
            refine lv_iadd hx_ hb_ d_Model_push_213 ?_
            refine zz_topi (y := nI (xp_sz sz m o.toNatClampNeg)) (by rw [nI_add]; first | (exfalso; omega) | rw [hxs.2.2 (by omega)] | rw [hxs.2.1 (by omega), Nat.add_zero] | rw [hxs.1 (by omega)]) ?_
            refine zz_iast hC hK hZ 8 0 m (Nat.le_of_ble_eq_true rfl) (fun _ => mc_8 q _ _) rfl rfl (by omega) (by decide) d_Model_push_214 (fun H locs hZ => ?_)
            refine lv_aload_n hx_ hb_ d_Model_push_215 rfl (lv_at hl 0 rfl) ?_
            refine zz_get hC hK hZ 0 10 (Nat.le_of_ble_eq_true rfl) (mc_0 q _ _) rfl hin_Model (by decide) wd_517 rfl rfl d_Model_push_216 ?_
            refine lv_aload_n hx_ hb_ d_Model_push_219 rfl (lv_at hl 0 rfl) ?_
            refine zz_get hC hK hZ 0 6 (Nat.le_of_ble_eq_true rfl) (mc_0 q _ _) rfl hin_Model (by decide) wd_513 rfl rfl d_Model_push_220 ?_
            refine zz_topi (y := nI m) hT.1 ?_
            refine lv_iload hx_ hb_ d_Model_push_223 (lv_at hl 5 rfl) ?_
            refine zz_topi (y := nI (xp_hi sz ht m o.toNatClampNeg)) (by rw [hhi]) ?_
            refine zz_iast hC hK hZ 9 0 m (Nat.le_of_ble_eq_true rfl) (fun _ => mc_9 q _ _) rfl rfl (by omega) (by decide) d_Model_push_225 (fun H locs hZ => ?_)
            refine lv_aload_n hx_ hb_ d_Model_push_226 rfl (lv_at hl 0 rfl) ?_
            refine lv_aload_n hx_ hb_ d_Model_push_227 rfl (lv_at hl 0 rfl) ?_
            refine zz_get hC hK hZ 0 11 (Nat.le_of_ble_eq_true rfl) (mc_0 q _ _) rfl hin_Model (by decide) wd_518 rfl rfl d_Model_push_228 ?_
            refine zz_topi (y := nI t) hT.2.1 ?_
            refine lv_iconst (v := nI 1) hx_ hb_ d_Model_push_231 (by decide) ?_
            refine lv_iadd hx_ hb_ d_Model_push_232 ?_
            refine zz_topi (y := nI (t + 1)) (nI_add _ _) ?_
            refine lv_iload_n hx_ hb_ d_Model_push_233 rfl (lv_at hl 3 rfl) ?_
            refine lv_isub hx_ hb_ d_Model_push_234 ?_
            refine zz_topi (y := nI (t + 1 - (zz_kd o.toNatClampNeg))) (pk_sub (by omega)) ?_
            refine zz_put hC hK hZ 0 11 (Nat.le_of_ble_eq_true rfl) (mc_0 q _ _) rfl hin_Model t_Model t_Model_ok n_Model (by decide) wd_518 rfl rfl rfl (Nat.le_of_ble_eq_true rfl) (mput_11 q _ _ _ (mc_0 q _ _)) d_Model_push_235 (fun H locs hZ => ?_)
            refine lv_aload_n hx_ hb_ d_Model_push_238 rfl (lv_at hl 0 rfl) ?_
            refine zz_get hC hK hZ 0 12 (Nat.le_of_ble_eq_true rfl) (mc_0 q _ _) rfl hin_Model (by decide) wd_519 rfl rfl d_Model_push_239 ?_
            refine lv_aload_n hx_ hb_ d_Model_push_242 rfl (lv_at hl 0 rfl) ?_
            refine zz_get hC hK hZ 0 11 (Nat.le_of_ble_eq_true rfl) (mc_0 q _ _) rfl hin_Model (by decide) wd_518 rfl rfl d_Model_push_243 ?_
            refine zz_topi (y := nI (t + 1 - zz_kd o.toNatClampNeg)) (by rw [zz_u1s, pk_us]) ?_
            refine lv_iconst (v := nI 1) hx_ hb_ d_Model_push_246 (by decide) ?_
            refine lv_isub hx_ hb_ d_Model_push_247 ?_
            refine zz_topi (y := nI (t + 1 - zz_kd o.toNatClampNeg - 1)) (pk_sub (by omega)) ?_
            refine lv_aload_n hx_ hb_ d_Model_push_248 rfl (lv_at hl 0 rfl) ?_
            refine zz_get hC hK hZ 0 6 (Nat.le_of_ble_eq_true rfl) (mc_0 q _ _) rfl hin_Model (by decide) wd_513 rfl rfl d_Model_push_249 ?_
            refine zz_topi (y := nI m) hT.1 ?_
            refine lv_iconst (v := nI 1) hx_ hb_ d_Model_push_252 (by decide) ?_
            refine lv_iadd hx_ hb_ d_Model_push_253 ?_
            refine zz_topi (y := nI (m + 1)) (nI_add _ _) ?_
            refine lv_aload_n hx_ hb_ d_Model_push_254 rfl (lv_at hl 0 rfl) ?_
            refine zz_get hC hK hZ 0 9 (Nat.le_of_ble_eq_true rfl) (mc_0 q _ _) rfl hin_Model (by decide) wd_516 rfl rfl d_Model_push_255 ?_
            refine lv_aload_n hx_ hb_ d_Model_push_258 rfl (lv_at hl 0 rfl) ?_
            refine zz_get hC hK hZ 0 6 (Nat.le_of_ble_eq_true rfl) (mc_0 q _ _) rfl hin_Model (by decide) wd_513 rfl rfl d_Model_push_259 ?_
            refine zz_topi (y := nI m) hT.1 ?_
            refine zz_iald hC hK hZ 8 0 m (Nat.le_of_ble_eq_true rfl) (mc_8 q _ _) rfl rfl (by omega) (by decide) rfl d_Model_push_262 ?_
            refine zz_topi (y := nI (xp_sz sz m o.toNatClampNeg)) (by rw [zz_u1 _ 0 _ _ 8 (by omega), zz_u1 _ 9 _ _ 8 (by omega), zz_u1s, pk_us]) ?_
            refine lv_isub hx_ hb_ d_Model_push_263 ?_
            refine zz_topi (y := nI (m + 1 - (xp_sz sz m o.toNatClampNeg))) (pk_sub (by omega)) ?_
            refine zz_iast hC hK hZ 10 0 (t + 1 - zz_kd o.toNatClampNeg - 1) (Nat.le_of_ble_eq_true rfl) (fun _ => mc_10 q _ _) rfl rfl (by omega) (by decide) d_Model_push_264 (fun H locs hZ => ?_)
            refine lv_aload_n hx_ hb_ d_Model_push_265 rfl (lv_at hl 0 rfl) ?_
            refine lv_dup hx_ hb_ d_Model_push_266 rfl ?_
            refine zz_get hC hK hZ 0 6 (Nat.le_of_ble_eq_true rfl) (mc_0 q _ _) rfl hin_Model (by decide) wd_513 rfl rfl d_Model_push_267 ?_
            refine zz_topi (y := nI m) hT.1 ?_
            refine lv_iconst (v := nI 1) hx_ hb_ d_Model_push_270 (by decide) ?_
            refine lv_iadd hx_ hb_ d_Model_push_271 ?_
            refine zz_topi (y := nI (m + 1)) (nI_add _ _) ?_
            refine zz_put hC hK hZ 0 6 (Nat.le_of_ble_eq_true rfl) (mc_0 q _ _) rfl hin_Model t_Model t_Model_ok n_Model (by decide) wd_513 rfl rfl rfl (Nat.le_of_ble_eq_true rfl) (mput_6 q _ _ _ (mc_0 q _ _)) d_Model_push_272 (fun H locs hZ => ?_)
            refine lv_aload_n hx_ hb_ d_Model_push_275 rfl (lv_at hl 0 rfl) ?_
            refine zz_get hC hK hZ 0 11 (Nat.le_of_ble_eq_true rfl) (mc_0 q _ _) rfl hin_Model (by decide) wd_518 rfl rfl d_Model_push_276 ?_
            refine zz_topi (y := nI (t + 1 - zz_kd o.toNatClampNeg)) (by rw [zz_u1s, pk_un (by omega), zz_u1 _ 10 _ _ 0 (by omega), zz_u1s, pk_us]) ?_
            exact zz_iret hC hK hZ rfl d_Model_push_279 (Or.inr (Or.inr ⟨hpv, by omega, by omega, rfl, rfl⟩))
          · refine lv_aload_n hx_ hb_ d_Model_push_198 rfl (lv_at hl 0 rfl) ?_
            refine zz_get hC hK hZ 0 9 (Nat.le_of_ble_eq_true rfl) (mc_0 q _ _) rfl hin_Model (by decide) wd_516 rfl rfl d_Model_push_199 ?_
            refine lv_aload_n hx_ hb_ d_Model_push_202 rfl (lv_at hl 0 rfl) ?_
            refine zz_get hC hK hZ 0 6 (Nat.le_of_ble_eq_true rfl) (mc_0 q _ _) rfl hin_Model (by decide) wd_513 rfl rfl d_Model_push_203 ?_
            refine zz_topi (y := nI m) hT.1 ?_
            refine lv_iconst (v := nI 1) hx_ hb_ d_Model_push_206 (by decide) ?_
            refine lv_isub hx_ hb_ d_Model_push_207 ?_
            refine zz_topi (y := nI (m - 1)) (pk_sub (by omega)) ?_
            refine zz_iald hC hK hZ 8 0 (m - 1) (Nat.le_of_ble_eq_true rfl) (mc_8 q _ _) rfl rfl (by omega) (by decide) rfl d_Model_push_208 ?_
            refine zz_topi (y := nI (sz (m - 1))) (hrow (m - 1) (by omega)).2.2.1 ?_
            refine lv_goto (tgt := 213) hx_ hb_ d_Model_push_209 (by decide) ?_
            refine lv_iadd hx_ hb_ d_Model_push_213 ?_
            refine zz_topi (y := nI (xp_sz sz m o.toNatClampNeg)) (by rw [nI_add]; first | (exfalso; omega) | rw [hxs.2.2 (by omega)] | rw [hxs.2.1 (by omega), Nat.add_zero] | rw [hxs.1 (by omega)]) ?_
            refine zz_iast hC hK hZ 8 0 m (Nat.le_of_ble_eq_true rfl) (fun _ => mc_8 q _ _) rfl rfl (by omega) (by decide) d_Model_push_214 (fun H locs hZ => ?_)
            refine lv_aload_n hx_ hb_ d_Model_push_215 rfl (lv_at hl 0 rfl) ?_
            refine zz_get hC hK hZ 0 10 (Nat.le_of_ble_eq_true rfl) (mc_0 q _ _) rfl hin_Model (by decide) wd_517 rfl rfl d_Model_push_216 ?_
            refine lv_aload_n hx_ hb_ d_Model_push_219 rfl (lv_at hl 0 rfl) ?_
            refine zz_get hC hK hZ 0 6 (Nat.le_of_ble_eq_true rfl) (mc_0 q _ _) rfl hin_Model (by decide) wd_513 rfl rfl d_Model_push_220 ?_
            refine zz_topi (y := nI m) hT.1 ?_
            refine lv_iload hx_ hb_ d_Model_push_223 (lv_at hl 5 rfl) ?_
            refine zz_topi (y := nI (xp_hi sz ht m o.toNatClampNeg)) (by rw [hhi]) ?_
            refine zz_iast hC hK hZ 9 0 m (Nat.le_of_ble_eq_true rfl) (fun _ => mc_9 q _ _) rfl rfl (by omega) (by decide) d_Model_push_225 (fun H locs hZ => ?_)
            refine lv_aload_n hx_ hb_ d_Model_push_226 rfl (lv_at hl 0 rfl) ?_
            refine lv_aload_n hx_ hb_ d_Model_push_227 rfl (lv_at hl 0 rfl) ?_
            refine zz_get hC hK hZ 0 11 (Nat.le_of_ble_eq_true rfl) (mc_0 q _ _) rfl hin_Model (by decide) wd_518 rfl rfl d_Model_push_228 ?_
            refine zz_topi (y := nI t) hT.2.1 ?_
            refine lv_iconst (v := nI 1) hx_ hb_ d_Model_push_231 (by decide) ?_
            refine lv_iadd hx_ hb_ d_Model_push_232 ?_
            refine zz_topi (y := nI (t + 1)) (nI_add _ _) ?_
            refine lv_iload_n hx_ hb_ d_Model_push_233 rfl (lv_at hl 3 rfl) ?_
            refine lv_isub hx_ hb_ d_Model_push_234 ?_
            refine zz_topi (y := nI (t + 1 - (zz_kd o.toNatClampNeg))) (pk_sub (by omega)) ?_
            refine zz_put hC hK hZ 0 11 (Nat.le_of_ble_eq_true rfl) (mc_0 q _ _) rfl hin_Model t_Model t_Model_ok n_Model (by decide) wd_518 rfl rfl rfl (Nat.le_of_ble_eq_true rfl) (mput_11 q _ _ _ (mc_0 q _ _)) d_Model_push_235 (fun H locs hZ => ?_)
            refine lv_aload_n hx_ hb_ d_Model_push_238 rfl (lv_at hl 0 rfl) ?_
            refine zz_get hC hK hZ 0 12 (Nat.le_of_ble_eq_true rfl) (mc_0 q _ _) rfl hin_Model (by decide) wd_519 rfl rfl d_Model_push_239 ?_
            refine lv_aload_n hx_ hb_ d_Model_push_242 rfl (lv_at hl 0 rfl) ?_
            refine zz_get hC hK hZ 0 11 (Nat.le_of_ble_eq_true rfl) (mc_0 q _ _) rfl hin_Model (by decide) wd_518 rfl rfl d_Model_push_243 ?_
            refine zz_topi (y := nI (t + 1 - zz_kd o.toNatClampNeg)) (by rw [zz_u1s, pk_us]) ?_
            refine lv_iconst (v := nI 1) hx_ hb_ d_Model_push_246 (by decide) ?_
            refine lv_isub hx_ hb_ d_Model_push_247 ?_
            refine zz_topi (y := nI (t + 1 - zz_kd o.toNatClampNeg - 1)) (pk_sub (by omega)) ?_
            refine lv_aload_n hx_ hb_ d_Model_push_248 rfl (lv_at hl 0 rfl) ?_
            refine zz_get hC hK hZ 0 6 (Nat.le_of_ble_eq_true rfl) (mc_0 q _ _) rfl hin_Model (by decide) wd_513 rfl rfl d_Model_push_249 ?_
            refine zz_topi (y := nI m) hT.1 ?_
            refine lv_iconst (v := nI 1) hx_ hb_ d_Model_push_252 (by decide) ?_
            refine lv_iadd hx_ hb_ d_Model_push_253 ?_
            refine zz_topi (y := nI (m + 1)) (nI_add _ _) ?_
            refine lv_aload_n hx_ hb_ d_Model_push_254 rfl (lv_at hl 0 rfl) ?_
            refine zz_get hC hK hZ 0 9 (Nat.le_of_ble_eq_true rfl) (mc_0 q _ _) rfl hin_Model (by decide) wd_516 rfl rfl d_Model_push_255 ?_
            refine lv_aload_n hx_ hb_ d_Model_push_258 rfl (lv_at hl 0 rfl) ?_
            refine zz_get hC hK hZ 0 6 (Nat.le_of_ble_eq_true rfl) (mc_0 q _ _) rfl hin_Model (by decide) wd_513 rfl rfl d_Model_push_259 ?_
            refine zz_topi (y := nI m) hT.1 ?_
            refine zz_iald hC hK hZ 8 0 m (Nat.le_of_ble_eq_true rfl) (mc_8 q _ _) rfl rfl (by omega) (by decide) rfl d_Model_push_262 ?_
            refine zz_topi (y := nI (xp_sz sz m o.toNatClampNeg)) (by rw [zz_u1 _ 0 _ _ 8 (by omega), zz_u1 _ 9 _ _ 8 (by omega), zz_u1s, pk_us]) ?_
            refine lv_isub hx_ hb_ d_Model_push_263 ?_
            refine zz_topi (y := nI (m + 1 - (xp_sz sz m o.toNatClampNeg))) (pk_sub (by omega)) ?_
            refine zz_iast hC hK hZ 10 0 (t + 1 - zz_kd o.toNatClampNeg - 1) (Nat.le_of_ble_eq_true rfl) (fun _ => mc_10 q _ _) rfl rfl (by omega) (by decide) d_Model_push_264 (fun H locs hZ => ?_)
            refine lv_aload_n hx_ hb_ d_Model_push_265 rfl (lv_at hl 0 rfl) ?_
            refine lv_dup hx_ hb_ d_Model_push_266 rfl ?_
            refine zz_get hC hK hZ 0 6 (Nat.le_of_ble_eq_true rfl) (mc_0 q _ _) rfl hin_Model (by decide) wd_513 rfl rfl d_Model_push_267 ?_
            refine zz_topi (y := nI m) hT.1 ?_
            refine lv_iconst (v := nI 1) hx_ hb_ d_Model_push_270 (by decide) ?_
            refine lv_iadd hx_ hb_ d_Model_push_271 ?_
            refine zz_topi (y := nI (m + 1)) (nI_add _ _) ?_
            refine zz_put hC hK hZ 0 6 (Nat.le_of_ble_eq_true rfl) (mc_0 q _ _) rfl hin_Model t_Model t_Model_ok n_Model (by decide) wd_513 rfl rfl rfl (Nat.le_of_ble_eq_true rfl) (mput_6 q _ _ _ (mc_0 q _ _)) d_Model_push_272 (fun H locs hZ => ?_)
            refine lv_aload_n hx_ hb_ d_Model_push_275 rfl (lv_at hl 0 rfl) ?_
            refine zz_get hC hK hZ 0 11 (Nat.le_of_ble_eq_true rfl) (mc_0 q _ _) rfl hin_Model (by decide) wd_518 rfl rfl d_Model_push_276 ?_
            refine zz_topi (y := nI (t + 1 - zz_kd o.toNatClampNeg)) (by rw [zz_u1s, pk_un (by omega), zz_u1 _ 10 _ _ 0 (by omega), zz_u1s, pk_us]) ?_
            exact zz_iret hC hK hZ rfl d_Model_push_279 (Or.inr (Or.inr ⟨hpv, by omega, by omega, rfl, rfl⟩))
      · refine lv_bipush (v := (-2)) hx_ hb_ d_Model_push_145 (by decide) ?_
        exact zz_iret hC hK hZ rfl d_Model_push_147 (Or.inr (Or.inl ⟨hpv, by omega, rfl, rfl⟩))
  have J75 : ∀ (fk : Int32) (H : Heap) (locs : List Loc) (ls : Array Slot) (hpv : pv_ok o v t) (hfr : 0 < zz_kd o.toNatClampNeg → fk = nI (xp_fk sz m o.toNatClampNeg)) (hZ : zz_Z (mg_G q) S s_.heap H locs) (hl : lv_has ls 6 [(0, .ref (zz_ad (mg_G q) 0)), (1, .int o), (2, .int v), (3, .int (nI (zz_kd o.toNatClampNeg))), (4, .int fk)]), W p_ l e_ rm_Model_push s_ m_ ([.ref (zz_ad (mg_G q) 0), .int o, .int v] : List Value).toArray bl_ mt_ c_ H locs 0 0 (MQ bl_ (va_Qi (fun ans S1 => (¬ pv_ok o v t ∧ ans = -1 ∧ S = S1) ∨ (pv_ok o v t ∧ (m = 40 ∨ 10 < xp_hi sz ht m o.toNatClampNeg) ∧ ans = -2 ∧ S = S1) ∨ (pv_ok o v t ∧ m < 40 ∧ xp_hi sz ht m o.toNatClampNeg ≤ 10 ∧ ans = nI (t + 1 - zz_kd o.toNatClampNeg) ∧ S1 = zz_u (zz_u (zz_u (zz_u (zz_u (zz_u (zz_u S 6 m (nI o.toNatClampNeg)) 7 m v) 8 m (nI (xp_sz sz m o.toNatClampNeg))) 9 m (nI (xp_hi sz ht m o.toNatClampNeg))) 0 11 (nI (t + 1 - zz_kd o.toNatClampNeg))) 10 (t + 1 - zz_kd o.toNatClampNeg - 1) (nI (m + 1 - xp_sz sz m o.toNatClampNeg))) 0 6 (nI (m + 1)))) (zz_P (mg_G q)) (zz_A (mg_G q))) ([.ref (zz_ad (mg_G q) 0), .int o, .int v] : List Value).toArray s_ 0 0 (zz_A (mg_G q))) (F0 m_ 75 ls []) := by
    intro fk H locs ls hpv hfr hZ hl
    have ho8 := hpv.1
    have hpk := hpv.2.2
    have hco := zz_clamp ho8.1
    have hkd := tr_kd o.toNatClampNeg
    have hk1 : 0 < zz_kd o.toNatClampNeg → 1 ≤ m := fun h => by omega
    have hk2 : zz_kd o.toNatClampNeg = 2 → sz (m - 1) + 1 ≤ m := fun h => h2ts.2 (by omega)
    have hfk1 : zz_kd o.toNatClampNeg = 2 → xp_fk sz m o.toNatClampNeg = m - 1 - sz (m - 1) := fun h => by rw [xp_fk, if_pos h]
    have hfk2 : zz_kd o.toNatClampNeg ≠ 2 → xp_fk sz m o.toNatClampNeg = m - 1 := fun h => by rw [xp_fk, if_neg h]
    have hfkm : 0 < zz_kd o.toNatClampNeg → xp_fk sz m o.toNatClampNeg < m := fun h => by have := hk1 h; have := hk2; omega
    have hxs := xs_sz hk1 hk2
    have hxh0 : zz_kd o.toNatClampNeg = 0 → xp_hi sz ht m o.toNatClampNeg = 1 := fun h => by rw [xp_hi, if_pos h]
    have hxh1 : zz_kd o.toNatClampNeg ≠ 0 → xp_hi sz ht m o.toNatClampNeg = 1 + max (ht (xp_fk sz m o.toNatClampNeg)) (ht (m - 1)) := fun h => by rw [xp_hi, if_neg h]
    refine lv_iload_n hx_ hb_ d_Model_push_75 rfl (lv_at hl 3 rfl) ?_
    refine zz_ine (tgt := 83) hC d_Model_push_76 (by decide) (by omega) (fun h76 => ?_) (fun h76 => ?_)
    · have hm1 := hk1 (by omega)
      have hfm := hfkm (by omega)
      have hb1 := (hrow (xp_fk sz m o.toNatClampNeg) hfm).2.2.2.2
      have hb2 := (hrow (m - 1) (by omega)).2.2.2.2
      refine lv_iconst (v := nI 1) hx_ hb_ d_Model_push_83 (by decide) ?_
      refine lv_aload_n hx_ hb_ d_Model_push_84 rfl (lv_at hl 0 rfl) ?_
      refine zz_get hC hK hZ 0 10 (Nat.le_of_ble_eq_true rfl) (mc_0 q _ _) rfl hin_Model (by decide) wd_517 rfl rfl d_Model_push_85 ?_
      refine lv_iload hx_ hb_ d_Model_push_88 (lv_at hl 4 rfl) ?_
      refine zz_topi (y := nI (xp_fk sz m o.toNatClampNeg)) (hfr (by omega)) ?_
      refine zz_iald hC hK hZ 9 0 (xp_fk sz m o.toNatClampNeg) (Nat.le_of_ble_eq_true rfl) (mc_9 q _ _) rfl rfl (by omega) (by decide) rfl d_Model_push_90 ?_
      refine zz_topi (y := nI (ht (xp_fk sz m o.toNatClampNeg))) (hrow (xp_fk sz m o.toNatClampNeg) (by omega)).2.2.2.1 ?_
      refine lv_aload_n hx_ hb_ d_Model_push_91 rfl (lv_at hl 0 rfl) ?_
      refine zz_get hC hK hZ 0 10 (Nat.le_of_ble_eq_true rfl) (mc_0 q _ _) rfl hin_Model (by decide) wd_517 rfl rfl d_Model_push_92 ?_
      refine lv_aload_n hx_ hb_ d_Model_push_95 rfl (lv_at hl 0 rfl) ?_
      refine zz_get hC hK hZ 0 6 (Nat.le_of_ble_eq_true rfl) (mc_0 q _ _) rfl hin_Model (by decide) wd_513 rfl rfl d_Model_push_96 ?_
      refine zz_topi (y := nI m) hT.1 ?_
      refine lv_iconst (v := nI 1) hx_ hb_ d_Model_push_99 (by decide) ?_
      refine lv_isub hx_ hb_ d_Model_push_100 ?_
      refine zz_topi (y := nI (m - 1)) (pk_sub (by omega)) ?_
      refine zz_iald hC hK hZ 9 0 (m - 1) (Nat.le_of_ble_eq_true rfl) (mc_9 q _ _) rfl rfl (by omega) (by decide) rfl d_Model_push_101 ?_
      refine zz_topi (y := nI (ht (m - 1))) (hrow (m - 1) (by omega)).2.2.2.1 ?_
      refine zz_jle (tgt := 115) hC d_Model_push_102 (by decide) (by omega) (by omega) (fun h102 => ?_) (fun h102 => ?_)
      · refine lv_aload_n hx_ hb_ d_Model_push_115 rfl (lv_at hl 0 rfl) ?_
        refine zz_get hC hK hZ 0 10 (Nat.le_of_ble_eq_true rfl) (mc_0 q _ _) rfl hin_Model (by decide) wd_517 rfl rfl d_Model_push_116 ?_
        refine lv_aload_n hx_ hb_ d_Model_push_119 rfl (lv_at hl 0 rfl) ?_
        refine zz_get hC hK hZ 0 6 (Nat.le_of_ble_eq_true rfl) (mc_0 q _ _) rfl hin_Model (by decide) wd_513 rfl rfl d_Model_push_120 ?_
        refine zz_topi (y := nI m) hT.1 ?_
        refine lv_iconst (v := nI 1) hx_ hb_ d_Model_push_123 (by decide) ?_
        refine lv_isub hx_ hb_ d_Model_push_124 ?_
        refine zz_topi (y := nI (m - 1)) (pk_sub (by omega)) ?_
        refine zz_iald hC hK hZ 9 0 (m - 1) (Nat.le_of_ble_eq_true rfl) (mc_9 q _ _) rfl rfl (by omega) (by decide) rfl d_Model_push_125 ?_
        refine zz_topi (y := nI (ht (m - 1))) (hrow (m - 1) (by omega)).2.2.2.1 ?_
        refine lv_iadd hx_ hb_ d_Model_push_126 ?_
        refine zz_topi (y := nI (1 + (ht (m - 1)))) (nI_add _ _) ?_
        refine lv_istore (i := 5) (lv' := [(5, .int (nI (1 + (ht (m - 1))))), (0, .ref (zz_ad (mg_G q) 0)), (1, .int o), (2, .int v), (3, .int (nI (zz_kd o.toNatClampNeg))), (4, .int fk)]) hx_ hb_ d_Model_push_127 hl (by decide) rfl (fun ls hl => ?_)
        exact J129 fk (1 + (ht (m - 1)))  _ _ _ hpv hfr (by rw [hxh1 (by omega), Nat.max_eq_right (by omega)]) hZ (lv_sub hl [1, 2, 3, 4, 5, 0] rfl)
      · refine lv_aload_n hx_ hb_ d_Model_push_105 rfl (lv_at hl 0 rfl) ?_
        refine zz_get hC hK hZ 0 10 (Nat.le_of_ble_eq_true rfl) (mc_0 q _ _) rfl hin_Model (by decide) wd_517 rfl rfl d_Model_push_106 ?_
        refine lv_iload hx_ hb_ d_Model_push_109 (lv_at hl 4 rfl) ?_
        refine zz_topi (y := nI (xp_fk sz m o.toNatClampNeg)) (hfr (by omega)) ?_
        refine zz_iald hC hK hZ 9 0 (xp_fk sz m o.toNatClampNeg) (Nat.le_of_ble_eq_true rfl) (mc_9 q _ _) rfl rfl (by omega) (by decide) rfl d_Model_push_111 ?_
        refine zz_topi (y := nI (ht (xp_fk sz m o.toNatClampNeg))) (hrow (xp_fk sz m o.toNatClampNeg) (by omega)).2.2.2.1 ?_
        refine lv_goto (tgt := 126) hx_ hb_ d_Model_push_112 (by decide) ?_
        refine lv_iadd hx_ hb_ d_Model_push_126 ?_
        refine zz_topi (y := nI (1 + (ht (xp_fk sz m o.toNatClampNeg)))) (nI_add _ _) ?_
        refine lv_istore (i := 5) (lv' := [(5, .int (nI (1 + (ht (xp_fk sz m o.toNatClampNeg))))), (0, .ref (zz_ad (mg_G q) 0)), (1, .int o), (2, .int v), (3, .int (nI (zz_kd o.toNatClampNeg))), (4, .int fk)]) hx_ hb_ d_Model_push_127 hl (by decide) rfl (fun ls hl => ?_)
        exact J129 fk (1 + (ht (xp_fk sz m o.toNatClampNeg)))  _ _ _ hpv hfr (by rw [hxh1 (by omega), Nat.max_eq_left (by omega)]) hZ (lv_sub hl [1, 2, 3, 4, 5, 0] rfl)
    · refine lv_iconst (v := nI 1) hx_ hb_ d_Model_push_79 (by decide) ?_
      refine lv_goto (tgt := 127) hx_ hb_ d_Model_push_80 (by decide) ?_
      refine lv_istore (i := 5) (lv' := [(5, .int (nI 1)), (0, .ref (zz_ad (mg_G q) 0)), (1, .int o), (2, .int v), (3, .int (nI (zz_kd o.toNatClampNeg))), (4, .int fk)]) hx_ hb_ d_Model_push_127 hl (by decide) rfl (fun ls hl => ?_)
      exact J129 fk 1  _ _ _ hpv hfr (hxh0 (by omega)).symm hZ (lv_sub hl [1, 2, 3, 4, 5, 0] rfl)
  have J28 : ∀  (H : Heap) (locs : List Loc) (ls : Array Slot) (ho8 : 0 ≤ o.toInt ∧ o.toInt < 8) (hov : o.toInt = 1 ∨ o.toInt = 2 → 0 ≤ v.toInt ∧ v.toInt < 8) (hZ : zz_Z (mg_G q) S s_.heap H locs) (hl : lv_has ls 6 [(0, .ref (zz_ad (mg_G q) 0)), (1, .int o), (2, .int v)]), W p_ l e_ rm_Model_push s_ m_ ([.ref (zz_ad (mg_G q) 0), .int o, .int v] : List Value).toArray bl_ mt_ c_ H locs 0 0 (MQ bl_ (va_Qi (fun ans S1 => (¬ pv_ok o v t ∧ ans = -1 ∧ S = S1) ∨ (pv_ok o v t ∧ (m = 40 ∨ 10 < xp_hi sz ht m o.toNatClampNeg) ∧ ans = -2 ∧ S = S1) ∨ (pv_ok o v t ∧ m < 40 ∧ xp_hi sz ht m o.toNatClampNeg ≤ 10 ∧ ans = nI (t + 1 - zz_kd o.toNatClampNeg) ∧ S1 = zz_u (zz_u (zz_u (zz_u (zz_u (zz_u (zz_u S 6 m (nI o.toNatClampNeg)) 7 m v) 8 m (nI (xp_sz sz m o.toNatClampNeg))) 9 m (nI (xp_hi sz ht m o.toNatClampNeg))) 0 11 (nI (t + 1 - zz_kd o.toNatClampNeg))) 10 (t + 1 - zz_kd o.toNatClampNeg - 1) (nI (m + 1 - xp_sz sz m o.toNatClampNeg))) 0 6 (nI (m + 1)))) (zz_P (mg_G q)) (zz_A (mg_G q))) ([.ref (zz_ad (mg_G q) 0), .int o, .int v] : List Value).toArray s_ 0 0 (zz_A (mg_G q))) (F0 m_ 28 ls []) := by
    intro  H locs ls ho8 hov hZ hl
    have hco := zz_clamp ho8.1
    have hkd := tr_kd o.toNatClampNeg
    refine lv_aload_n hx_ hb_ d_Model_push_28 rfl (lv_at hl 0 rfl) ?_
    refine zz_get hC hK hZ 0 11 (Nat.le_of_ble_eq_true rfl) (mc_0 q _ _) rfl hin_Model (by decide) wd_518 rfl rfl d_Model_push_29 ?_
    refine zz_topi (y := nI t) hT.2.1 ?_
    refine lv_iload_n hx_ hb_ d_Model_push_32 rfl (lv_at hl 1 rfl) ?_
    refine zz_topi (y := nI o.toNatClampNeg) hco.1 ?_
    refine zz_ci (zz_rS (As := [.int (nI o.toNatClampNeg)]) (rest := [.int (nI t)]) hC hK hZ (c_Model_kids l q S o.toNatClampNeg (by omega)) k_Model_kids wd_649 ⟨rfl, rfl, by decide, by decide⟩ rfl hl.1 rfl (Nat.le_of_ble_eq_true rfl) d_Model_push_33 ⟨Nat.zero_le _, Nat.zero_le _⟩) hZ (fun r33 S33 H locs hp33 hZ => ?_)
    obtain ⟨rfl, rfl⟩ := hp33
    refine zz_jge (tgt := 41) hC d_Model_push_36 (by decide) (by omega) (by omega) (fun h36 => ?_) (fun h36 => ?_)
    · have hpv : pv_ok o v t := ⟨ho8, fun h => hov (by omega), h36⟩
      have hk1 : 0 < zz_kd o.toNatClampNeg → 1 ≤ m := fun h => by omega
      have hk2 : zz_kd o.toNatClampNeg = 2 → sz (m - 1) + 1 ≤ m := fun h => h2ts.2 (by omega)
      have hfk1 : zz_kd o.toNatClampNeg = 2 → xp_fk sz m o.toNatClampNeg = m - 1 - sz (m - 1) := fun h => by rw [xp_fk, if_pos h]
      have hfk2 : zz_kd o.toNatClampNeg ≠ 2 → xp_fk sz m o.toNatClampNeg = m - 1 := fun h => by rw [xp_fk, if_neg h]
      have hfkm : 0 < zz_kd o.toNatClampNeg → xp_fk sz m o.toNatClampNeg < m := fun h => by have := hk1 h; have := hk2; omega
      have hxs := xs_sz hk1 hk2
      have hxh0 : zz_kd o.toNatClampNeg = 0 → xp_hi sz ht m o.toNatClampNeg = 1 := fun h => by rw [xp_hi, if_pos h]
      have hxh1 : zz_kd o.toNatClampNeg ≠ 0 → xp_hi sz ht m o.toNatClampNeg = 1 + max (ht (xp_fk sz m o.toNatClampNeg)) (ht (m - 1)) := fun h => by rw [xp_hi, if_neg h]
      refine lv_iload_n hx_ hb_ d_Model_push_41 rfl (lv_at hl 1 rfl) ?_
      refine zz_topi (y := nI o.toNatClampNeg) hco.1 ?_
      refine zz_ci (zz_rS (As := [.int (nI o.toNatClampNeg)]) (rest := []) hC hK hZ (c_Model_kids l q S o.toNatClampNeg (by omega)) k_Model_kids wd_649 ⟨rfl, rfl, by decide, by decide⟩ rfl hl.1 rfl (Nat.le_of_ble_eq_true rfl) d_Model_push_42 ⟨Nat.zero_le _, Nat.zero_le _⟩) hZ (fun r42 S42 H locs hp42 hZ => ?_)
      obtain ⟨rfl, rfl⟩ := hp42
      refine lv_istore_n (i := 3) (lv' := [(3, .int (nI (zz_kd o.toNatClampNeg))), (0, .ref (zz_ad (mg_G q) 0)), (1, .int o), (2, .int v)]) hx_ hb_ d_Model_push_45 rfl hl (by decide) rfl (fun ls hl => ?_)
      refine lv_aload_n hx_ hb_ d_Model_push_46 rfl (lv_at hl 1 rfl) ?_
      refine zz_get hC hK hZ 0 6 (Nat.le_of_ble_eq_true rfl) (mc_0 q _ _) rfl hin_Model (by decide) wd_513 rfl rfl d_Model_push_47 ?_
      refine zz_topi (y := nI m) hT.1 ?_
      refine lv_iconst (v := nI 1) hx_ hb_ d_Model_push_50 (by decide) ?_
      refine lv_isub hx_ hb_ d_Model_push_51 ?_
      refine zz_topi (y := nI m - nI 1) rfl ?_
      refine lv_iload_n hx_ hb_ d_Model_push_52 rfl (lv_at hl 0 rfl) ?_
      refine lv_iconst (v := nI 1) hx_ hb_ d_Model_push_53 (by decide) ?_
      refine zz_jle (tgt := 71) hC d_Model_push_54 (by decide) (by omega) (by omega) (fun h54 => ?_) (fun h54 => ?_)
      · refine lv_iconst (v := nI 0) hx_ hb_ d_Model_push_71 (by decide) ?_
        refine lv_isub hx_ hb_ d_Model_push_72 ?_
        refine lv_istore (i := 4) (lv' := [(4, .int ((nI m - nI 1) - (nI 0))), (3, .int (nI (zz_kd o.toNatClampNeg))), (0, .ref (zz_ad (mg_G q) 0)), (1, .int o), (2, .int v)]) hx_ hb_ d_Model_push_73 hl (by decide) rfl (fun ls hl => ?_)
        exact J75 ((nI m - nI 1) - (nI 0))  _ _ _ hpv (fun h => by rw [pk_sub (by omega), pk_sub (by omega), hfk2 (by omega)]; rfl) hZ (lv_sub hl [2, 3, 4, 1, 0] rfl)
      · refine lv_aload_n hx_ hb_ d_Model_push_57 rfl (lv_at hl 1 rfl) ?_
        refine zz_get hC hK hZ 0 9 (Nat.le_of_ble_eq_true rfl) (mc_0 q _ _) rfl hin_Model (by decide) wd_516 rfl rfl d_Model_push_58 ?_
        refine lv_aload_n hx_ hb_ d_Model_push_61 rfl (lv_at hl 1 rfl) ?_
        refine zz_get hC hK hZ 0 6 (Nat.le_of_ble_eq_true rfl) (mc_0 q _ _) rfl hin_Model (by decide) wd_513 rfl rfl d_Model_push_62 ?_
        refine zz_topi (y := nI m) hT.1 ?_
        refine lv_iconst (v := nI 1) hx_ hb_ d_Model_push_65 (by decide) ?_
        refine lv_isub hx_ hb_ d_Model_push_66 ?_
        refine zz_topi (y := nI (m - 1)) (pk_sub (by omega)) ?_
        refine zz_iald hC hK hZ 8 0 (m - 1) (Nat.le_of_ble_eq_true rfl) (mc_8 q _ _) rfl rfl (by omega) (by decide) rfl d_Model_push_67 ?_
        refine zz_topi (y := nI (sz (m - 1))) (hrow (m - 1) (by omega)).2.2.1 ?_
        refine lv_goto (tgt := 72) hx_ hb_ d_Model_push_68 (by decide) ?_
        refine lv_isub hx_ hb_ d_Model_push_72 ?_
        refine lv_istore (i := 4) (lv' := [(4, .int ((nI m - nI 1) - (nI (sz (m - 1))))), (3, .int (nI (zz_kd o.toNatClampNeg))), (0, .ref (zz_ad (mg_G q) 0)), (1, .int o), (2, .int v)]) hx_ hb_ d_Model_push_73 hl (by decide) rfl (fun ls hl => ?_)
        exact J75 ((nI m - nI 1) - (nI (sz (m - 1))))  _ _ _ hpv (fun h => by rw [pk_sub (by omega), pk_sub (by omega), hfk1 (by omega)]) hZ (lv_sub hl [2, 3, 4, 1, 0] rfl)
    · refine lv_iconst (v := (-1)) hx_ hb_ d_Model_push_39 (by decide) ?_
      exact zz_iret hC hK hZ rfl d_Model_push_40 (Or.inl ⟨fun h => by have h1 := h.1; have h2 := h.2.1; have h3 := h.2.2; have h4 := zz_clamp h1.1; omega, rfl, rfl⟩)
  refine lv_iload_n hx_ hb_ d_Model_push_0 rfl (lv_at hl 1 rfl) ?_
  refine lv_bipush (v := nI 7) hx_ hb_ d_Model_push_1 (by decide) ?_
  refine zz_ci (zz_rS (As := [.int o, .int (nI 7)]) (rest := []) hC hK hZ (c_Model_outside l q S o 7 (by omega)) k_Model_outside wd_629 ⟨rfl, rfl, by decide, by decide⟩ rfl hl.1 rfl (Nat.le_of_ble_eq_true rfl) d_Model_push_3 ⟨Nat.zero_le _, Nat.zero_le _⟩) hZ (fun r3 S3 H locs hp3 hZ => ?_)
  obtain ⟨rfl, rfl⟩ := hp3
  refine zz_bne (tgt := 39) hC d_Model_push_6 (by decide) (fun h6 => ?_) (fun h6 => ?_)
  · refine lv_iconst (v := (-1)) hx_ hb_ d_Model_push_39 (by decide) ?_
    exact zz_iret hC hK hZ rfl d_Model_push_40 (Or.inl ⟨fun h => by have h1 := h.1; have h2 := h.2.1; have h3 := h.2.2; have h4 := zz_clamp h1.1; omega, rfl, rfl⟩)
  · refine lv_iload_n hx_ hb_ d_Model_push_9 rfl (lv_at hl 1 rfl) ?_
    refine lv_iconst (v := nI 1) hx_ hb_ d_Model_push_10 (by decide) ?_
    refine zz_rjeq (tgt := 19) hC d_Model_push_11 (by decide) (fun h11 => ?_) (fun h11 => ?_)
    · rw [nI_toInt (by omega)] at h11
      refine lv_iload_n hx_ hb_ d_Model_push_19 rfl (lv_at hl 2 rfl) ?_
      refine lv_bipush (v := nI 7) hx_ hb_ d_Model_push_20 (by decide) ?_
      refine zz_ci (zz_rS (As := [.int v, .int (nI 7)]) (rest := []) hC hK hZ (c_Model_outside l q S v 7 (by omega)) k_Model_outside wd_629 ⟨rfl, rfl, by decide, by decide⟩ rfl hl.1 rfl (Nat.le_of_ble_eq_true rfl) d_Model_push_22 ⟨Nat.zero_le _, Nat.zero_le _⟩) hZ (fun r22 S22 H locs hp22 hZ => ?_)
      obtain ⟨rfl, rfl⟩ := hp22
      refine zz_bne (tgt := 39) hC d_Model_push_25 (by decide) (fun h25 => ?_) (fun h25 => ?_)
      · refine lv_iconst (v := (-1)) hx_ hb_ d_Model_push_39 (by decide) ?_
        exact zz_iret hC hK hZ rfl d_Model_push_40 (Or.inl ⟨fun h => by have h1 := h.1; have h2 := h.2.1; have h3 := h.2.2; have h4 := zz_clamp h1.1; omega, rfl, rfl⟩)
      · exact J28   _ _ _ (by omega) (by omega) hZ (lv_sub hl [0, 1, 2] rfl)
    · rw [nI_toInt (by omega)] at h11
      refine lv_iload_n hx_ hb_ d_Model_push_14 rfl (lv_at hl 1 rfl) ?_
      refine lv_iconst (v := nI 2) hx_ hb_ d_Model_push_15 (by decide) ?_
      refine zz_rjne (tgt := 28) hC d_Model_push_16 (by decide) (fun h16 => ?_) (fun h16 => ?_)
      · rw [nI_toInt (by omega)] at h16
        exact J28   _ _ _ (by omega) (by omega) hZ (lv_sub hl [0, 1, 2] rfl)
      · rw [nI_toInt (by omega)] at h16
        refine lv_iload_n hx_ hb_ d_Model_push_19 rfl (lv_at hl 2 rfl) ?_
        refine lv_bipush (v := nI 7) hx_ hb_ d_Model_push_20 (by decide) ?_
        refine zz_ci (zz_rS (As := [.int v, .int (nI 7)]) (rest := []) hC hK hZ (c_Model_outside l q S v 7 (by omega)) k_Model_outside wd_629 ⟨rfl, rfl, by decide, by decide⟩ rfl hl.1 rfl (Nat.le_of_ble_eq_true rfl) d_Model_push_22 ⟨Nat.zero_le _, Nat.zero_le _⟩) hZ (fun r22 S22 H locs hp22 hZ => ?_)
        obtain ⟨rfl, rfl⟩ := hp22
        refine zz_bne (tgt := 39) hC d_Model_push_25 (by decide) (fun h25 => ?_) (fun h25 => ?_)
        · refine lv_iconst (v := (-1)) hx_ hb_ d_Model_push_39 (by decide) ?_
          exact zz_iret hC hK hZ rfl d_Model_push_40 (Or.inl ⟨fun h => by have h1 := h.1; have h2 := h.2.1; have h3 := h.2.2; have h4 := zz_clamp h1.1; omega, rfl, rfl⟩)
        · exact J28   _ _ _ (by omega) (by omega) hZ (lv_sub hl [0, 1, 2] rfl)
