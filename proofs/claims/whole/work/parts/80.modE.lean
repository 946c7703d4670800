/-! The reference: emit. Laid by wip/whole/prog/p32.py. -/
set_option maxHeartbeats 4000000 in
set_option maxRecDepth 100000 in
theorem c_Model_emit (l : Launch) (q : xg_T) (S : zz_S) (rl : mx_R) (R : Nat) (hB : mb_ok S rl R) (op : Nat → Nat) (nu : Nat → Int32) (sz ht : Nat → Nat) (m t : Nat) (ps : Nat → Nat) (hT : mt_ok S op nu sz ht m t ps) (gs qs : Nat → Nat → Nat) (Wk : Nat → Nat) (i : Nat) (hlab : ∀ i, (m - sz (m - 1)) ≤ i → i < m → xq_lab rl R op sz gs qs i) (hrw : ∀ k, k < 4 → S.1 12 (4 * i + k) = vw_p (qs i k)) (ht1 : t ≠ 0) (hW : wk_ok rl op sz gs qs Wk (m - sz (m - 1)) m) (hi : (m - sz (m - 1)) ≤ i ∧ i < m) (h28 : S.1 28 i = nI (Wk i)) (hla : ∀ c, (m - sz (m - 1)) ≤ c → c < i → S.1 29 c = nI ((wr_st rl op nu sz qs Wk (m - sz (m - 1)) (i - (m - sz (m - 1)))).2 c)) (hk : mk_cd S (wr_st rl op nu sz qs Wk (m - sz (m - 1)) (i - (m - sz (m - 1)))).1) : Met l y_Model_emit (Cond.code y_Model_emit b_Model_emit 8 none :: zz_tbl) rm_Model_emit (zz_Pc [.ref (zz_ad (mg_G q) 0), .int (nI i), .int (nI (i - (m - sz (m - 1))))] (mg_G q) S) (va_Qv (fun S1 => zz_off em_X S S1 ∧ (∀ j, j ≠ 22 → S1.1 0 j = S.1 0 j) ∧ mk_cd S1 (wr_st rl op nu sz qs Wk (m - sz (m - 1)) (i + 1 - (m - sz (m - 1)))).1 ∧ ∀ c, (m - sz (m - 1)) ≤ c → c < i + 1 → S1.1 29 c = nI ((wr_st rl op nu sz qs Wk (m - sz (m - 1)) (i + 1 - (m - sz (m - 1)))).2 c)) (zz_P (mg_G q)) (zz_A (mg_G q))) 0 0 (zz_A (mg_G q)) := by
  refine zz_met (by decide) (Nat.le_of_ble_eq_true rfl) ?_
  intro p_ e_ s_ m_ bl_ mt_ c_ ls hC hK hZ hl
  have hC : zz_C p_ s_ m_ _ mt_ c_ b_Model_emit 8 none "TreeCoverForgeModel" := hC
  have hx_ := hC.1
  have hb_ := hC.2.1
  have hl : lv_has ls 8 [(0, .ref (zz_ad (mg_G q) 0)), (1, .int (nI i)), (2, .int (nI (i - (m - sz (m - 1)))))] := hl
  have hok := hB.2.2.1
  have hm := hT.2.2.1
  have htm := hT.2.2.2.1
  have htr := hT.2.2.2.2.2.1
  have hts := hT.2.2.2.2.2.2.2.1
  have hps := hT.2.2.2.2.2.2.2.2
  have h2ts := ts_two hts
  have h2t := h2ts.1 (by omega)
  have hfm : (m - sz (m - 1)) + sz (m - 1) = m := by omega
  have hR24 := hB.2.1
  obtain ⟨i1, i2, i3, i4⟩ := wr_inv (nu := nu) hok htr (by omega) hfm hlab hW (i - (m - sz (m - 1))) (by omega)
  obtain ⟨w1, w2, w3, w4⟩ := hW.2 i hi.1 hi.2
  obtain ⟨q1, q2, q3, q4, q5, q6, q7⟩ := wr_ok hok (hlab i hi.1 hi.2) w1 w2
  have hLq := hlab i hi.1 hi.2
  have hlq0 := ((hLq.1.2 _ w1).1 w2).1
  obtain ⟨rest0, hL0⟩ := mf_start q1
  have hin := (tr_in htr (show 0 < m by omega) hfm hi.1 hi.2).2
  have hti := htr i hi.2
  have hkd := tr_kd (op i)
  have L167_ : ∀ (n_ : Nat) (y : Nat) (Si : zz_S) (H : Heap) (locs : List Loc) (ls : Array Slot) (hy : y + 1 ≤ (wr_path rl qs Wk i).length) (ho : zz_off em_X S Si) (hfl : ∀ j, j ≠ 22 → Si.1 0 j = S.1 0 j) (hlb : ∀ c, (m - sz (m - 1)) ≤ c → c < i → Si.1 29 c = nI ((wr_st rl op nu sz qs Wk (m - sz (m - 1)) (i - (m - sz (m - 1)))).2 c)) (hp : ∀ j, j < (wr_path rl qs Wk i).length - 1 → Si.1 30 j = nI ((wr_path rl qs Wk i).getD j 0)) (hkC : mk_cd Si (cd_ch (i - (m - sz (m - 1))) ((wr_rv rl qs Wk i).take ((wr_path rl qs Wk i).length - 1 - y)) (wr_op rl op nu sz qs Wk (m - sz (m - 1)) i))) (hZ : zz_Z (mg_G q) Si s_.heap H locs) (hl : lv_has ls 8 [(0, .ref (zz_ad (mg_G q) 0)), (1, .int (nI i)), (2, .int (nI (i - (m - sz (m - 1))))), (7, .int (nI y - 1))]) (hn_ : y = n_), W p_ l e_ rm_Model_emit s_ m_ ([.ref (zz_ad (mg_G q) 0), .int (nI i), .int (nI (i - (m - sz (m - 1))))] : List Value).toArray bl_ mt_ c_ H locs 0 0 (MQ bl_ (va_Qv (fun S1 => zz_off em_X S S1 ∧ (∀ j, j ≠ 22 → S1.1 0 j = S.1 0 j) ∧ mk_cd S1 (wr_st rl op nu sz qs Wk (m - sz (m - 1)) (i + 1 - (m - sz (m - 1)))).1 ∧ ∀ c, (m - sz (m - 1)) ≤ c → c < i + 1 → S1.1 29 c = nI ((wr_st rl op nu sz qs Wk (m - sz (m - 1)) (i + 1 - (m - sz (m - 1)))).2 c)) (zz_P (mg_G q)) (zz_A (mg_G q))) ([.ref (zz_ad (mg_G q) 0), .int (nI i), .int (nI (i - (m - sz (m - 1))))] : List Value).toArray s_ 0 0 (zz_A (mg_G q))) (F0 m_ 167 ls []) := by
    intro n_
    induction n_ using Nat.strongRecOn with
    | ind n_ ih_ =>
      intro y Si H locs ls hy ho hfl hlb hp hkC hZ hl hn_
      have hpl := wr_part (rl := rl) (op := op) (nu := nu) (sz := sz) (fm := (m - sz (m - 1))) y hy
      refine lv_iload hx_ hb_ d_Model_emit_167 (lv_at hl 3 rfl) ?_
      refine zz_plt (tgt := 210) hC d_Model_emit_169 (by decide) (by omega) (fun h169 => ?_) (fun h169 => ?_)
      · have hkA : mk_cd Si (cd_ch (i - (m - sz (m - 1))) (wr_rv rl qs Wk i) (wr_op rl op nu sz qs Wk (m - sz (m - 1)) i)) := by
          rw [show y = 0 by omega, wr_all] at hkC
          exact hkC
        have hlen : 1 ≤ (cd_ch (i - (m - sz (m - 1))) (wr_rv rl qs Wk i) (wr_op rl op nu sz qs Wk (m - sz (m - 1)) i)).1 := by
          rw [cd_ch_len]
          show 1 ≤ _ + 1 + _
          omega
        have hl160 := hkA.2.1
        refine lv_aload_n hx_ hb_ d_Model_emit_210 rfl (lv_at hl 0 rfl) ?_
        refine zz_get hC hK hZ 0 35 (Nat.le_of_ble_eq_true rfl) (mc_0 q _ _) rfl hin_Model (by decide) wd_542 rfl rfl d_Model_emit_211 ?_
        refine lv_iload_n hx_ hb_ d_Model_emit_214 rfl (lv_at hl 1 rfl) ?_
        refine lv_aload_n hx_ hb_ d_Model_emit_215 rfl (lv_at hl 0 rfl) ?_
        refine zz_get hC hK hZ 0 22 (Nat.le_of_ble_eq_true rfl) (mc_0 q _ _) rfl hin_Model (by decide) wd_529 rfl rfl d_Model_emit_216 ?_
        refine zz_topi (y := nI ((cd_ch (i - (m - sz (m - 1))) (wr_rv rl qs Wk i) (wr_op rl op nu sz qs Wk (m - sz (m - 1)) i)).1)) hkA.1 ?_
        refine lv_iconst (v := nI 1) hx_ hb_ d_Model_emit_219 (by decide) ?_
        refine lv_isub hx_ hb_ d_Model_emit_220 ?_
        refine zz_topi (y := nI ((cd_ch (i - (m - sz (m - 1))) (wr_rv rl qs Wk i) (wr_op rl op nu sz qs Wk (m - sz (m - 1)) i)).1 - 1)) (pk_sub (by omega)) ?_
        refine zz_iast hC hK hZ 29 0 i (Nat.le_of_ble_eq_true rfl) (fun _ => mc_29 q _ _) rfl rfl (by omega) (by decide) d_Model_emit_221 (fun H locs hZ => ?_)
        exact zz_vret hC hK hZ rfl d_Model_emit_222 ⟨zz_off_tr ho (fun d hd => ⟨zz_u1 Si 29 _ _ d (fun h => hd (by unfold em_X; omega)), rfl⟩), fun j hj => by rw [zz_u1 Si 29 _ _ 0 (by omega)]; exact hfl j hj, by
          rw [wr_next hi.1]
          exact mk_cdk hkA (by rw [zz_u1 Si 29 _ _ 0 (by omega)]) (fun c h1 h2 => zz_u1 Si 29 _ _ c (by omega)), fun c h1 h2 => by
          rw [zz_u1s, wr_next hi.1]
          show _ = nI (va_up _ i _ c)
          by_cases e : c = i
          · rw [e, pk_us, mp_up_s]
          · rw [pk_un e, mp_up_n e]
            exact hlb c h1 (by omega)⟩
      · refine lv_aload_n hx_ hb_ d_Model_emit_172 rfl (lv_at hl 0 rfl) ?_
        refine zz_get hC hK hZ 0 28 (Nat.le_of_ble_eq_true rfl) (mc_0 q _ _) rfl hin_Model (by decide) wd_535 rfl rfl d_Model_emit_173 ?_
        refine lv_aload_n hx_ hb_ d_Model_emit_176 rfl (lv_at hl 0 rfl) ?_
        refine zz_get hC hK hZ 0 22 (Nat.le_of_ble_eq_true rfl) (mc_0 q _ _) rfl hin_Model (by decide) wd_529 rfl rfl d_Model_emit_177 ?_
        refine zz_topi (y := nI ((cd_ch (i - (m - sz (m - 1))) ((wr_rv rl qs Wk i).take ((wr_path rl qs Wk i).length - 1 - y)) (wr_op rl op nu sz qs Wk (m - sz (m - 1)) i)).1)) hkC.1 ?_
        refine lv_iconst (v := nI 0) hx_ hb_ d_Model_emit_180 (by decide) ?_
        refine zz_topi (y := 0) nI_0 ?_
        refine zz_iast hC hK hZ 22 0 ((cd_ch (i - (m - sz (m - 1))) ((wr_rv rl qs Wk i).take ((wr_path rl qs Wk i).length - 1 - y)) (wr_op rl op nu sz qs Wk (m - sz (m - 1)) i)).1) (Nat.le_of_ble_eq_true rfl) (fun _ => mc_22 q _ _) rfl rfl (by omega) (by decide) d_Model_emit_181 (fun H locs hZ => ?_)
        refine lv_aload_n hx_ hb_ d_Model_emit_182 rfl (lv_at hl 0 rfl) ?_
        refine lv_aload_n hx_ hb_ d_Model_emit_183 rfl (lv_at hl 0 rfl) ?_
        refine zz_get hC hK hZ 0 36 (Nat.le_of_ble_eq_true rfl) (mc_0 q _ _) rfl hin_Model (by decide) wd_543 rfl rfl d_Model_emit_184 ?_
        refine lv_iload hx_ hb_ d_Model_emit_187 (lv_at hl 3 rfl) ?_
        refine zz_topi (y := nI (y - 1)) (zz_prd (by omega)) ?_
        refine zz_iald hC hK hZ 30 0 (y - 1) (Nat.le_of_ble_eq_true rfl) (mc_30 q _ _) rfl rfl (by omega) (by decide) rfl d_Model_emit_189 ?_
        refine zz_topi (y := nI ((wr_path rl qs Wk i).getD (y - 1) 0)) (by rw [zz_u1 _ 22 _ _ 30 (by omega)]; exact hp _ (by omega)) ?_
        refine lv_iload_n hx_ hb_ d_Model_emit_190 rfl (lv_at hl 2 rfl) ?_
        refine lv_bipush (v := nI 8) hx_ hb_ d_Model_emit_191 (by decide) ?_
        refine lv_aload_n hx_ hb_ d_Model_emit_193 rfl (lv_at hl 0 rfl) ?_
        refine zz_get hC hK hZ 0 22 (Nat.le_of_ble_eq_true rfl) (mc_0 q _ _) rfl hin_Model (by decide) wd_529 rfl rfl d_Model_emit_194 ?_
        refine zz_topi (y := nI ((cd_ch (i - (m - sz (m - 1))) ((wr_rv rl qs Wk i).take ((wr_path rl qs Wk i).length - 1 - y)) (wr_op rl op nu sz qs Wk (m - sz (m - 1)) i)).1)) hkC.1 ?_
        refine lv_iconst (v := nI 1) hx_ hb_ d_Model_emit_197 (by decide) ?_
        refine lv_isub hx_ hb_ d_Model_emit_198 ?_
        refine zz_topi (y := vw_s ((cd_ch (i - (m - sz (m - 1))) ((wr_rv rl qs Wk i).take ((wr_path rl qs Wk i).length - 1 - y)) (wr_op rl op nu sz qs Wk (m - sz (m - 1)) i)).1 - 1)) ((pk_sub (by omega)).trans (vw_s_in (by omega)).symm) ?_
        refine lv_bipush (v := (-3)) hx_ hb_ d_Model_emit_199 (by decide) ?_
        refine zz_topi (y := vw_s 1000) rfl ?_
        refine zz_cv (zz_rV (As := [.int (nI ((wr_path rl qs Wk i).getD (y - 1) 0)), .int (nI (i - (m - sz (m - 1)))), .int (nI 8), .int (vw_s ((cd_ch (i - (m - sz (m - 1))) ((wr_rv rl qs Wk i).take ((wr_path rl qs Wk i).length - 1 - y)) (wr_op rl op nu sz qs Wk (m - sz (m - 1)) i)).1 - 1)), .int (vw_s 1000)]) (rest := []) hC hK hZ 0 (c_Model_write l q (zz_u Si 22 ((cd_ch (i - (m - sz (m - 1))) ((wr_rv rl qs Wk i).take ((wr_path rl qs Wk i).length - 1 - y)) (wr_op rl op nu sz qs Wk (m - sz (m - 1)) i)).1) 0) (cd_ch (i - (m - sz (m - 1))) ((wr_rv rl qs Wk i).take ((wr_path rl qs Wk i).length - 1 - y)) (wr_op rl op nu sz qs Wk (m - sz (m - 1)) i)) ((wr_path rl qs Wk i).getD (y - 1) 0) (i - (m - sz (m - 1))) 8 ((cd_ch (i - (m - sz (m - 1))) ((wr_rv rl qs Wk i).take ((wr_path rl qs Wk i).length - 1 - y)) (wr_op rl op nu sz qs Wk (m - sz (m - 1)) i)).1 - 1) 1000 0 (mk_22 hkC) (by omega) (by rw [zz_u1s, pk_us]) (fun _ => by omega) (fun h => absurd h (by omega))) k_Model_write (Nat.le_of_ble_eq_true rfl) (mc_0 q _ _) rfl wd_721 ⟨rfl, rfl, by decide, by decide⟩ rfl hl.1 rfl (Nat.le_of_ble_eq_true rfl) d_Model_emit_201 ⟨Nat.zero_le _, Nat.zero_le _⟩) hZ (fun S201 H locs hp201 hZ => ?_)
        refine lv_iinc (k := 3) (v := nI (y - 1) - 1) (lv' := [(7, .int (nI (y - 1) - 1)), (0, .ref (zz_ad (mg_G q) 0)), (1, .int (nI i)), (2, .int (nI (i - (m - sz (m - 1)))))]) hx_ hb_ d_Model_emit_204 hl rfl (zz_prd1 (by omega)) (by decide) rfl (fun ls hl => ?_)
        refine lv_goto (tgt := 167) hx_ hb_ d_Model_emit_207 (by decide) ?_
        exact ih_ _ (by omega) (y - 1) S201  _ _ _ (by omega) (zz_off_tr ho (zz_off_tr (fun d hd => ⟨zz_u1 Si 22 _ _ d (fun h => hd (by unfold em_X; omega)), rfl⟩) (zz_off_mono hp201.1 (fun c h => by unfold mk_X at h; unfold em_X; omega)))) (fun j hj => by rw [hp201.2.1 j hj, zz_u1 Si 22 _ _ 0 (by omega)]; exact hfl j hj) (fun c h1 h2 => by rw [(hp201.1 29 (by unfold mk_X; omega)).1, zz_u1 Si 22 _ _ 29 (by omega)]; exact hlb c h1 h2) (fun j hj => by rw [(hp201.1 30 (by unfold mk_X; omega)).1, zz_u1 Si 22 _ _ 30 (by omega)]; exact hp j (by omega)) (by rw [wr_more (by omega) hy]; exact hp201.2.2) hZ (lv_sub hl [1, 2, 3, 0] rfl) rfl
  have L167 : ∀ (y : Nat) (Si : zz_S) (H : Heap) (locs : List Loc) (ls : Array Slot) (hy : y + 1 ≤ (wr_path rl qs Wk i).length) (ho : zz_off em_X S Si) (hfl : ∀ j, j ≠ 22 → Si.1 0 j = S.1 0 j) (hlb : ∀ c, (m - sz (m - 1)) ≤ c → c < i → Si.1 29 c = nI ((wr_st rl op nu sz qs Wk (m - sz (m - 1)) (i - (m - sz (m - 1)))).2 c)) (hp : ∀ j, j < (wr_path rl qs Wk i).length - 1 → Si.1 30 j = nI ((wr_path rl qs Wk i).getD j 0)) (hkC : mk_cd Si (cd_ch (i - (m - sz (m - 1))) ((wr_rv rl qs Wk i).take ((wr_path rl qs Wk i).length - 1 - y)) (wr_op rl op nu sz qs Wk (m - sz (m - 1)) i))) (hZ : zz_Z (mg_G q) Si s_.heap H locs) (hl : lv_has ls 8 [(0, .ref (zz_ad (mg_G q) 0)), (1, .int (nI i)), (2, .int (nI (i - (m - sz (m - 1))))), (7, .int (nI y - 1))]), W p_ l e_ rm_Model_emit s_ m_ ([.ref (zz_ad (mg_G q) 0), .int (nI i), .int (nI (i - (m - sz (m - 1))))] : List Value).toArray bl_ mt_ c_ H locs 0 0 (MQ bl_ (va_Qv (fun S1 => zz_off em_X S S1 ∧ (∀ j, j ≠ 22 → S1.1 0 j = S.1 0 j) ∧ mk_cd S1 (wr_st rl op nu sz qs Wk (m - sz (m - 1)) (i + 1 - (m - sz (m - 1)))).1 ∧ ∀ c, (m - sz (m - 1)) ≤ c → c < i + 1 → S1.1 29 c = nI ((wr_st rl op nu sz qs Wk (m - sz (m - 1)) (i + 1 - (m - sz (m - 1)))).2 c)) (zz_P (mg_G q)) (zz_A (mg_G q))) ([.ref (zz_ad (mg_G q) 0), .int (nI i), .int (nI (i - (m - sz (m - 1))))] : List Value).toArray s_ 0 0 (zz_A (mg_G q))) (F0 m_ 167 ls []) := fun y Si H locs ls hy ho hfl hlb hp hkC hZ hl => L167_ _ y Si H locs ls hy ho hfl hlb hp hkC hZ hl rfl
  have J63 : ∀ (len : Nat) (r : Nat) (Si : zz_S) (H : Heap) (locs : List Loc) (ls : Array Slot) (ho : zz_off (fun c => c = 30) S Si) (hs : ∀ j, j < len → Si.1 30 j = nI ((wr_path rl qs Wk i).getD j 0)) (hr : r = wr_last rl qs Wk i) (hlen : (wr_path rl qs Wk i).length = len + 1) (hZ : zz_Z (mg_G q) Si s_.heap H locs) (hl : lv_has ls 8 [(0, .ref (zz_ad (mg_G q) 0)), (1, .int (nI i)), (2, .int (nI (i - (m - sz (m - 1))))), (3, .int (nI len)), (4, .int (nI r))]), W p_ l e_ rm_Model_emit s_ m_ ([.ref (zz_ad (mg_G q) 0), .int (nI i), .int (nI (i - (m - sz (m - 1))))] : List Value).toArray bl_ mt_ c_ H locs 0 0 (MQ bl_ (va_Qv (fun S1 => zz_off em_X S S1 ∧ (∀ j, j ≠ 22 → S1.1 0 j = S.1 0 j) ∧ mk_cd S1 (wr_st rl op nu sz qs Wk (m - sz (m - 1)) (i + 1 - (m - sz (m - 1)))).1 ∧ ∀ c, (m - sz (m - 1)) ≤ c → c < i + 1 → S1.1 29 c = nI ((wr_st rl op nu sz qs Wk (m - sz (m - 1)) (i + 1 - (m - sz (m - 1)))).2 c)) (zz_P (mg_G q)) (zz_A (mg_G q))) ([.ref (zz_ad (mg_G q) 0), .int (nI i), .int (nI (i - (m - sz (m - 1))))] : List Value).toArray s_ 0 0 (zz_A (mg_G q))) (F0 m_ 63 ls []) := by
    intro len r Si H locs ls ho hs hr hlen hZ hl
    have hTi : mt_ok Si op nu sz ht m t ps := mt_keep hT (by rw [(ho 0 (by omega)).1]) (by rw [(ho 0 (by omega)).1]) (fun c h1 h2 => (ho c (by omega)).1)
    have hki : mk_cd Si (wr_st rl op nu sz qs Wk (m - sz (m - 1)) (i - (m - sz (m - 1)))).1 := mk_cdk hk (by rw [(ho 0 (by omega)).1]) (fun c h1 h2 => (ho c (by omega)).1)
    refine lv_aload_n hx_ hb_ d_Model_emit_63 rfl (lv_at hl 0 rfl) ?_
    refine zz_get hC hK hZ 0 7 (Nat.le_of_ble_eq_true rfl) (mc_0 q _ _) rfl hin_Model (by decide) wd_514 rfl rfl d_Model_emit_64 ?_
    refine lv_iload_n hx_ hb_ d_Model_emit_67 rfl (lv_at hl 1 rfl) ?_
    refine zz_iald hC hK hZ 6 0 i (Nat.le_of_ble_eq_true rfl) (mc_6 q _ _) rfl rfl (by omega) (by decide) rfl d_Model_emit_68 ?_
    refine zz_topi (y := nI (op i)) (hTi.2.2.2.2.1 i hi.2).1 ?_
    refine zz_ci (zz_rS (As := [.int (nI (op i))]) (rest := []) hC hK hZ (c_Model_kids l q Si (op i) (by omega)) k_Model_kids wd_649 ⟨rfl, rfl, by decide, by decide⟩ rfl hl.1 rfl (Nat.le_of_ble_eq_true rfl) d_Model_emit_69 ⟨Nat.zero_le _, Nat.zero_le _⟩) hZ (fun r69 S69 H locs hp69 hZ => ?_)
    obtain ⟨rfl, rfl⟩ := hp69
    refine lv_istore (i := 5) (lv' := [(5, .int (nI (zz_kd (op i)))), (0, .ref (zz_ad (mg_G q) 0)), (1, .int (nI i)), (2, .int (nI (i - (m - sz (m - 1))))), (3, .int (nI len)), (4, .int (nI r))]) hx_ hb_ d_Model_emit_72 hl (by decide) rfl (fun ls hl => ?_)
    refine lv_iload_n hx_ hb_ d_Model_emit_74 rfl (lv_at hl 2 rfl) ?_
    refine lv_iconst (v := nI 1) hx_ hb_ d_Model_emit_75 (by decide) ?_
    refine lv_isub hx_ hb_ d_Model_emit_76 ?_
    refine zz_topi (y := nI i - nI 1) rfl ?_
    refine lv_iload hx_ hb_ d_Model_emit_77 (lv_at hl 0 rfl) ?_
    refine lv_iconst (v := nI 1) hx_ hb_ d_Model_emit_79 (by decide) ?_
    refine zz_jle (tgt := 94) hC d_Model_emit_80 (by decide) (by omega) (by omega) (fun h80 => ?_) (fun h80 => ?_)
    · refine lv_iconst (v := nI 0) hx_ hb_ d_Model_emit_94 (by decide) ?_
      refine lv_isub hx_ hb_ d_Model_emit_95 ?_
      refine lv_istore (i := 6) (lv' := [(6, .int ((nI i - nI 1) - (nI 0))), (5, .int (nI (zz_kd (op i)))), (0, .ref (zz_ad (mg_G q) 0)), (1, .int (nI i)), (2, .int (nI (i - (m - sz (m - 1))))), (3, .int (nI len)), (4, .int (nI r))]) hx_ hb_ d_Model_emit_96 hl (by decide) rfl (fun ls hl => ?_)
      refine lv_aload_n hx_ hb_ d_Model_emit_98 rfl (lv_at hl 2 rfl) ?_
      refine zz_get hC hK hZ 0 28 (Nat.le_of_ble_eq_true rfl) (mc_0 q _ _) rfl hin_Model (by decide) wd_535 rfl rfl d_Model_emit_99 ?_
      refine lv_aload_n hx_ hb_ d_Model_emit_102 rfl (lv_at hl 2 rfl) ?_
      refine zz_get hC hK hZ 0 22 (Nat.le_of_ble_eq_true rfl) (mc_0 q _ _) rfl hin_Model (by decide) wd_529 rfl rfl d_Model_emit_103 ?_
      refine zz_topi (y := nI ((wr_st rl op nu sz qs Wk (m - sz (m - 1)) (i - (m - sz (m - 1)))).1.1)) hki.1 ?_
      refine lv_aload_n hx_ hb_ d_Model_emit_106 rfl (lv_at hl 2 rfl) ?_
      refine zz_get hC hK hZ 0 8 (Nat.le_of_ble_eq_true rfl) (mc_0 q _ _) rfl hin_Model (by decide) wd_515 rfl rfl d_Model_emit_107 ?_
      refine lv_iload_n hx_ hb_ d_Model_emit_110 rfl (lv_at hl 3 rfl) ?_
      refine zz_iald hC hK hZ 7 0 i (Nat.le_of_ble_eq_true rfl) (mc_7 q _ _) rfl rfl (by omega) (by decide) rfl d_Model_emit_111 ?_
      refine zz_topi (y := nu i) (hTi.2.2.2.2.1 i hi.2).2.1 ?_
      refine zz_iast hC hK hZ 22 0 ((wr_st rl op nu sz qs Wk (m - sz (m - 1)) (i - (m - sz (m - 1)))).1.1) (Nat.le_of_ble_eq_true rfl) (fun _ => mc_22 q _ _) rfl rfl (by omega) (by decide) d_Model_emit_112 (fun H locs hZ => ?_)
      refine lv_aload_n hx_ hb_ d_Model_emit_113 rfl (lv_at hl 2 rfl) ?_
      refine lv_iload hx_ hb_ d_Model_emit_114 (lv_at hl 6 rfl) ?_
      refine zz_topi (y := nI (wr_last rl qs Wk i)) (by rw [hr]) ?_
      refine lv_iload_n hx_ hb_ d_Model_emit_116 rfl (lv_at hl 4 rfl) ?_
      refine lv_aload_n hx_ hb_ d_Model_emit_117 rfl (lv_at hl 2 rfl) ?_
      refine zz_get hC hK hZ 0 7 (Nat.le_of_ble_eq_true rfl) (mc_0 q _ _) rfl hin_Model (by decide) wd_514 rfl rfl d_Model_emit_118 ?_
      refine lv_iload_n hx_ hb_ d_Model_emit_121 rfl (lv_at hl 3 rfl) ?_
      refine zz_iald hC hK hZ 6 0 i (Nat.le_of_ble_eq_true rfl) (mc_6 q _ _) rfl rfl (by omega) (by decide) rfl d_Model_emit_122 ?_
      refine zz_topi (y := nI (op i)) (by rw [zz_u1 _ 22 _ _ 6 (by omega)]; exact (hTi.2.2.2.2.1 i hi.2).1) ?_
      refine lv_iload hx_ hb_ d_Model_emit_123 (lv_at hl 1 rfl) ?_
      refine zz_ile (tgt := 138) hC d_Model_emit_125 (by decide) (by omega) (fun h125 => ?_) (fun h125 => ?_)
      · refine lv_bipush (v := (-3)) hx_ hb_ d_Model_emit_138 (by decide) ?_
        refine zz_topi (y := vw_s (if 0 < zz_kd (op i) then (wr_st rl op nu sz qs Wk (m - sz (m - 1)) (i - (m - sz (m - 1)))).2 (tr_fa op sz i) else 1000)) (by rw [if_neg (by omega)]; rfl) ?_
        refine lv_iload hx_ hb_ d_Model_emit_140 (lv_at hl 1 rfl) ?_
        refine lv_iconst (v := nI 1) hx_ hb_ d_Model_emit_142 (by decide) ?_
        refine zz_jle (tgt := 157) hC d_Model_emit_143 (by decide) (by omega) (by omega) (fun h143 => ?_) (fun h143 => ?_)
        · refine lv_bipush (v := (-3)) hx_ hb_ d_Model_emit_157 (by decide) ?_
          refine zz_topi (y := vw_s (if zz_kd (op i) = 2 then (wr_st rl op nu sz qs Wk (m - sz (m - 1)) (i - (m - sz (m - 1)))).2 (i - 1) else 1000)) (by rw [if_neg (by omega)]; rfl) ?_
          refine zz_cv (zz_rV (As := [.int (nI (wr_last rl qs Wk i)), .int (nI (i - (m - sz (m - 1)))), .int (nI (op i)), .int (vw_s (if 0 < zz_kd (op i) then (wr_st rl op nu sz qs Wk (m - sz (m - 1)) (i - (m - sz (m - 1)))).2 (tr_fa op sz i) else 1000)), .int (vw_s (if zz_kd (op i) = 2 then (wr_st rl op nu sz qs Wk (m - sz (m - 1)) (i - (m - sz (m - 1)))).2 (i - 1) else 1000))]) (rest := []) hC hK hZ 0 (c_Model_write l q (zz_u Si 22 ((wr_st rl op nu sz qs Wk (m - sz (m - 1)) (i - (m - sz (m - 1)))).1.1) (nu i)) (wr_st rl op nu sz qs Wk (m - sz (m - 1)) (i - (m - sz (m - 1)))).1 (wr_last rl qs Wk i) (i - (m - sz (m - 1))) (op i) (if 0 < zz_kd (op i) then (wr_st rl op nu sz qs Wk (m - sz (m - 1)) (i - (m - sz (m - 1)))).2 (tr_fa op sz i) else 1000) (if zz_kd (op i) = 2 then (wr_st rl op nu sz qs Wk (m - sz (m - 1)) (i - (m - sz (m - 1)))).2 (i - 1) else 1000) (nu i) (mk_22 hki) (by omega) (by rw [zz_u1s, pk_us]) (fun h => by by_cases e : 0 < zz_kd (op i); (rw [if_pos e]; exact i4 _ (hin e).2.2.1 (by have := (hin e).2.2.2; omega)); (rw [if_neg e] at h; omega)) (fun h => by by_cases e : zz_kd (op i) = 2; (rw [if_pos e]; exact i4 _ (hin (by omega)).1 (by have := (hin (by omega)).2.1; omega)); (rw [if_neg e] at h; omega))) k_Model_write (Nat.le_of_ble_eq_true rfl) (mc_0 q _ _) rfl wd_721 ⟨rfl, rfl, by decide, by decide⟩ rfl hl.1 rfl (Nat.le_of_ble_eq_true rfl) d_Model_emit_159 ⟨Nat.zero_le _, Nat.zero_le _⟩) hZ (fun S159 H locs hp159 hZ => ?_)
          refine lv_iload_n hx_ hb_ d_Model_emit_162 rfl (lv_at hl 5 rfl) ?_
          refine lv_iconst (v := nI 1) hx_ hb_ d_Model_emit_163 (by decide) ?_
          refine lv_isub hx_ hb_ d_Model_emit_164 ?_
          refine zz_topi (y := nI len - 1) rfl ?_
          refine lv_istore (i := 7) (lv' := [(7, .int (nI len - 1)), (6, .int ((nI i - nI 1) - (nI 0))), (5, .int (nI (zz_kd (op i)))), (0, .ref (zz_ad (mg_G q) 0)), (1, .int (nI i)), (2, .int (nI (i - (m - sz (m - 1))))), (3, .int (nI len)), (4, .int (nI r))]) hx_ hb_ d_Model_emit_165 hl (by decide) rfl (fun ls hl => ?_)
          exact L167 len S159  _ _ _ (by omega) (zz_off_tr (zz_off_mono ho (fun c h => by unfold em_X; omega)) (zz_off_tr (fun d hd => ⟨zz_u1 Si 22 _ _ d (fun h => hd (by unfold em_X; omega)), rfl⟩) (zz_off_mono hp159.1 (fun c h => by unfold mk_X at h; unfold em_X; omega)))) (fun j hj => by rw [hp159.2.1 j hj, zz_u1 Si 22 _ _ 0 (by omega), (ho 0 (by omega)).1]) (fun c h1 h2 => by rw [(hp159.1 29 (by unfold mk_X; omega)).1, zz_u1 Si 22 _ _ 29 (by omega), (ho 29 (by omega)).1]; exact hla c h1 h2) (fun j hj => by rw [(hp159.1 30 (by unfold mk_X; omega)).1, zz_u1 Si 22 _ _ 30 (by omega)]; exact hs j (by omega)) (by rw [show len = (wr_path rl qs Wk i).length - 1 by omega, wr_none q3]; exact hp159.2.2) hZ (lv_sub hl [3, 4, 5, 0] rfl)
        · have hin2 := hin (by omega)
          have hl2 := i4 (i - 1) hin2.1 (by omega)
          refine lv_aload_n hx_ hb_ d_Model_emit_146 rfl (lv_at hl 2 rfl) ?_
          refine zz_get hC hK hZ 0 35 (Nat.le_of_ble_eq_true rfl) (mc_0 q _ _) rfl hin_Model (by decide) wd_542 rfl rfl d_Model_emit_147 ?_
          refine lv_iload_n hx_ hb_ d_Model_emit_150 rfl (lv_at hl 3 rfl) ?_
          refine lv_iconst (v := nI 1) hx_ hb_ d_Model_emit_151 (by decide) ?_
          refine lv_isub hx_ hb_ d_Model_emit_152 ?_
          refine zz_topi (y := nI (i - 1)) (pk_sub (by omega)) ?_
          refine zz_iald hC hK hZ 29 0 (i - 1) (Nat.le_of_ble_eq_true rfl) (mc_29 q _ _) rfl rfl (by omega) (by decide) rfl d_Model_emit_153 ?_
          refine zz_topi (y := vw_s (if zz_kd (op i) = 2 then (wr_st rl op nu sz qs Wk (m - sz (m - 1)) (i - (m - sz (m - 1)))).2 (i - 1) else 1000)) (by rw [if_pos (by omega), vw_s_in (by omega), zz_u1 _ 22 _ _ 29 (by omega), (ho 29 (by omega)).1]; exact hla _ (by omega) (by omega)) ?_
          refine lv_goto (tgt := 159) hx_ hb_ d_Model_emit_154 (by decide) ?_
          refine zz_cv (zz_rV (As := [.int (nI (wr_last rl qs Wk i)), .int (nI (i - (m - sz (m - 1)))), .int (nI (op i)), .int (vw_s (if 0 < zz_kd (op i) then (wr_st rl op nu sz qs Wk (m - sz (m - 1)) (i - (m - sz (m - 1)))).2 (tr_fa op sz i) else 1000)), .int (vw_s (if zz_kd (op i) = 2 then (wr_st rl op nu sz qs Wk (m - sz (m - 1)) (i - (m - sz (m - 1)))).2 (i - 1) else 1000))]) (rest := []) hC hK hZ 0 (c_Model_write l q (zz_u Si 22 ((wr_st rl op nu sz qs Wk (m - sz (m - 1)) (i - (m - sz (m - 1)))).1.1) (nu i)) (wr_st rl op nu sz qs Wk (m - sz (m - 1)) (i - (m - sz (m - 1)))).1 (wr_last rl qs Wk i) (i - (m - sz (m - 1))) (op i) (if 0 < zz_kd (op i) then (wr_st rl op nu sz qs Wk (m - sz (m - 1)) (i - (m - sz (m - 1)))).2 (tr_fa op sz i) else 1000) (if zz_kd (op i) = 2 then (wr_st rl op nu sz qs Wk (m - sz (m - 1)) (i - (m - sz (m - 1)))).2 (i - 1) else 1000) (nu i) (mk_22 hki) (by omega) (by rw [zz_u1s, pk_us]) (fun h => by by_cases e : 0 < zz_kd (op i); (rw [if_pos e]; exact i4 _ (hin e).2.2.1 (by have := (hin e).2.2.2; omega)); (rw [if_neg e] at h; omega)) (fun h => by by_cases e : zz_kd (op i) = 2; (rw [if_pos e]; exact i4 _ (hin (by omega)).1 (by have := (hin (by omega)).2.1; omega)); (rw [if_neg e] at h; omega))) k_Model_write (Nat.le_of_ble_eq_true rfl) (mc_0 q _ _) rfl wd_721 ⟨rfl, rfl, by decide, by decide⟩ rfl hl.1 rfl (Nat.le_of_ble_eq_true rfl) d_Model_emit_159 ⟨Nat.zero_le _, Nat.zero_le _⟩) hZ (fun S159 H locs hp159 hZ => ?_)
          refine lv_iload_n hx_ hb_ d_Model_emit_162 rfl (lv_at hl 5 rfl) ?_
          refine lv_iconst (v := nI 1) hx_ hb_ d_Model_emit_163 (by decide) ?_
          refine lv_isub hx_ hb_ d_Model_emit_164 ?_
          refine zz_topi (y := nI len - 1) rfl ?_
          refine lv_istore (i := 7) (lv' := [(7, .int (nI len - 1)), (6, .int ((nI i - nI 1) - (nI 0))), (5, .int (nI (zz_kd (op i)))), (0, .ref (zz_ad (mg_G q) 0)), (1, .int (nI i)), (2, .int (nI (i - (m - sz (m - 1))))), (3, .int (nI len)), (4, .int (nI r))]) hx_ hb_ d_Model_emit_165 hl (by decide) rfl (fun ls hl => ?_)
          exact L167 len S159  _ _ _ (by omega) (zz_off_tr (zz_off_mono ho (fun c h => by unfold em_X; omega)) (zz_off_tr (fun d hd => ⟨zz_u1 Si 22 _ _ d (fun h => hd (by unfold em_X; omega)), rfl⟩) (zz_off_mono hp159.1 (fun c h => by unfold mk_X at h; unfold em_X; omega)))) (fun j hj => by rw [hp159.2.1 j hj, zz_u1 Si 22 _ _ 0 (by omega), (ho 0 (by omega)).1]) (fun c h1 h2 => by rw [(hp159.1 29 (by unfold mk_X; omega)).1, zz_u1 Si 22 _ _ 29 (by omega), (ho 29 (by omega)).1]; exact hla c h1 h2) (fun j hj => by rw [(hp159.1 30 (by unfold mk_X; omega)).1, zz_u1 Si 22 _ _ 30 (by omega)]; exact hs j (by omega)) (by rw [show len = (wr_path rl qs Wk i).length - 1 by omega, wr_none q3]; exact hp159.2.2) hZ (lv_sub hl [3, 4, 5, 0] rfl)
      · have hin1 := hin (by omega)
        have hl1 := i4 (tr_fa op sz i) hin1.2.2.1 (by omega)
        refine lv_aload_n hx_ hb_ d_Model_emit_128 rfl (lv_at hl 2 rfl) ?_
        refine zz_get hC hK hZ 0 35 (Nat.le_of_ble_eq_true rfl) (mc_0 q _ _) rfl hin_Model (by decide) wd_542 rfl rfl d_Model_emit_129 ?_
        refine lv_iload hx_ hb_ d_Model_emit_132 (lv_at hl 0 rfl) ?_
        refine zz_topi (y := nI (tr_fa op sz i)) (by first | (rw [tr_fa, if_pos (by omega), pk_sub (by omega), pk_sub (by omega)]) | (rw [tr_fa, if_neg (by omega), pk_sub (by omega), pk_sub (by omega)]; rfl)) ?_
        refine zz_iald hC hK hZ 29 0 (tr_fa op sz i) (Nat.le_of_ble_eq_true rfl) (mc_29 q _ _) rfl rfl (by omega) (by decide) rfl d_Model_emit_134 ?_
        refine zz_topi (y := vw_s (if 0 < zz_kd (op i) then (wr_st rl op nu sz qs Wk (m - sz (m - 1)) (i - (m - sz (m - 1)))).2 (tr_fa op sz i) else 1000)) (by rw [if_pos (by omega), vw_s_in (by omega), zz_u1 _ 22 _ _ 29 (by omega), (ho 29 (by omega)).1]; exact hla _ (by omega) (by omega)) ?_
        refine lv_goto (tgt := 140) hx_ hb_ d_Model_emit_135 (by decide) ?_
        refine lv_iload hx_ hb_ d_Model_emit_140 (lv_at hl 1 rfl) ?_
        refine lv_iconst (v := nI 1) hx_ hb_ d_Model_emit_142 (by decide) ?_
        refine zz_jle (tgt := 157) hC d_Model_emit_143 (by decide) (by omega) (by omega) (fun h143 => ?_) (fun h143 => ?_)
        · refine lv_bipush (v := (-3)) hx_ hb_ d_Model_emit_157 (by decide) ?_
          refine zz_topi (y := vw_s (if zz_kd (op i) = 2 then (wr_st rl op nu sz qs Wk (m - sz (m - 1)) (i - (m - sz (m - 1)))).2 (i - 1) else 1000)) (by rw [if_neg (by omega)]; rfl) ?_
          refine zz_cv (zz_rV (As := [.int (nI (wr_last rl qs Wk i)), .int (nI (i - (m - sz (m - 1)))), .int (nI (op i)), .int (vw_s (if 0 < zz_kd (op i) then (wr_st rl op nu sz qs Wk (m - sz (m - 1)) (i - (m - sz (m - 1)))).2 (tr_fa op sz i) else 1000)), .int (vw_s (if zz_kd (op i) = 2 then (wr_st rl op nu sz qs Wk (m - sz (m - 1)) (i - (m - sz (m - 1)))).2 (i - 1) else 1000))]) (rest := []) hC hK hZ 0 (c_Model_write l q (zz_u Si 22 ((wr_st rl op nu sz qs Wk (m - sz (m - 1)) (i - (m - sz (m - 1)))).1.1) (nu i)) (wr_st rl op nu sz qs Wk (m - sz (m - 1)) (i - (m - sz (m - 1)))).1 (wr_last rl qs Wk i) (i - (m - sz (m - 1))) (op i) (if 0 < zz_kd (op i) then (wr_st rl op nu sz qs Wk (m - sz (m - 1)) (i - (m - sz (m - 1)))).2 (tr_fa op sz i) else 1000) (if zz_kd (op i) = 2 then (wr_st rl op nu sz qs Wk (m - sz (m - 1)) (i - (m - sz (m - 1)))).2 (i - 1) else 1000) (nu i) (mk_22 hki) (by omega) (by rw [zz_u1s, pk_us]) (fun h => by by_cases e : 0 < zz_kd (op i); (rw [if_pos e]; exact i4 _ (hin e).2.2.1 (by have := (hin e).2.2.2; omega)); (rw [if_neg e] at h; omega)) (fun h => by by_cases e : zz_kd (op i) = 2; (rw [if_pos e]; exact i4 _ (hin (by omega)).1 (by have := (hin (by omega)).2.1; omega)); (rw [if_neg e] at h; omega))) k_Model_write (Nat.le_of_ble_eq_true rfl) (mc_0 q _ _) rfl wd_721 ⟨rfl, rfl, by decide, by decide⟩ rfl hl.1 rfl (Nat.le_of_ble_eq_true rfl) d_Model_emit_159 ⟨Nat.zero_le _, Nat.zero_le _⟩) hZ (fun S159 H locs hp159 hZ => ?_)
          refine lv_iload_n hx_ hb_ d_Model_emit_162 rfl (lv_at hl 5 rfl) ?_
          refine lv_iconst (v := nI 1) hx_ hb_ d_Model_emit_163 (by decide) ?_
          refine lv_isub hx_ hb_ d_Model_emit_164 ?_
          refine zz_topi (y := nI len - 1) rfl ?_
          refine lv_istore (i := 7) (lv' := [(7, .int (nI len - 1)), (6, .int ((nI i - nI 1) - (nI 0))), (5, .int (nI (zz_kd (op i)))), (0, .ref (zz_ad (mg_G q) 0)), (1, .int (nI i)), (2, .int (nI (i - (m - sz (m - 1))))), (3, .int (nI len)), (4, .int (nI r))]) hx_ hb_ d_Model_emit_165 hl (by decide) rfl (fun ls hl => ?_)
          exact L167 len S159  _ _ _ (by omega) (zz_off_tr (zz_off_mono ho (fun c h => by unfold em_X; omega)) (zz_off_tr (fun d hd => ⟨zz_u1 Si 22 _ _ d (fun h => hd (by unfold em_X; omega)), rfl⟩) (zz_off_mono hp159.1 (fun c h => by unfold mk_X at h; unfold em_X; omega)))) (fun j hj => by rw [hp159.2.1 j hj, zz_u1 Si 22 _ _ 0 (by omega), (ho 0 (by omega)).1]) (fun c h1 h2 => by rw [(hp159.1 29 (by unfold mk_X; omega)).1, zz_u1 Si 22 _ _ 29 (by omega), (ho 29 (by omega)).1]; exact hla c h1 h2) (fun j hj => by rw [(hp159.1 30 (by unfold mk_X; omega)).1, zz_u1 Si 22 _ _ 30 (by omega)]; exact hs j (by omega)) (by rw [show len = (wr_path rl qs Wk i).length - 1 by omega, wr_none q3]; exact hp159.2.2) hZ (lv_sub hl [3, 4, 5, 0] rfl)
        · have hin2 := hin (by omega)
          have hl2 := i4 (i - 1) hin2.1 (by omega)
          refine lv_aload_n hx_ hb_ d_Model_emit_146 rfl (lv_at hl 2 rfl) ?_
          refine zz_get hC hK hZ 0 35 (Nat.le_of_ble_eq_true rfl) (mc_0 q _ _) rfl hin_Model (by decide) wd_542 rfl rfl d_Model_emit_147 ?_
          refine lv_iload_n hx_ hb_ d_Model_emit_150 rfl (lv_at hl 3 rfl) ?_
          refine lv_iconst (v := nI 1) hx_ hb_ d_Model_emit_151 (by decide) ?_
          refine lv_isub hx_ hb_ d_Model_emit_152 ?_
          refine zz_topi (y := nI (i - 1)) (pk_sub (by omega)) ?_
          refine zz_iald hC hK hZ 29 0 (i - 1) (Nat.le_of_ble_eq_true rfl) (mc_29 q _ _) rfl rfl (by omega) (by decide) rfl d_Model_emit_153 ?_
          refine zz_topi (y := vw_s (if zz_kd (op i) = 2 then (wr_st rl op nu sz qs Wk (m - sz (m - 1)) (i - (m - sz (m - 1)))).2 (i - 1) else 1000)) (by rw [if_pos (by omega), vw_s_in (by omega), zz_u1 _ 22 _ _ 29 (by omega), (ho 29 (by omega)).1]; exact hla _ (by omega) (by omega)) ?_
          refine lv_goto (tgt := 159) hx_ hb_ d_Model_emit_154 (by decide) ?_
          refine zz_cv (zz_rV (As := [.int (nI (wr_last rl qs Wk i)), .int (nI (i - (m - sz (m - 1)))), .int (nI (op i)), .int (vw_s (if 0 < zz_kd (op i) then (wr_st rl op nu sz qs Wk (m - sz (m - 1)) (i - (m - sz (m - 1)))).2 (tr_fa op sz i) else 1000)), .int (vw_s (if zz_kd (op i) = 2 then (wr_st rl op nu sz qs Wk (m - sz (m - 1)) (i - (m - sz (m - 1)))).2 (i - 1) else 1000))]) (rest := []) hC hK hZ 0 (c_Model_write l q (zz_u Si 22 ((wr_st rl op nu sz qs Wk (m - sz (m - 1)) (i - (m - sz (m - 1)))).1.1) (nu i)) (wr_st rl op nu sz qs Wk (m - sz (m - 1)) (i - (m - sz (m - 1)))).1 (wr_last rl qs Wk i) (i - (m - sz (m - 1))) (op i) (if 0 < zz_kd (op i) then (wr_st rl op nu sz qs Wk (m - sz (m - 1)) (i - (m - sz (m - 1)))).2 (tr_fa op sz i) else 1000) (if zz_kd (op i) = 2 then (wr_st rl op nu sz qs Wk (m - sz (m - 1)) (i - (m - sz (m - 1)))).2 (i - 1) else 1000) (nu i) (mk_22 hki) (by omega) (by rw [zz_u1s, pk_us]) (fun h => by by_cases e : 0 < zz_kd (op i); (rw [if_pos e]; exact i4 _ (hin e).2.2.1 (by have := (hin e).2.2.2; omega)); (rw [if_neg e] at h; omega)) (fun h => by by_cases e : zz_kd (op i) = 2; (rw [if_pos e]; exact i4 _ (hin (by omega)).1 (by have := (hin (by omega)).2.1; omega)); (rw [if_neg e] at h; omega))) k_Model_write (Nat.le_of_ble_eq_true rfl) (mc_0 q _ _) rfl wd_721 ⟨rfl, rfl, by decide, by decide⟩ rfl hl.1 rfl (Nat.le_of_ble_eq_true rfl) d_Model_emit_159 ⟨Nat.zero_le _, Nat.zero_le _⟩) hZ (fun S159 H locs hp159 hZ => ?_)
          refine lv_iload_n hx_ hb_ d_Model_emit_162 rfl (lv_at hl 5 rfl) ?_
          refine lv_iconst (v := nI 1) hx_ hb_ d_Model_emit_163 (by decide) ?_
          refine lv_isub hx_ hb_ d_Model_emit_164 ?_
          refine zz_topi (y := nI len - 1) rfl ?_
          refine lv_istore (i := 7) (lv' := [(7, .int (nI len - 1)), (6, .int ((nI i - nI 1) - (nI 0))), (5, .int (nI (zz_kd (op i)))), (0, .ref (zz_ad (mg_G q) 0)), (1, .int (nI i)), (2, .int (nI (i - (m - sz (m - 1))))), (3, .int (nI len)), (4, .int (nI r))]) hx_ hb_ d_Model_emit_165 hl (by decide) rfl (fun ls hl => ?_)
          exact L167 len S159  _ _ _ (by omega) (zz_off_tr (zz_off_mono ho (fun c h => by unfold em_X; omega)) (zz_off_tr (fun d hd => ⟨zz_u1 Si 22 _ _ d (fun h => hd (by unfold em_X; omega)), rfl⟩) (zz_off_mono hp159.1 (fun c h => by unfold mk_X at h; unfold em_X; omega)))) (fun j hj => by rw [hp159.2.1 j hj, zz_u1 Si 22 _ _ 0 (by omega), (ho 0 (by omega)).1]) (fun c h1 h2 => by rw [(hp159.1 29 (by unfold mk_X; omega)).1, zz_u1 Si 22 _ _ 29 (by omega), (ho 29 (by omega)).1]; exact hla c h1 h2) (fun j hj => by rw [(hp159.1 30 (by unfold mk_X; omega)).1, zz_u1 Si 22 _ _ 30 (by omega)]; exact hs j (by omega)) (by rw [show len = (wr_path rl qs Wk i).length - 1 by omega, wr_none q3]; exact hp159.2.2) hZ (lv_sub hl [3, 4, 5, 0] rfl)
    · refine lv_aload_n hx_ hb_ d_Model_emit_83 rfl (lv_at hl 1 rfl) ?_
      refine zz_get hC hK hZ 0 9 (Nat.le_of_ble_eq_true rfl) (mc_0 q _ _) rfl hin_Model (by decide) wd_516 rfl rfl d_Model_emit_84 ?_
      refine lv_iload_n hx_ hb_ d_Model_emit_87 rfl (lv_at hl 2 rfl) ?_
      refine lv_iconst (v := nI 1) hx_ hb_ d_Model_emit_88 (by decide) ?_
      refine lv_isub hx_ hb_ d_Model_emit_89 ?_
      refine zz_topi (y := nI (i - 1)) (pk_sub (by omega)) ?_
      refine zz_iald hC hK hZ 8 0 (i - 1) (Nat.le_of_ble_eq_true rfl) (mc_8 q _ _) rfl rfl (by omega) (by decide) rfl d_Model_emit_90 ?_
      refine zz_topi (y := nI (sz (i - 1))) (hTi.2.2.2.2.1 (i - 1) (by omega)).2.2.1 ?_
      refine lv_goto (tgt := 95) hx_ hb_ d_Model_emit_91 (by decide) ?_
      refine lv_isub hx_ hb_ d_Model_emit_95 ?_
      refine lv_istore (i := 6) (lv' := [(6, .int ((nI i - nI 1) - (nI (sz (i - 1))))), (5, .int (nI (zz_kd (op i)))), (0, .ref (zz_ad (mg_G q) 0)), (1, .int (nI i)), (2, .int (nI (i - (m - sz (m - 1))))), (3, .int (nI len)), (4, .int (nI r))]) hx_ hb_ d_Model_emit_96 hl (by decide) rfl (fun ls hl => ?_)
      refine lv_aload_n hx_ hb_ d_Model_emit_98 rfl (lv_at hl 2 rfl) ?_
      refine zz_get hC hK hZ 0 28 (Nat.le_of_ble_eq_true rfl) (mc_0 q _ _) rfl hin_Model (by decide) wd_535 rfl rfl d_Model_emit_99 ?_
      refine lv_aload_n hx_ hb_ d_Model_emit_102 rfl (lv_at hl 2 rfl) ?_
      refine zz_get hC hK hZ 0 22 (Nat.le_of_ble_eq_true rfl) (mc_0 q _ _) rfl hin_Model (by decide) wd_529 rfl rfl d_Model_emit_103 ?_
      refine zz_topi (y := nI ((wr_st rl op nu sz qs Wk (m - sz (m - 1)) (i - (m - sz (m - 1)))).1.1)) hki.1 ?_
      refine lv_aload_n hx_ hb_ d_Model_emit_106 rfl (lv_at hl 2 rfl) ?_
      refine zz_get hC hK hZ 0 8 (Nat.le_of_ble_eq_true rfl) (mc_0 q _ _) rfl hin_Model (by decide) wd_515 rfl rfl d_Model_emit_107 ?_
      refine lv_iload_n hx_ hb_ d_Model_emit_110 rfl (lv_at hl 3 rfl) ?_
      refine zz_iald hC hK hZ 7 0 i (Nat.le_of_ble_eq_true rfl) (mc_7 q _ _) rfl rfl (by omega) (by decide) rfl d_Model_emit_111 ?_
      refine zz_topi (y := nu i) (hTi.2.2.2.2.1 i hi.2).2.1 ?_
      refine zz_iast hC hK hZ 22 0 ((wr_st rl op nu sz qs Wk (m - sz (m - 1)) (i - (m - sz (m - 1)))).1.1) (Nat.le_of_ble_eq_true rfl) (fun _ => mc_22 q _ _) rfl rfl (by omega) (by decide) d_Model_emit_112 (fun H locs hZ => ?_)
      refine lv_aload_n hx_ hb_ d_Model_emit_113 rfl (lv_at hl 2 rfl) ?_
      refine lv_iload hx_ hb_ d_Model_emit_114 (lv_at hl 6 rfl) ?_
      refine zz_topi (y := nI (wr_last rl qs Wk i)) (by rw [hr]) ?_
      refine lv_iload_n hx_ hb_ d_Model_emit_116 rfl (lv_at hl 4 rfl) ?_
      refine lv_aload_n hx_ hb_ d_Model_emit_117 rfl (lv_at hl 2 rfl) ?_
      refine zz_get hC hK hZ 0 7 (Nat.le_of_ble_eq_true rfl) (mc_0 q _ _) rfl hin_Model (by decide) wd_514 rfl rfl d_Model_emit_118 ?_
      refine lv_iload_n hx_ hb_ d_Model_emit_121 rfl (lv_at hl 3 rfl) ?_
      refine zz_iald hC hK hZ 6 0 i (Nat.le_of_ble_eq_true rfl) (mc_6 q _ _) rfl rfl (by omega) (by decide) rfl d_Model_emit_122 ?_
      refine zz_topi (y := nI (op i)) (by rw [zz_u1 _ 22 _ _ 6 (by omega)]; exact (hTi.2.2.2.2.1 i hi.2).1) ?_
      refine lv_iload hx_ hb_ d_Model_emit_123 (lv_at hl 1 rfl) ?_
      refine zz_ile (tgt := 138) hC d_Model_emit_125 (by decide) (by omega) (fun h125 => ?_) (fun h125 => ?_)
      · refine lv_bipush (v := (-3)) hx_ hb_ d_Model_emit_138 (by decide) ?_
        refine zz_topi (y := vw_s (if 0 < zz_kd (op i) then (wr_st rl op nu sz qs Wk (m - sz (m - 1)) (i - (m - sz (m - 1)))).2 (tr_fa op sz i) else 1000)) (by rw [if_neg (by omega)]; rfl) ?_
        refine lv_iload hx_ hb_ d_Model_emit_140 (lv_at hl 1 rfl) ?_
        refine lv_iconst (v := nI 1) hx_ hb_ d_Model_emit_142 (by decide) ?_
        refine zz_jle (tgt := 157) hC d_Model_emit_143 (by decide) (by omega) (by omega) (fun h143 => ?_) (fun h143 => ?_)
        · refine lv_bipush (v := (-3)) hx_ hb_ d_Model_emit_157 (by decide) ?_
          refine zz_topi (y := vw_s (if zz_kd (op i) = 2 then (wr_st rl op nu sz qs Wk (m - sz (m - 1)) (i - (m - sz (m - 1)))).2 (i - 1) else 1000)) (by rw [if_neg (by omega)]; rfl) ?_
          refine zz_cv (zz_rV (As := [.int (nI (wr_last rl qs Wk i)), .int (nI (i - (m - sz (m - 1)))), .int (nI (op i)), .int (vw_s (if 0 < zz_kd (op i) then (wr_st rl op nu sz qs Wk (m - sz (m - 1)) (i - (m - sz (m - 1)))).2 (tr_fa op sz i) else 1000)), .int (vw_s (if zz_kd (op i) = 2 then (wr_st rl op nu sz qs Wk (m - sz (m - 1)) (i - (m - sz (m - 1)))).2 (i - 1) else 1000))]) (rest := []) hC hK hZ 0 (c_Model_write l q (zz_u Si 22 ((wr_st rl op nu sz qs Wk (m - sz (m - 1)) (i - (m - sz (m - 1)))).1.1) (nu i)) (wr_st rl op nu sz qs Wk (m - sz (m - 1)) (i - (m - sz (m - 1)))).1 (wr_last rl qs Wk i) (i - (m - sz (m - 1))) (op i) (if 0 < zz_kd (op i) then (wr_st rl op nu sz qs Wk (m - sz (m - 1)) (i - (m - sz (m - 1)))).2 (tr_fa op sz i) else 1000) (if zz_kd (op i) = 2 then (wr_st rl op nu sz qs Wk (m - sz (m - 1)) (i - (m - sz (m - 1)))).2 (i - 1) else 1000) (nu i) (mk_22 hki) (by omega) (by rw [zz_u1s, pk_us]) (fun h => by by_cases e : 0 < zz_kd (op i); (rw [if_pos e]; exact i4 _ (hin e).2.2.1 (by have := (hin e).2.2.2; omega)); (rw [if_neg e] at h; omega)) (fun h => by by_cases e : zz_kd (op i) = 2; (rw [if_pos e]; exact i4 _ (hin (by omega)).1 (by have := (hin (by omega)).2.1; omega)); (rw [if_neg e] at h; omega))) k_Model_write (Nat.le_of_ble_eq_true rfl) (mc_0 q _ _) rfl wd_721 ⟨rfl, rfl, by decide, by decide⟩ rfl hl.1 rfl (Nat.le_of_ble_eq_true rfl) d_Model_emit_159 ⟨Nat.zero_le _, Nat.zero_le _⟩) hZ (fun S159 H locs hp159 hZ => ?_)
          refine lv_iload_n hx_ hb_ d_Model_emit_162 rfl (lv_at hl 5 rfl) ?_
          refine lv_iconst (v := nI 1) hx_ hb_ d_Model_emit_163 (by decide) ?_
          refine lv_isub hx_ hb_ d_Model_emit_164 ?_
          refine zz_topi (y := nI len - 1) rfl ?_
          refine lv_istore (i := 7) (lv' := [(7, .int (nI len - 1)), (6, .int ((nI i - nI 1) - (nI (sz (i - 1))))), (5, .int (nI (zz_kd (op i)))), (0, .ref (zz_ad (mg_G q) 0)), (1, .int (nI i)), (2, .int (nI (i - (m - sz (m - 1))))), (3, .int (nI len)), (4, .int (nI r))]) hx_ hb_ d_Model_emit_165 hl (by decide) rfl (fun ls hl => ?_)
          exact L167 len S159  _ _ _ (by omega) (zz_off_tr (zz_off_mono ho (fun c h => by unfold em_X; omega)) (zz_off_tr (fun d hd => ⟨zz_u1 Si 22 _ _ d (fun h => hd (by unfold em_X; omega)), rfl⟩) (zz_off_mono hp159.1 (fun c h => by unfold mk_X at h; unfold em_X; omega)))) (fun j hj => by rw [hp159.2.1 j hj, zz_u1 Si 22 _ _ 0 (by omega), (ho 0 (by omega)).1]) (fun c h1 h2 => by rw [(hp159.1 29 (by unfold mk_X; omega)).1, zz_u1 Si 22 _ _ 29 (by omega), (ho 29 (by omega)).1]; exact hla c h1 h2) (fun j hj => by rw [(hp159.1 30 (by unfold mk_X; omega)).1, zz_u1 Si 22 _ _ 30 (by omega)]; exact hs j (by omega)) (by rw [show len = (wr_path rl qs Wk i).length - 1 by omega, wr_none q3]; exact hp159.2.2) hZ (lv_sub hl [3, 4, 5, 0] rfl)
        · have hin2 := hin (by omega)
          have hl2 := i4 (i - 1) hin2.1 (by omega)
          refine lv_aload_n hx_ hb_ d_Model_emit_146 rfl (lv_at hl 2 rfl) ?_
          refine zz_get hC hK hZ 0 35 (Nat.le_of_ble_eq_true rfl) (mc_0 q _ _) rfl hin_Model (by decide) wd_542 rfl rfl d_Model_emit_147 ?_
          refine lv_iload_n hx_ hb_ d_Model_emit_150 rfl (lv_at hl 3 rfl) ?_
          refine lv_iconst (v := nI 1) hx_ hb_ d_Model_emit_151 (by decide) ?_
          refine lv_isub hx_ hb_ d_Model_emit_152 ?_
          refine zz_topi (y := nI (i - 1)) (pk_sub (by omega)) ?_
          refine zz_iald hC hK hZ 29 0 (i - 1) (Nat.le_of_ble_eq_true rfl) (mc_29 q _ _) rfl rfl (by omega) (by decide) rfl d_Model_emit_153 ?_
          refine zz_topi (y := vw_s (if zz_kd (op i) = 2 then (wr_st rl op nu sz qs Wk (m - sz (m - 1)) (i - (m - sz (m - 1)))).2 (i - 1) else 1000)) (by rw [if_pos (by omega), vw_s_in (by omega), zz_u1 _ 22 _ _ 29 (by omega), (ho 29 (by omega)).1]; exact hla _ (by omega) (by omega)) ?_
          refine lv_goto (tgt := 159) hx_ hb_ d_Model_emit_154 (by decide) ?_
          refine zz_cv (zz_rV (As := [.int (nI (wr_last rl qs Wk i)), .int (nI (i - (m - sz (m - 1)))), .int (nI (op i)), .int (vw_s (if 0 < zz_kd (op i) then (wr_st rl op nu sz qs Wk (m - sz (m - 1)) (i - (m - sz (m - 1)))).2 (tr_fa op sz i) else 1000)), .int (vw_s (if zz_kd (op i) = 2 then (wr_st rl op nu sz qs Wk (m - sz (m - 1)) (i - (m - sz (m - 1)))).2 (i - 1) else 1000))]) (rest := []) hC hK hZ 0 (c_Model_write l q (zz_u Si 22 ((wr_st rl op nu sz qs Wk (m - sz (m - 1)) (i - (m - sz (m - 1)))).1.1) (nu i)) (wr_st rl op nu sz qs Wk (m - sz (m - 1)) (i - (m - sz (m - 1)))).1 (wr_last rl qs Wk i) (i - (m - sz (m - 1))) (op i) (if 0 < zz_kd (op i) then (wr_st rl op nu sz qs Wk (m - sz (m - 1)) (i - (m - sz (m - 1)))).2 (tr_fa op sz i) else 1000) (if zz_kd (op i) = 2 then (wr_st rl op nu sz qs Wk (m - sz (m - 1)) (i - (m - sz (m - 1)))).2 (i - 1) else 1000) (nu i) (mk_22 hki) (by omega) (by rw [zz_u1s, pk_us]) (fun h => by by_cases e : 0 < zz_kd (op i); (rw [if_pos e]; exact i4 _ (hin e).2.2.1 (by have := (hin e).2.2.2; omega)); (rw [if_neg e] at h; omega)) (fun h => by by_cases e : zz_kd (op i) = 2; (rw [if_pos e]; exact i4 _ (hin (by omega)).1 (by have := (hin (by omega)).2.1; omega)); (rw [if_neg e] at h; omega))) k_Model_write (Nat.le_of_ble_eq_true rfl) (mc_0 q _ _) rfl wd_721 ⟨rfl, rfl, by decide, by decide⟩ rfl hl.1 rfl (Nat.le_of_ble_eq_true rfl) d_Model_emit_159 ⟨Nat.zero_le _, Nat.zero_le _⟩) hZ (fun S159 H locs hp159 hZ => ?_)
          refine lv_iload_n hx_ hb_ d_Model_emit_162 rfl (lv_at hl 5 rfl) ?_
          refine lv_iconst (v := nI 1) hx_ hb_ d_Model_emit_163 (by decide) ?_
          refine lv_isub hx_ hb_ d_Model_emit_164 ?_
          refine zz_topi (y := nI len - 1) rfl ?_
          refine lv_istore (i := 7) (lv' := [(7, .int (nI len - 1)), (6, .int ((nI i - nI 1) - (nI (sz (i - 1))))), (5, .int (nI (zz_kd (op i)))), (0, .ref (zz_ad (mg_G q) 0)), (1, .int (nI i)), (2, .int (nI (i - (m - sz (m - 1))))), (3, .int (nI len)), (4, .int (nI r))]) hx_ hb_ d_Model_emit_165 hl (by decide) rfl (fun ls hl => ?_)
          exact L167 len S159  _ _ _ (by omega) (zz_off_tr (zz_off_mono ho (fun c h => by unfold em_X; omega)) (zz_off_tr (fun d hd => ⟨zz_u1 Si 22 _ _ d (fun h => hd (by unfold em_X; omega)), rfl⟩) (zz_off_mono hp159.1 (fun c h => by unfold mk_X at h; unfold em_X; omega)))) (fun j hj => by rw [hp159.2.1 j hj, zz_u1 Si 22 _ _ 0 (by omega), (ho 0 (by omega)).1]) (fun c h1 h2 => by rw [(hp159.1 29 (by unfold mk_X; omega)).1, zz_u1 Si 22 _ _ 29 (by omega), (ho 29 (by omega)).1]; exact hla c h1 h2) (fun j hj => by rw [(hp159.1 30 (by unfold mk_X; omega)).1, zz_u1 Si 22 _ _ 30 (by omega)]; exact hs j (by omega)) (by rw [show len = (wr_path rl qs Wk i).length - 1 by omega, wr_none q3]; exact hp159.2.2) hZ (lv_sub hl [3, 4, 5, 0] rfl)
      · have hin1 := hin (by omega)
        have hl1 := i4 (tr_fa op sz i) hin1.2.2.1 (by omega)
        refine lv_aload_n hx_ hb_ d_Model_emit_128 rfl (lv_at hl 2 rfl) ?_
        refine zz_get hC hK hZ 0 35 (Nat.le_of_ble_eq_true rfl) (mc_0 q _ _) rfl hin_Model (by decide) wd_542 rfl rfl d_Model_emit_129 ?_
        refine lv_iload hx_ hb_ d_Model_emit_132 (lv_at hl 0 rfl) ?_
        refine zz_topi (y := nI (tr_fa op sz i)) (by first | (rw [tr_fa, if_pos (by omega), pk_sub (by omega), pk_sub (by omega)]) | (rw [tr_fa, if_neg (by omega), pk_sub (by omega), pk_sub (by omega)]; rfl)) ?_
        refine zz_iald hC hK hZ 29 0 (tr_fa op sz i) (Nat.le_of_ble_eq_true rfl) (mc_29 q _ _) rfl rfl (by omega) (by decide) rfl d_Model_emit_134 ?_
        refine zz_topi (y := vw_s (if 0 < zz_kd (op i) then (wr_st rl op nu sz qs Wk (m - sz (m - 1)) (i - (m - sz (m - 1)))).2 (tr_fa op sz i) else 1000)) (by rw [if_pos (by omega), vw_s_in (by omega), zz_u1 _ 22 _ _ 29 (by omega), (ho 29 (by omega)).1]; exact hla _ (by omega) (by omega)) ?_
        refine lv_goto (tgt := 140) hx_ hb_ d_Model_emit_135 (by decide) ?_
        refine lv_iload hx_ hb_ d_Model_emit_140 (lv_at hl 1 rfl) ?_
        refine lv_iconst (v := nI 1) hx_ hb_ d_Model_emit_142 (by decide) ?_
        refine zz_jle (tgt := 157) hC d_Model_emit_143 (by decide) (by omega) (by omega) (fun h143 => ?_) (fun h143 => ?_)
        · refine lv_bipush (v := (-3)) hx_ hb_ d_Model_emit_157 (by decide) ?_
          refine zz_topi (y := vw_s (if zz_kd (op i) = 2 then (wr_st rl op nu sz qs Wk (m - sz (m - 1)) (i - (m - sz (m - 1)))).2 (i - 1) else 1000)) (by rw [if_neg (by omega)]; rfl) ?_
          refine zz_cv (zz_rV (As := [.int (nI (wr_last rl qs Wk i)), .int (nI (i - (m - sz (m - 1)))), .int (nI (op i)), .int (vw_s (if 0 < zz_kd (op i) then (wr_st rl op nu sz qs Wk (m - sz (m - 1)) (i - (m - sz (m - 1)))).2 (tr_fa op sz i) else 1000)), .int (vw_s (if zz_kd (op i) = 2 then (wr_st rl op nu sz qs Wk (m - sz (m - 1)) (i - (m - sz (m - 1)))).2 (i - 1) else 1000))]) (rest := []) hC hK hZ 0 (c_Model_write l q (zz_u Si 22 ((wr_st rl op nu sz qs Wk (m - sz (m - 1)) (i - (m - sz (m - 1)))).1.1) (nu i)) (wr_st rl op nu sz qs Wk (m - sz (m - 1)) (i - (m - sz (m - 1)))).1 (wr_last rl qs Wk i) (i - (m - sz (m - 1))) (op i) (if 0 < zz_kd (op i) then (wr_st rl op nu sz qs Wk (m - sz (m - 1)) (i - (m - sz (m - 1)))).2 (tr_fa op sz i) else 1000) (if zz_kd (op i) = 2 then (wr_st rl op nu sz qs Wk (m - sz (m - 1)) (i - (m - sz (m - 1)))).2 (i - 1) else 1000) (nu i) (mk_22 hki) (by omega) (by rw [zz_u1s, pk_us]) (fun h => by by_cases e : 0 < zz_kd (op i); (rw [if_pos e]; exact i4 _ (hin e).2.2.1 (by have := (hin e).2.2.2; omega)); (rw [if_neg e] at h; omega)) (fun h => by by_cases e : zz_kd (op i) = 2; (rw [if_pos e]; exact i4 _ (hin (by omega)).1 (by have := (hin (by omega)).2.1; omega)); (rw [if_neg e] at h; omega))) k_Model_write (Nat.le_of_ble_eq_true rfl) (mc_0 q _ _) rfl wd_721 ⟨rfl, rfl, by decide, by decide⟩ rfl hl.1 rfl (Nat.le_of_ble_eq_true rfl) d_Model_emit_159 ⟨Nat.zero_le _, Nat.zero_le _⟩) hZ (fun S159 H locs hp159 hZ => ?_)
          refine lv_iload_n hx_ hb_ d_Model_emit_162 rfl (lv_at hl 5 rfl) ?_
          refine lv_iconst (v := nI 1) hx_ hb_ d_Model_emit_163 (by decide) ?_
          refine lv_isub hx_ hb_ d_Model_emit_164 ?_
          refine zz_topi (y := nI len - 1) rfl ?_
          refine lv_istore (i := 7) (lv' := [(7, .int (nI len - 1)), (6, .int ((nI i - nI 1) - (nI (sz (i - 1))))), (5, .int (nI (zz_kd (op i)))), (0, .ref (zz_ad (mg_G q) 0)), (1, .int (nI i)), (2, .int (nI (i - (m - sz (m - 1))))), (3, .int (nI len)), (4, .int (nI r))]) hx_ hb_ d_Model_emit_165 hl (by decide) rfl (fun ls hl => ?_)
          exact L167 len S159  _ _ _ (by omega) (zz_off_tr (zz_off_mono ho (fun c h => by unfold em_X; omega)) (zz_off_tr (fun d hd => ⟨zz_u1 Si 22 _ _ d (fun h => hd (by unfold em_X; omega)), rfl⟩) (zz_off_mono hp159.1 (fun c h => by unfold mk_X at h; unfold em_X; omega)))) (fun j hj => by rw [hp159.2.1 j hj, zz_u1 Si 22 _ _ 0 (by omega), (ho 0 (by omega)).1]) (fun c h1 h2 => by rw [(hp159.1 29 (by unfold mk_X; omega)).1, zz_u1 Si 22 _ _ 29 (by omega), (ho 29 (by omega)).1]; exact hla c h1 h2) (fun j hj => by rw [(hp159.1 30 (by unfold mk_X; omega)).1, zz_u1 Si 22 _ _ 30 (by omega)]; exact hs j (by omega)) (by rw [show len = (wr_path rl qs Wk i).length - 1 by omega, wr_none q3]; exact hp159.2.2) hZ (lv_sub hl [3, 4, 5, 0] rfl)
        · have hin2 := hin (by omega)
          have hl2 := i4 (i - 1) hin2.1 (by omega)
          refine lv_aload_n hx_ hb_ d_Model_emit_146 rfl (lv_at hl 2 rfl) ?_
          refine zz_get hC hK hZ 0 35 (Nat.le_of_ble_eq_true rfl) (mc_0 q _ _) rfl hin_Model (by decide) wd_542 rfl rfl d_Model_emit_147 ?_
          refine lv_iload_n hx_ hb_ d_Model_emit_150 rfl (lv_at hl 3 rfl) ?_
          refine lv_iconst (v := nI 1) hx_ hb_ d_Model_emit_151 (by decide) ?_
          refine lv_isub hx_ hb_ d_Model_emit_152 ?_
          refine zz_topi (y := nI (i - 1)) (pk_sub (by omega)) ?_
          refine zz_iald hC hK hZ 29 0 (i - 1) (Nat.le_of_ble_eq_true rfl) (mc_29 q _ _) rfl rfl (by omega) (by decide) rfl d_Model_emit_153 ?_
          refine zz_topi (y := vw_s (if zz_kd (op i) = 2 then (wr_st rl op nu sz qs Wk (m - sz (m - 1)) (i - (m - sz (m - 1)))).2 (i - 1) else 1000)) (by rw [if_pos (by omega), vw_s_in (by omega), zz_u1 _ 22 _ _ 29 (by omega), (ho 29 (by omega)).1]; exact hla _ (by omega) (by omega)) ?_
          refine lv_goto (tgt := 159) hx_ hb_ d_Model_emit_154 (by decide) ?_
          refine zz_cv (zz_rV (As := [.int (nI (wr_last rl qs Wk i)), .int (nI (i - (m - sz (m - 1)))), .int (nI (op i)), .int (vw_s (if 0 < zz_kd (op i) then (wr_st rl op nu sz qs Wk (m - sz (m - 1)) (i - (m - sz (m - 1)))).2 (tr_fa op sz i) else 1000)), .int (vw_s (if zz_kd (op i) = 2 then (wr_st rl op nu sz qs Wk (m - sz (m - 1)) (i - (m - sz (m - 1)))).2 (i - 1) else 1000))]) (rest := []) hC hK hZ 0 (c_Model_write l q (zz_u Si 22 ((wr_st rl op nu sz qs Wk (m - sz (m - 1)) (i - (m - sz (m - 1)))).1.1) (nu i)) (wr_st rl op nu sz qs Wk (m - sz (m - 1)) (i - (m - sz (m - 1)))).1 (wr_last rl qs Wk i) (i - (m - sz (m - 1))) (op i) (if 0 < zz_kd (op i) then (wr_st rl op nu sz qs Wk (m - sz (m - 1)) (i - (m - sz (m - 1)))).2 (tr_fa op sz i) else 1000) (if zz_kd (op i) = 2 then (wr_st rl op nu sz qs Wk (m - sz (m - 1)) (i - (m - sz (m - 1)))).2 (i - 1) else 1000) (nu i) (mk_22 hki) (by omega) (by rw [zz_u1s, pk_us]) (fun h => by by_cases e : 0 < zz_kd (op i); (rw [if_pos e]; exact i4 _ (hin e).2.2.1 (by have := (hin e).2.2.2; omega)); (rw [if_neg e] at h; omega)) (fun h => by by_cases e : zz_kd (op i) = 2; (rw [if_pos e]; exact i4 _ (hin (by omega)).1 (by have := (hin (by omega)).2.1; omega)); (rw [if_neg e] at h; omega))) k_Model_write (Nat.le_of_ble_eq_true rfl) (mc_0 q _ _) rfl wd_721 ⟨rfl, rfl, by decide, by decide⟩ rfl hl.1 rfl (Nat.le_of_ble_eq_true rfl) d_Model_emit_159 ⟨Nat.zero_le _, Nat.zero_le _⟩) hZ (fun S159 H locs hp159 hZ => ?_)
          refine lv_iload_n hx_ hb_ d_Model_emit_162 rfl (lv_at hl 5 rfl) ?_
          refine lv_iconst (v := nI 1) hx_ hb_ d_Model_emit_163 (by decide) ?_
          refine lv_isub hx_ hb_ d_Model_emit_164 ?_
          refine zz_topi (y := nI len - 1) rfl ?_
          refine lv_istore (i := 7) (lv' := [(7, .int (nI len - 1)), (6, .int ((nI i - nI 1) - (nI (sz (i - 1))))), (5, .int (nI (zz_kd (op i)))), (0, .ref (zz_ad (mg_G q) 0)), (1, .int (nI i)), (2, .int (nI (i - (m - sz (m - 1))))), (3, .int (nI len)), (4, .int (nI r))]) hx_ hb_ d_Model_emit_165 hl (by decide) rfl (fun ls hl => ?_)
          exact L167 len S159  _ _ _ (by omega) (zz_off_tr (zz_off_mono ho (fun c h => by unfold em_X; omega)) (zz_off_tr (fun d hd => ⟨zz_u1 Si 22 _ _ d (fun h => hd (by unfold em_X; omega)), rfl⟩) (zz_off_mono hp159.1 (fun c h => by unfold mk_X at h; unfold em_X; omega)))) (fun j hj => by rw [hp159.2.1 j hj, zz_u1 Si 22 _ _ 0 (by omega), (ho 0 (by omega)).1]) (fun c h1 h2 => by rw [(hp159.1 29 (by unfold mk_X; omega)).1, zz_u1 Si 22 _ _ 29 (by omega), (ho 29 (by omega)).1]; exact hla c h1 h2) (fun j hj => by rw [(hp159.1 30 (by unfold mk_X; omega)).1, zz_u1 Si 22 _ _ 30 (by omega)]; exact hs j (by omega)) (by rw [show len = (wr_path rl qs Wk i).length - 1 by omega, wr_none q3]; exact hp159.2.2) hZ (lv_sub hl [3, 4, 5, 0] rfl)
  have L19_ : ∀ (n_ : Nat) (len : Nat) (r : Nat) (k2 : Nat) (rest : List Nat) (Si : zz_S) (H : Heap) (locs : List Loc) (ls : Array Slot) (ho : zz_off (fun c => c = 30) S Si) (hs : ∀ j, j < len → Si.1 30 j = nI ((wr_path rl qs Wk i).getD j 0)) (hfp : fo_path rl (qs i) k2 (r :: rest)) (hk2 : k2 < 4) (hg2 : gs i k2 < mx_far) (hdrop : (wr_path rl qs Wk i).drop len = r :: rest) (hZ : zz_Z (mg_G q) Si s_.heap H locs) (hl : lv_has ls 8 [(0, .ref (zz_ad (mg_G q) 0)), (1, .int (nI i)), (2, .int (nI (i - (m - sz (m - 1))))), (3, .int (nI len)), (4, .int (nI r))]) (hn_ : rest.length = n_), W p_ l e_ rm_Model_emit s_ m_ ([.ref (zz_ad (mg_G q) 0), .int (nI i), .int (nI (i - (m - sz (m - 1))))] : List Value).toArray bl_ mt_ c_ H locs 0 0 (MQ bl_ (va_Qv (fun S1 => zz_off em_X S S1 ∧ (∀ j, j ≠ 22 → S1.1 0 j = S.1 0 j) ∧ mk_cd S1 (wr_st rl op nu sz qs Wk (m - sz (m - 1)) (i + 1 - (m - sz (m - 1)))).1 ∧ ∀ c, (m - sz (m - 1)) ≤ c → c < i + 1 → S1.1 29 c = nI ((wr_st rl op nu sz qs Wk (m - sz (m - 1)) (i + 1 - (m - sz (m - 1)))).2 c)) (zz_P (mg_G q)) (zz_A (mg_G q))) ([.ref (zz_ad (mg_G q) 0), .int (nI i), .int (nI (i - (m - sz (m - 1))))] : List Value).toArray s_ 0 0 (zz_A (mg_G q))) (F0 m_ 19 ls []) := by
    intro n_
    induction n_ using Nat.strongRecOn with
    | ind n_ ih_ =>
      intro len r k2 rest Si H locs ls ho hs hfp hk2 hg2 hdrop hZ hl hn_
      have hBi : mb_ok Si rl R := mb_keep hB (by rw [(ho 0 (by omega)).1]) (fun c h1 h2 => (ho c (by omega)).1)
      have hre := mf_head hfp
      have hlab2 := (hLq.1.2 k2 hk2).1 hg2
      rw [← hre] at hlab2
      have hrr := hBi.2.2.2 r hlab2.1
      have hop8 := (hok r hlab2.1).2.1
      have hlen4 : len < 4 := by
        have h7 := congrArg List.length hdrop
        rw [List.length_drop] at h7
        have h8 : (wr_path rl qs Wk i).length - len = rest.length + 1 := h7
        omega
      refine lv_aload_n hx_ hb_ d_Model_emit_19 rfl (lv_at hl 0 rfl) ?_
      refine zz_get hC hK hZ 0 2 (Nat.le_of_ble_eq_true rfl) (mc_0 q _ _) rfl hin_Model (by decide) wd_509 rfl rfl d_Model_emit_20 ?_
      refine lv_iload hx_ hb_ d_Model_emit_23 (lv_at hl 4 rfl) ?_
      refine zz_iald hC hK hZ 2 0 r (Nat.le_of_ble_eq_true rfl) (mc_2 q _ _) rfl rfl (by omega) (by decide) rfl d_Model_emit_25 ?_
      refine zz_topi (y := nI ((rl r).2.1)) hrr.2.1 ?_
      refine lv_bipush (v := nI 8) hx_ hb_ d_Model_emit_26 (by decide) ?_
      refine zz_jne (tgt := 63) hC d_Model_emit_28 (by decide) (by omega) (by omega) (fun h28 => ?_) (fun h28 => ?_)
      · exact J63 len r Si  _ _ _ ho hs (mf_last hfp h28 hdrop).2.symm (mf_last hfp h28 hdrop).1 hZ (lv_sub hl [0, 1, 2, 3, 4] rfl)
      · have h9 := hlab2.2.2.1
        rw [mx_th_ch h28] at h9
        have hk3 := (hok r hlab2.1).2.2.1
        have hg3 : gs i (rl r).2.2.1 < mx_far := by omega
        have hlab3 := (hLq.1.2 _ hk3).1 hg3
        obtain ⟨rest2, hrs, hfp2⟩ := mf_next hfp h28
        subst hrs
        have hdr2 := (wr_drop hdrop).2
        refine lv_aload_n hx_ hb_ d_Model_emit_31 rfl (lv_at hl 0 rfl) ?_
        refine zz_get hC hK hZ 0 36 (Nat.le_of_ble_eq_true rfl) (mc_0 q _ _) rfl hin_Model (by decide) wd_543 rfl rfl d_Model_emit_32 ?_
        refine lv_iload_n hx_ hb_ d_Model_emit_35 rfl (lv_at hl 3 rfl) ?_
        refine lv_iload hx_ hb_ d_Model_emit_36 (lv_at hl 4 rfl) ?_
        refine zz_iast hC hK hZ 30 0 len (Nat.le_of_ble_eq_true rfl) (fun _ => mc_30 q _ _) rfl rfl (by omega) (by decide) d_Model_emit_38 (fun H locs hZ => ?_)
        refine lv_iinc (k := 3) (v := nI (len + 1)) (lv' := [(3, .int (nI (len + 1))), (0, .ref (zz_ad (mg_G q) 0)), (1, .int (nI i)), (2, .int (nI (i - (m - sz (m - 1))))), (4, .int (nI r))]) hx_ hb_ d_Model_emit_39 hl rfl (nI_add _ 1) (by decide) rfl (fun ls hl => ?_)
        refine lv_aload_n hx_ hb_ d_Model_emit_42 rfl (lv_at hl 1 rfl) ?_
        refine zz_get hC hK hZ 0 14 (Nat.le_of_ble_eq_true rfl) (mc_0 q _ _) rfl hin_Model (by decide) wd_521 rfl rfl d_Model_emit_43 ?_
        refine lv_iconst (v := nI 4) hx_ hb_ d_Model_emit_46 (by decide) ?_
        refine lv_iload_n hx_ hb_ d_Model_emit_47 rfl (lv_at hl 2 rfl) ?_
        refine lv_imul hx_ hb_ d_Model_emit_48 ?_
        refine zz_topi (y := nI (4 * i)) (pk_mul _ _) ?_
        refine lv_aload_n hx_ hb_ d_Model_emit_49 rfl (lv_at hl 1 rfl) ?_
        refine zz_get hC hK hZ 0 3 (Nat.le_of_ble_eq_true rfl) (mc_0 q _ _) rfl hin_Model (by decide) wd_510 rfl rfl d_Model_emit_50 ?_
        refine lv_iload hx_ hb_ d_Model_emit_53 (lv_at hl 4 rfl) ?_
        refine zz_iald hC hK hZ 3 0 r (Nat.le_of_ble_eq_true rfl) (mc_3 q _ _) rfl rfl (by omega) (by decide) rfl d_Model_emit_55 ?_
        refine zz_topi (y := nI ((rl r).2.2.1)) (by rw [zz_u1 _ 30 _ _ 3 (by omega)]; exact hrr.2.2.1) ?_
        refine lv_iadd hx_ hb_ d_Model_emit_56 ?_
        refine zz_topi (y := nI (4 * i + ((rl r).2.2.1))) (nI_add _ _) ?_
        refine zz_iald hC hK hZ 12 0 (4 * i + ((rl r).2.2.1)) (Nat.le_of_ble_eq_true rfl) (mc_12 q _ _) rfl rfl (by omega) (by decide) rfl d_Model_emit_57 ?_
        refine zz_topi (y := nI (qs i (rl r).2.2.1)) (by rw [zz_u1 _ 30 _ _ 12 (by omega), (ho 12 (by omega)).1, hrw _ hk3]; exact vw_p_in (by omega)) ?_
        refine lv_istore (i := 4) (lv' := [(4, .int (nI (qs i (rl r).2.2.1))), (3, .int (nI (len + 1))), (0, .ref (zz_ad (mg_G q) 0)), (1, .int (nI i)), (2, .int (nI (i - (m - sz (m - 1)))))]) hx_ hb_ d_Model_emit_58 hl (by decide) rfl (fun ls hl => ?_)
        refine lv_goto (tgt := 19) hx_ hb_ d_Model_emit_60 (by decide) ?_
        exact ih_ _ (by rw [← hn_]; exact Nat.lt_succ_self _) (len + 1) (qs i (rl r).2.2.1) ((rl r).2.2.1) rest2 (zz_u Si 30 len (nI r))  _ _ _ (zz_off_tr ho (fun d hd => ⟨zz_u1 Si 30 _ _ d hd, rfl⟩)) (fun j hj => by
          rw [zz_u1s]
          by_cases e : j = len
          · rw [e, pk_us, (wr_drop hdrop).1]
          · rw [pk_un e]
            exact hs j (by omega)) hfp2 hk3 hg3 hdr2 hZ (lv_sub hl [2, 3, 4, 1, 0] rfl) rfl
  have L19 : ∀ (len : Nat) (r : Nat) (k2 : Nat) (rest : List Nat) (Si : zz_S) (H : Heap) (locs : List Loc) (ls : Array Slot) (ho : zz_off (fun c => c = 30) S Si) (hs : ∀ j, j < len → Si.1 30 j = nI ((wr_path rl qs Wk i).getD j 0)) (hfp : fo_path rl (qs i) k2 (r :: rest)) (hk2 : k2 < 4) (hg2 : gs i k2 < mx_far) (hdrop : (wr_path rl qs Wk i).drop len = r :: rest) (hZ : zz_Z (mg_G q) Si s_.heap H locs) (hl : lv_has ls 8 [(0, .ref (zz_ad (mg_G q) 0)), (1, .int (nI i)), (2, .int (nI (i - (m - sz (m - 1))))), (3, .int (nI len)), (4, .int (nI r))]), W p_ l e_ rm_Model_emit s_ m_ ([.ref (zz_ad (mg_G q) 0), .int (nI i), .int (nI (i - (m - sz (m - 1))))] : List Value).toArray bl_ mt_ c_ H locs 0 0 (MQ bl_ (va_Qv (fun S1 => zz_off em_X S S1 ∧ (∀ j, j ≠ 22 → S1.1 0 j = S.1 0 j) ∧ mk_cd S1 (wr_st rl op nu sz qs Wk (m - sz (m - 1)) (i + 1 - (m - sz (m - 1)))).1 ∧ ∀ c, (m - sz (m - 1)) ≤ c → c < i + 1 → S1.1 29 c = nI ((wr_st rl op nu sz qs Wk (m - sz (m - 1)) (i + 1 - (m - sz (m - 1)))).2 c)) (zz_P (mg_G q)) (zz_A (mg_G q))) ([.ref (zz_ad (mg_G q) 0), .int (nI i), .int (nI (i - (m - sz (m - 1))))] : List Value).toArray s_ 0 0 (zz_A (mg_G q))) (F0 m_ 19 ls []) := fun len r k2 rest Si H locs ls ho hs hfp hk2 hg2 hdrop hZ hl => L19_ _ len r k2 rest Si H locs ls ho hs hfp hk2 hg2 hdrop hZ hl rfl
  refine lv_iconst (v := nI 0) hx_ hb_ d_Model_emit_0 (by decide) ?_
  refine lv_istore_n (i := 3) (lv' := [(3, .int (nI 0)), (0, .ref (zz_ad (mg_G q) 0)), (1, .int (nI i)), (2, .int (nI (i - (m - sz (m - 1)))))]) hx_ hb_ d_Model_emit_1 rfl hl (by decide) rfl (fun ls hl => ?_)
  refine lv_aload_n hx_ hb_ d_Model_emit_2 rfl (lv_at hl 1 rfl) ?_
  refine zz_get hC hK hZ 0 14 (Nat.le_of_ble_eq_true rfl) (mc_0 q _ _) rfl hin_Model (by decide) wd_521 rfl rfl d_Model_emit_3 ?_
  refine lv_iconst (v := nI 4) hx_ hb_ d_Model_emit_6 (by decide) ?_
  refine lv_iload_n hx_ hb_ d_Model_emit_7 rfl (lv_at hl 2 rfl) ?_
  refine lv_imul hx_ hb_ d_Model_emit_8 ?_
  refine zz_topi (y := nI (4 * i)) (pk_mul _ _) ?_
  refine lv_aload_n hx_ hb_ d_Model_emit_9 rfl (lv_at hl 1 rfl) ?_
  refine zz_get hC hK hZ 0 34 (Nat.le_of_ble_eq_true rfl) (mc_0 q _ _) rfl hin_Model (by decide) wd_541 rfl rfl d_Model_emit_10 ?_
  refine lv_iload_n hx_ hb_ d_Model_emit_13 rfl (lv_at hl 2 rfl) ?_
  refine zz_iald hC hK hZ 28 0 i (Nat.le_of_ble_eq_true rfl) (mc_28 q _ _) rfl rfl (by omega) (by decide) rfl d_Model_emit_14 ?_
  refine zz_topi (y := nI (Wk i)) h28 ?_
  refine lv_iadd hx_ hb_ d_Model_emit_15 ?_
  refine zz_topi (y := nI (4 * i + (Wk i))) (nI_add _ _) ?_
  refine zz_iald hC hK hZ 12 0 (4 * i + (Wk i)) (Nat.le_of_ble_eq_true rfl) (mc_12 q _ _) rfl rfl (by omega) (by decide) rfl d_Model_emit_16 ?_
  refine zz_topi (y := nI (qs i (Wk i))) (by rw [hrw _ w1]; exact vw_p_in (by omega)) ?_
  refine lv_istore (i := 4) (lv' := [(4, .int (nI (qs i (Wk i)))), (3, .int (nI 0)), (0, .ref (zz_ad (mg_G q) 0)), (1, .int (nI i)), (2, .int (nI (i - (m - sz (m - 1)))))]) hx_ hb_ d_Model_emit_17 hl (by decide) rfl (fun ls hl => ?_)
  exact L19 0 (qs i (Wk i)) (Wk i) rest0 S  _ _ _ zz_off_rf (fun j hj => absurd hj (Nat.not_lt_zero j)) (by rw [← hL0]; exact q1) w1 w2 (show (wr_path rl qs Wk i).drop 0 = _ by rw [← hL0]; rfl) hZ (lv_sub hl [2, 3, 4, 1, 0] rfl)
