/-! The reference: want. Laid by wip/whole/prog/p31.py. -/
set_option maxHeartbeats 4000000 in
set_option maxRecDepth 100000 in
theorem c_Model_want (l : Launch) (q : xg_T) (S : zz_S) (rl : mx_R) (R : Nat) (hB : mb_ok S rl R) (op : Nat → Nat) (nu : Nat → Int32) (sz ht : Nat → Nat) (m t : Nat) (ps : Nat → Nat) (hT : mt_ok S op nu sz ht m t ps) (gs qs : Nat → Nat → Nat) (hLb : ∀ i, (m - sz (m - 1)) ≤ i → i < m → xq_lab rl R op sz gs qs i) (hrows : mr_ok S gs qs (m - sz (m - 1)) m) (ht1 : t ≠ 0) (hcov : gs (m - 1) 0 < mx_far) : Met l y_Model_want (Cond.code y_Model_want b_Model_want 6 none :: zz_tbl) rm_Model_want (zz_Pc [.ref (zz_ad (mg_G q) 0), .int (nI ((m - sz (m - 1))))] (mg_G q) S) (va_Qv (fun S1 => zz_off (fun c => c = 28) S S1 ∧ ∃ Wk, wk_ok rl op sz gs qs Wk (m - sz (m - 1)) m ∧ ∀ i, (m - sz (m - 1)) ≤ i → i < m → S1.1 28 i = nI (Wk i)) (zz_P (mg_G q)) (zz_A (mg_G q))) 0 0 (zz_A (mg_G q)) := by
  refine zz_met (by decide) (Nat.le_of_ble_eq_true rfl) ?_
  intro p_ e_ s_ m_ bl_ mt_ c_ ls hC hK hZ hl
  have hC : zz_C p_ s_ m_ _ mt_ c_ b_Model_want 6 none "TreeCoverForgeModel" := hC
  have hx_ := hC.1
  have hb_ := hC.2.1
  have hl : lv_has ls 6 [(0, .ref (zz_ad (mg_G q) 0)), (1, .int (nI ((m - sz (m - 1)))))] := hl
  have hok := hB.2.2.1
  have hm := hT.2.2.1
  have htm := hT.2.2.2.1
  have htr := hT.2.2.2.2.2.1
  have hts := hT.2.2.2.2.2.2.2.1
  have hps := hT.2.2.2.2.2.2.2.2
  have h2ts := ts_two hts
  have h2t := h2ts.1 (by omega)
  have hle1 := (htr (m - 1) (by omega)).2.1
  have hfm : (m - sz (m - 1)) + sz (m - 1) = m := by omega
  have hR24 := hB.2.1
  have L40_ : ∀ (n_ : Nat) (x : Nat) (r : Nat) (k2 : Nat) (rest : List Nat) (len : Nat) (Wk : Nat → Nat) (Si : zz_S) (hk70 : ∀ (r : Nat) (H : Heap) (locs : List Loc) (ls : Array Slot) (hr : r = wr_last rl qs Wk (x - 1)) (hZ : zz_Z (mg_G q) Si s_.heap H locs) (hl : lv_has ls 6 [(0, .ref (zz_ad (mg_G q) 0)), (1, .int (nI ((m - sz (m - 1))))), (2, .int (nI x - 1)), (3, .int (nI r))]), W p_ l e_ rm_Model_want s_ m_ ([.ref (zz_ad (mg_G q) 0), .int (nI ((m - sz (m - 1))))] : List Value).toArray bl_ mt_ c_ H locs 0 0 (MQ bl_ (va_Qv (fun S1 => zz_off (fun c => c = 28) S S1 ∧ ∃ Wk, wk_ok rl op sz gs qs Wk (m - sz (m - 1)) m ∧ ∀ i, (m - sz (m - 1)) ≤ i → i < m → S1.1 28 i = nI (Wk i)) (zz_P (mg_G q)) (zz_A (mg_G q))) ([.ref (zz_ad (mg_G q) 0), .int (nI ((m - sz (m - 1))))] : List Value).toArray s_ 0 0 (zz_A (mg_G q))) (F0 m_ 70 ls [])) (H : Heap) (locs : List Loc) (ls : Array Slot) (hxb : 1 ≤ x ∧ x ≤ m) (hrw : ∀ k, k < 4 → Si.1 12 (4 * (x - 1) + k) = vw_p (qs (x - 1) k)) (hBi : mb_ok Si rl R) (hLq : xq_lab rl R op sz gs qs (x - 1)) (hfp : fo_path rl (qs (x - 1)) k2 (r :: rest)) (hk2 : k2 < 4) (hg2 : gs (x - 1) k2 < mx_far) (hdrop : (wr_path rl qs Wk (x - 1)).drop len = r :: rest) (hZ : zz_Z (mg_G q) Si s_.heap H locs) (hl : lv_has ls 6 [(0, .ref (zz_ad (mg_G q) 0)), (1, .int (nI ((m - sz (m - 1))))), (2, .int (nI x - 1)), (3, .int (nI r))]) (hn_ : rest.length = n_), W p_ l e_ rm_Model_want s_ m_ ([.ref (zz_ad (mg_G q) 0), .int (nI ((m - sz (m - 1))))] : List Value).toArray bl_ mt_ c_ H locs 0 0 (MQ bl_ (va_Qv (fun S1 => zz_off (fun c => c = 28) S S1 ∧ ∃ Wk, wk_ok rl op sz gs qs Wk (m - sz (m - 1)) m ∧ ∀ i, (m - sz (m - 1)) ≤ i → i < m → S1.1 28 i = nI (Wk i)) (zz_P (mg_G q)) (zz_A (mg_G q))) ([.ref (zz_ad (mg_G q) 0), .int (nI ((m - sz (m - 1))))] : List Value).toArray s_ 0 0 (zz_A (mg_G q))) (F0 m_ 40 ls []) := by
    intro n_
    induction n_ using Nat.strongRecOn with
    | ind n_ ih_ =>
      intro x r k2 rest len Wk Si hk70 H locs ls hxb hrw hBi hLq hfp hk2 hg2 hdrop hZ hl hn_
      have hre := mf_head hfp
      have hlab2 := (hLq.1.2 k2 hk2).1 hg2
      rw [← hre] at hlab2
      have hrr := hBi.2.2.2 r hlab2.1
      have hop8 := (hok r hlab2.1).2.1
      refine lv_aload_n hx_ hb_ d_Model_want_40 rfl (lv_at hl 0 rfl) ?_
      refine zz_get hC hK hZ 0 2 (Nat.le_of_ble_eq_true rfl) (mc_0 q _ _) rfl hin_Model (by decide) wd_509 rfl rfl d_Model_want_41 ?_
      refine lv_iload_n hx_ hb_ d_Model_want_44 rfl (lv_at hl 3 rfl) ?_
      refine zz_iald hC hK hZ 2 0 r (Nat.le_of_ble_eq_true rfl) (mc_2 q _ _) rfl rfl (by omega) (by decide) rfl d_Model_want_45 ?_
      refine zz_topi (y := nI ((rl r).2.1)) hrr.2.1 ?_
      refine lv_bipush (v := nI 8) hx_ hb_ d_Model_want_46 (by decide) ?_
      refine zz_jne (tgt := 70) hC d_Model_want_48 (by decide) (by omega) (by omega) (fun h48 => ?_) (fun h48 => ?_)
      · exact hk70 r  _ _ _ (mf_last hfp h48 hdrop).2.symm hZ (lv_sub hl [0, 1, 2, 3] rfl)
      · have h9 := hlab2.2.2.1
        rw [mx_th_ch h48] at h9
        have hk3 := (hok r hlab2.1).2.2.1
        have hg3 : gs (x - 1) (rl r).2.2.1 < mx_far := by omega
        have hlab3 := (hLq.1.2 _ hk3).1 hg3
        obtain ⟨rest2, hrs, hfp2⟩ := mf_next hfp h48
        subst hrs
        have hdr2 := (wr_drop hdrop).2
        refine lv_aload_n hx_ hb_ d_Model_want_51 rfl (lv_at hl 0 rfl) ?_
        refine zz_get hC hK hZ 0 14 (Nat.le_of_ble_eq_true rfl) (mc_0 q _ _) rfl hin_Model (by decide) wd_521 rfl rfl d_Model_want_52 ?_
        refine lv_iconst (v := nI 4) hx_ hb_ d_Model_want_55 (by decide) ?_
        refine lv_iload_n hx_ hb_ d_Model_want_56 rfl (lv_at hl 2 rfl) ?_
        refine zz_topi (y := nI (x - 1)) (zz_prd (by omega)) ?_
        refine lv_imul hx_ hb_ d_Model_want_57 ?_
        refine zz_topi (y := nI (4 * (x - 1))) (pk_mul _ _) ?_
        refine lv_aload_n hx_ hb_ d_Model_want_58 rfl (lv_at hl 0 rfl) ?_
        refine zz_get hC hK hZ 0 3 (Nat.le_of_ble_eq_true rfl) (mc_0 q _ _) rfl hin_Model (by decide) wd_510 rfl rfl d_Model_want_59 ?_
        refine lv_iload_n hx_ hb_ d_Model_want_62 rfl (lv_at hl 3 rfl) ?_
        refine zz_iald hC hK hZ 3 0 r (Nat.le_of_ble_eq_true rfl) (mc_3 q _ _) rfl rfl (by omega) (by decide) rfl d_Model_want_63 ?_
        refine zz_topi (y := nI ((rl r).2.2.1)) hrr.2.2.1 ?_
        refine lv_iadd hx_ hb_ d_Model_want_64 ?_
        refine zz_topi (y := nI ((4 * (x - 1)) + ((rl r).2.2.1))) (nI_add _ _) ?_
        refine zz_iald hC hK hZ 12 0 ((4 * (x - 1)) + ((rl r).2.2.1)) (Nat.le_of_ble_eq_true rfl) (mc_12 q _ _) rfl rfl (by omega) (by decide) rfl d_Model_want_65 ?_
        refine zz_topi (y := nI (qs (x - 1) (rl r).2.2.1)) (by rw [hrw _ hk3]; exact vw_p_in (by omega)) ?_
        refine lv_istore_n (i := 3) (lv' := [(3, .int (nI (qs (x - 1) (rl r).2.2.1))), (0, .ref (zz_ad (mg_G q) 0)), (1, .int (nI ((m - sz (m - 1))))), (2, .int (nI x - 1))]) hx_ hb_ d_Model_want_66 rfl hl (by decide) rfl (fun ls hl => ?_)
        refine lv_goto (tgt := 40) hx_ hb_ d_Model_want_67 (by decide) ?_
        exact ih_ _ (by rw [← hn_]; exact Nat.lt_succ_self _) x (qs (x - 1) (rl r).2.2.1) ((rl r).2.2.1) rest2 (len + 1) Wk Si hk70 _ _ _ hxb hrw hBi hLq hfp2 hk3 hg3 hdr2 hZ (lv_sub hl [1, 2, 3, 0] rfl) rfl
  have L40 : ∀ (x : Nat) (r : Nat) (k2 : Nat) (rest : List Nat) (len : Nat) (Wk : Nat → Nat) (Si : zz_S) (hk70 : ∀ (r : Nat) (H : Heap) (locs : List Loc) (ls : Array Slot) (hr : r = wr_last rl qs Wk (x - 1)) (hZ : zz_Z (mg_G q) Si s_.heap H locs) (hl : lv_has ls 6 [(0, .ref (zz_ad (mg_G q) 0)), (1, .int (nI ((m - sz (m - 1))))), (2, .int (nI x - 1)), (3, .int (nI r))]), W p_ l e_ rm_Model_want s_ m_ ([.ref (zz_ad (mg_G q) 0), .int (nI ((m - sz (m - 1))))] : List Value).toArray bl_ mt_ c_ H locs 0 0 (MQ bl_ (va_Qv (fun S1 => zz_off (fun c => c = 28) S S1 ∧ ∃ Wk, wk_ok rl op sz gs qs Wk (m - sz (m - 1)) m ∧ ∀ i, (m - sz (m - 1)) ≤ i → i < m → S1.1 28 i = nI (Wk i)) (zz_P (mg_G q)) (zz_A (mg_G q))) ([.ref (zz_ad (mg_G q) 0), .int (nI ((m - sz (m - 1))))] : List Value).toArray s_ 0 0 (zz_A (mg_G q))) (F0 m_ 70 ls [])) (H : Heap) (locs : List Loc) (ls : Array Slot) (hxb : 1 ≤ x ∧ x ≤ m) (hrw : ∀ k, k < 4 → Si.1 12 (4 * (x - 1) + k) = vw_p (qs (x - 1) k)) (hBi : mb_ok Si rl R) (hLq : xq_lab rl R op sz gs qs (x - 1)) (hfp : fo_path rl (qs (x - 1)) k2 (r :: rest)) (hk2 : k2 < 4) (hg2 : gs (x - 1) k2 < mx_far) (hdrop : (wr_path rl qs Wk (x - 1)).drop len = r :: rest) (hZ : zz_Z (mg_G q) Si s_.heap H locs) (hl : lv_has ls 6 [(0, .ref (zz_ad (mg_G q) 0)), (1, .int (nI ((m - sz (m - 1))))), (2, .int (nI x - 1)), (3, .int (nI r))]), W p_ l e_ rm_Model_want s_ m_ ([.ref (zz_ad (mg_G q) 0), .int (nI ((m - sz (m - 1))))] : List Value).toArray bl_ mt_ c_ H locs 0 0 (MQ bl_ (va_Qv (fun S1 => zz_off (fun c => c = 28) S S1 ∧ ∃ Wk, wk_ok rl op sz gs qs Wk (m - sz (m - 1)) m ∧ ∀ i, (m - sz (m - 1)) ≤ i → i < m → S1.1 28 i = nI (Wk i)) (zz_P (mg_G q)) (zz_A (mg_G q))) ([.ref (zz_ad (mg_G q) 0), .int (nI ((m - sz (m - 1))))] : List Value).toArray s_ 0 0 (zz_A (mg_G q))) (F0 m_ 40 ls []) := fun x r k2 rest len Wk Si hk70 H locs ls hxb hrw hBi hLq hfp hk2 hg2 hdrop hZ hl => L40_ _ x r k2 rest len Wk Si hk70 H locs ls hxb hrw hBi hLq hfp hk2 hg2 hdrop hZ hl rfl
  have L19_ : ∀ (n_ : Nat) (x : Nat) (Si : zz_S) (Wk : Nat → Nat) (Lf : List Nat) (H : Heap) (locs : List Loc) (ls : Array Slot) (hx : (m - sz (m - 1)) ≤ x ∧ x ≤ m) (ho : zz_off (fun c => c = 28) S Si) (hW0 : Wk (m - 1) = 0) (hfr : tr_fr sz (wk_at gs (Si.1 28) Wk) (m - sz (m - 1)) x Lf) (hpr : ∀ i, x ≤ i → i < m → Si.1 28 i = nI (Wk i) ∧ wk_node rl op sz gs qs Wk i) (hZ : zz_Z (mg_G q) Si s_.heap H locs) (hl : lv_has ls 6 [(0, .ref (zz_ad (mg_G q) 0)), (1, .int (nI ((m - sz (m - 1))))), (2, .int (nI x - 1))]) (hn_ : x = n_), W p_ l e_ rm_Model_want s_ m_ ([.ref (zz_ad (mg_G q) 0), .int (nI ((m - sz (m - 1))))] : List Value).toArray bl_ mt_ c_ H locs 0 0 (MQ bl_ (va_Qv (fun S1 => zz_off (fun c => c = 28) S S1 ∧ ∃ Wk, wk_ok rl op sz gs qs Wk (m - sz (m - 1)) m ∧ ∀ i, (m - sz (m - 1)) ≤ i → i < m → S1.1 28 i = nI (Wk i)) (zz_P (mg_G q)) (zz_A (mg_G q))) ([.ref (zz_ad (mg_G q) 0), .int (nI ((m - sz (m - 1))))] : List Value).toArray s_ 0 0 (zz_A (mg_G q))) (F0 m_ 19 ls []) := by
    intro n_
    induction n_ using Nat.strongRecOn with
    | ind n_ ih_ =>
      intro x Si Wk Lf H locs ls hx ho hW0 hfr hpr hZ hl hn_
      have hBi : mb_ok Si rl R := mb_keep hB (by rw [(ho 0 (by omega)).1]) (fun c h1 h2 => (ho c (by omega)).1)
      have hTi : mt_ok Si op nu sz ht m t ps := mt_keep hT (by rw [(ho 0 (by omega)).1]) (by rw [(ho 0 (by omega)).1]) (fun c h1 h2 => (ho c (by omega)).1)
      refine lv_iload_n hx_ hb_ d_Model_want_19 rfl (lv_at hl 2 rfl) ?_
      refine lv_iload_n hx_ hb_ d_Model_want_20 rfl (lv_at hl 1 rfl) ?_
      refine zz_rjlt (tgt := 149) hC d_Model_want_21 (by decide) (fun h21 => ?_) (fun h21 => ?_)
      · rw [zz_m1 (by omega)] at h21
        rw [nI_toInt (by omega)] at h21
        exact zz_vret hC hK hZ rfl d_Model_want_149 ⟨ho, Wk, ⟨hW0, fun i h1 h2 => (hpr i (by omega) h2).2⟩, fun i h1 h2 => (hpr i (by omega) h2).1⟩
      · rw [zz_m1 (by omega)] at h21
        rw [nI_toInt (by omega)] at h21
        have hx1 : x - 1 + 1 = x := by omega
        have hai := hTi.2.2.2.2.1 (x - 1) (by omega)
        obtain ⟨t1, t2, t3, t4, t5, t6⟩ := htr (x - 1) (by omega)
        have hkd := tr_kd (op (x - 1))
        have hki := tr_kid htr (show x - 1 < m by omega) (by rw [hx1]; exact hfr) (by omega)
        have hok1 := hki.1
        obtain ⟨q1, q2, q3, q4, q5, q6, q7⟩ := wr_ok hok (hLb (x - 1) (by omega) (by omega)) hok1.2.1 hok1.2.2
        have hrl := hBi.2.2.2 _ q4
        have hkq := wk_kids htr (show x - 1 < m by omega)
        have hrw : ∀ k, k < 4 → Si.1 12 (4 * (x - 1) + k) = vw_p (qs (x - 1) k) := fun k hk => by rw [(ho 12 (by omega)).1]; exact (hrows (x - 1) (by omega) (by omega) k hk).2
        have hlq0 := (((hLb (x - 1) (by omega) (by omega)).1.2 _ hok1.2.1).1 hok1.2.2).1
        obtain ⟨rest0, hL0⟩ := mf_start q1
        refine lv_aload_n hx_ hb_ d_Model_want_24 rfl (lv_at hl 0 rfl) ?_
        refine zz_get hC hK hZ 0 14 (Nat.le_of_ble_eq_true rfl) (mc_0 q _ _) rfl hin_Model (by decide) wd_521 rfl rfl d_Model_want_25 ?_
        refine lv_iconst (v := nI 4) hx_ hb_ d_Model_want_28 (by decide) ?_
        refine lv_iload_n hx_ hb_ d_Model_want_29 rfl (lv_at hl 2 rfl) ?_
        refine zz_topi (y := nI (x - 1)) (zz_prd (by omega)) ?_
        refine lv_imul hx_ hb_ d_Model_want_30 ?_
        refine zz_topi (y := nI (4 * (x - 1))) (pk_mul _ _) ?_
        refine lv_aload_n hx_ hb_ d_Model_want_31 rfl (lv_at hl 0 rfl) ?_
        refine zz_get hC hK hZ 0 34 (Nat.le_of_ble_eq_true rfl) (mc_0 q _ _) rfl hin_Model (by decide) wd_541 rfl rfl d_Model_want_32 ?_
        refine lv_iload_n hx_ hb_ d_Model_want_35 rfl (lv_at hl 2 rfl) ?_
        refine zz_topi (y := nI (x - 1)) (zz_prd (by omega)) ?_
        refine zz_iald hC hK hZ 28 0 (x - 1) (Nat.le_of_ble_eq_true rfl) (mc_28 q _ _) rfl rfl (by omega) (by decide) rfl d_Model_want_36 ?_
        refine zz_topi (y := nI (Wk (x - 1))) hok1.1 ?_
        refine lv_iadd hx_ hb_ d_Model_want_37 ?_
        refine zz_topi (y := nI ((4 * (x - 1)) + (Wk (x - 1)))) (nI_add _ _) ?_
        refine zz_iald hC hK hZ 12 0 ((4 * (x - 1)) + (Wk (x - 1))) (Nat.le_of_ble_eq_true rfl) (mc_12 q _ _) rfl rfl (by omega) (by decide) rfl d_Model_want_38 ?_
        refine zz_topi (y := nI (qs (x - 1) (Wk (x - 1)))) (by rw [hrw _ hok1.2.1]; exact vw_p_in (by omega)) ?_
        refine lv_istore_n (i := 3) (lv' := [(3, .int (nI (qs (x - 1) (Wk (x - 1))))), (0, .ref (zz_ad (mg_G q) 0)), (1, .int (nI ((m - sz (m - 1))))), (2, .int (nI x - 1))]) hx_ hb_ d_Model_want_39 rfl hl (by decide) rfl (fun ls hl => ?_)
        refine L40 x (qs (x - 1) (Wk (x - 1))) (Wk (x - 1)) rest0 0 Wk Si ?_ _ _ _ (by omega) (fun k hk => (hrw k hk)) hBi (hLb (x - 1) (by omega) (by omega)) (by rw [← hL0]; exact q1) hok1.2.1 hok1.2.2 (show (wr_path rl qs Wk (x - 1)).drop 0 = _ by rw [← hL0]; rfl) hZ (lv_sub hl [1, 2, 3, 0] rfl)
        · intro r H locs ls hr hZ hl
          refine lv_aload_n hx_ hb_ d_Model_want_70 rfl (lv_at hl 0 rfl) ?_
          refine zz_get hC hK hZ 0 7 (Nat.le_of_ble_eq_true rfl) (mc_0 q _ _) rfl hin_Model (by decide) wd_514 rfl rfl d_Model_want_71 ?_
          refine lv_iload_n hx_ hb_ d_Model_want_74 rfl (lv_at hl 2 rfl) ?_
          refine zz_topi (y := nI (x - 1)) (zz_prd (by omega)) ?_
          refine zz_iald hC hK hZ 6 0 (x - 1) (Nat.le_of_ble_eq_true rfl) (mc_6 q _ _) rfl rfl (by omega) (by decide) rfl d_Model_want_75 ?_
          refine zz_topi (y := nI (op (x - 1))) hai.1 ?_
          refine zz_ci (zz_rS (As := [.int (nI (op (x - 1)))]) (rest := []) hC hK hZ (c_Model_kids l q Si (op (x - 1)) (by omega)) k_Model_kids wd_649 ⟨rfl, rfl, by decide, by decide⟩ rfl hl.1 rfl (Nat.le_of_ble_eq_true rfl) d_Model_want_76 ⟨Nat.zero_le _, Nat.zero_le _⟩) hZ (fun r76 S76 H locs hp76 hZ => ?_)
          obtain ⟨rfl, rfl⟩ := hp76
          refine lv_istore (i := 4) (lv' := [(4, .int (nI (zz_kd (op (x - 1))))), (0, .ref (zz_ad (mg_G q) 0)), (1, .int (nI ((m - sz (m - 1))))), (2, .int (nI x - 1)), (3, .int (nI r))]) hx_ hb_ d_Model_want_79 hl (by decide) rfl (fun ls hl => ?_)
          refine lv_iload_n hx_ hb_ d_Model_want_81 rfl (lv_at hl 3 rfl) ?_
          refine zz_topi (y := nI (x - 1)) (zz_prd (by omega)) ?_
          refine lv_iconst (v := nI 1) hx_ hb_ d_Model_want_82 (by decide) ?_
          refine lv_isub hx_ hb_ d_Model_want_83 ?_
          refine zz_topi (y := nI (x - 1) - nI 1) rfl ?_
          refine lv_iload hx_ hb_ d_Model_want_84 (lv_at hl 0 rfl) ?_
          refine lv_iconst (v := nI 1) hx_ hb_ d_Model_want_86 (by decide) ?_
          refine zz_jle (tgt := 101) hC d_Model_want_87 (by decide) (by omega) (by omega) (fun h87 => ?_) (fun h87 => ?_)
          · refine lv_iconst (v := nI 0) hx_ hb_ d_Model_want_101 (by decide) ?_
            refine lv_isub hx_ hb_ d_Model_want_102 ?_
            refine lv_istore (i := 5) (lv' := [(5, .int ((nI (x - 1) - nI 1) - (nI 0))), (4, .int (nI (zz_kd (op (x - 1))))), (0, .ref (zz_ad (mg_G q) 0)), (1, .int (nI ((m - sz (m - 1))))), (2, .int (nI x - 1)), (3, .int (nI r))]) hx_ hb_ d_Model_want_103 hl (by decide) rfl (fun ls hl => ?_)
            refine lv_iload hx_ hb_ d_Model_want_105 (lv_at hl 1 rfl) ?_
            refine zz_ile (tgt := 123) hC d_Model_want_107 (by decide) (by omega) (fun h107 => ?_) (fun h107 => ?_)
            · refine lv_iload hx_ hb_ d_Model_want_123 (lv_at hl 1 rfl) ?_
              refine lv_iconst (v := nI 1) hx_ hb_ d_Model_want_125 (by decide) ?_
              refine zz_jle (tgt := 143) hC d_Model_want_126 (by decide) (by omega) (by omega) (fun h126 => ?_) (fun h126 => ?_)
              · have hst := wk_step (c' := (Si).1 28) (c := Si.1 28) (W := Wk) (gs := gs) (fm := m - sz (m - 1)) hok htr (show x - 1 < m by omega) (by omega) (hLb (x - 1) (by omega) (by omega)) (by rw [hx1]; exact hfr) (by rw [hx1]; exact hpr) hW0 (fun j => by
                  rw [if_neg (fun h => absurd h.1 (by omega)), if_neg (fun h => absurd h.1 (by omega))])
                obtain ⟨Lf2, hLf2⟩ := hst.1
                refine lv_iinc (k := 4) (v := nI (x - 1) - 1) (lv' := [(2, .int (nI (x - 1) - 1)), (5, .int ((nI (x - 1) - nI 1) - (nI 0))), (4, .int (nI (zz_kd (op (x - 1))))), (0, .ref (zz_ad (mg_G q) 0)), (1, .int (nI ((m - sz (m - 1))))), (3, .int (nI r))]) hx_ hb_ d_Model_want_143 hl rfl (zz_prd1 (by omega)) (by decide) rfl (fun ls hl => ?_)
                refine lv_goto (tgt := 19) hx_ hb_ d_Model_want_146 (by decide) ?_
                exact ih_ _ (by omega) (x - 1) Si (wk_up op sz Wk (x - 1) (rl (wr_last rl qs Wk (x - 1))).2.2.1 (rl (wr_last rl qs Wk (x - 1))).2.2.2.1) Lf2  _ _ _ (by omega) (zz_off_tr ho (zz_off_rf)) hst.2.2 hLf2 (fun i h1 h2 => hst.2.1 i h1 h2) hZ (lv_sub hl [3, 4, 0] rfl) rfl
              · exact absurd h126 (by omega)
            · have hka := hkq.1 (by omega)
              refine lv_aload_n hx_ hb_ d_Model_want_110 rfl (lv_at hl 2 rfl) ?_
              refine zz_get hC hK hZ 0 34 (Nat.le_of_ble_eq_true rfl) (mc_0 q _ _) rfl hin_Model (by decide) wd_541 rfl rfl d_Model_want_111 ?_
              refine lv_iload hx_ hb_ d_Model_want_114 (lv_at hl 0 rfl) ?_
              refine zz_topi (y := nI (tr_fa op sz (x - 1))) (by first | (rw [tr_fa, if_pos (by omega), pk_sub (by omega), pk_sub (by omega)]) | (rw [tr_fa, if_neg (by omega), pk_sub (by omega), pk_sub (by omega)]; rfl)) ?_
              refine lv_aload_n hx_ hb_ d_Model_want_116 rfl (lv_at hl 2 rfl) ?_
              refine zz_get hC hK hZ 0 3 (Nat.le_of_ble_eq_true rfl) (mc_0 q _ _) rfl hin_Model (by decide) wd_510 rfl rfl d_Model_want_117 ?_
              refine lv_iload_n hx_ hb_ d_Model_want_120 rfl (lv_at hl 5 rfl) ?_
              refine zz_topi (y := nI (wr_last rl qs Wk (x - 1))) (by rw [hr]) ?_
              refine zz_iald hC hK hZ 3 0 (wr_last rl qs Wk (x - 1)) (Nat.le_of_ble_eq_true rfl) (mc_3 q _ _) rfl rfl (by omega) (by decide) rfl d_Model_want_121 ?_
              refine zz_topi (y := nI ((rl (wr_last rl qs Wk (x - 1))).2.2.1)) hrl.2.2.1 ?_
              refine zz_iast hC hK hZ 28 0 (tr_fa op sz (x - 1)) (Nat.le_of_ble_eq_true rfl) (fun _ => mc_28 q _ _) rfl rfl (by omega) (by decide) d_Model_want_122 (fun H locs hZ => ?_)
              refine lv_iload hx_ hb_ d_Model_want_123 (lv_at hl 1 rfl) ?_
              refine lv_iconst (v := nI 1) hx_ hb_ d_Model_want_125 (by decide) ?_
              refine zz_jle (tgt := 143) hC d_Model_want_126 (by decide) (by omega) (by omega) (fun h126 => ?_) (fun h126 => ?_)
              · have hst := wk_step (c' := ((zz_u Si 28 (tr_fa op sz (x - 1)) (nI ((rl (wr_last rl qs Wk (x - 1))).2.2.1)))).1 28) (c := Si.1 28) (W := Wk) (gs := gs) (fm := m - sz (m - 1)) hok htr (show x - 1 < m by omega) (by omega) (hLb (x - 1) (by omega) (by omega)) (by rw [hx1]; exact hfr) (by rw [hx1]; exact hpr) hW0 (fun j => by
                  rw [zz_u1s]
                  by_cases e : j = tr_fa op sz (x - 1)
                  · rw [e, pk_us, if_pos ⟨by omega, rfl⟩]
                  · rw [pk_un e, if_neg (fun h => e h.2), if_neg (fun h => absurd h.1 (by omega))])
                obtain ⟨Lf2, hLf2⟩ := hst.1
                refine lv_iinc (k := 4) (v := nI (x - 1) - 1) (lv' := [(2, .int (nI (x - 1) - 1)), (5, .int ((nI (x - 1) - nI 1) - (nI 0))), (4, .int (nI (zz_kd (op (x - 1))))), (0, .ref (zz_ad (mg_G q) 0)), (1, .int (nI ((m - sz (m - 1))))), (3, .int (nI r))]) hx_ hb_ d_Model_want_143 hl rfl (zz_prd1 (by omega)) (by decide) rfl (fun ls hl => ?_)
                refine lv_goto (tgt := 19) hx_ hb_ d_Model_want_146 (by decide) ?_
                exact ih_ _ (by omega) (x - 1) (zz_u Si 28 (tr_fa op sz (x - 1)) (nI ((rl (wr_last rl qs Wk (x - 1))).2.2.1))) (wk_up op sz Wk (x - 1) (rl (wr_last rl qs Wk (x - 1))).2.2.1 (rl (wr_last rl qs Wk (x - 1))).2.2.2.1) Lf2  _ _ _ (by omega) (zz_off_tr ho (fun d hd => ⟨zz_u1 _ 28 _ _ d hd, rfl⟩)) hst.2.2 hLf2 (fun i h1 h2 => hst.2.1 i h1 h2) hZ (lv_sub hl [3, 4, 0] rfl) rfl
              · have hkk := (hkq.2 (by omega)).1
                refine lv_aload_n hx_ hb_ d_Model_want_129 rfl (lv_at hl 2 rfl) ?_
                refine zz_get hC hK hZ 0 34 (Nat.le_of_ble_eq_true rfl) (mc_0 q _ _) rfl hin_Model (by decide) wd_541 rfl rfl d_Model_want_130 ?_
                refine lv_iload_n hx_ hb_ d_Model_want_133 rfl (lv_at hl 4 rfl) ?_
                refine zz_topi (y := nI (x - 1)) (zz_prd (by omega)) ?_
                refine lv_iconst (v := nI 1) hx_ hb_ d_Model_want_134 (by decide) ?_
                refine lv_isub hx_ hb_ d_Model_want_135 ?_
                refine zz_topi (y := nI (x - 1 - 1)) (pk_sub (by omega)) ?_
                refine lv_aload_n hx_ hb_ d_Model_want_136 rfl (lv_at hl 2 rfl) ?_
                refine zz_get hC hK hZ 0 4 (Nat.le_of_ble_eq_true rfl) (mc_0 q _ _) rfl hin_Model (by decide) wd_511 rfl rfl d_Model_want_137 ?_
                refine lv_iload_n hx_ hb_ d_Model_want_140 rfl (lv_at hl 5 rfl) ?_
                refine zz_topi (y := nI (wr_last rl qs Wk (x - 1))) (by rw [hr]) ?_
                refine zz_iald hC hK hZ 4 0 (wr_last rl qs Wk (x - 1)) (Nat.le_of_ble_eq_true rfl) (mc_4 q _ _) rfl rfl (by omega) (by decide) rfl d_Model_want_141 ?_
                refine zz_topi (y := nI ((rl (wr_last rl qs Wk (x - 1))).2.2.2.1)) hrl.2.2.2.1 ?_
                refine zz_iast hC hK hZ 28 0 (x - 1 - 1) (Nat.le_of_ble_eq_true rfl) (fun _ => mc_28 q _ _) rfl rfl (by omega) (by decide) d_Model_want_142 (fun H locs hZ => ?_)
                have hst := wk_step (c' := ((zz_u (zz_u Si 28 (tr_fa op sz (x - 1)) (nI ((rl (wr_last rl qs Wk (x - 1))).2.2.1))) 28 (x - 1 - 1) (nI ((rl (wr_last rl qs Wk (x - 1))).2.2.2.1)))).1 28) (c := Si.1 28) (W := Wk) (gs := gs) (fm := m - sz (m - 1)) hok htr (show x - 1 < m by omega) (by omega) (hLb (x - 1) (by omega) (by omega)) (by rw [hx1]; exact hfr) (by rw [hx1]; exact hpr) hW0 (fun j => by
                  rw [zz_u1s, zz_u1s]
                  by_cases e : j = tr_fa op sz (x - 1)
                  · rw [e, pk_un hkk, pk_us, if_pos ⟨by omega, rfl⟩]
                  · by_cases e2 : j = x - 1 - 1
                    · rw [e2, pk_us, if_neg (fun h => hkk h.2.symm), if_pos ⟨by omega, rfl⟩]
                    · rw [pk_un e2, pk_un e, if_neg (fun h => e h.2), if_neg (fun h => e2 h.2)])
                obtain ⟨Lf2, hLf2⟩ := hst.1
                refine lv_iinc (k := 4) (v := nI (x - 1) - 1) (lv' := [(2, .int (nI (x - 1) - 1)), (5, .int ((nI (x - 1) - nI 1) - (nI 0))), (4, .int (nI (zz_kd (op (x - 1))))), (0, .ref (zz_ad (mg_G q) 0)), (1, .int (nI ((m - sz (m - 1))))), (3, .int (nI r))]) hx_ hb_ d_Model_want_143 hl rfl (zz_prd1 (by omega)) (by decide) rfl (fun ls hl => ?_)
                refine lv_goto (tgt := 19) hx_ hb_ d_Model_want_146 (by decide) ?_
                exact ih_ _ (by omega) (x - 1) (zz_u (zz_u Si 28 (tr_fa op sz (x - 1)) (nI ((rl (wr_last rl qs Wk (x - 1))).2.2.1))) 28 (x - 1 - 1) (nI ((rl (wr_last rl qs Wk (x - 1))).2.2.2.1))) (wk_up op sz Wk (x - 1) (rl (wr_last rl qs Wk (x - 1))).2.2.1 (rl (wr_last rl qs Wk (x - 1))).2.2.2.1) Lf2  _ _ _ (by omega) (zz_off_tr ho (fun d hd => ⟨by rw [zz_u1 _ 28 _ _ d hd, zz_u1 _ 28 _ _ d hd], rfl⟩)) hst.2.2 hLf2 (fun i h1 h2 => hst.2.1 i h1 h2) hZ (lv_sub hl [3, 4, 0] rfl) rfl
          · refine lv_aload_n hx_ hb_ d_Model_want_90 rfl (lv_at hl 1 rfl) ?_
            refine zz_get hC hK hZ 0 9 (Nat.le_of_ble_eq_true rfl) (mc_0 q _ _) rfl hin_Model (by decide) wd_516 rfl rfl d_Model_want_91 ?_
            refine lv_iload_n hx_ hb_ d_Model_want_94 rfl (lv_at hl 3 rfl) ?_
            refine zz_topi (y := nI (x - 1)) (zz_prd (by omega)) ?_
            refine lv_iconst (v := nI 1) hx_ hb_ d_Model_want_95 (by decide) ?_
            refine lv_isub hx_ hb_ d_Model_want_96 ?_
            refine zz_topi (y := nI (x - 1 - 1)) (pk_sub (by omega)) ?_
            refine zz_iald hC hK hZ 8 0 (x - 1 - 1) (Nat.le_of_ble_eq_true rfl) (mc_8 q _ _) rfl rfl (by omega) (by decide) rfl d_Model_want_97 ?_
            refine zz_topi (y := nI (sz (x - 1 - 1))) (hTi.2.2.2.2.1 (x - 1 - 1) (by omega)).2.2.1 ?_
            refine lv_goto (tgt := 102) hx_ hb_ d_Model_want_98 (by decide) ?_
            refine lv_isub hx_ hb_ d_Model_want_102 ?_
            refine lv_istore (i := 5) (lv' := [(5, .int ((nI (x - 1) - nI 1) - (nI (sz (x - 1 - 1))))), (4, .int (nI (zz_kd (op (x - 1))))), (0, .ref (zz_ad (mg_G q) 0)), (1, .int (nI ((m - sz (m - 1))))), (2, .int (nI x - 1)), (3, .int (nI r))]) hx_ hb_ d_Model_want_103 hl (by decide) rfl (fun ls hl => ?_)
            refine lv_iload hx_ hb_ d_Model_want_105 (lv_at hl 1 rfl) ?_
            refine zz_ile (tgt := 123) hC d_Model_want_107 (by decide) (by omega) (fun h107 => ?_) (fun h107 => ?_)
            · refine lv_iload hx_ hb_ d_Model_want_123 (lv_at hl 1 rfl) ?_
              refine lv_iconst (v := nI 1) hx_ hb_ d_Model_want_125 (by decide) ?_
              refine zz_jle (tgt := 143) hC d_Model_want_126 (by decide) (by omega) (by omega) (fun h126 => ?_) (fun h126 => ?_)
              · have hst := wk_step (c' := (Si).1 28) (c := Si.1 28) (W := Wk) (gs := gs) (fm := m - sz (m - 1)) hok htr (show x - 1 < m by omega) (by omega) (hLb (x - 1) (by omega) (by omega)) (by rw [hx1]; exact hfr) (by rw [hx1]; exact hpr) hW0 (fun j => by
                  rw [if_neg (fun h => absurd h.1 (by omega)), if_neg (fun h => absurd h.1 (by omega))])
                obtain ⟨Lf2, hLf2⟩ := hst.1
                refine lv_iinc (k := 4) (v := nI (x - 1) - 1) (lv' := [(2, .int (nI (x - 1) - 1)), (5, .int ((nI (x - 1) - nI 1) - (nI (sz (x - 1 - 1))))), (4, .int (nI (zz_kd (op (x - 1))))), (0, .ref (zz_ad (mg_G q) 0)), (1, .int (nI ((m - sz (m - 1))))), (3, .int (nI r))]) hx_ hb_ d_Model_want_143 hl rfl (zz_prd1 (by omega)) (by decide) rfl (fun ls hl => ?_)
                refine lv_goto (tgt := 19) hx_ hb_ d_Model_want_146 (by decide) ?_
                exact ih_ _ (by omega) (x - 1) Si (wk_up op sz Wk (x - 1) (rl (wr_last rl qs Wk (x - 1))).2.2.1 (rl (wr_last rl qs Wk (x - 1))).2.2.2.1) Lf2  _ _ _ (by omega) (zz_off_tr ho (zz_off_rf)) hst.2.2 hLf2 (fun i h1 h2 => hst.2.1 i h1 h2) hZ (lv_sub hl [3, 4, 0] rfl) rfl
              · exact absurd h126 (by omega)
            · have hka := hkq.1 (by omega)
              refine lv_aload_n hx_ hb_ d_Model_want_110 rfl (lv_at hl 2 rfl) ?_
              refine zz_get hC hK hZ 0 34 (Nat.le_of_ble_eq_true rfl) (mc_0 q _ _) rfl hin_Model (by decide) wd_541 rfl rfl d_Model_want_111 ?_
              refine lv_iload hx_ hb_ d_Model_want_114 (lv_at hl 0 rfl) ?_
              refine zz_topi (y := nI (tr_fa op sz (x - 1))) (by first | (rw [tr_fa, if_pos (by omega), pk_sub (by omega), pk_sub (by omega)]) | (rw [tr_fa, if_neg (by omega), pk_sub (by omega), pk_sub (by omega)]; rfl)) ?_
              refine lv_aload_n hx_ hb_ d_Model_want_116 rfl (lv_at hl 2 rfl) ?_
              refine zz_get hC hK hZ 0 3 (Nat.le_of_ble_eq_true rfl) (mc_0 q _ _) rfl hin_Model (by decide) wd_510 rfl rfl d_Model_want_117 ?_
              refine lv_iload_n hx_ hb_ d_Model_want_120 rfl (lv_at hl 5 rfl) ?_
              refine zz_topi (y := nI (wr_last rl qs Wk (x - 1))) (by rw [hr]) ?_
              refine zz_iald hC hK hZ 3 0 (wr_last rl qs Wk (x - 1)) (Nat.le_of_ble_eq_true rfl) (mc_3 q _ _) rfl rfl (by omega) (by decide) rfl d_Model_want_121 ?_
              refine zz_topi (y := nI ((rl (wr_last rl qs Wk (x - 1))).2.2.1)) hrl.2.2.1 ?_
              refine zz_iast hC hK hZ 28 0 (tr_fa op sz (x - 1)) (Nat.le_of_ble_eq_true rfl) (fun _ => mc_28 q _ _) rfl rfl (by omega) (by decide) d_Model_want_122 (fun H locs hZ => ?_)
              refine lv_iload hx_ hb_ d_Model_want_123 (lv_at hl 1 rfl) ?_
              refine lv_iconst (v := nI 1) hx_ hb_ d_Model_want_125 (by decide) ?_
              refine zz_jle (tgt := 143) hC d_Model_want_126 (by decide) (by omega) (by omega) (fun h126 => ?_) (fun h126 => ?_)
              · have hst := wk_step (c' := ((zz_u Si 28 (tr_fa op sz (x - 1)) (nI ((rl (wr_last rl qs Wk (x - 1))).2.2.1)))).1 28) (c := Si.1 28) (W := Wk) (gs := gs) (fm := m - sz (m - 1)) hok htr (show x - 1 < m by omega) (by omega) (hLb (x - 1) (by omega) (by omega)) (by rw [hx1]; exact hfr) (by rw [hx1]; exact hpr) hW0 (fun j => by
                  rw [zz_u1s]
                  by_cases e : j = tr_fa op sz (x - 1)
                  · rw [e, pk_us, if_pos ⟨by omega, rfl⟩]
                  · rw [pk_un e, if_neg (fun h => e h.2), if_neg (fun h => absurd h.1 (by omega))])
                obtain ⟨Lf2, hLf2⟩ := hst.1
                refine lv_iinc (k := 4) (v := nI (x - 1) - 1) (lv' := [(2, .int (nI (x - 1) - 1)), (5, .int ((nI (x - 1) - nI 1) - (nI (sz (x - 1 - 1))))), (4, .int (nI (zz_kd (op (x - 1))))), (0, .ref (zz_ad (mg_G q) 0)), (1, .int (nI ((m - sz (m - 1))))), (3, .int (nI r))]) hx_ hb_ d_Model_want_143 hl rfl (zz_prd1 (by omega)) (by decide) rfl (fun ls hl => ?_)
                refine lv_goto (tgt := 19) hx_ hb_ d_Model_want_146 (by decide) ?_
                exact ih_ _ (by omega) (x - 1) (zz_u Si 28 (tr_fa op sz (x - 1)) (nI ((rl (wr_last rl qs Wk (x - 1))).2.2.1))) (wk_up op sz Wk (x - 1) (rl (wr_last rl qs Wk (x - 1))).2.2.1 (rl (wr_last rl qs Wk (x - 1))).2.2.2.1) Lf2  _ _ _ (by omega) (zz_off_tr ho (fun d hd => ⟨zz_u1 _ 28 _ _ d hd, rfl⟩)) hst.2.2 hLf2 (fun i h1 h2 => hst.2.1 i h1 h2) hZ (lv_sub hl [3, 4, 0] rfl) rfl
              · have hkk := (hkq.2 (by omega)).1
                refine lv_aload_n hx_ hb_ d_Model_want_129 rfl (lv_at hl 2 rfl) ?_
                refine zz_get hC hK hZ 0 34 (Nat.le_of_ble_eq_true rfl) (mc_0 q _ _) rfl hin_Model (by decide) wd_541 rfl rfl d_Model_want_130 ?_
                refine lv_iload_n hx_ hb_ d_Model_want_133 rfl (lv_at hl 4 rfl) ?_
                refine zz_topi (y := nI (x - 1)) (zz_prd (by omega)) ?_
                refine lv_iconst (v := nI 1) hx_ hb_ d_Model_want_134 (by decide) ?_
                refine lv_isub hx_ hb_ d_Model_want_135 ?_
                refine zz_topi (y := nI (x - 1 - 1)) (pk_sub (by omega)) ?_
                refine lv_aload_n hx_ hb_ d_Model_want_136 rfl (lv_at hl 2 rfl) ?_
                refine zz_get hC hK hZ 0 4 (Nat.le_of_ble_eq_true rfl) (mc_0 q _ _) rfl hin_Model (by decide) wd_511 rfl rfl d_Model_want_137 ?_
                refine lv_iload_n hx_ hb_ d_Model_want_140 rfl (lv_at hl 5 rfl) ?_
                refine zz_topi (y := nI (wr_last rl qs Wk (x - 1))) (by rw [hr]) ?_
                refine zz_iald hC hK hZ 4 0 (wr_last rl qs Wk (x - 1)) (Nat.le_of_ble_eq_true rfl) (mc_4 q _ _) rfl rfl (by omega) (by decide) rfl d_Model_want_141 ?_
                refine zz_topi (y := nI ((rl (wr_last rl qs Wk (x - 1))).2.2.2.1)) hrl.2.2.2.1 ?_
                refine zz_iast hC hK hZ 28 0 (x - 1 - 1) (Nat.le_of_ble_eq_true rfl) (fun _ => mc_28 q _ _) rfl rfl (by omega) (by decide) d_Model_want_142 (fun H locs hZ => ?_)
                have hst := wk_step (c' := ((zz_u (zz_u Si 28 (tr_fa op sz (x - 1)) (nI ((rl (wr_last rl qs Wk (x - 1))).2.2.1))) 28 (x - 1 - 1) (nI ((rl (wr_last rl qs Wk (x - 1))).2.2.2.1)))).1 28) (c := Si.1 28) (W := Wk) (gs := gs) (fm := m - sz (m - 1)) hok htr (show x - 1 < m by omega) (by omega) (hLb (x - 1) (by omega) (by omega)) (by rw [hx1]; exact hfr) (by rw [hx1]; exact hpr) hW0 (fun j => by
                  rw [zz_u1s, zz_u1s]
                  by_cases e : j = tr_fa op sz (x - 1)
                  · rw [e, pk_un hkk, pk_us, if_pos ⟨by omega, rfl⟩]
                  · by_cases e2 : j = x - 1 - 1
                    · rw [e2, pk_us, if_neg (fun h => hkk h.2.symm), if_pos ⟨by omega, rfl⟩]
                    · rw [pk_un e2, pk_un e, if_neg (fun h => e h.2), if_neg (fun h => e2 h.2)])
                obtain ⟨Lf2, hLf2⟩ := hst.1
                refine lv_iinc (k := 4) (v := nI (x - 1) - 1) (lv' := [(2, .int (nI (x - 1) - 1)), (5, .int ((nI (x - 1) - nI 1) - (nI (sz (x - 1 - 1))))), (4, .int (nI (zz_kd (op (x - 1))))), (0, .ref (zz_ad (mg_G q) 0)), (1, .int (nI ((m - sz (m - 1))))), (3, .int (nI r))]) hx_ hb_ d_Model_want_143 hl rfl (zz_prd1 (by omega)) (by decide) rfl (fun ls hl => ?_)
                refine lv_goto (tgt := 19) hx_ hb_ d_Model_want_146 (by decide) ?_
                exact ih_ _ (by omega) (x - 1) (zz_u (zz_u Si 28 (tr_fa op sz (x - 1)) (nI ((rl (wr_last rl qs Wk (x - 1))).2.2.1))) 28 (x - 1 - 1) (nI ((rl (wr_last rl qs Wk (x - 1))).2.2.2.1))) (wk_up op sz Wk (x - 1) (rl (wr_last rl qs Wk (x - 1))).2.2.1 (rl (wr_last rl qs Wk (x - 1))).2.2.2.1) Lf2  _ _ _ (by omega) (zz_off_tr ho (fun d hd => ⟨by rw [zz_u1 _ 28 _ _ d hd, zz_u1 _ 28 _ _ d hd], rfl⟩)) hst.2.2 hLf2 (fun i h1 h2 => hst.2.1 i h1 h2) hZ (lv_sub hl [3, 4, 0] rfl) rfl
  have L19 : ∀ (x : Nat) (Si : zz_S) (Wk : Nat → Nat) (Lf : List Nat) (H : Heap) (locs : List Loc) (ls : Array Slot) (hx : (m - sz (m - 1)) ≤ x ∧ x ≤ m) (ho : zz_off (fun c => c = 28) S Si) (hW0 : Wk (m - 1) = 0) (hfr : tr_fr sz (wk_at gs (Si.1 28) Wk) (m - sz (m - 1)) x Lf) (hpr : ∀ i, x ≤ i → i < m → Si.1 28 i = nI (Wk i) ∧ wk_node rl op sz gs qs Wk i) (hZ : zz_Z (mg_G q) Si s_.heap H locs) (hl : lv_has ls 6 [(0, .ref (zz_ad (mg_G q) 0)), (1, .int (nI ((m - sz (m - 1))))), (2, .int (nI x - 1))]), W p_ l e_ rm_Model_want s_ m_ ([.ref (zz_ad (mg_G q) 0), .int (nI ((m - sz (m - 1))))] : List Value).toArray bl_ mt_ c_ H locs 0 0 (MQ bl_ (va_Qv (fun S1 => zz_off (fun c => c = 28) S S1 ∧ ∃ Wk, wk_ok rl op sz gs qs Wk (m - sz (m - 1)) m ∧ ∀ i, (m - sz (m - 1)) ≤ i → i < m → S1.1 28 i = nI (Wk i)) (zz_P (mg_G q)) (zz_A (mg_G q))) ([.ref (zz_ad (mg_G q) 0), .int (nI ((m - sz (m - 1))))] : List Value).toArray s_ 0 0 (zz_A (mg_G q))) (F0 m_ 19 ls []) := fun x Si Wk Lf H locs ls hx ho hW0 hfr hpr hZ hl => L19_ _ x Si Wk Lf H locs ls hx ho hW0 hfr hpr hZ hl rfl
  refine lv_aload_n hx_ hb_ d_Model_want_0 rfl (lv_at hl 0 rfl) ?_
  refine zz_get hC hK hZ 0 34 (Nat.le_of_ble_eq_true rfl) (mc_0 q _ _) rfl hin_Model (by decide) wd_541 rfl rfl d_Model_want_1 ?_
  refine lv_aload_n hx_ hb_ d_Model_want_4 rfl (lv_at hl 0 rfl) ?_
  refine zz_get hC hK hZ 0 6 (Nat.le_of_ble_eq_true rfl) (mc_0 q _ _) rfl hin_Model (by decide) wd_513 rfl rfl d_Model_want_5 ?_
  refine zz_topi (y := nI m) hT.1 ?_
  refine lv_iconst (v := nI 1) hx_ hb_ d_Model_want_8 (by decide) ?_
  refine lv_isub hx_ hb_ d_Model_want_9 ?_
  refine zz_topi (y := nI (m - 1)) (pk_sub (by omega)) ?_
  refine lv_iconst (v := nI 0) hx_ hb_ d_Model_want_10 (by decide) ?_
  refine zz_iast hC hK hZ 28 0 (m - 1) (Nat.le_of_ble_eq_true rfl) (fun _ => mc_28 q _ _) rfl rfl (by omega) (by decide) d_Model_want_11 (fun H locs hZ => ?_)
  refine lv_aload_n hx_ hb_ d_Model_want_12 rfl (lv_at hl 0 rfl) ?_
  refine zz_get hC hK hZ 0 6 (Nat.le_of_ble_eq_true rfl) (mc_0 q _ _) rfl hin_Model (by decide) wd_513 rfl rfl d_Model_want_13 ?_
  refine zz_topi (y := nI m) hT.1 ?_
  refine lv_iconst (v := nI 1) hx_ hb_ d_Model_want_16 (by decide) ?_
  refine lv_isub hx_ hb_ d_Model_want_17 ?_
  refine zz_topi (y := nI m - 1) rfl ?_
  refine lv_istore_n (i := 2) (lv' := [(2, .int (nI m - 1)), (0, .ref (zz_ad (mg_G q) 0)), (1, .int (nI ((m - sz (m - 1)))))]) hx_ hb_ d_Model_want_18 rfl hl (by decide) rfl (fun ls hl => ?_)
  exact L19 m (zz_u S 28 (m - 1) (nI 0)) (fun _ => 0) ([m - 1])  _ _ _ (by omega) (fun d hd => ⟨zz_u1 S 28 _ _ d hd, rfl⟩) rfl (show tr_fr sz (wk_at gs _ (fun _ => 0)) (m - sz (m - 1)) m [m - 1] from ⟨by omega, by omega, ⟨by rw [zz_u1s]; exact pk_us, by show 0 < 4; omega, hcov⟩, by show m - sz (m - 1) = (m - sz (m - 1)); omega⟩) (fun i h1 h2 => absurd h2 (by omega)) hZ (lv_sub hl [1, 2, 0] rfl)
