/-! The reference: what it tells of the top tree. Laid by wip/whole/prog/p22.py. -/
set_option maxHeartbeats 4000000 in
set_option maxRecDepth 100000 in
theorem c_Model_noNode (l : Launch) (q : xg_T) (S : zz_S) (nd k : Int32) (rl : mx_R) (R : Nat) (hB : mb_ok S rl R) (op : Nat → Nat) (nu : Nat → Int32) (sz ht : Nat → Nat) (m t : Nat) (ps : Nat → Nat) (hT : mt_ok S op nu sz ht m t ps) : Met l y_Model_noNode (Cond.code y_Model_noNode b_Model_noNode 3 (some .boolean) :: zz_tbl) rm_Model_noNode (zz_Pc [.ref (zz_ad (mg_G q) 0), .int nd, .int k] (mg_G q) S) (va_Qi (fun ans S1 => ans = nI (if ¬ ((0 ≤ nd.toInt ∧ nd.toInt < (md_n sz m t : Int)) ∧ (0 ≤ k.toInt ∧ k.toInt < 4)) then 1 else 0) ∧ (¬ ((0 ≤ nd.toInt ∧ nd.toInt < (md_n sz m t : Int)) ∧ (0 ≤ k.toInt ∧ k.toInt < 4)) → S = S1) ∧ (¬ ¬ ((0 ≤ nd.toInt ∧ nd.toInt < (md_n sz m t : Int)) ∧ (0 ≤ k.toInt ∧ k.toInt < 4)) → zz_off mr_X S S1 ∧ ∃ gs qs, (∀ i, (m - sz (m - 1)) ≤ i → i < m → xq_lab rl R op sz gs qs i) ∧ mr_ok S1 gs qs (m - sz (m - 1)) m)) (zz_P (mg_G q)) (zz_A (mg_G q))) 0 0 (zz_A (mg_G q)) := by
  refine zz_met (by decide) (Nat.le_of_ble_eq_true rfl) ?_
  intro p_ e_ s_ m_ bl_ mt_ c_ ls hC hK hZ hl
  have hC : zz_C p_ s_ m_ _ mt_ c_ b_Model_noNode 3 (some .boolean) "TreeCoverForgeModel" := hC
  have hx_ := hC.1
  have hb_ := hC.2.1
  have hl : lv_has ls 3 [(0, .ref (zz_ad (mg_G q) 0)), (1, .int nd), (2, .int k)] := hl
  have hok := hB.2.2.1
  have hm := hT.2.2.1
  have htm := hT.2.2.2.1
  have htr := hT.2.2.2.2.2.1
  have hts := hT.2.2.2.2.2.2.2.1
  have hps := hT.2.2.2.2.2.2.2.2
  have h2ts := ts_two hts
  have hmd : (t = 0 → md_n sz m t = 0) ∧ (t ≠ 0 → md_n sz m t = sz (m - 1)) := ⟨fun h => by rw [md_n, if_pos h], fun h => by rw [md_n, if_neg h]⟩
  have hfar := vw_far
  have hmb : md_n sz m t ≤ 40 := by by_cases e : t = 0; (rw [hmd.1 e]; omega); (have := h2ts.1 (by omega); rw [hmd.2 e]; omega)
  refine lv_iload_n hx_ hb_ d_Model_noNode_0 rfl (lv_at hl 1 rfl) ?_
  refine zz_rilt (tgt := 27) hC d_Model_noNode_1 (by decide) (fun h1 => ?_) (fun h1 => ?_)
  · refine lv_iconst (v := nI 1) hx_ hb_ d_Model_noNode_27 (by decide) ?_
    refine lv_goto (tgt := 32) hx_ hb_ d_Model_noNode_28 (by decide) ?_
    exact zz_zret hC hK hZ rfl d_Model_noNode_32 (by decide) (have hb : ¬ ((0 ≤ nd.toInt ∧ nd.toInt < (md_n sz m t : Int)) ∧ (0 ≤ k.toInt ∧ k.toInt < 4)) := (by omega); ⟨by rw [if_pos hb], fun _ => rfl, fun h => absurd hb h⟩)
  · refine lv_iload_n hx_ hb_ d_Model_noNode_4 rfl (lv_at hl 1 rfl) ?_
    refine lv_aload_n hx_ hb_ d_Model_noNode_5 rfl (lv_at hl 0 rfl) ?_
    refine zz_ci (zz_rV (As := []) (rest := [.int nd]) hC hK hZ 0 (c_Model_nodes l q S op nu sz ht m t ps hT) k_Model_nodes (Nat.le_of_ble_eq_true rfl) (mc_0 q _ _) rfl wd_688 ⟨rfl, rfl, by decide, by decide⟩ rfl hl.1 rfl (Nat.le_of_ble_eq_true rfl) d_Model_noNode_6 ⟨Nat.zero_le _, Nat.zero_le _⟩) hZ (fun r6 S6 H locs hp6 hZ => ?_)
    obtain ⟨rfl, rfl⟩ := hp6
    refine zz_rjge (tgt := 27) hC d_Model_noNode_9 (by decide) (fun h9 => ?_) (fun h9 => ?_)
    · rw [nI_toInt (by omega)] at h9
      refine lv_iconst (v := nI 1) hx_ hb_ d_Model_noNode_27 (by decide) ?_
      refine lv_goto (tgt := 32) hx_ hb_ d_Model_noNode_28 (by decide) ?_
      exact zz_zret hC hK hZ rfl d_Model_noNode_32 (by decide) (have hb : ¬ ((0 ≤ nd.toInt ∧ nd.toInt < (md_n sz m t : Int)) ∧ (0 ≤ k.toInt ∧ k.toInt < 4)) := (by omega); ⟨by rw [if_pos hb], fun _ => rfl, fun h => absurd hb h⟩)
    · rw [nI_toInt (by omega)] at h9
      refine lv_iload_n hx_ hb_ d_Model_noNode_12 rfl (lv_at hl 2 rfl) ?_
      refine lv_iconst (v := nI 3) hx_ hb_ d_Model_noNode_13 (by decide) ?_
      refine zz_ci (zz_rS (As := [.int k, .int (nI 3)]) (rest := []) hC hK hZ (c_Model_outside l q S k 3 (by omega)) k_Model_outside wd_629 ⟨rfl, rfl, by decide, by decide⟩ rfl hl.1 rfl (Nat.le_of_ble_eq_true rfl) d_Model_noNode_14 ⟨Nat.zero_le _, Nat.zero_le _⟩) hZ (fun r14 S14 H locs hp14 hZ => ?_)
      obtain ⟨rfl, rfl⟩ := hp14
      refine zz_bne (tgt := 27) hC d_Model_noNode_17 (by decide) (fun h17 => ?_) (fun h17 => ?_)
      · refine lv_iconst (v := nI 1) hx_ hb_ d_Model_noNode_27 (by decide) ?_
        refine lv_goto (tgt := 32) hx_ hb_ d_Model_noNode_28 (by decide) ?_
        exact zz_zret hC hK hZ rfl d_Model_noNode_32 (by decide) (have hb : ¬ ((0 ≤ nd.toInt ∧ nd.toInt < (md_n sz m t : Int)) ∧ (0 ≤ k.toInt ∧ k.toInt < 4)) := (by omega); ⟨by rw [if_pos hb], fun _ => rfl, fun h => absurd hb h⟩)
      · refine lv_aload_n hx_ hb_ d_Model_noNode_20 rfl (lv_at hl 0 rfl) ?_
        refine zz_ci (zz_rV (As := []) (rest := []) hC hK hZ 0 (c_Model_work l q S rl R hB op nu sz ht m t ps hT) k_Model_work (Nat.le_of_ble_eq_true rfl) (mc_0 q _ _) rfl wd_689 ⟨rfl, rfl, by decide, by decide⟩ rfl hl.1 rfl (Nat.le_of_ble_eq_true rfl) d_Model_noNode_21 ⟨Nat.zero_le _, Nat.zero_le _⟩) hZ (fun r21 S21 H locs hp21 hZ => ?_)
        rcases hp21 with h21 | h21
        · exact absurd (hmd.1 h21.1) (by omega)
        obtain ⟨ht0, rfl, ho21, gs, qs, hlb, hrows⟩ := h21
        refine zz_ine (tgt := 31) hC d_Model_noNode_24 (by decide) (by omega) (fun h24 => ?_) (fun h24 => ?_)
        · refine lv_iconst (v := nI 0) hx_ hb_ d_Model_noNode_31 (by decide) ?_
          exact zz_zret hC hK hZ rfl d_Model_noNode_32 (by decide) (have hb : ¬ ¬ ((0 ≤ nd.toInt ∧ nd.toInt < (md_n sz m t : Int)) ∧ (0 ≤ k.toInt ∧ k.toInt < 4)) := (by omega); ⟨by rw [if_neg hb], fun h => absurd h hb, fun _ => ⟨ho21, gs, qs, hlb, hrows⟩⟩)
        · exact absurd h24 (by decide)
set_option maxHeartbeats 4000000 in
set_option maxRecDepth 100000 in
theorem c_Model_choice (l : Launch) (q : xg_T) (S : zz_S) (nd k : Int32) (rl : mx_R) (R : Nat) (hB : mb_ok S rl R) (op : Nat → Nat) (nu : Nat → Int32) (sz ht : Nat → Nat) (m t : Nat) (ps : Nat → Nat) (hT : mt_ok S op nu sz ht m t ps) : Met l y_Model_choice (Cond.code y_Model_choice b_Model_choice 3 (some .int) :: zz_tbl) rm_Model_choice (zz_Pc [.ref (zz_ad (mg_G q) 0), .int nd, .int k] (mg_G q) S) (va_Qi (fun ans S1 => (¬ ((0 ≤ nd.toInt ∧ nd.toInt < (md_n sz m t : Int)) ∧ (0 ≤ k.toInt ∧ k.toInt < 4)) ∧ ans = -1 ∧ S = S1) ∨ (((0 ≤ nd.toInt ∧ nd.toInt < (md_n sz m t : Int)) ∧ (0 ≤ k.toInt ∧ k.toInt < 4)) ∧ zz_off mr_X S S1 ∧ ∃ gs qs, (∀ i, (m - sz (m - 1)) ≤ i → i < m → xq_lab rl R op sz gs qs i) ∧ ans = vw_p (qs ((m - sz (m - 1)) + nd.toNatClampNeg) k.toNatClampNeg))) (zz_P (mg_G q)) (zz_A (mg_G q))) 0 0 (zz_A (mg_G q)) := by
  refine zz_met (by decide) (Nat.le_of_ble_eq_true rfl) ?_
  intro p_ e_ s_ m_ bl_ mt_ c_ ls hC hK hZ hl
  have hC : zz_C p_ s_ m_ _ mt_ c_ b_Model_choice 3 (some .int) "TreeCoverForgeModel" := hC
  have hx_ := hC.1
  have hb_ := hC.2.1
  have hl : lv_has ls 3 [(0, .ref (zz_ad (mg_G q) 0)), (1, .int nd), (2, .int k)] := hl
  have hok := hB.2.2.1
  have hm := hT.2.2.1
  have htm := hT.2.2.2.1
  have htr := hT.2.2.2.2.2.1
  have hts := hT.2.2.2.2.2.2.2.1
  have hps := hT.2.2.2.2.2.2.2.2
  have h2ts := ts_two hts
  have hmd : (t = 0 → md_n sz m t = 0) ∧ (t ≠ 0 → md_n sz m t = sz (m - 1)) := ⟨fun h => by rw [md_n, if_pos h], fun h => by rw [md_n, if_neg h]⟩
  have hfar := vw_far
  refine lv_aload_n hx_ hb_ d_Model_choice_0 rfl (lv_at hl 0 rfl) ?_
  refine lv_iload_n hx_ hb_ d_Model_choice_1 rfl (lv_at hl 1 rfl) ?_
  refine lv_iload_n hx_ hb_ d_Model_choice_2 rfl (lv_at hl 2 rfl) ?_
  refine zz_ci (zz_rV (As := [.int nd, .int k]) (rest := []) hC hK hZ 0 (c_Model_noNode l q S nd k rl R hB op nu sz ht m t ps hT) k_Model_noNode (Nat.le_of_ble_eq_true rfl) (mc_0 q _ _) rfl wd_684 ⟨rfl, rfl, by decide, by decide⟩ rfl hl.1 rfl (Nat.le_of_ble_eq_true rfl) d_Model_choice_3 ⟨Nat.zero_le _, Nat.zero_le _⟩) hZ (fun r3 S3 H locs hp3 hZ => ?_)
  obtain ⟨rfl, hb3, hg3⟩ := hp3
  refine zz_beq (tgt := 13) hC d_Model_choice_6 (by decide) (fun h6 => ?_) (fun h6 => ?_)
  · obtain ⟨ho3, gs, qs, hlb, hrows⟩ := hg3 h6
    have hgd : ((0 ≤ nd.toInt ∧ nd.toInt < (md_n sz m t : Int)) ∧ (0 ≤ k.toInt ∧ k.toInt < 4)) := by omega
    have hcn := zz_clamp hgd.1.1
    have hck := zz_clamp hgd.2.1
    have ht0 : t ≠ 0 := fun e => by rw [hmd.1 e] at hgd; omega
    have h2t := h2ts.1 (by omega)
    have hmd2 := hmd.2 ht0
    have hTi : mt_ok S3 op nu sz ht m t ps := mt_keep hT (by rw [(ho3 0 (by unfold mr_X; omega)).1]) (by rw [(ho3 0 (by unfold mr_X; omega)).1]) (fun c h1 h2 => (ho3 c (by unfold mr_X; omega)).1)
    refine lv_aload_n hx_ hb_ d_Model_choice_13 rfl (lv_at hl 0 rfl) ?_
    refine zz_get hC hK hZ 0 14 (Nat.le_of_ble_eq_true rfl) (mc_0 q _ _) rfl hin_Model (by decide) wd_521 rfl rfl d_Model_choice_14 ?_
    refine lv_iconst (v := nI 4) hx_ hb_ d_Model_choice_17 (by decide) ?_
    refine lv_aload_n hx_ hb_ d_Model_choice_18 rfl (lv_at hl 0 rfl) ?_
    refine zz_get hC hK hZ 0 12 (Nat.le_of_ble_eq_true rfl) (mc_0 q _ _) rfl hin_Model (by decide) wd_519 rfl rfl d_Model_choice_19 ?_
    refine lv_aload_n hx_ hb_ d_Model_choice_22 rfl (lv_at hl 0 rfl) ?_
    refine zz_get hC hK hZ 0 11 (Nat.le_of_ble_eq_true rfl) (mc_0 q _ _) rfl hin_Model (by decide) wd_518 rfl rfl d_Model_choice_23 ?_
    refine zz_topi (y := nI t) hTi.2.1 ?_
    refine lv_iconst (v := nI 1) hx_ hb_ d_Model_choice_26 (by decide) ?_
    refine lv_isub hx_ hb_ d_Model_choice_27 ?_
    refine zz_topi (y := nI (t - 1)) (pk_sub (by omega)) ?_
    refine zz_iald hC hK hZ 10 0 (t - 1) (Nat.le_of_ble_eq_true rfl) (mc_10 q _ _) rfl rfl (by omega) (by decide) rfl d_Model_choice_28 ?_
    refine zz_topi (y := nI ((m - sz (m - 1)))) (by rw [hTi.2.2.2.2.2.2.2.2 (t - 1) (by omega), show ps (t - 1) = (m - sz (m - 1)) by omega]) ?_
    refine lv_iload_n hx_ hb_ d_Model_choice_29 rfl (lv_at hl 1 rfl) ?_
    refine zz_topi (y := nI nd.toNatClampNeg) hcn.1 ?_
    refine lv_iadd hx_ hb_ d_Model_choice_30 ?_
    refine zz_topi (y := nI (((m - sz (m - 1))) + nd.toNatClampNeg)) (nI_add _ _) ?_
    refine lv_imul hx_ hb_ d_Model_choice_31 ?_
    refine zz_topi (y := nI (4 * (((m - sz (m - 1))) + nd.toNatClampNeg))) (pk_mul _ _) ?_
    refine lv_iload_n hx_ hb_ d_Model_choice_32 rfl (lv_at hl 2 rfl) ?_
    refine zz_topi (y := nI k.toNatClampNeg) hck.1 ?_
    refine lv_iadd hx_ hb_ d_Model_choice_33 ?_
    refine zz_topi (y := nI ((4 * (((m - sz (m - 1))) + nd.toNatClampNeg)) + k.toNatClampNeg)) (nI_add _ _) ?_
    refine zz_iald hC hK hZ 12 0 ((4 * (((m - sz (m - 1))) + nd.toNatClampNeg)) + k.toNatClampNeg) (Nat.le_of_ble_eq_true rfl) (mc_12 q _ _) rfl rfl (by omega) (by decide) rfl d_Model_choice_34 ?_
    refine zz_topi (y := vw_p (qs ((m - sz (m - 1)) + nd.toNatClampNeg) k.toNatClampNeg)) (hrows ((m - sz (m - 1)) + nd.toNatClampNeg) (by omega) (by omega) k.toNatClampNeg (by omega)).2 ?_
    exact zz_iret hC hK hZ rfl d_Model_choice_35 (Or.inr ⟨hgd, ho3, gs, qs, hlb, rfl⟩)
  · refine lv_iconst (v := (-1)) hx_ hb_ d_Model_choice_9 (by decide) ?_
    refine lv_goto (tgt := 35) hx_ hb_ d_Model_choice_10 (by decide) ?_
    exact zz_iret hC hK hZ rfl d_Model_choice_35 (Or.inl ⟨h6, rfl, hb3 h6⟩)
set_option maxHeartbeats 4000000 in
set_option maxRecDepth 100000 in
theorem c_Model_cost (l : Launch) (q : xg_T) (S : zz_S) (k : Int32) (rl : mx_R) (R : Nat) (hB : mb_ok S rl R) (op : Nat → Nat) (nu : Nat → Int32) (sz ht : Nat → Nat) (m t : Nat) (ps : Nat → Nat) (hT : mt_ok S op nu sz ht m t ps) : Met l y_Model_cost (Cond.code y_Model_cost b_Model_cost 4 (some .int) :: zz_tbl) rm_Model_cost (zz_Pc [.ref (zz_ad (mg_G q) 0), .int k] (mg_G q) S) (va_Qi (fun ans S1 => (¬ (t ≠ 0 ∧ (0 ≤ k.toInt ∧ k.toInt < 4)) ∧ ans = -1 ∧ S = S1) ∨ ((t ≠ 0 ∧ (0 ≤ k.toInt ∧ k.toInt < 4)) ∧ zz_off mr_X S S1 ∧ ∃ gs qs, (∀ i, (m - sz (m - 1)) ≤ i → i < m → xq_lab rl R op sz gs qs i) ∧ ans = if gs (m - 1) k.toNatClampNeg < mx_far then nI (gs (m - 1) k.toNatClampNeg) else -3)) (zz_P (mg_G q)) (zz_A (mg_G q))) 0 0 (zz_A (mg_G q)) := by
  refine zz_met (by decide) (Nat.le_of_ble_eq_true rfl) ?_
  intro p_ e_ s_ m_ bl_ mt_ c_ ls hC hK hZ hl
  have hC : zz_C p_ s_ m_ _ mt_ c_ b_Model_cost 4 (some .int) "TreeCoverForgeModel" := hC
  have hx_ := hC.1
  have hb_ := hC.2.1
  have hl : lv_has ls 4 [(0, .ref (zz_ad (mg_G q) 0)), (1, .int k)] := hl
  have hok := hB.2.2.1
  have hm := hT.2.2.1
  have htm := hT.2.2.2.1
  have htr := hT.2.2.2.2.2.1
  have hts := hT.2.2.2.2.2.2.2.1
  have hps := hT.2.2.2.2.2.2.2.2
  have h2ts := ts_two hts
  have hmd : (t = 0 → md_n sz m t = 0) ∧ (t ≠ 0 → md_n sz m t = sz (m - 1)) := ⟨fun h => by rw [md_n, if_pos h], fun h => by rw [md_n, if_neg h]⟩
  have hfar := vw_far
  refine lv_iload_n hx_ hb_ d_Model_cost_0 rfl (lv_at hl 1 rfl) ?_
  refine lv_iconst (v := nI 3) hx_ hb_ d_Model_cost_1 (by decide) ?_
  refine zz_ci (zz_rS (As := [.int k, .int (nI 3)]) (rest := []) hC hK hZ (c_Model_outside l q S k 3 (by omega)) k_Model_outside wd_629 ⟨rfl, rfl, by decide, by decide⟩ rfl hl.1 rfl (Nat.le_of_ble_eq_true rfl) d_Model_cost_2 ⟨Nat.zero_le _, Nat.zero_le _⟩) hZ (fun r2 S2 H locs hp2 hZ => ?_)
  obtain ⟨rfl, rfl⟩ := hp2
  refine zz_bne (tgt := 15) hC d_Model_cost_5 (by decide) (fun h5 => ?_) (fun h5 => ?_)
  · refine lv_iconst (v := (-1)) hx_ hb_ d_Model_cost_15 (by decide) ?_
    exact zz_iret hC hK hZ rfl d_Model_cost_16 (Or.inl ⟨by omega, rfl, rfl⟩)
  · refine lv_aload_n hx_ hb_ d_Model_cost_8 rfl (lv_at hl 0 rfl) ?_
    refine zz_ci (zz_rV (As := []) (rest := []) hC hK hZ 0 (c_Model_work l q S rl R hB op nu sz ht m t ps hT) k_Model_work (Nat.le_of_ble_eq_true rfl) (mc_0 q _ _) rfl wd_689 ⟨rfl, rfl, by decide, by decide⟩ rfl hl.1 rfl (Nat.le_of_ble_eq_true rfl) d_Model_cost_9 ⟨Nat.zero_le _, Nat.zero_le _⟩) hZ (fun r9 S9 H locs hp9 hZ => ?_)
    have hq9 : r9 = nI (if t ≠ 0 then 1 else 0) := hp9.elim (fun h => by rw [if_neg (fun e => e h.1)]; exact h.2.1) (fun h => by rw [if_pos h.1]; exact h.2.1)
    subst hq9
    refine zz_bne (tgt := 17) hC d_Model_cost_12 (by decide) (fun h12 => ?_) (fun h12 => ?_)
    · obtain ⟨ht0, _, ho9, gs, qs, hlb, hrows⟩ := hp9.resolve_left (fun h => h12 h.1)
      have h2t := h2ts.1 (by omega)
      have hck := zz_clamp (show 0 ≤ k.toInt by omega)
      have hTi : mt_ok S9 op nu sz ht m t ps := mt_keep hT (by rw [(ho9 0 (by unfold mr_X; omega)).1]) (by rw [(ho9 0 (by unfold mr_X; omega)).1]) (fun c h1 h2 => (ho9 c (by unfold mr_X; omega)).1)
      have hgb := (hlb (m - 1) (by omega) (by omega)).1.1.1 k.toNatClampNeg (by omega)
      refine lv_aload_n hx_ hb_ d_Model_cost_17 rfl (lv_at hl 0 rfl) ?_
      refine zz_get hC hK hZ 0 13 (Nat.le_of_ble_eq_true rfl) (mc_0 q _ _) rfl hin_Model (by decide) wd_520 rfl rfl d_Model_cost_18 ?_
      refine lv_iconst (v := nI 4) hx_ hb_ d_Model_cost_21 (by decide) ?_
      refine lv_aload_n hx_ hb_ d_Model_cost_22 rfl (lv_at hl 0 rfl) ?_
      refine zz_get hC hK hZ 0 6 (Nat.le_of_ble_eq_true rfl) (mc_0 q _ _) rfl hin_Model (by decide) wd_513 rfl rfl d_Model_cost_23 ?_
      refine zz_topi (y := nI m) hTi.1 ?_
      refine lv_iconst (v := nI 1) hx_ hb_ d_Model_cost_26 (by decide) ?_
      refine lv_isub hx_ hb_ d_Model_cost_27 ?_
      refine zz_topi (y := nI (m - 1)) (pk_sub (by omega)) ?_
      refine lv_imul hx_ hb_ d_Model_cost_28 ?_
      refine zz_topi (y := nI (4 * (m - 1))) (pk_mul _ _) ?_
      refine lv_iload_n hx_ hb_ d_Model_cost_29 rfl (lv_at hl 1 rfl) ?_
      refine zz_topi (y := nI k.toNatClampNeg) hck.1 ?_
      refine lv_iadd hx_ hb_ d_Model_cost_30 ?_
      refine zz_topi (y := nI ((4 * (m - 1)) + k.toNatClampNeg)) (nI_add _ _) ?_
      refine zz_lald hC hK hZ 11 1 ((4 * (m - 1)) + k.toNatClampNeg) (Nat.le_of_ble_eq_true rfl) (mc_11 q _ _) rfl rfl (by omega) (by decide) rfl d_Model_cost_31 ?_
      refine zz_topl (y := lN (gs (m - 1) k.toNatClampNeg)) (hrows (m - 1) (by omega) (by omega) k.toNatClampNeg (by omega)).1 ?_
      refine lv_lstore_n (i := 2) (lv' := [(2, .long (lN (gs (m - 1) k.toNatClampNeg))), (0, .ref (zz_ad (mg_G q) 0)), (1, .int k)]) hx_ hb_ d_Model_cost_32 rfl hl (by decide) rfl (fun ls hl => ?_)
      refine lv_lload_n hx_ hb_ d_Model_cost_33 rfl (lv_at hl 0 rfl) ?_
      refine lv_ldc2 (v := lN 1125899906842624) hx_ hb_ hC.2.2.2.1 (hC.2.2.2.2.1 _ wd_644) d_Model_cost_34 ?_
      refine W.lcmp hx_ hb_ d_Model_cost_37 ?_
      refine lv_if_ne (tgt := 46) hx_ hb_ d_Model_cost_38 (by decide) (fun h38 => ?_) (fun h38 => ?_)
      · have h38 : ¬ ((lN (gs (m - 1) k.toNatClampNeg)) = (lN 1125899906842624)) := fun x => h38 ((lg_cmp_eq _ _).mpr x)
        rw [pk_lEQ (by omega) (by omega)] at h38
        refine lv_lload_n hx_ hb_ d_Model_cost_46 rfl (lv_at hl 0 rfl) ?_
        refine lv_l2i hx_ hb_ d_Model_cost_47 rfl ?_
        refine zz_topi (y := nI (gs (m - 1) k.toNatClampNeg)) (lN_i _) ?_
        exact zz_iret hC hK hZ rfl d_Model_cost_48 (Or.inr ⟨⟨ht0, by omega⟩, ho9, gs, qs, hlb, by rw [if_pos (by omega)]⟩)
      · have h38 : (lN (gs (m - 1) k.toNatClampNeg)) = (lN 1125899906842624) := (lg_cmp_eq _ _).mp h38
        rw [pk_lEQ (by omega) (by omega)] at h38
        refine lv_bipush (v := (-3)) hx_ hb_ d_Model_cost_41 (by decide) ?_
        refine lv_goto (tgt := 48) hx_ hb_ d_Model_cost_43 (by decide) ?_
        exact zz_iret hC hK hZ rfl d_Model_cost_48 (Or.inr ⟨⟨ht0, by omega⟩, ho9, gs, qs, hlb, by rw [if_neg (by omega)]⟩)
    · refine lv_iconst (v := (-1)) hx_ hb_ d_Model_cost_15 (by decide) ?_
      exact zz_iret hC hK hZ rfl d_Model_cost_16 (Or.inl ⟨fun h => h12 h.1, rfl, hp9.elim (fun h => h.2.2) (fun h => absurd h.1 h12)⟩)
set_option maxHeartbeats 4000000 in
set_option maxRecDepth 100000 in
theorem c_Model_relative (l : Launch) (q : xg_T) (S : zz_S) (nd k : Int32) (rl : mx_R) (R : Nat) (hB : mb_ok S rl R) (op : Nat → Nat) (nu : Nat → Int32) (sz ht : Nat → Nat) (m t : Nat) (ps : Nat → Nat) (hT : mt_ok S op nu sz ht m t ps) : Met l y_Model_relative (Cond.code y_Model_relative b_Model_relative 7 (some .int) :: zz_tbl) rm_Model_relative (zz_Pc [.ref (zz_ad (mg_G q) 0), .int nd, .int k] (mg_G q) S) (va_Qi (fun ans S1 => (¬ ((0 ≤ nd.toInt ∧ nd.toInt < (md_n sz m t : Int)) ∧ (0 ≤ k.toInt ∧ k.toInt < 4)) ∧ ans = -1 ∧ S = S1) ∨ (((0 ≤ nd.toInt ∧ nd.toInt < (md_n sz m t : Int)) ∧ (0 ≤ k.toInt ∧ k.toInt < 4)) ∧ zz_off mr_X S S1 ∧ ∃ gs qs, (∀ i, (m - sz (m - 1)) ≤ i → i < m → xq_lab rl R op sz gs qs i) ∧ ans = if gs ((m - sz (m - 1)) + nd.toNatClampNeg) k.toNatClampNeg < mx_far then nI (gs ((m - sz (m - 1)) + nd.toNatClampNeg) k.toNatClampNeg - ns_low (gs ((m - sz (m - 1)) + nd.toNatClampNeg))) else -3)) (zz_P (mg_G q)) (zz_A (mg_G q))) 0 0 (zz_A (mg_G q)) := by
  refine zz_met (by decide) (Nat.le_of_ble_eq_true rfl) ?_
  intro p_ e_ s_ m_ bl_ mt_ c_ ls hC hK hZ hl
  have hC : zz_C p_ s_ m_ _ mt_ c_ b_Model_relative 7 (some .int) "TreeCoverForgeModel" := hC
  have hx_ := hC.1
  have hb_ := hC.2.1
  have hl : lv_has ls 7 [(0, .ref (zz_ad (mg_G q) 0)), (1, .int nd), (2, .int k)] := hl
  have hok := hB.2.2.1
  have hm := hT.2.2.1
  have htm := hT.2.2.2.1
  have htr := hT.2.2.2.2.2.1
  have hts := hT.2.2.2.2.2.2.2.1
  have hps := hT.2.2.2.2.2.2.2.2
  have h2ts := ts_two hts
  have hmd : (t = 0 → md_n sz m t = 0) ∧ (t ≠ 0 → md_n sz m t = sz (m - 1)) := ⟨fun h => by rw [md_n, if_pos h], fun h => by rw [md_n, if_neg h]⟩
  have hfar := vw_far
  have L33_ : ∀ (n_ : Nat) (j : Nat) (v : Int64) (gs : Nat → Nat → Nat) (qs : Nat → Nat → Nat) (Si : zz_S) (H : Heap) (locs : List Loc) (ls : Array Slot) (hgd : ((0 ≤ nd.toInt ∧ nd.toInt < (md_n sz m t : Int)) ∧ (0 ≤ k.toInt ∧ k.toInt < 4))) (ho3 : zz_off mr_X S Si) (hlb : (∀ i, (m - sz (m - 1)) ≤ i → i < m → xq_lab rl R op sz gs qs i)) (hrows : mr_ok Si gs qs (m - sz (m - 1)) m) (hj : j ≤ 4) (hv : v = lN (xl_lo (gs ((m - sz (m - 1)) + nd.toNatClampNeg)) j)) (hZ : zz_Z (mg_G q) Si s_.heap H locs) (hl : lv_has ls 7 [(0, .ref (zz_ad (mg_G q) 0)), (1, .int nd), (2, .int k), (3, .int (nI (((m - sz (m - 1)) + nd.toNatClampNeg)))), (4, .long v), (6, .int (nI j))]) (hn_ : 4 - j = n_), W p_ l e_ rm_Model_relative s_ m_ ([.ref (zz_ad (mg_G q) 0), .int nd, .int k] : List Value).toArray bl_ mt_ c_ H locs 0 0 (MQ bl_ (va_Qi (fun ans S1 => (¬ ((0 ≤ nd.toInt ∧ nd.toInt < (md_n sz m t : Int)) ∧ (0 ≤ k.toInt ∧ k.toInt < 4)) ∧ ans = -1 ∧ S = S1) ∨ (((0 ≤ nd.toInt ∧ nd.toInt < (md_n sz m t : Int)) ∧ (0 ≤ k.toInt ∧ k.toInt < 4)) ∧ zz_off mr_X S S1 ∧ ∃ gs qs, (∀ i, (m - sz (m - 1)) ≤ i → i < m → xq_lab rl R op sz gs qs i) ∧ ans = if gs ((m - sz (m - 1)) + nd.toNatClampNeg) k.toNatClampNeg < mx_far then nI (gs ((m - sz (m - 1)) + nd.toNatClampNeg) k.toNatClampNeg - ns_low (gs ((m - sz (m - 1)) + nd.toNatClampNeg))) else -3)) (zz_P (mg_G q)) (zz_A (mg_G q))) ([.ref (zz_ad (mg_G q) 0), .int nd, .int k] : List Value).toArray s_ 0 0 (zz_A (mg_G q))) (F0 m_ 33 ls []) := by
    intro n_
    induction n_ using Nat.strongRecOn with
    | ind n_ ih_ =>
      intro j v gs qs Si H locs ls hgd ho3 hlb hrows hj hv hZ hl hn_
      have hcn := zz_clamp hgd.1.1
      have hck := zz_clamp hgd.2.1
      have ht0 : t ≠ 0 := fun e => by rw [hmd.1 e] at hgd; omega
      have h2t := h2ts.1 (by omega)
      have hmd2 := hmd.2 ht0
      have hgb := (hlb ((m - sz (m - 1)) + nd.toNatClampNeg) (by omega) (by omega)).1.1.1
      have hgk := hgb k.toNatClampNeg (by omega)
      refine lv_iload hx_ hb_ d_Model_relative_33 (lv_at hl 5 rfl) ?_
      refine lv_iconst (v := nI 4) hx_ hb_ d_Model_relative_35 (by decide) ?_
      refine zz_jge (tgt := 80) hC d_Model_relative_36 (by decide) (by omega) (by omega) (fun h36 => ?_) (fun h36 => ?_)
      · have hlow : ns_low (gs ((m - sz (m - 1)) + nd.toNatClampNeg)) ≤ gs ((m - sz (m - 1)) + nd.toNatClampNeg) k.toNatClampNeg := ns_low_le (by omega)
        refine lv_aload_n hx_ hb_ d_Model_relative_80 rfl (lv_at hl 0 rfl) ?_
        refine zz_get hC hK hZ 0 13 (Nat.le_of_ble_eq_true rfl) (mc_0 q _ _) rfl hin_Model (by decide) wd_520 rfl rfl d_Model_relative_81 ?_
        refine lv_iconst (v := nI 4) hx_ hb_ d_Model_relative_84 (by decide) ?_
        refine lv_iload_n hx_ hb_ d_Model_relative_85 rfl (lv_at hl 3 rfl) ?_
        refine lv_imul hx_ hb_ d_Model_relative_86 ?_
        refine zz_topi (y := nI (4 * (((m - sz (m - 1)) + nd.toNatClampNeg)))) (pk_mul _ _) ?_
        refine lv_iload_n hx_ hb_ d_Model_relative_87 rfl (lv_at hl 2 rfl) ?_
        refine zz_topi (y := nI k.toNatClampNeg) hck.1 ?_
        refine lv_iadd hx_ hb_ d_Model_relative_88 ?_
        refine zz_topi (y := nI ((4 * (((m - sz (m - 1)) + nd.toNatClampNeg))) + k.toNatClampNeg)) (nI_add _ _) ?_
        refine zz_lald hC hK hZ 11 1 ((4 * (((m - sz (m - 1)) + nd.toNatClampNeg))) + k.toNatClampNeg) (Nat.le_of_ble_eq_true rfl) (mc_11 q _ _) rfl rfl (by omega) (by decide) rfl d_Model_relative_89 ?_
        refine zz_topl (y := lN (gs ((m - sz (m - 1)) + nd.toNatClampNeg) k.toNatClampNeg)) (hrows ((m - sz (m - 1)) + nd.toNatClampNeg) (by omega) (by omega) k.toNatClampNeg (by omega)).1 ?_
        refine lv_ldc2 (v := lN 1125899906842624) hx_ hb_ hC.2.2.2.1 (hC.2.2.2.2.1 _ wd_644) d_Model_relative_90 ?_
        refine W.lcmp hx_ hb_ d_Model_relative_93 ?_
        refine lv_if_ne (tgt := 102) hx_ hb_ d_Model_relative_94 (by decide) (fun h94 => ?_) (fun h94 => ?_)
        · have h94 : ¬ ((lN (gs ((m - sz (m - 1)) + nd.toNatClampNeg) k.toNatClampNeg)) = (lN 1125899906842624)) := fun x => h94 ((lg_cmp_eq _ _).mpr x)
          rw [pk_lEQ (by omega) (by omega)] at h94
          refine lv_aload_n hx_ hb_ d_Model_relative_102 rfl (lv_at hl 0 rfl) ?_
          refine zz_get hC hK hZ 0 13 (Nat.le_of_ble_eq_true rfl) (mc_0 q _ _) rfl hin_Model (by decide) wd_520 rfl rfl d_Model_relative_103 ?_
          refine lv_iconst (v := nI 4) hx_ hb_ d_Model_relative_106 (by decide) ?_
          refine lv_iload_n hx_ hb_ d_Model_relative_107 rfl (lv_at hl 3 rfl) ?_
          refine lv_imul hx_ hb_ d_Model_relative_108 ?_
          refine zz_topi (y := nI (4 * (((m - sz (m - 1)) + nd.toNatClampNeg)))) (pk_mul _ _) ?_
          refine lv_iload_n hx_ hb_ d_Model_relative_109 rfl (lv_at hl 2 rfl) ?_
          refine zz_topi (y := nI k.toNatClampNeg) hck.1 ?_
          refine lv_iadd hx_ hb_ d_Model_relative_110 ?_
          refine zz_topi (y := nI ((4 * (((m - sz (m - 1)) + nd.toNatClampNeg))) + k.toNatClampNeg)) (nI_add _ _) ?_
          refine zz_lald hC hK hZ 11 1 ((4 * (((m - sz (m - 1)) + nd.toNatClampNeg))) + k.toNatClampNeg) (Nat.le_of_ble_eq_true rfl) (mc_11 q _ _) rfl rfl (by omega) (by decide) rfl d_Model_relative_111 ?_
          refine zz_topl (y := lN (gs ((m - sz (m - 1)) + nd.toNatClampNeg) k.toNatClampNeg)) (hrows ((m - sz (m - 1)) + nd.toNatClampNeg) (by omega) (by omega) k.toNatClampNeg (by omega)).1 ?_
          refine lv_lload hx_ hb_ d_Model_relative_112 (lv_at hl 4 rfl) ?_
          refine zz_topl (y := lN (ns_low (gs ((m - sz (m - 1)) + nd.toNatClampNeg)))) (by rw [hv, show j = 4 by omega, xl_lo4 hgb]) ?_
          refine lv_lsub hx_ hb_ d_Model_relative_114 ?_
          refine zz_topl (y := lN (gs ((m - sz (m - 1)) + nd.toNatClampNeg) k.toNatClampNeg - ns_low (gs ((m - sz (m - 1)) + nd.toNatClampNeg)))) (lN_sub hlow) ?_
          refine lv_l2i hx_ hb_ d_Model_relative_115 rfl ?_
          refine zz_topi (y := nI (gs ((m - sz (m - 1)) + nd.toNatClampNeg) k.toNatClampNeg - ns_low (gs ((m - sz (m - 1)) + nd.toNatClampNeg)))) (lN_i _) ?_
          exact zz_iret hC hK hZ rfl d_Model_relative_116 (Or.inr ⟨hgd, ho3, gs, qs, hlb, by rw [if_pos (by omega)]⟩)
        · have h94 : (lN (gs ((m - sz (m - 1)) + nd.toNatClampNeg) k.toNatClampNeg)) = (lN 1125899906842624) := (lg_cmp_eq _ _).mp h94
          rw [pk_lEQ (by omega) (by omega)] at h94
          refine lv_bipush (v := (-3)) hx_ hb_ d_Model_relative_97 (by decide) ?_
          refine lv_goto (tgt := 116) hx_ hb_ d_Model_relative_99 (by decide) ?_
          exact zz_iret hC hK hZ rfl d_Model_relative_116 (Or.inr ⟨hgd, ho3, gs, qs, hlb, by rw [if_neg (by omega)]⟩)
      · have hlo := xl_lo_le (gs ((m - sz (m - 1)) + nd.toNatClampNeg)) j
        have hgj := hgb j (by omega)
        refine lv_aload_n hx_ hb_ d_Model_relative_39 rfl (lv_at hl 0 rfl) ?_
        refine zz_get hC hK hZ 0 13 (Nat.le_of_ble_eq_true rfl) (mc_0 q _ _) rfl hin_Model (by decide) wd_520 rfl rfl d_Model_relative_40 ?_
        refine lv_iconst (v := nI 4) hx_ hb_ d_Model_relative_43 (by decide) ?_
        refine lv_iload_n hx_ hb_ d_Model_relative_44 rfl (lv_at hl 3 rfl) ?_
        refine lv_imul hx_ hb_ d_Model_relative_45 ?_
        refine zz_topi (y := nI (4 * (((m - sz (m - 1)) + nd.toNatClampNeg)))) (pk_mul _ _) ?_
        refine lv_iload hx_ hb_ d_Model_relative_46 (lv_at hl 5 rfl) ?_
        refine lv_iadd hx_ hb_ d_Model_relative_48 ?_
        refine zz_topi (y := nI ((4 * (((m - sz (m - 1)) + nd.toNatClampNeg))) + j)) (nI_add _ _) ?_
        refine zz_lald hC hK hZ 11 1 ((4 * (((m - sz (m - 1)) + nd.toNatClampNeg))) + j) (Nat.le_of_ble_eq_true rfl) (mc_11 q _ _) rfl rfl (by omega) (by decide) rfl d_Model_relative_49 ?_
        refine zz_topl (y := lN (gs ((m - sz (m - 1)) + nd.toNatClampNeg) j)) (hrows ((m - sz (m - 1)) + nd.toNatClampNeg) (by omega) (by omega) j (by omega)).1 ?_
        refine lv_lload hx_ hb_ d_Model_relative_50 (lv_at hl 4 rfl) ?_
        refine zz_topl (y := lN (xl_lo (gs ((m - sz (m - 1)) + nd.toNatClampNeg)) j)) hv ?_
        refine W.lcmp hx_ hb_ d_Model_relative_52 ?_
        refine lv_if_ge (tgt := 70) hx_ hb_ d_Model_relative_53 (by decide) (fun h53 => ?_) (fun h53 => ?_)
        · have h53 : (lN (xl_lo (gs ((m - sz (m - 1)) + nd.toNatClampNeg)) j)) ≤ (lN (gs ((m - sz (m - 1)) + nd.toNatClampNeg) j)) := (lg_cmp_ge _ _).mp h53
          rw [pk_lLE (by omega) (by omega)] at h53
          refine lv_lload hx_ hb_ d_Model_relative_70 (lv_at hl 4 rfl) ?_
          refine zz_topl (y := lN (xl_lo (gs ((m - sz (m - 1)) + nd.toNatClampNeg)) j)) hv ?_
          refine lv_lstore (i := 4) (lv' := [(4, .long (lN (xl_lo (gs ((m - sz (m - 1)) + nd.toNatClampNeg)) j))), (0, .ref (zz_ad (mg_G q) 0)), (1, .int nd), (2, .int k), (3, .int (nI (((m - sz (m - 1)) + nd.toNatClampNeg)))), (6, .int (nI j))]) hx_ hb_ d_Model_relative_72 hl (by decide) rfl (fun ls hl => ?_)
          refine lv_iinc (k := 5) (v := nI (j + 1)) (lv' := [(6, .int (nI (j + 1))), (4, .long (lN (xl_lo (gs ((m - sz (m - 1)) + nd.toNatClampNeg)) j))), (0, .ref (zz_ad (mg_G q) 0)), (1, .int nd), (2, .int k), (3, .int (nI (((m - sz (m - 1)) + nd.toNatClampNeg))))]) hx_ hb_ d_Model_relative_74 hl rfl (nI_add _ 1) (by decide) rfl (fun ls hl => ?_)
          refine lv_goto (tgt := 33) hx_ hb_ d_Model_relative_77 (by decide) ?_
          exact ih_ _ (by omega) (j + 1) (lN (xl_lo (gs ((m - sz (m - 1)) + nd.toNatClampNeg)) j)) gs qs Si  _ _ _ hgd ho3 hlb hrows (by omega) (by show _ = lN (min (xl_lo (gs ((m - sz (m - 1)) + nd.toNatClampNeg)) j) (gs ((m - sz (m - 1)) + nd.toNatClampNeg) j)); rw [Nat.min_eq_left (by omega)]) hZ (lv_sub hl [2, 3, 4, 5, 1, 0] rfl) rfl
        · have h53 : ¬ ((lN (xl_lo (gs ((m - sz (m - 1)) + nd.toNatClampNeg)) j)) ≤ (lN (gs ((m - sz (m - 1)) + nd.toNatClampNeg) j))) := fun x => h53 ((lg_cmp_ge _ _).mpr x)
          rw [pk_lLE (by omega) (by omega)] at h53
          refine lv_aload_n hx_ hb_ d_Model_relative_56 rfl (lv_at hl 0 rfl) ?_
          refine zz_get hC hK hZ 0 13 (Nat.le_of_ble_eq_true rfl) (mc_0 q _ _) rfl hin_Model (by decide) wd_520 rfl rfl d_Model_relative_57 ?_
          refine lv_iconst (v := nI 4) hx_ hb_ d_Model_relative_60 (by decide) ?_
          refine lv_iload_n hx_ hb_ d_Model_relative_61 rfl (lv_at hl 3 rfl) ?_
          refine lv_imul hx_ hb_ d_Model_relative_62 ?_
          refine zz_topi (y := nI (4 * (((m - sz (m - 1)) + nd.toNatClampNeg)))) (pk_mul _ _) ?_
          refine lv_iload hx_ hb_ d_Model_relative_63 (lv_at hl 5 rfl) ?_
          refine lv_iadd hx_ hb_ d_Model_relative_65 ?_
          refine zz_topi (y := nI ((4 * (((m - sz (m - 1)) + nd.toNatClampNeg))) + j)) (nI_add _ _) ?_
          refine zz_lald hC hK hZ 11 1 ((4 * (((m - sz (m - 1)) + nd.toNatClampNeg))) + j) (Nat.le_of_ble_eq_true rfl) (mc_11 q _ _) rfl rfl (by omega) (by decide) rfl d_Model_relative_66 ?_
          refine zz_topl (y := lN (gs ((m - sz (m - 1)) + nd.toNatClampNeg) j)) (hrows ((m - sz (m - 1)) + nd.toNatClampNeg) (by omega) (by omega) j (by omega)).1 ?_
          refine lv_goto (tgt := 72) hx_ hb_ d_Model_relative_67 (by decide) ?_
          refine lv_lstore (i := 4) (lv' := [(4, .long (lN (gs ((m - sz (m - 1)) + nd.toNatClampNeg) j))), (0, .ref (zz_ad (mg_G q) 0)), (1, .int nd), (2, .int k), (3, .int (nI (((m - sz (m - 1)) + nd.toNatClampNeg)))), (6, .int (nI j))]) hx_ hb_ d_Model_relative_72 hl (by decide) rfl (fun ls hl => ?_)
          refine lv_iinc (k := 5) (v := nI (j + 1)) (lv' := [(6, .int (nI (j + 1))), (4, .long (lN (gs ((m - sz (m - 1)) + nd.toNatClampNeg) j))), (0, .ref (zz_ad (mg_G q) 0)), (1, .int nd), (2, .int k), (3, .int (nI (((m - sz (m - 1)) + nd.toNatClampNeg))))]) hx_ hb_ d_Model_relative_74 hl rfl (nI_add _ 1) (by decide) rfl (fun ls hl => ?_)
          refine lv_goto (tgt := 33) hx_ hb_ d_Model_relative_77 (by decide) ?_
          exact ih_ _ (by omega) (j + 1) (lN (gs ((m - sz (m - 1)) + nd.toNatClampNeg) j)) gs qs Si  _ _ _ hgd ho3 hlb hrows (by omega) (by show _ = lN (min (xl_lo (gs ((m - sz (m - 1)) + nd.toNatClampNeg)) j) (gs ((m - sz (m - 1)) + nd.toNatClampNeg) j)); rw [Nat.min_eq_right (by omega)]) hZ (lv_sub hl [2, 3, 4, 5, 1, 0] rfl) rfl
  have L33 : ∀ (j : Nat) (v : Int64) (gs : Nat → Nat → Nat) (qs : Nat → Nat → Nat) (Si : zz_S) (H : Heap) (locs : List Loc) (ls : Array Slot) (hgd : ((0 ≤ nd.toInt ∧ nd.toInt < (md_n sz m t : Int)) ∧ (0 ≤ k.toInt ∧ k.toInt < 4))) (ho3 : zz_off mr_X S Si) (hlb : (∀ i, (m - sz (m - 1)) ≤ i → i < m → xq_lab rl R op sz gs qs i)) (hrows : mr_ok Si gs qs (m - sz (m - 1)) m) (hj : j ≤ 4) (hv : v = lN (xl_lo (gs ((m - sz (m - 1)) + nd.toNatClampNeg)) j)) (hZ : zz_Z (mg_G q) Si s_.heap H locs) (hl : lv_has ls 7 [(0, .ref (zz_ad (mg_G q) 0)), (1, .int nd), (2, .int k), (3, .int (nI (((m - sz (m - 1)) + nd.toNatClampNeg)))), (4, .long v), (6, .int (nI j))]), W p_ l e_ rm_Model_relative s_ m_ ([.ref (zz_ad (mg_G q) 0), .int nd, .int k] : List Value).toArray bl_ mt_ c_ H locs 0 0 (MQ bl_ (va_Qi (fun ans S1 => (¬ ((0 ≤ nd.toInt ∧ nd.toInt < (md_n sz m t : Int)) ∧ (0 ≤ k.toInt ∧ k.toInt < 4)) ∧ ans = -1 ∧ S = S1) ∨ (((0 ≤ nd.toInt ∧ nd.toInt < (md_n sz m t : Int)) ∧ (0 ≤ k.toInt ∧ k.toInt < 4)) ∧ zz_off mr_X S S1 ∧ ∃ gs qs, (∀ i, (m - sz (m - 1)) ≤ i → i < m → xq_lab rl R op sz gs qs i) ∧ ans = if gs ((m - sz (m - 1)) + nd.toNatClampNeg) k.toNatClampNeg < mx_far then nI (gs ((m - sz (m - 1)) + nd.toNatClampNeg) k.toNatClampNeg - ns_low (gs ((m - sz (m - 1)) + nd.toNatClampNeg))) else -3)) (zz_P (mg_G q)) (zz_A (mg_G q))) ([.ref (zz_ad (mg_G q) 0), .int nd, .int k] : List Value).toArray s_ 0 0 (zz_A (mg_G q))) (F0 m_ 33 ls []) := fun j v gs qs Si H locs ls hgd ho3 hlb hrows hj hv hZ hl => L33_ _ j v gs qs Si H locs ls hgd ho3 hlb hrows hj hv hZ hl rfl
  refine lv_aload_n hx_ hb_ d_Model_relative_0 rfl (lv_at hl 0 rfl) ?_
  refine lv_iload_n hx_ hb_ d_Model_relative_1 rfl (lv_at hl 1 rfl) ?_
  refine lv_iload_n hx_ hb_ d_Model_relative_2 rfl (lv_at hl 2 rfl) ?_
  refine zz_ci (zz_rV (As := [.int nd, .int k]) (rest := []) hC hK hZ 0 (c_Model_noNode l q S nd k rl R hB op nu sz ht m t ps hT) k_Model_noNode (Nat.le_of_ble_eq_true rfl) (mc_0 q _ _) rfl wd_684 ⟨rfl, rfl, by decide, by decide⟩ rfl hl.1 rfl (Nat.le_of_ble_eq_true rfl) d_Model_relative_3 ⟨Nat.zero_le _, Nat.zero_le _⟩) hZ (fun r3 S3 H locs hp3 hZ => ?_)
  obtain ⟨rfl, hb3, hg3⟩ := hp3
  refine zz_beq (tgt := 11) hC d_Model_relative_6 (by decide) (fun h6 => ?_) (fun h6 => ?_)
  · obtain ⟨ho3, gs, qs, hlb, hrows⟩ := hg3 h6
    have hgd : ((0 ≤ nd.toInt ∧ nd.toInt < (md_n sz m t : Int)) ∧ (0 ≤ k.toInt ∧ k.toInt < 4)) := by omega
    have hcn := zz_clamp hgd.1.1
    have hck := zz_clamp hgd.2.1
    have ht0 : t ≠ 0 := fun e => by rw [hmd.1 e] at hgd; omega
    have h2t := h2ts.1 (by omega)
    have hmd2 := hmd.2 ht0
    have hTi : mt_ok S3 op nu sz ht m t ps := mt_keep hT (by rw [(ho3 0 (by unfold mr_X; omega)).1]) (by rw [(ho3 0 (by unfold mr_X; omega)).1]) (fun c h1 h2 => (ho3 c (by unfold mr_X; omega)).1)
    refine lv_aload_n hx_ hb_ d_Model_relative_11 rfl (lv_at hl 0 rfl) ?_
    refine zz_get hC hK hZ 0 12 (Nat.le_of_ble_eq_true rfl) (mc_0 q _ _) rfl hin_Model (by decide) wd_519 rfl rfl d_Model_relative_12 ?_
    refine lv_aload_n hx_ hb_ d_Model_relative_15 rfl (lv_at hl 0 rfl) ?_
    refine zz_get hC hK hZ 0 11 (Nat.le_of_ble_eq_true rfl) (mc_0 q _ _) rfl hin_Model (by decide) wd_518 rfl rfl d_Model_relative_16 ?_
    refine zz_topi (y := nI t) hTi.2.1 ?_
    refine lv_iconst (v := nI 1) hx_ hb_ d_Model_relative_19 (by decide) ?_
    refine lv_isub hx_ hb_ d_Model_relative_20 ?_
    refine zz_topi (y := nI (t - 1)) (pk_sub (by omega)) ?_
    refine zz_iald hC hK hZ 10 0 (t - 1) (Nat.le_of_ble_eq_true rfl) (mc_10 q _ _) rfl rfl (by omega) (by decide) rfl d_Model_relative_21 ?_
    refine zz_topi (y := nI ((m - sz (m - 1)))) (by rw [hTi.2.2.2.2.2.2.2.2 (t - 1) (by omega), show ps (t - 1) = (m - sz (m - 1)) by omega]) ?_
    refine lv_iload_n hx_ hb_ d_Model_relative_22 rfl (lv_at hl 1 rfl) ?_
    refine zz_topi (y := nI nd.toNatClampNeg) hcn.1 ?_
    refine lv_iadd hx_ hb_ d_Model_relative_23 ?_
    refine zz_topi (y := nI (((m - sz (m - 1))) + nd.toNatClampNeg)) (nI_add _ _) ?_
    refine lv_istore_n (i := 3) (lv' := [(3, .int (nI (((m - sz (m - 1))) + nd.toNatClampNeg))), (0, .ref (zz_ad (mg_G q) 0)), (1, .int nd), (2, .int k)]) hx_ hb_ d_Model_relative_24 rfl hl (by decide) rfl (fun ls hl => ?_)
    refine lv_ldc2 (v := lN 1125899906842624) hx_ hb_ hC.2.2.2.1 (hC.2.2.2.2.1 _ wd_644) d_Model_relative_25 ?_
    refine lv_lstore (i := 4) (lv' := [(4, .long (lN 1125899906842624)), (3, .int (nI (((m - sz (m - 1))) + nd.toNatClampNeg))), (0, .ref (zz_ad (mg_G q) 0)), (1, .int nd), (2, .int k)]) hx_ hb_ d_Model_relative_28 hl (by decide) rfl (fun ls hl => ?_)
    refine lv_iconst (v := nI 0) hx_ hb_ d_Model_relative_30 (by decide) ?_
    refine lv_istore (i := 6) (lv' := [(6, .int (nI 0)), (4, .long (lN 1125899906842624)), (3, .int (nI (((m - sz (m - 1))) + nd.toNatClampNeg))), (0, .ref (zz_ad (mg_G q) 0)), (1, .int nd), (2, .int k)]) hx_ hb_ d_Model_relative_31 hl (by decide) rfl (fun ls hl => ?_)
    exact L33 0 (lN 1125899906842624) gs qs S3  _ _ _ hgd ho3 hlb hrows (Nat.zero_le _) rfl hZ (lv_sub hl [3, 4, 5, 2, 1, 0] rfl)
  · refine lv_iconst (v := (-1)) hx_ hb_ d_Model_relative_9 (by decide) ?_
    exact zz_iret hC hK hZ rfl d_Model_relative_10 (Or.inl ⟨h6, rfl, hb3 h6⟩)
set_option maxHeartbeats 4000000 in
set_option maxRecDepth 100000 in
theorem c_Model_registers (l : Launch) (q : xg_T) (S : zz_S) (x : Int32) : Met l y_Model_registers (Cond.code y_Model_registers b_Model_registers 2 (some .boolean) :: zz_tbl) rm_Model_registers (zz_Pc [.ref (zz_ad (mg_G q) 0), .int x] (mg_G q) S) (va_Qi (fun ans S1 => (¬ (1 ≤ x.toInt ∧ x.toInt ≤ 4) ∧ ans = nI 0 ∧ S = S1) ∨ ((1 ≤ x.toInt ∧ x.toInt ≤ 4) ∧ ans = nI 1 ∧ S1 = zz_u S 0 24 (nI x.toNatClampNeg))) (zz_P (mg_G q)) (zz_A (mg_G q))) 0 0 (zz_A (mg_G q)) := by
  refine zz_met (by decide) (Nat.le_of_ble_eq_true rfl) ?_
  intro p_ e_ s_ m_ bl_ mt_ c_ ls hC hK hZ hl
  have hC : zz_C p_ s_ m_ _ mt_ c_ b_Model_registers 2 (some .boolean) "TreeCoverForgeModel" := hC
  have hx_ := hC.1
  have hb_ := hC.2.1
  have hl : lv_has ls 2 [(0, .ref (zz_ad (mg_G q) 0)), (1, .int x)] := hl
  refine lv_iload_n hx_ hb_ d_Model_registers_0 rfl (lv_at hl 1 rfl) ?_
  refine lv_iconst (v := nI 1) hx_ hb_ d_Model_registers_1 (by decide) ?_
  refine zz_rjlt (tgt := 10) hC d_Model_registers_2 (by decide) (fun h2 => ?_) (fun h2 => ?_)
  · rw [nI_toInt (by omega)] at h2
    refine lv_iconst (v := nI 0) hx_ hb_ d_Model_registers_10 (by decide) ?_
    exact zz_zret hC hK hZ rfl d_Model_registers_11 (by decide) (Or.inl ⟨by omega, rfl, rfl⟩)
  · rw [nI_toInt (by omega)] at h2
    refine lv_iload_n hx_ hb_ d_Model_registers_5 rfl (lv_at hl 1 rfl) ?_
    refine lv_iconst (v := nI 4) hx_ hb_ d_Model_registers_6 (by decide) ?_
    refine zz_rjle (tgt := 12) hC d_Model_registers_7 (by decide) (fun h7 => ?_) (fun h7 => ?_)
    · rw [nI_toInt (by omega)] at h7
      have hcx := zz_clamp (show 0 ≤ x.toInt by omega)
      refine lv_aload_n hx_ hb_ d_Model_registers_12 rfl (lv_at hl 0 rfl) ?_
      refine lv_iload_n hx_ hb_ d_Model_registers_13 rfl (lv_at hl 1 rfl) ?_
      refine zz_topi (y := nI x.toNatClampNeg) hcx.1 ?_
      refine zz_put hC hK hZ 0 24 (Nat.le_of_ble_eq_true rfl) (mc_0 q _ _) rfl hin_Model t_Model t_Model_ok n_Model (by decide) wd_531 rfl rfl rfl (Nat.le_of_ble_eq_true rfl) (mput_24 q _ _ _ (mc_0 q _ _)) d_Model_registers_14 (fun H locs hZ => ?_)
      refine lv_iconst (v := nI 1) hx_ hb_ d_Model_registers_17 (by decide) ?_
      exact zz_zret hC hK hZ rfl d_Model_registers_18 (by decide) (Or.inr ⟨by omega, rfl, rfl⟩)
    · rw [nI_toInt (by omega)] at h7
      refine lv_iconst (v := nI 0) hx_ hb_ d_Model_registers_10 (by decide) ?_
      exact zz_zret hC hK hZ rfl d_Model_registers_11 (by decide) (Or.inl ⟨by omega, rfl, rfl⟩)
set_option maxHeartbeats 4000000 in
set_option maxRecDepth 100000 in
theorem c_Model_set (l : Launch) (q : xg_T) (S : zz_S) (v x : Int32) : Met l y_Model_set (Cond.code y_Model_set b_Model_set 3 (some .boolean) :: zz_tbl) rm_Model_set (zz_Pc [.ref (zz_ad (mg_G q) 0), .int v, .int x] (mg_G q) S) (va_Qi (fun ans S1 => (¬ (0 ≤ v.toInt ∧ v.toInt < 8) ∧ ans = nI 0 ∧ S = S1) ∨ ((0 ≤ v.toInt ∧ v.toInt < 8) ∧ ans = nI 1 ∧ S1 = zz_u S 31 v.toNatClampNeg x)) (zz_P (mg_G q)) (zz_A (mg_G q))) 0 0 (zz_A (mg_G q)) := by
  refine zz_met (by decide) (Nat.le_of_ble_eq_true rfl) ?_
  intro p_ e_ s_ m_ bl_ mt_ c_ ls hC hK hZ hl
  have hC : zz_C p_ s_ m_ _ mt_ c_ b_Model_set 3 (some .boolean) "TreeCoverForgeModel" := hC
  have hx_ := hC.1
  have hb_ := hC.2.1
  have hl : lv_has ls 3 [(0, .ref (zz_ad (mg_G q) 0)), (1, .int v), (2, .int x)] := hl
  refine lv_iload_n hx_ hb_ d_Model_set_0 rfl (lv_at hl 1 rfl) ?_
  refine lv_bipush (v := nI 7) hx_ hb_ d_Model_set_1 (by decide) ?_
  refine zz_ci (zz_rS (As := [.int v, .int (nI 7)]) (rest := []) hC hK hZ (c_Model_outside l q S v 7 (by omega)) k_Model_outside wd_629 ⟨rfl, rfl, by decide, by decide⟩ rfl hl.1 rfl (Nat.le_of_ble_eq_true rfl) d_Model_set_3 ⟨Nat.zero_le _, Nat.zero_le _⟩) hZ (fun r3 S3 H locs hp3 hZ => ?_)
  obtain ⟨rfl, rfl⟩ := hp3
  refine zz_beq (tgt := 11) hC d_Model_set_6 (by decide) (fun h6 => ?_) (fun h6 => ?_)
  · have hcv := zz_clamp (show 0 ≤ v.toInt by omega)
    refine lv_aload_n hx_ hb_ d_Model_set_11 rfl (lv_at hl 0 rfl) ?_
    refine zz_get hC hK hZ 0 37 (Nat.le_of_ble_eq_true rfl) (mc_0 q _ _) rfl hin_Model (by decide) wd_544 rfl rfl d_Model_set_12 ?_
    refine lv_iload_n hx_ hb_ d_Model_set_15 rfl (lv_at hl 1 rfl) ?_
    refine zz_topi (y := nI v.toNatClampNeg) hcv.1 ?_
    refine lv_iload_n hx_ hb_ d_Model_set_16 rfl (lv_at hl 2 rfl) ?_
    refine zz_iast hC hK hZ 31 0 v.toNatClampNeg (Nat.le_of_ble_eq_true rfl) (fun _ => mc_31 q _ _) rfl rfl (by omega) (by decide) d_Model_set_17 (fun H locs hZ => ?_)
    refine lv_iconst (v := nI 1) hx_ hb_ d_Model_set_18 (by decide) ?_
    exact zz_zret hC hK hZ rfl d_Model_set_19 (by decide) (Or.inr ⟨by omega, rfl, rfl⟩)
  · refine lv_iconst (v := nI 0) hx_ hb_ d_Model_set_9 (by decide) ?_
    exact zz_zret hC hK hZ rfl d_Model_set_10 (by decide) (Or.inl ⟨by omega, rfl, rfl⟩)
set_option maxHeartbeats 4000000 in
set_option maxRecDepth 100000 in
theorem c_Model_slots (l : Launch) (q : xg_T) (S : zz_S) (sc : Nat) (hsc : S.1 0 23 = nI sc) : Met l y_Model_slots (Cond.code y_Model_slots b_Model_slots 1 (some .int) :: zz_tbl) rm_Model_slots (zz_Pc [.ref (zz_ad (mg_G q) 0)] (mg_G q) S) (va_Qi (fun ans S1 => S = S1 ∧ ans = nI sc) (zz_P (mg_G q)) (zz_A (mg_G q))) 0 0 (zz_A (mg_G q)) := by
  refine zz_met (by decide) (Nat.le_of_ble_eq_true rfl) ?_
  intro p_ e_ s_ m_ bl_ mt_ c_ ls hC hK hZ hl
  have hC : zz_C p_ s_ m_ _ mt_ c_ b_Model_slots 1 (some .int) "TreeCoverForgeModel" := hC
  have hx_ := hC.1
  have hb_ := hC.2.1
  have hl : lv_has ls 1 [(0, .ref (zz_ad (mg_G q) 0))] := hl
  refine lv_aload_n hx_ hb_ d_Model_slots_0 rfl (lv_at hl 0 rfl) ?_
  refine zz_get hC hK hZ 0 23 (Nat.le_of_ble_eq_true rfl) (mc_0 q _ _) rfl hin_Model (by decide) wd_530 rfl rfl d_Model_slots_1 ?_
  refine zz_topi (y := nI sc) hsc ?_
  exact zz_iret hC hK hZ rfl d_Model_slots_4 ⟨rfl, rfl⟩
set_option maxHeartbeats 4000000 in
set_option maxRecDepth 100000 in
theorem c_Model_pop (l : Launch) (q : xg_T) (S : zz_S) (op : Nat → Nat) (nu : Nat → Int32) (sz ht : Nat → Nat) (m t : Nat) (ps : Nat → Nat) (hT : mt_ok S op nu sz ht m t ps) : Met l y_Model_pop (Cond.code y_Model_pop b_Model_pop 1 (some .boolean) :: zz_tbl) rm_Model_pop (zz_Pc [.ref (zz_ad (mg_G q) 0)] (mg_G q) S) (va_Qi (fun ans S1 => (t = 0 ∧ ans = nI 0 ∧ S = S1) ∨ (t ≠ 0 ∧ ans = nI 1 ∧ S1 = zz_u (zz_u S 0 11 (nI (t - 1))) 0 6 (nI (m - sz (m - 1))))) (zz_P (mg_G q)) (zz_A (mg_G q))) 0 0 (zz_A (mg_G q)) := by
  refine zz_met (by decide) (Nat.le_of_ble_eq_true rfl) ?_
  intro p_ e_ s_ m_ bl_ mt_ c_ ls hC hK hZ hl
  have hC : zz_C p_ s_ m_ _ mt_ c_ b_Model_pop 1 (some .boolean) "TreeCoverForgeModel" := hC
  have hx_ := hC.1
  have hb_ := hC.2.1
  have hl : lv_has ls 1 [(0, .ref (zz_ad (mg_G q) 0))] := hl
  have hm := hT.2.2.1
  have htm := hT.2.2.2.1
  have h2ts := ts_two hT.2.2.2.2.2.2.2.1
  refine lv_aload_n hx_ hb_ d_Model_pop_0 rfl (lv_at hl 0 rfl) ?_
  refine zz_get hC hK hZ 0 11 (Nat.le_of_ble_eq_true rfl) (mc_0 q _ _) rfl hin_Model (by decide) wd_518 rfl rfl d_Model_pop_1 ?_
  refine zz_topi (y := nI t) hT.2.1 ?_
  refine zz_ine (tgt := 9) hC d_Model_pop_4 (by decide) (by omega) (fun h4 => ?_) (fun h4 => ?_)
  · have h2t := h2ts.1 (by omega)
    refine lv_aload_n hx_ hb_ d_Model_pop_9 rfl (lv_at hl 0 rfl) ?_
    refine lv_dup hx_ hb_ d_Model_pop_10 rfl ?_
    refine zz_get hC hK hZ 0 11 (Nat.le_of_ble_eq_true rfl) (mc_0 q _ _) rfl hin_Model (by decide) wd_518 rfl rfl d_Model_pop_11 ?_
    refine zz_topi (y := nI t) hT.2.1 ?_
    refine lv_iconst (v := nI 1) hx_ hb_ d_Model_pop_14 (by decide) ?_
    refine lv_isub hx_ hb_ d_Model_pop_15 ?_
    refine zz_topi (y := nI (t - 1)) (pk_sub (by omega)) ?_
    refine zz_put hC hK hZ 0 11 (Nat.le_of_ble_eq_true rfl) (mc_0 q _ _) rfl hin_Model t_Model t_Model_ok n_Model (by decide) wd_518 rfl rfl rfl (Nat.le_of_ble_eq_true rfl) (mput_11 q _ _ _ (mc_0 q _ _)) d_Model_pop_16 (fun H locs hZ => ?_)
    refine lv_aload_n hx_ hb_ d_Model_pop_19 rfl (lv_at hl 0 rfl) ?_
    refine lv_aload_n hx_ hb_ d_Model_pop_20 rfl (lv_at hl 0 rfl) ?_
    refine zz_get hC hK hZ 0 12 (Nat.le_of_ble_eq_true rfl) (mc_0 q _ _) rfl hin_Model (by decide) wd_519 rfl rfl d_Model_pop_21 ?_
    refine lv_aload_n hx_ hb_ d_Model_pop_24 rfl (lv_at hl 0 rfl) ?_
    refine zz_get hC hK hZ 0 11 (Nat.le_of_ble_eq_true rfl) (mc_0 q _ _) rfl hin_Model (by decide) wd_518 rfl rfl d_Model_pop_25 ?_
    refine zz_topi (y := nI (t - 1)) (by rw [zz_u1s, pk_us]) ?_
    refine zz_iald hC hK hZ 10 0 (t - 1) (Nat.le_of_ble_eq_true rfl) (mc_10 q _ _) rfl rfl (by omega) (by decide) rfl d_Model_pop_28 ?_
    refine zz_topi (y := nI ((m - sz (m - 1)))) (by rw [zz_u1 _ 0 _ _ 10 (by omega), hT.2.2.2.2.2.2.2.2 (t - 1) (by omega), show ps (t - 1) = (m - sz (m - 1)) by omega]) ?_
    refine zz_put hC hK hZ 0 6 (Nat.le_of_ble_eq_true rfl) (mc_0 q _ _) rfl hin_Model t_Model t_Model_ok n_Model (by decide) wd_513 rfl rfl rfl (Nat.le_of_ble_eq_true rfl) (mput_6 q _ _ _ (mc_0 q _ _)) d_Model_pop_29 (fun H locs hZ => ?_)
    refine lv_iconst (v := nI 1) hx_ hb_ d_Model_pop_32 (by decide) ?_
    exact zz_zret hC hK hZ rfl d_Model_pop_33 (by decide) (Or.inr ⟨by omega, rfl, rfl⟩)
  · refine lv_iconst (v := nI 0) hx_ hb_ d_Model_pop_7 (by decide) ?_
    exact zz_zret hC hK hZ rfl d_Model_pop_8 (by decide) (Or.inl ⟨by omega, rfl, rfl⟩)
