/-! The reference: cover. Laid by wip/whole/prog/p33.py. -/
set_option maxHeartbeats 4000000 in
set_option maxRecDepth 100000 in
theorem c_Model_cover (l : Launch) (q : xg_T) (S : zz_S) (rl : mx_R) (R : Nat) (hB : mb_ok S rl R) (op : Nat → Nat) (nu : Nat → Int32) (sz ht : Nat → Nat) (m t : Nat) (ps : Nat → Nat) (hT : mt_ok S op nu sz ht m t ps) (reg : Nat) (hreg : S.1 0 24 = nI reg) (hrg : 1 ≤ reg ∧ reg ≤ 4) : Met l y_Model_cover (Cond.code y_Model_cover b_Model_cover 3 (some .int) :: zz_tbl) rm_Model_cover (zz_Pc [.ref (zz_ad (mg_G q) 0)] (mg_G q) S) (va_Qi (fun ans S1 => (t = 0 ∧ ans = -1 ∧ S = S1) ∨ (t ≠ 0 ∧ ∃ gs qs, (∀ i, (m - sz (m - 1)) ≤ i → i < m → xq_lab rl R op sz gs qs i) ∧ ((¬ gs (m - 1) 0 < mx_far ∧ ans = -3 ∧ zz_off mr_X S S1) ∨ (gs (m - 1) 0 < mx_far ∧ ∃ Wk pl2 sc2, wk_ok rl op sz gs qs Wk (m - sz (m - 1)) m ∧ pl_at reg (wr_st rl op nu sz qs Wk (m - sz (m - 1)) (sz (m - 1))).1.2.2.2.2.2.2.2 (wr_st rl op nu sz qs Wk (m - sz (m - 1)) (sz (m - 1))).1.1 pl2 sc2 ∧ ans = nI (wr_st rl op nu sz qs Wk (m - sz (m - 1)) (sz (m - 1))).1.1 ∧ zz_off cv_X S S1 ∧ (∀ j, j ≠ 22 → j ≠ 23 → S1.1 0 j = S.1 0 j) ∧ mk_cd S1 (wr_st rl op nu sz qs Wk (m - sz (m - 1)) (sz (m - 1))).1 ∧ S1.1 0 23 = nI sc2 ∧ ∀ j, j < (wr_st rl op nu sz qs Wk (m - sz (m - 1)) (sz (m - 1))).1.1 → S1.1 26 j = nI (pl2 j))))) (zz_P (mg_G q)) (zz_A (mg_G q))) 0 0 (zz_A (mg_G q)) := by
  refine zz_met (by decide) (Nat.le_of_ble_eq_true rfl) ?_
  intro p_ e_ s_ m_ bl_ mt_ c_ ls hC hK hZ hl
  have hC : zz_C p_ s_ m_ _ mt_ c_ b_Model_cover 3 (some .int) "TreeCoverForgeModel" := hC
  have hx_ := hC.1
  have hb_ := hC.2.1
  have hl : lv_has ls 3 [(0, .ref (zz_ad (mg_G q) 0))] := hl
  have hok := hB.2.2.1
  have hm := hT.2.2.1
  have htm := hT.2.2.2.1
  have htr := hT.2.2.2.2.2.1
  have hts := hT.2.2.2.2.2.2.2.1
  have hps := hT.2.2.2.2.2.2.2.2
  have h2ts := ts_two hts
  have hfar := vw_far
  have L85_ : ∀ (n_ : Nat) (i : Nat) (Si : zz_S) (pl : Nat → Nat) (sc : Nat) (gs : Nat → Nat → Nat) (qs : Nat → Nat → Nat) (Wk : Nat → Nat) (H : Heap) (locs : List Loc) (ls : Array Slot) (ht0 : t ≠ 0) (hlb : ∀ i, (m - sz (m - 1)) ≤ i → i < m → xq_lab rl R op sz gs qs i) (hcov : gs (m - 1) 0 < mx_far) (hW : wk_ok rl op sz gs qs Wk (m - sz (m - 1)) m) (ho : zz_off cv_X S Si) (hfl : ∀ j, j ≠ 22 → j ≠ 23 → Si.1 0 j = S.1 0 j) (hi : i ≤ (wr_st rl op nu sz qs Wk (m - sz (m - 1)) (sz (m - 1))).1.1) (hk : mk_cd Si (wr_st rl op nu sz qs Wk (m - sz (m - 1)) (sz (m - 1))).1) (hat : pl_at reg (wr_st rl op nu sz qs Wk (m - sz (m - 1)) (sz (m - 1))).1.2.2.2.2.2.2.2 i pl sc) (hsc : Si.1 0 23 = nI sc) (hpl : ∀ j, j < i → Si.1 26 j = nI (pl j)) (hZ : zz_Z (mg_G q) Si s_.heap H locs) (hl : lv_has ls 3 [(0, .ref (zz_ad (mg_G q) 0)), (2, .int (nI i))]) (hn_ : (wr_st rl op nu sz qs Wk (m - sz (m - 1)) (sz (m - 1))).1.1 - i = n_), W p_ l e_ rm_Model_cover s_ m_ ([.ref (zz_ad (mg_G q) 0)] : List Value).toArray bl_ mt_ c_ H locs 0 0 (MQ bl_ (va_Qi (fun ans S1 => (t = 0 ∧ ans = -1 ∧ S = S1) ∨ (t ≠ 0 ∧ ∃ gs qs, (∀ i, (m - sz (m - 1)) ≤ i → i < m → xq_lab rl R op sz gs qs i) ∧ ((¬ gs (m - 1) 0 < mx_far ∧ ans = -3 ∧ zz_off mr_X S S1) ∨ (gs (m - 1) 0 < mx_far ∧ ∃ Wk pl2 sc2, wk_ok rl op sz gs qs Wk (m - sz (m - 1)) m ∧ pl_at reg (wr_st rl op nu sz qs Wk (m - sz (m - 1)) (sz (m - 1))).1.2.2.2.2.2.2.2 (wr_st rl op nu sz qs Wk (m - sz (m - 1)) (sz (m - 1))).1.1 pl2 sc2 ∧ ans = nI (wr_st rl op nu sz qs Wk (m - sz (m - 1)) (sz (m - 1))).1.1 ∧ zz_off cv_X S S1 ∧ (∀ j, j ≠ 22 → j ≠ 23 → S1.1 0 j = S.1 0 j) ∧ mk_cd S1 (wr_st rl op nu sz qs Wk (m - sz (m - 1)) (sz (m - 1))).1 ∧ S1.1 0 23 = nI sc2 ∧ ∀ j, j < (wr_st rl op nu sz qs Wk (m - sz (m - 1)) (sz (m - 1))).1.1 → S1.1 26 j = nI (pl2 j))))) (zz_P (mg_G q)) (zz_A (mg_G q))) ([.ref (zz_ad (mg_G q) 0)] : List Value).toArray s_ 0 0 (zz_A (mg_G q))) (F0 m_ 85 ls []) := by
    intro n_
    induction n_ using Nat.strongRecOn with
    | ind n_ ih_ =>
      intro i Si pl sc gs qs Wk H locs ls ht0 hlb hcov hW ho hfl hi hk hat hsc hpl hZ hl hn_
      have hBi : mb_ok Si rl R := mb_keep hB (hfl 0 (by omega) (by omega)) (fun c h1 h2 => (ho c (by unfold cv_X; omega)).1)
      have hTi : mt_ok Si op nu sz ht m t ps := mt_keep hT (hfl 6 (by omega) (by omega)) (hfl 11 (by omega) (by omega)) (fun c h1 h2 => (ho c (by unfold cv_X; omega)).1)
      have h2t := h2ts.1 (by omega)
      have hfm : (m - sz (m - 1)) + sz (m - 1) = m := by omega
      have hn160 := hk.2.1
      have hcd := (wr_inv (nu := nu) hok htr (by omega) hfm hlb hW (sz (m - 1)) (by omega)).2.2.1
      have hpo := pl_ok_at (by omega) i hat
      refine lv_iload_n hx_ hb_ d_Model_cover_85 rfl (lv_at hl 1 rfl) ?_
      refine lv_aload_n hx_ hb_ d_Model_cover_86 rfl (lv_at hl 0 rfl) ?_
      refine zz_get hC hK hZ 0 22 (Nat.le_of_ble_eq_true rfl) (mc_0 q _ _) rfl hin_Model (by decide) wd_529 rfl rfl d_Model_cover_87 ?_
      refine zz_topi (y := nI ((wr_st rl op nu sz qs Wk (m - sz (m - 1)) (sz (m - 1))).1.1)) hk.1 ?_
      refine zz_jge (tgt := 104) hC d_Model_cover_90 (by decide) (by omega) (by omega) (fun h90 => ?_) (fun h90 => ?_)
      · refine lv_aload_n hx_ hb_ d_Model_cover_104 rfl (lv_at hl 0 rfl) ?_
        refine zz_get hC hK hZ 0 22 (Nat.le_of_ble_eq_true rfl) (mc_0 q _ _) rfl hin_Model (by decide) wd_529 rfl rfl d_Model_cover_105 ?_
        refine zz_topi (y := nI ((wr_st rl op nu sz qs Wk (m - sz (m - 1)) (sz (m - 1))).1.1)) hk.1 ?_
        exact zz_iret hC hK hZ rfl d_Model_cover_108 (Or.inr ⟨ht0, gs, qs, hlb, Or.inr ⟨hcov, Wk, pl, sc, hW, by
          rw [show i = (wr_st rl op nu sz qs Wk (m - sz (m - 1)) (sz (m - 1))).1.1 by omega] at hat
          exact hat, rfl, ho, hfl, hk, hsc, fun j hj => hpl j (by omega)⟩⟩)
      · refine lv_aload_n hx_ hb_ d_Model_cover_93 rfl (lv_at hl 0 rfl) ?_
        refine lv_iload_n hx_ hb_ d_Model_cover_94 rfl (lv_at hl 1 rfl) ?_
        refine zz_cv (zz_rV (As := [.int (nI i)]) (rest := []) hC hK hZ 0 (c_Model_settle l q Si i (wr_st rl op nu sz qs Wk (m - sz (m - 1)) (sz (m - 1))).1.1 reg sc (wr_st rl op nu sz qs Wk (m - sz (m - 1)) (sz (m - 1))).1.2.2.2.2.2.2.2 pl ((hfl 24 (by omega) (by omega)).trans hreg) hrg.2 h90 hn160 (fun j hj => ⟨(hk.2.2 j hj).2.2.2.2.2.2, Nat.lt_of_lt_of_le (hcd j hj).2.1 hn160⟩) hpl (fun j hj => by have := hpo.2.1 j hj; have := hpo.2.2.2; omega) hsc (by have := hpo.2.2.2; omega)) k_Model_settle (Nat.le_of_ble_eq_true rfl) (mc_0 q _ _) rfl wd_725 ⟨rfl, rfl, by decide, by decide⟩ rfl hl.1 rfl (Nat.le_of_ble_eq_true rfl) d_Model_cover_95 ⟨Nat.zero_le _, Nat.zero_le _⟩) hZ (fun S95 H locs hp95 hZ => ?_)
        obtain ⟨k1, k2, pl2, sc2, hst, hs2, hp2⟩ := hp95
        refine lv_iinc (k := 1) (v := nI (i + 1)) (lv' := [(2, .int (nI (i + 1))), (0, .ref (zz_ad (mg_G q) 0))]) hx_ hb_ d_Model_cover_98 hl rfl (nI_add _ 1) (by decide) rfl (fun ls hl => ?_)
        refine lv_goto (tgt := 85) hx_ hb_ d_Model_cover_101 (by decide) ?_
        exact ih_ _ (by omega) (i + 1) S95 pl2 sc2 gs qs Wk  _ _ _ ht0 hlb hcov hW (zz_off_tr ho (zz_off_mono k1 (fun c h => by unfold cv_X; omega))) (fun j h1 h2 => (k2 j h2).trans (hfl j h1 h2)) (by omega) (mk_cdk hk (k2 22 (by omega)) (fun c h1 h2 => (k1 c (by omega)).1)) ⟨pl, sc, hat, hst⟩ hs2 hp2 hZ (lv_sub hl [1, 0] rfl) rfl
  have L85 : ∀ (i : Nat) (Si : zz_S) (pl : Nat → Nat) (sc : Nat) (gs : Nat → Nat → Nat) (qs : Nat → Nat → Nat) (Wk : Nat → Nat) (H : Heap) (locs : List Loc) (ls : Array Slot) (ht0 : t ≠ 0) (hlb : ∀ i, (m - sz (m - 1)) ≤ i → i < m → xq_lab rl R op sz gs qs i) (hcov : gs (m - 1) 0 < mx_far) (hW : wk_ok rl op sz gs qs Wk (m - sz (m - 1)) m) (ho : zz_off cv_X S Si) (hfl : ∀ j, j ≠ 22 → j ≠ 23 → Si.1 0 j = S.1 0 j) (hi : i ≤ (wr_st rl op nu sz qs Wk (m - sz (m - 1)) (sz (m - 1))).1.1) (hk : mk_cd Si (wr_st rl op nu sz qs Wk (m - sz (m - 1)) (sz (m - 1))).1) (hat : pl_at reg (wr_st rl op nu sz qs Wk (m - sz (m - 1)) (sz (m - 1))).1.2.2.2.2.2.2.2 i pl sc) (hsc : Si.1 0 23 = nI sc) (hpl : ∀ j, j < i → Si.1 26 j = nI (pl j)) (hZ : zz_Z (mg_G q) Si s_.heap H locs) (hl : lv_has ls 3 [(0, .ref (zz_ad (mg_G q) 0)), (2, .int (nI i))]), W p_ l e_ rm_Model_cover s_ m_ ([.ref (zz_ad (mg_G q) 0)] : List Value).toArray bl_ mt_ c_ H locs 0 0 (MQ bl_ (va_Qi (fun ans S1 => (t = 0 ∧ ans = -1 ∧ S = S1) ∨ (t ≠ 0 ∧ ∃ gs qs, (∀ i, (m - sz (m - 1)) ≤ i → i < m → xq_lab rl R op sz gs qs i) ∧ ((¬ gs (m - 1) 0 < mx_far ∧ ans = -3 ∧ zz_off mr_X S S1) ∨ (gs (m - 1) 0 < mx_far ∧ ∃ Wk pl2 sc2, wk_ok rl op sz gs qs Wk (m - sz (m - 1)) m ∧ pl_at reg (wr_st rl op nu sz qs Wk (m - sz (m - 1)) (sz (m - 1))).1.2.2.2.2.2.2.2 (wr_st rl op nu sz qs Wk (m - sz (m - 1)) (sz (m - 1))).1.1 pl2 sc2 ∧ ans = nI (wr_st rl op nu sz qs Wk (m - sz (m - 1)) (sz (m - 1))).1.1 ∧ zz_off cv_X S S1 ∧ (∀ j, j ≠ 22 → j ≠ 23 → S1.1 0 j = S.1 0 j) ∧ mk_cd S1 (wr_st rl op nu sz qs Wk (m - sz (m - 1)) (sz (m - 1))).1 ∧ S1.1 0 23 = nI sc2 ∧ ∀ j, j < (wr_st rl op nu sz qs Wk (m - sz (m - 1)) (sz (m - 1))).1.1 → S1.1 26 j = nI (pl2 j))))) (zz_P (mg_G q)) (zz_A (mg_G q))) ([.ref (zz_ad (mg_G q) 0)] : List Value).toArray s_ 0 0 (zz_A (mg_G q))) (F0 m_ 85 ls []) := fun i Si pl sc gs qs Wk H locs ls ht0 hlb hcov hW ho hfl hi hk hat hsc hpl hZ hl => L85_ _ i Si pl sc gs qs Wk H locs ls ht0 hlb hcov hW ho hfl hi hk hat hsc hpl hZ hl rfl
  have L61_ : ∀ (n_ : Nat) (i : Nat) (Si : zz_S) (gs : Nat → Nat → Nat) (qs : Nat → Nat → Nat) (Wk : Nat → Nat) (H : Heap) (locs : List Loc) (ls : Array Slot) (ht0 : t ≠ 0) (hlb : ∀ i, (m - sz (m - 1)) ≤ i → i < m → xq_lab rl R op sz gs qs i) (hcov : gs (m - 1) 0 < mx_far) (hW : wk_ok rl op sz gs qs Wk (m - sz (m - 1)) m) (ho : zz_off cv_X S Si) (hfl : ∀ j, j ≠ 22 → j ≠ 23 → Si.1 0 j = S.1 0 j) (hi : (m - sz (m - 1)) ≤ i ∧ i ≤ m) (hsc : Si.1 0 23 = nI 0) (h12 : ∀ j, (m - sz (m - 1)) ≤ j → j < m → ∀ k, k < 4 → Si.1 12 (4 * j + k) = vw_p (qs j k)) (h28 : ∀ c, (m - sz (m - 1)) ≤ c → c < m → Si.1 28 c = nI (Wk c)) (hla : ∀ c, (m - sz (m - 1)) ≤ c → c < i → Si.1 29 c = nI ((wr_st rl op nu sz qs Wk (m - sz (m - 1)) (i - (m - sz (m - 1)))).2 c)) (hk : mk_cd Si (wr_st rl op nu sz qs Wk (m - sz (m - 1)) (i - (m - sz (m - 1)))).1) (hZ : zz_Z (mg_G q) Si s_.heap H locs) (hl : lv_has ls 3 [(0, .ref (zz_ad (mg_G q) 0)), (1, .int (nI ((m - sz (m - 1))))), (2, .int (nI i))]) (hn_ : m - i = n_), W p_ l e_ rm_Model_cover s_ m_ ([.ref (zz_ad (mg_G q) 0)] : List Value).toArray bl_ mt_ c_ H locs 0 0 (MQ bl_ (va_Qi (fun ans S1 => (t = 0 ∧ ans = -1 ∧ S = S1) ∨ (t ≠ 0 ∧ ∃ gs qs, (∀ i, (m - sz (m - 1)) ≤ i → i < m → xq_lab rl R op sz gs qs i) ∧ ((¬ gs (m - 1) 0 < mx_far ∧ ans = -3 ∧ zz_off mr_X S S1) ∨ (gs (m - 1) 0 < mx_far ∧ ∃ Wk pl2 sc2, wk_ok rl op sz gs qs Wk (m - sz (m - 1)) m ∧ pl_at reg (wr_st rl op nu sz qs Wk (m - sz (m - 1)) (sz (m - 1))).1.2.2.2.2.2.2.2 (wr_st rl op nu sz qs Wk (m - sz (m - 1)) (sz (m - 1))).1.1 pl2 sc2 ∧ ans = nI (wr_st rl op nu sz qs Wk (m - sz (m - 1)) (sz (m - 1))).1.1 ∧ zz_off cv_X S S1 ∧ (∀ j, j ≠ 22 → j ≠ 23 → S1.1 0 j = S.1 0 j) ∧ mk_cd S1 (wr_st rl op nu sz qs Wk (m - sz (m - 1)) (sz (m - 1))).1 ∧ S1.1 0 23 = nI sc2 ∧ ∀ j, j < (wr_st rl op nu sz qs Wk (m - sz (m - 1)) (sz (m - 1))).1.1 → S1.1 26 j = nI (pl2 j))))) (zz_P (mg_G q)) (zz_A (mg_G q))) ([.ref (zz_ad (mg_G q) 0)] : List Value).toArray s_ 0 0 (zz_A (mg_G q))) (F0 m_ 61 ls []) := by
    intro n_
    induction n_ using Nat.strongRecOn with
    | ind n_ ih_ =>
      intro i Si gs qs Wk H locs ls ht0 hlb hcov hW ho hfl hi hsc h12 h28 hla hk hZ hl hn_
      have hBi : mb_ok Si rl R := mb_keep hB (hfl 0 (by omega) (by omega)) (fun c h1 h2 => (ho c (by unfold cv_X; omega)).1)
      have hTi : mt_ok Si op nu sz ht m t ps := mt_keep hT (hfl 6 (by omega) (by omega)) (hfl 11 (by omega) (by omega)) (fun c h1 h2 => (ho c (by unfold cv_X; omega)).1)
      have h2t := h2ts.1 (by omega)
      have hfm : (m - sz (m - 1)) + sz (m - 1) = m := by omega
      refine lv_iload_n hx_ hb_ d_Model_cover_61 rfl (lv_at hl 2 rfl) ?_
      refine lv_aload_n hx_ hb_ d_Model_cover_62 rfl (lv_at hl 0 rfl) ?_
      refine zz_get hC hK hZ 0 6 (Nat.le_of_ble_eq_true rfl) (mc_0 q _ _) rfl hin_Model (by decide) wd_513 rfl rfl d_Model_cover_63 ?_
      refine zz_topi (y := nI m) hTi.1 ?_
      refine zz_jge (tgt := 83) hC d_Model_cover_66 (by decide) (by omega) (by omega) (fun h66 => ?_) (fun h66 => ?_)
      · refine lv_iconst (v := nI 0) hx_ hb_ d_Model_cover_83 (by decide) ?_
        refine lv_istore_n (i := 2) (lv' := [(2, .int (nI 0)), (0, .ref (zz_ad (mg_G q) 0)), (1, .int (nI ((m - sz (m - 1)))))]) hx_ hb_ d_Model_cover_84 rfl hl (by decide) rfl (fun ls hl => ?_)
        exact L85 0 Si (fun _ => 0) 0 gs qs Wk  _ _ _ ht0 hlb hcov hW ho hfl (Nat.zero_le _) (by rw [show i = m by omega, show m - (m - sz (m - 1)) = sz (m - 1) by omega] at hk; exact hk) ⟨rfl, rfl⟩ hsc (fun j hj => absurd hj (Nat.not_lt_zero j)) hZ (lv_sub hl [1, 0] rfl)
      · refine lv_aload_n hx_ hb_ d_Model_cover_69 rfl (lv_at hl 0 rfl) ?_
        refine lv_iload_n hx_ hb_ d_Model_cover_70 rfl (lv_at hl 2 rfl) ?_
        refine lv_iload_n hx_ hb_ d_Model_cover_71 rfl (lv_at hl 2 rfl) ?_
        refine lv_iload_n hx_ hb_ d_Model_cover_72 rfl (lv_at hl 1 rfl) ?_
        refine lv_isub hx_ hb_ d_Model_cover_73 ?_
        refine zz_topi (y := nI (i - ((m - sz (m - 1))))) (pk_sub (by omega)) ?_
        refine zz_cv (zz_rV (As := [.int (nI i), .int (nI (i - ((m - sz (m - 1)))))]) (rest := []) hC hK hZ 0 (c_Model_emit l q Si rl R hBi op nu sz ht m t ps hTi gs qs Wk i hlb (fun k hk => h12 i hi.1 h66 k hk) ht0 hW ⟨hi.1, h66⟩ (h28 i hi.1 h66) hla hk) k_Model_emit (Nat.le_of_ble_eq_true rfl) (mc_0 q _ _) rfl wd_717 ⟨rfl, rfl, by decide, by decide⟩ rfl hl.1 rfl (Nat.le_of_ble_eq_true rfl) d_Model_cover_74 ⟨Nat.zero_le _, Nat.zero_le _⟩) hZ (fun S74 H locs hp74 hZ => ?_)
        refine lv_iinc (k := 2) (v := nI (i + 1)) (lv' := [(2, .int (nI (i + 1))), (0, .ref (zz_ad (mg_G q) 0)), (1, .int (nI ((m - sz (m - 1)))))]) hx_ hb_ d_Model_cover_77 hl rfl (nI_add _ 1) (by decide) rfl (fun ls hl => ?_)
        refine lv_goto (tgt := 61) hx_ hb_ d_Model_cover_80 (by decide) ?_
        exact ih_ _ (by omega) (i + 1) S74 gs qs Wk  _ _ _ ht0 hlb hcov hW (zz_off_tr ho (zz_off_mono hp74.1 (fun c h => by unfold em_X at h; unfold cv_X; omega))) (fun j h1 h2 => (hp74.2.1 j h1).trans (hfl j h1 h2)) (by omega) ((hp74.2.1 23 (by omega)).trans hsc) (fun j h1 h2 k hk => by rw [(hp74.1 12 (by unfold em_X; omega)).1]; exact h12 j h1 h2 k hk) (fun c h1 h2 => by rw [(hp74.1 28 (by unfold em_X; omega)).1]; exact h28 c h1 h2) hp74.2.2.2 hp74.2.2.1 hZ (lv_sub hl [1, 2, 0] rfl) rfl
  have L61 : ∀ (i : Nat) (Si : zz_S) (gs : Nat → Nat → Nat) (qs : Nat → Nat → Nat) (Wk : Nat → Nat) (H : Heap) (locs : List Loc) (ls : Array Slot) (ht0 : t ≠ 0) (hlb : ∀ i, (m - sz (m - 1)) ≤ i → i < m → xq_lab rl R op sz gs qs i) (hcov : gs (m - 1) 0 < mx_far) (hW : wk_ok rl op sz gs qs Wk (m - sz (m - 1)) m) (ho : zz_off cv_X S Si) (hfl : ∀ j, j ≠ 22 → j ≠ 23 → Si.1 0 j = S.1 0 j) (hi : (m - sz (m - 1)) ≤ i ∧ i ≤ m) (hsc : Si.1 0 23 = nI 0) (h12 : ∀ j, (m - sz (m - 1)) ≤ j → j < m → ∀ k, k < 4 → Si.1 12 (4 * j + k) = vw_p (qs j k)) (h28 : ∀ c, (m - sz (m - 1)) ≤ c → c < m → Si.1 28 c = nI (Wk c)) (hla : ∀ c, (m - sz (m - 1)) ≤ c → c < i → Si.1 29 c = nI ((wr_st rl op nu sz qs Wk (m - sz (m - 1)) (i - (m - sz (m - 1)))).2 c)) (hk : mk_cd Si (wr_st rl op nu sz qs Wk (m - sz (m - 1)) (i - (m - sz (m - 1)))).1) (hZ : zz_Z (mg_G q) Si s_.heap H locs) (hl : lv_has ls 3 [(0, .ref (zz_ad (mg_G q) 0)), (1, .int (nI ((m - sz (m - 1))))), (2, .int (nI i))]), W p_ l e_ rm_Model_cover s_ m_ ([.ref (zz_ad (mg_G q) 0)] : List Value).toArray bl_ mt_ c_ H locs 0 0 (MQ bl_ (va_Qi (fun ans S1 => (t = 0 ∧ ans = -1 ∧ S = S1) ∨ (t ≠ 0 ∧ ∃ gs qs, (∀ i, (m - sz (m - 1)) ≤ i → i < m → xq_lab rl R op sz gs qs i) ∧ ((¬ gs (m - 1) 0 < mx_far ∧ ans = -3 ∧ zz_off mr_X S S1) ∨ (gs (m - 1) 0 < mx_far ∧ ∃ Wk pl2 sc2, wk_ok rl op sz gs qs Wk (m - sz (m - 1)) m ∧ pl_at reg (wr_st rl op nu sz qs Wk (m - sz (m - 1)) (sz (m - 1))).1.2.2.2.2.2.2.2 (wr_st rl op nu sz qs Wk (m - sz (m - 1)) (sz (m - 1))).1.1 pl2 sc2 ∧ ans = nI (wr_st rl op nu sz qs Wk (m - sz (m - 1)) (sz (m - 1))).1.1 ∧ zz_off cv_X S S1 ∧ (∀ j, j ≠ 22 → j ≠ 23 → S1.1 0 j = S.1 0 j) ∧ mk_cd S1 (wr_st rl op nu sz qs Wk (m - sz (m - 1)) (sz (m - 1))).1 ∧ S1.1 0 23 = nI sc2 ∧ ∀ j, j < (wr_st rl op nu sz qs Wk (m - sz (m - 1)) (sz (m - 1))).1.1 → S1.1 26 j = nI (pl2 j))))) (zz_P (mg_G q)) (zz_A (mg_G q))) ([.ref (zz_ad (mg_G q) 0)] : List Value).toArray s_ 0 0 (zz_A (mg_G q))) (F0 m_ 61 ls []) := fun i Si gs qs Wk H locs ls ht0 hlb hcov hW ho hfl hi hsc h12 h28 hla hk hZ hl => L61_ _ i Si gs qs Wk H locs ls ht0 hlb hcov hW ho hfl hi hsc h12 h28 hla hk hZ hl rfl
  refine lv_aload_n hx_ hb_ d_Model_cover_0 rfl (lv_at hl 0 rfl) ?_
  refine zz_ci (zz_rV (As := []) (rest := []) hC hK hZ 0 (c_Model_work l q S rl R hB op nu sz ht m t ps hT) k_Model_work (Nat.le_of_ble_eq_true rfl) (mc_0 q _ _) rfl wd_689 ⟨rfl, rfl, by decide, by decide⟩ rfl hl.1 rfl (Nat.le_of_ble_eq_true rfl) d_Model_cover_1 ⟨Nat.zero_le _, Nat.zero_le _⟩) hZ (fun r1 S1 H locs hp1 hZ => ?_)
  have hq1 : r1 = nI (if t ≠ 0 then 1 else 0) := hp1.elim (fun h => by rw [if_neg (fun e => e h.1)]; exact h.2.1) (fun h => by rw [if_pos h.1]; exact h.2.1)
  subst hq1
  refine zz_bne (tgt := 9) hC d_Model_cover_4 (by decide) (fun h4 => ?_) (fun h4 => ?_)
  · obtain ⟨ht0, _, ho1, gs, qs, hlb, hrows⟩ := hp1.resolve_left (fun h => h4 h.1)
    have h2t := h2ts.1 (by omega)
    have hT1 : mt_ok S1 op nu sz ht m t ps := mt_keep hT (by rw [(ho1 0 (by unfold mr_X; omega)).1]) (by rw [(ho1 0 (by unfold mr_X; omega)).1]) (fun c h1 h2 => (ho1 c (by unfold mr_X; omega)).1)
    have hB1 : mb_ok S1 rl R := mb_keep hB (by rw [(ho1 0 (by unfold mr_X; omega)).1]) (fun c h1 h2 => (ho1 c (by unfold mr_X; omega)).1)
    have hgb := (hlb (m - 1) (by omega) (by omega)).1.1.1 0 (by omega)
    refine lv_aload_n hx_ hb_ d_Model_cover_9 rfl (lv_at hl 0 rfl) ?_
    refine zz_get hC hK hZ 0 13 (Nat.le_of_ble_eq_true rfl) (mc_0 q _ _) rfl hin_Model (by decide) wd_520 rfl rfl d_Model_cover_10 ?_
    refine lv_iconst (v := nI 4) hx_ hb_ d_Model_cover_13 (by decide) ?_
    refine lv_aload_n hx_ hb_ d_Model_cover_14 rfl (lv_at hl 0 rfl) ?_
    refine zz_get hC hK hZ 0 6 (Nat.le_of_ble_eq_true rfl) (mc_0 q _ _) rfl hin_Model (by decide) wd_513 rfl rfl d_Model_cover_15 ?_
    refine zz_topi (y := nI m) hT1.1 ?_
    refine lv_iconst (v := nI 1) hx_ hb_ d_Model_cover_18 (by decide) ?_
    refine lv_isub hx_ hb_ d_Model_cover_19 ?_
    refine zz_topi (y := nI (m - 1)) (pk_sub (by omega)) ?_
    refine lv_imul hx_ hb_ d_Model_cover_20 ?_
    refine zz_topi (y := nI (4 * (m - 1))) (pk_mul _ _) ?_
    refine zz_lald hC hK hZ 11 1 (4 * (m - 1)) (Nat.le_of_ble_eq_true rfl) (mc_11 q _ _) rfl rfl (by omega) (by decide) rfl d_Model_cover_21 ?_
    refine zz_topl (y := lN (gs (m - 1) 0)) (hrows (m - 1) (by omega) (by omega) 0 (by omega)).1 ?_
    refine lv_ldc2 (v := lN 1125899906842624) hx_ hb_ hC.2.2.2.1 (hC.2.2.2.2.1 _ wd_644) d_Model_cover_22 ?_
    refine W.lcmp hx_ hb_ d_Model_cover_25 ?_
    refine lv_if_ne (tgt := 32) hx_ hb_ d_Model_cover_26 (by decide) (fun h26 => ?_) (fun h26 => ?_)
    · have h26 : ¬ ((lN (gs (m - 1) 0)) = (lN 1125899906842624)) := fun x => h26 ((lg_cmp_eq _ _).mpr x)
      rw [pk_lEQ (by omega) (by omega)] at h26
      have hcov : gs (m - 1) 0 < mx_far := by omega
      refine lv_aload_n hx_ hb_ d_Model_cover_32 rfl (lv_at hl 0 rfl) ?_
      refine zz_get hC hK hZ 0 12 (Nat.le_of_ble_eq_true rfl) (mc_0 q _ _) rfl hin_Model (by decide) wd_519 rfl rfl d_Model_cover_33 ?_
      refine lv_aload_n hx_ hb_ d_Model_cover_36 rfl (lv_at hl 0 rfl) ?_
      refine zz_get hC hK hZ 0 11 (Nat.le_of_ble_eq_true rfl) (mc_0 q _ _) rfl hin_Model (by decide) wd_518 rfl rfl d_Model_cover_37 ?_
      refine zz_topi (y := nI t) hT1.2.1 ?_
      refine lv_iconst (v := nI 1) hx_ hb_ d_Model_cover_40 (by decide) ?_
      refine lv_isub hx_ hb_ d_Model_cover_41 ?_
      refine zz_topi (y := nI (t - 1)) (pk_sub (by omega)) ?_
      refine zz_iald hC hK hZ 10 0 (t - 1) (Nat.le_of_ble_eq_true rfl) (mc_10 q _ _) rfl rfl (by omega) (by decide) rfl d_Model_cover_42 ?_
      refine zz_topi (y := nI ((m - sz (m - 1)))) (by rw [hT1.2.2.2.2.2.2.2.2 (t - 1) (by omega), show ps (t - 1) = (m - sz (m - 1)) by omega]) ?_
      refine lv_istore_n (i := 1) (lv' := [(1, .int (nI ((m - sz (m - 1))))), (0, .ref (zz_ad (mg_G q) 0))]) hx_ hb_ d_Model_cover_43 rfl hl (by decide) rfl (fun ls hl => ?_)
      refine lv_aload_n hx_ hb_ d_Model_cover_44 rfl (lv_at hl 1 rfl) ?_
      refine lv_iload_n hx_ hb_ d_Model_cover_45 rfl (lv_at hl 0 rfl) ?_
      refine zz_cv (zz_rV (As := [.int (nI ((m - sz (m - 1))))]) (rest := []) hC hK hZ 0 (c_Model_want l q S1 rl R hB1 op nu sz ht m t ps hT1 gs qs hlb hrows ht0 hcov) k_Model_want (Nat.le_of_ble_eq_true rfl) (mc_0 q _ _) rfl wd_713 ⟨rfl, rfl, by decide, by decide⟩ rfl hl.1 rfl (Nat.le_of_ble_eq_true rfl) d_Model_cover_46 ⟨Nat.zero_le _, Nat.zero_le _⟩) hZ (fun S46 H locs hp46 hZ => ?_)
      obtain ⟨hp46a, Wk, hWk⟩ := hp46
      refine lv_aload_n hx_ hb_ d_Model_cover_49 rfl (lv_at hl 1 rfl) ?_
      refine lv_iconst (v := nI 0) hx_ hb_ d_Model_cover_50 (by decide) ?_
      refine zz_put hC hK hZ 0 22 (Nat.le_of_ble_eq_true rfl) (mc_0 q _ _) rfl hin_Model t_Model t_Model_ok n_Model (by decide) wd_529 rfl rfl rfl (Nat.le_of_ble_eq_true rfl) (mput_22 q _ _ _ (mc_0 q _ _)) d_Model_cover_51 (fun H locs hZ => ?_)
      refine lv_aload_n hx_ hb_ d_Model_cover_54 rfl (lv_at hl 1 rfl) ?_
      refine lv_iconst (v := nI 0) hx_ hb_ d_Model_cover_55 (by decide) ?_
      refine zz_put hC hK hZ 0 23 (Nat.le_of_ble_eq_true rfl) (mc_0 q _ _) rfl hin_Model t_Model t_Model_ok n_Model (by decide) wd_530 rfl rfl rfl (Nat.le_of_ble_eq_true rfl) (mput_23 q _ _ _ (mc_0 q _ _)) d_Model_cover_56 (fun H locs hZ => ?_)
      refine lv_iload_n hx_ hb_ d_Model_cover_59 rfl (lv_at hl 0 rfl) ?_
      refine lv_istore_n (i := 2) (lv' := [(2, .int (nI ((m - sz (m - 1))))), (1, .int (nI ((m - sz (m - 1))))), (0, .ref (zz_ad (mg_G q) 0))]) hx_ hb_ d_Model_cover_60 rfl hl (by decide) rfl (fun ls hl => ?_)
      exact L61 ((m - sz (m - 1))) (zz_u (zz_u S46 0 22 (nI 0)) 0 23 (nI 0)) gs qs Wk  _ _ _ ht0 hlb hcov hWk.1 (zz_off_tr (zz_off_mono ho1 (fun c h => by unfold mr_X at h; unfold cv_X; omega)) (zz_off_tr (zz_off_mono hp46a (fun c h => by unfold cv_X; omega)) (fun d hd => ⟨by rw [zz_u1 _ 0 _ _ d (fun h => hd (Or.inl h)), zz_u1 _ 0 _ _ d (fun h => hd (Or.inl h))], rfl⟩))) (fun j h1 h2 => by rw [zz_u1s, pk_un h2, zz_u1s, pk_un h1, (hp46a 0 (by omega)).1, (ho1 0 (by unfold mr_X; omega)).1]) (by omega) (by rw [zz_u1s, pk_us]) (fun j h1 h2 k hk => by rw [zz_u1 _ 0 _ _ 12 (by omega), zz_u1 _ 0 _ _ 12 (by omega), (hp46a 12 (by omega)).1]; exact (hrows j h1 h2 k hk).2) (fun c h1 h2 => by rw [zz_u1 _ 0 _ _ 28 (by omega), zz_u1 _ 0 _ _ 28 (by omega)]; exact hWk.2 c h1 h2) (fun c h1 h2 => absurd h2 (by omega)) (by
        rw [Nat.sub_self]
        exact ⟨by rw [zz_u1s, pk_un (by omega), zz_u1s, pk_us]; rfl, Nat.zero_le _, fun j hj => absurd hj (Nat.not_lt_zero j)⟩) hZ (lv_sub hl [2, 1, 0] rfl)
    · have h26 : (lN (gs (m - 1) 0)) = (lN 1125899906842624) := (lg_cmp_eq _ _).mp h26
      rw [pk_lEQ (by omega) (by omega)] at h26
      refine lv_bipush (v := (-3)) hx_ hb_ d_Model_cover_29 (by decide) ?_
      exact zz_iret hC hK hZ rfl d_Model_cover_31 (Or.inr ⟨ht0, gs, qs, hlb, Or.inl ⟨by omega, rfl, ho1⟩⟩)
  · refine lv_iconst (v := (-1)) hx_ hb_ d_Model_cover_7 (by decide) ?_
    exact zz_iret hC hK hZ rfl d_Model_cover_8 (Or.inl ⟨by omega, rfl, hp1.elim (fun h => h.2.2) (fun h => absurd h.1 h4)⟩)
