/-! The class's cover. Laid by wip/whole/prog/p16.py. -/
set_option maxHeartbeats 4000000 in
set_option maxRecDepth 100000 in
theorem c_Forge_cover (l : Launch) (q : xg_T) (S : zz_S) (rl : mx_R) (R : Nat) (op : Nat → Nat) (nu : Nat → Int32) (sz ht : Nat → Nat) (m t reg : Nat) (vr : Nat → Int32) (cs : cd_T) (pl : Nat → Nat) (sc : Nat) (hX : xi_ok S rl R op nu sz ht m t reg vr cs pl sc) (hrg : 1 ≤ reg ∧ reg ≤ 4) : Met l y_Forge_cover (Cond.code y_Forge_cover b_Forge_cover 1 (some .int) :: zz_tbl) rm_Forge_cover (zz_Pc [.ref (zz_ad (xg_G q) 0)] (xg_G q) S) (va_Qi (fun ans S1 => (t = 0 ∧ ans = -1 ∧ S = S1) ∨ (t ≠ 0 ∧ ∃ gs qs, (∀ i, i < m → xq_lab rl R op sz gs qs i) ∧ ((¬ gs (m - 1) 0 < mx_far ∧ ans = -3 ∧ xi_ok S1 rl R op nu sz ht m t reg vr cs pl sc) ∨ (gs (m - 1) 0 < mx_far ∧ ∃ Wk pl2 sc2, wk_ok rl op sz gs qs Wk (m - sz (m - 1)) m ∧ pl_at reg (wr_st rl op nu sz qs Wk (m - sz (m - 1)) (sz (m - 1))).1.2.2.2.2.2.2.2 (wr_st rl op nu sz qs Wk (m - sz (m - 1)) (sz (m - 1))).1.1 pl2 sc2 ∧ ans = nI (wr_st rl op nu sz qs Wk (m - sz (m - 1)) (sz (m - 1))).1.1 ∧ xi_ok S1 rl R op nu sz ht m t reg vr (wr_st rl op nu sz qs Wk (m - sz (m - 1)) (sz (m - 1))).1 pl2 sc2)))) (zz_P (xg_G q)) (zz_A (xg_G q))) 0 0 (zz_A (xg_G q)) := by
  refine zz_met (by decide) (Nat.le_of_ble_eq_true rfl) ?_
  intro p_ e_ s_ m_ bl_ mt_ c_ ls hC hK hZ hl
  have hC : zz_C p_ s_ m_ _ mt_ c_ b_Forge_cover 1 (some .int) "TreeCoverForge" := hC
  have hx_ := hC.1
  have hb_ := hC.2.1
  have hl : lv_has ls 1 [(0, .ref (zz_ad (xg_G q) 0))] := hl
  have hX0 := hX
  obtain ⟨⟨sz1, nb, hB⟩, hP, ⟨n0, gs0, qs0, hn0, hnm0, hq0⟩, hN, hcnt, hreg, hvr, hcod⟩ := hX
  have h40 := hP.2.2.1
  have htm := hP.2.2.2.1
  have hfar := vw_far
  have hts2 : (if t = 0 then 0 else sz (m - 1)) ≤ m := by
    split
    · omega
    · have := (hP.2.2.2.2.2.1 (m - 1) (by omega)).2.2.1
      omega
  refine lv_aload_n hx_ hb_ d_Forge_cover_0 rfl (lv_at hl 0 rfl) ?_
  refine zz_get hC hK hZ 0 1 (Nat.le_of_ble_eq_true rfl) (xc_0 q _ _) rfl hin_Forge (by decide) wd_230 rfl rfl d_Forge_cover_1 ?_
  refine zz_get hC hK hZ 18 8 (Nat.le_of_ble_eq_true rfl) (xc_18 q _ _) rfl hin_Pile (by decide) wd_129 rfl rfl d_Forge_cover_4 ?_
  refine zz_topi (y := nI t) hP.2.1 ?_
  refine zz_ine (tgt := 12) hC d_Forge_cover_7 (by decide) (by omega) (fun h7 => ?_) (fun h7 => ?_)
  · have hts3 : 1 ≤ (if t = 0 then 0 else sz (m - 1)) := by
      rw [if_neg h7]
      exact (hP.2.2.2.2.2.1 (m - 1) (by omega)).2.1
    have eix : (m - (if t = 0 then 0 else sz (m - 1)) + ((if t = 0 then 0 else sz (m - 1)) - 1)) = m - 1 := by omega
    have hsz1 := (hP.2.2.2.2.2.1 (m - 1) (by omega)).2
    have hfm : (m - sz (m - 1)) + sz (m - 1) = m := by omega
    refine lv_aload_n hx_ hb_ d_Forge_cover_12 rfl (lv_at hl 0 rfl) ?_
    refine zz_get hC hK hZ 0 1 (Nat.le_of_ble_eq_true rfl) (xc_0 q _ _) rfl hin_Forge (by decide) wd_230 rfl rfl d_Forge_cover_13 ?_
    refine lv_aload_n hx_ hb_ d_Forge_cover_16 rfl (lv_at hl 0 rfl) ?_
    refine zz_get hC hK hZ 0 0 (Nat.le_of_ble_eq_true rfl) (xc_0 q _ _) rfl hin_Forge (by decide) wd_229 rfl rfl d_Forge_cover_17 ?_
    refine lv_aload_n hx_ hb_ d_Forge_cover_20 rfl (lv_at hl 0 rfl) ?_
    refine zz_get hC hK hZ 0 1 (Nat.le_of_ble_eq_true rfl) (xc_0 q _ _) rfl hin_Forge (by decide) wd_230 rfl rfl d_Forge_cover_21 ?_
    refine zz_ci (zz_rV (As := []) (rest := [.ref (zz_ad (xg_G q) 1), .ref (zz_ad (xg_G q) 18)]) hC hK hZ 18 (c_Pile_topSize l q S op nu sz ht m t hP) k_Pile_topSize (Nat.le_of_ble_eq_true rfl) (xc_18 q _ _) rfl wd_381 ⟨rfl, rfl, by decide, by decide⟩ rfl hl.1 rfl (Nat.le_of_ble_eq_true rfl) d_Forge_cover_24 ⟨Nat.zero_le _, Nat.zero_le _⟩) hZ (fun r24 S24 H locs hp24 hZ => ?_)
    obtain ⟨rfl, rfl⟩ := hp24
    refine lv_iconst (v := nI 1) hx_ hb_ d_Forge_cover_27 (by decide) ?_
    refine lv_isub hx_ hb_ d_Forge_cover_28 ?_
    refine zz_topi (y := nI ((if t = 0 then 0 else sz (m - 1)) - 1)) (pk_sub (by omega)) ?_
    refine zz_crQ (zz_rV (As := [.ref (zz_ad (xg_G q) 1), .int (nI ((if t = 0 then 0 else sz (m - 1)) - 1))]) (rest := []) hC hK hZ 18 (c_Pile_labelOf l q S op nu sz ht m t hP rl R sz1 nb hB gs0 qs0 n0 (((if t = 0 then 0 else sz (m - 1)) - 1)) hn0 hnm0 hq0 (fun k hk => (hN k hk).1) (by omega)) k_Pile_labelOf (Nat.le_of_ble_eq_true rfl) (xc_18 q _ _) rfl wd_390 ⟨rfl, rfl, by decide, by decide⟩ rfl hl.1 rfl (Nat.le_of_ble_eq_true rfl) d_Forge_cover_29 ⟨Nat.zero_le _, Nat.zero_le _⟩) hZ (fun r29 S29 H locs hp29 hZ => ?_)
    obtain ⟨rfl, S0, gs, qs, ho, rfl, hq⟩ := hp29
    have hXl := xi_labd hX0 ho hq
    have hqi := hq (m - (if t = 0 then 0 else sz (m - 1)) + ((if t = 0 then 0 else sz (m - 1)) - 1)) (by omega)
    have hqb := hqi.2.1.1.1
    refine lv_iconst (v := nI 0) hx_ hb_ d_Forge_cover_32 (by decide) ?_
    refine zz_ci (zz_rV (As := [.int (nI 0)]) (rest := []) hC hK hZ (42 + 3 * ((m - (if t = 0 then 0 else sz (m - 1)) + ((if t = 0 then 0 else sz (m - 1)) - 1)))) (c_Label_isCovered l q (zz_u S0 18 9 (nI m)) (m - (if t = 0 then 0 else sz (m - 1)) + ((if t = 0 then 0 else sz (m - 1)) - 1)) 0 (gs (m - (if t = 0 then 0 else sz (m - 1)) + ((if t = 0 then 0 else sz (m - 1)) - 1)) 0) (by omega) (by omega) (hqi.1 _ (by omega)).1) k_Label_isCovered (by show _ < 291; omega) (xy_lab q ((m - (if t = 0 then 0 else sz (m - 1)) + ((if t = 0 then 0 else sz (m - 1)) - 1))) _ _) rfl wd_399 ⟨rfl, rfl, by decide, by decide⟩ rfl hl.1 rfl (Nat.le_of_ble_eq_true rfl) d_Forge_cover_33 ⟨Nat.zero_le _, Nat.zero_le _⟩) hZ (fun r33 S33 H locs hp33 hZ => ?_)
    obtain ⟨hS33, rfl⟩ := hp33
    subst hS33
    rw [eix] at *
    refine zz_bne (tgt := 42) hC d_Forge_cover_36 (by decide) (fun h36 => ?_) (fun h36 => ?_)
    · obtain ⟨sz2, nb2, hB2⟩ := hXl.1
      refine lv_aload_n hx_ hb_ d_Forge_cover_42 rfl (lv_at hl 0 rfl) ?_
      refine zz_get hC hK hZ 0 3 (Nat.le_of_ble_eq_true rfl) (xc_0 q _ _) rfl hin_Forge (by decide) wd_232 rfl rfl d_Forge_cover_43 ?_
      refine lv_aload_n hx_ hb_ d_Forge_cover_46 rfl (lv_at hl 0 rfl) ?_
      refine zz_get hC hK hZ 0 0 (Nat.le_of_ble_eq_true rfl) (xc_0 q _ _) rfl hin_Forge (by decide) wd_229 rfl rfl d_Forge_cover_47 ?_
      refine lv_aload_n hx_ hb_ d_Forge_cover_50 rfl (lv_at hl 0 rfl) ?_
      refine zz_get hC hK hZ 0 1 (Nat.le_of_ble_eq_true rfl) (xc_0 q _ _) rfl hin_Forge (by decide) wd_230 rfl rfl d_Forge_cover_51 ?_
      refine zz_cv (zz_rV (As := [.ref (zz_ad (xg_G q) 1), .ref (zz_ad (xg_G q) 18)]) (rest := []) hC hK hZ 27 (c_Code_write l q (zz_u S0 18 9 (nI m)) op nu sz ht m t hXl.2.1 rl R sz2 nb2 hB2 gs qs hq h7 h36) k_Code_write (Nat.le_of_ble_eq_true rfl) (xc_27 q _ _) rfl wd_417 ⟨rfl, rfl, by decide, by decide⟩ rfl hl.1 rfl (Nat.le_of_ble_eq_true rfl) d_Forge_cover_54 ⟨Nat.zero_le _, Nat.zero_le _⟩) hZ (fun S54 H locs hp54 hZ => ?_)
      obtain ⟨ho54, h54, Wk, hW, hk54⟩ := hp54
      obtain ⟨i1, i2, i3, i4⟩ := wr_inv (nu := nu) hB.2.2.1 hP.2.2.2.2.2.1 (by omega) hfm (fun i _ h => (hq i h).2) hW (sz (m - 1)) (by omega)
      have hlen := hk54.2.1
      refine lv_aload_n hx_ hb_ d_Forge_cover_57 rfl (lv_at hl 0 rfl) ?_
      refine zz_get hC hK hZ 0 3 (Nat.le_of_ble_eq_true rfl) (xc_0 q _ _) rfl hin_Forge (by decide) wd_232 rfl rfl d_Forge_cover_58 ?_
      refine lv_aload_n hx_ hb_ d_Forge_cover_61 rfl (lv_at hl 0 rfl) ?_
      refine zz_get hC hK hZ 0 5 (Nat.le_of_ble_eq_true rfl) (xc_0 q _ _) rfl hin_Forge (by decide) wd_234 rfl rfl d_Forge_cover_62 ?_
      refine zz_topi (y := nI reg) (by rw [(ho54 0 (by omega)).1]; exact hXl.2.2.2.2.2.1) ?_
      refine zz_cv (zz_rV (As := [.int (nI reg)]) (rest := []) hC hK hZ 27 (c_Code_givePlaces l q S54 reg (wr_st rl op nu sz qs Wk (m - sz (m - 1)) (sz (m - 1))).1.1 (wr_st rl op nu sz qs Wk (m - sz (m - 1)) (sz (m - 1))).1.2.2.2.2.2.2.2 hrg.1 hrg.2 hlen hk54.1 (fun j hj => ⟨(hk54.2.2 j hj).2.2.2.2.2.2, by have := (i3 j hj).2.1; omega⟩)) k_Code_givePlaces (Nat.le_of_ble_eq_true rfl) (xc_27 q _ _) rfl wd_440 ⟨rfl, rfl, by decide, by decide⟩ rfl hl.1 rfl (Nat.le_of_ble_eq_true rfl) d_Forge_cover_65 ⟨Nat.zero_le _, Nat.zero_le _⟩) hZ (fun S65 H locs hp65 hZ => ?_)
      obtain ⟨ho65, h65, pl2, sc2, hat, hpl2, hsc2⟩ := hp65
      refine lv_aload_n hx_ hb_ d_Forge_cover_68 rfl (lv_at hl 0 rfl) ?_
      refine zz_get hC hK hZ 0 3 (Nat.le_of_ble_eq_true rfl) (xc_0 q _ _) rfl hin_Forge (by decide) wd_232 rfl rfl d_Forge_cover_69 ?_
      refine zz_get hC hK hZ 27 13 (Nat.le_of_ble_eq_true rfl) (xc_27 q _ _) rfl hin_Code (by decide) wd_195 rfl rfl d_Forge_cover_72 ?_
      refine zz_topi (y := nI ((wr_st rl op nu sz qs Wk (m - sz (m - 1)) (sz (m - 1))).1.1)) h65 ?_
      exact zz_iret hC hK hZ rfl d_Forge_cover_75 (Or.inr ⟨h7, gs, qs, fun i hi => (hq i hi).2, Or.inr ⟨h36, Wk, pl2, sc2, hW, hat, rfl, xi_cover hXl (zz_off_tr (zz_off_mono ho54 (fun c h => by omega)) (zz_off_mono ho65 (fun c h => by omega))) ⟨⟨h65, hlen, fun i hi => by
        rw [(ho65 28 (by omega)).1, (ho65 29 (by omega)).1, (ho65 30 (by omega)).1, (ho65 31 (by omega)).1, (ho65 32 (by omega)).1, (ho65 33 (by omega)).1, (ho65 34 (by omega)).1]
        exact hk54.2.2 i hi⟩, hsc2, hpl2⟩⟩⟩)
    · refine lv_bipush (v := (-3)) hx_ hb_ d_Forge_cover_39 (by decide) ?_
      exact zz_iret hC hK hZ rfl d_Forge_cover_41 (Or.inr ⟨h7, gs, qs, fun i hi => (hq i hi).2, Or.inl ⟨h36, rfl, hXl⟩⟩)
  · refine lv_iconst (v := (-1)) hx_ hb_ d_Forge_cover_10 (by decide) ?_
    exact zz_iret hC hK hZ rfl d_Forge_cover_11 (Or.inl ⟨h7, rfl, rfl⟩)
