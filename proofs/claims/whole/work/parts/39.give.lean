/-! givePlaces. Laid by wip/whole/prog/p10.py. -/
set_option maxHeartbeats 4000000 in
set_option maxRecDepth 100000 in
theorem c_Code_givePlaces (l : Launch) (q : xg_T) (S : zz_S) (reg n : Nat) (un : Nat → Nat) (hr1 : 1 ≤ reg) (hreg : reg ≤ 4) (hn : n ≤ 160) (hcn : S.1 27 13 = nI n) (hun : ∀ j, j < n → S.1 34 j = nI (un j) ∧ un j < 160) : Met l y_Code_givePlaces (Cond.code y_Code_givePlaces b_Code_givePlaces 4 none :: zz_tbl) rm_Code_givePlaces (zz_Pc [.ref (zz_ad (xg_G q) 27), .int (nI reg)] (xg_G q) S) (va_Qv (fun S1 => zz_off xg_X S S1 ∧ S1.1 27 13 = nI n ∧ ∃ (pl : Nat → Nat) (sc : Nat), pl_at reg un n pl sc ∧ (∀ j, j < n → S1.1 35 j = nI (pl j)) ∧ S1.1 27 14 = nI sc) (zz_P (xg_G q)) (zz_A (xg_G q))) 0 0 (zz_A (xg_G q)) := by
  refine zz_met (by decide) (Nat.le_of_ble_eq_true rfl) ?_
  intro p_ e_ s_ m_ bl_ mt_ c_ ls hC hK hZ hl
  have hC : zz_C p_ s_ m_ _ mt_ c_ b_Code_givePlaces 4 none "TreeCoverForge$Code" := hC
  have hx_ := hC.1
  have hb_ := hC.2.1
  have hl : lv_has ls 4 [(0, .ref (zz_ad (xg_G q) 27)), (1, .int (nI reg))] := hl
  have L15_ : ∀ (n_ : Nat) (i : Nat) (Si : zz_S) (pl : Nat → Nat) (sc : Nat) (hd : Nat → Nat) (H : Heap) (locs : List Loc) (ls : Array Slot) (hi : i ≤ n) (ho : zz_off xg_X S Si) (hci : Si.1 27 13 = nI n) (hat : pl_at reg un i pl sc) (hpl : ∀ j, j < i → Si.1 35 j = nI (pl j)) (hsc : Si.1 27 14 = nI sc) (hh : ∀ r, r < reg → Si.1 37 r = vw_h (hd r)) (hA : ph_A reg un pl hd i) (hZ : zz_Z (xg_G q) Si s_.heap H locs) (hl : lv_has ls 4 [(0, .ref (zz_ad (xg_G q) 27)), (1, .int (nI reg)), (2, .int (nI i))]) (hn_ : n - i = n_), W p_ l e_ rm_Code_givePlaces s_ m_ ([.ref (zz_ad (xg_G q) 27), .int (nI reg)] : List Value).toArray bl_ mt_ c_ H locs 0 0 (MQ bl_ (va_Qv (fun S1 => zz_off xg_X S S1 ∧ S1.1 27 13 = nI n ∧ ∃ (pl : Nat → Nat) (sc : Nat), pl_at reg un n pl sc ∧ (∀ j, j < n → S1.1 35 j = nI (pl j)) ∧ S1.1 27 14 = nI sc) (zz_P (xg_G q)) (zz_A (xg_G q))) ([.ref (zz_ad (xg_G q) 27), .int (nI reg)] : List Value).toArray s_ 0 0 (zz_A (xg_G q))) (F0 m_ 15 ls []) := by
    intro n_
    induction n_ using Nat.strongRecOn with
    | ind n_ ih_ =>
      intro i Si pl sc hd H locs ls hi ho hci hat hpl hsc hh hA hZ hl hn_
      have hui : ∀ j, j < n → Si.1 34 j = nI (un j) ∧ un j < 160 := fun j hj => by
        rw [(ho 34 (by omega)).1]
        exact hun j hj
      have hsc2 := (pl_ok_at (by omega) i hat).2.2.2
      refine lv_iload_n hx_ hb_ d_Code_givePlaces_15 rfl (lv_at hl 2 rfl) ?_
      refine lv_aload_n hx_ hb_ d_Code_givePlaces_16 rfl (lv_at hl 0 rfl) ?_
      refine zz_get hC hK hZ 27 13 (Nat.le_of_ble_eq_true rfl) (xc_27 q _ _) rfl hin_Code (by decide) wd_194 rfl rfl d_Code_givePlaces_17 ?_
      refine zz_topi (y := nI n) hci ?_
      refine zz_jge (tgt := 69) hC d_Code_givePlaces_20 (by decide) (by omega) (by omega) (fun h20 => ?_) (fun h20 => ?_)
      · exact zz_vret hC hK hZ rfl d_Code_givePlaces_69 ⟨ho, hci, pl, sc, by rw [show n = i by omega]; exact hat, fun j hj => hpl j (by omega), hsc⟩
      · refine lv_aload_n hx_ hb_ d_Code_givePlaces_23 rfl (lv_at hl 0 rfl) ?_
        refine lv_iload_n hx_ hb_ d_Code_givePlaces_24 rfl (lv_at hl 2 rfl) ?_
        refine lv_iload_n hx_ hb_ d_Code_givePlaces_25 rfl (lv_at hl 1 rfl) ?_
        refine zz_cv (zz_rV (As := [.int (nI i), .int (nI reg)]) (rest := []) hC hK hZ 27 (c_Code_releaseUntil l q Si i reg hd hreg hh un n hn hui (fun r hr hf => by have := ph_lt hA hr hf; omega) (by omega)) k_Code_releaseUntil (Nat.le_of_ble_eq_true rfl) (xc_27 q _ _) rfl wd_445 ⟨rfl, rfl, by decide, by decide⟩ rfl hl.1 rfl (Nat.le_of_ble_eq_true rfl) d_Code_givePlaces_26 ⟨Nat.zero_le _, Nat.zero_le _⟩) hZ (fun S26 H locs hp26 hZ => ?_)
        have hBB := ph_AB (by omega) hA
        have ho26 := zz_off_tr ho (zz_off_mono hp26.1 (fun c h => Or.inr (Or.inr h)))
        have hcn26 : S26.1 27 13 = nI n := by rw [(hp26.1 27 (by omega)).1]; exact hci
        have hsc26 : S26.1 27 14 = nI sc := by rw [(hp26.1 27 (by omega)).1]; exact hsc
        have hpl26 : ∀ j, j < i → S26.1 35 j = nI (pl j) := fun j hj => by
          rw [(hp26.1 35 (by omega)).1]
          exact hpl j hj
        have hun26 : ∀ j, j < n → S26.1 34 j = nI (un j) ∧ un j < 160 := fun j hj => by
          rw [(hp26.1 34 (by omega)).1]
          exact hui j hj
        refine lv_aload_n hx_ hb_ d_Code_givePlaces_29 rfl (lv_at hl 0 rfl) ?_
        refine lv_iload_n hx_ hb_ d_Code_givePlaces_30 rfl (lv_at hl 1 rfl) ?_
        refine zz_ci (zz_rV (As := [.int (nI reg)]) (rest := []) hC hK hZ 27 (c_Code_leastFree l q S26 reg (ph_rel un hd i) hreg hp26.2) k_Code_leastFree (Nat.le_of_ble_eq_true rfl) (xc_27 q _ _) rfl wd_449 ⟨rfl, rfl, by decide, by decide⟩ rfl hl.1 rfl (Nat.le_of_ble_eq_true rfl) d_Code_givePlaces_31 ⟨Nat.zero_le _, Nat.zero_le _⟩) hZ (fun r31 S31 H locs hp31 hZ => ?_)
        obtain ⟨rfl, hlf⟩ := hp31
        refine lv_istore_n (i := 3) (lv' := [(3, .int r31), (0, .ref (zz_ad (xg_G q) 27)), (1, .int (nI reg)), (2, .int (nI i))]) hx_ hb_ d_Code_givePlaces_34 rfl hl (by decide) rfl (fun ls hl => ?_)
        refine lv_iload_n hx_ hb_ d_Code_givePlaces_35 rfl (lv_at hl 0 rfl) ?_
        refine lv_iconst (v := (-1)) hx_ hb_ d_Code_givePlaces_36 (by decide) ?_
        refine zz_rjne (tgt := 49) hC d_Code_givePlaces_37 (by decide) (fun h37 => ?_) (fun h37 => ?_)
        · obtain ⟨r, hr, hre, hrf, hrl⟩ : ∃ r, r < reg ∧ r31 = nI r ∧ ¬ (ph_rel un hd i) r < 1000 ∧ ∀ s, s < r → (ph_rel un hd i) s < 1000 := by
            rcases hlf with h | h
            · exact h
            · rw [h.1] at h37
              exact absurd rfl h37
          clear hlf
          subst hre
          obtain ⟨pl2, hd2, g1, g2, g3, g4, g5⟩ := gp_give (sc := sc) (by omega) hBB hr hrf hrl hpl26 hp26.2
          refine lv_aload_n hx_ hb_ d_Code_givePlaces_49 rfl (lv_at hl 1 rfl) ?_
          refine zz_get hC hK hZ 27 9 (Nat.le_of_ble_eq_true rfl) (xc_27 q _ _) rfl hin_Code (by decide) wd_190 rfl rfl d_Code_givePlaces_50 ?_
          refine lv_iload_n hx_ hb_ d_Code_givePlaces_53 rfl (lv_at hl 0 rfl) ?_
          refine lv_iload_n hx_ hb_ d_Code_givePlaces_54 rfl (lv_at hl 3 rfl) ?_
          refine zz_iast hC hK hZ 37 0 r (Nat.le_of_ble_eq_true rfl) (fun _ => xc_37 q _ _) rfl rfl (by omega) (by decide) d_Code_givePlaces_55 (fun H locs hZ => ?_)
          refine lv_aload_n hx_ hb_ d_Code_givePlaces_56 rfl (lv_at hl 1 rfl) ?_
          refine zz_get hC hK hZ 27 7 (Nat.le_of_ble_eq_true rfl) (xc_27 q _ _) rfl hin_Code (by decide) wd_188 rfl rfl d_Code_givePlaces_57 ?_
          refine lv_iload_n hx_ hb_ d_Code_givePlaces_60 rfl (lv_at hl 3 rfl) ?_
          refine lv_iload_n hx_ hb_ d_Code_givePlaces_61 rfl (lv_at hl 0 rfl) ?_
          refine zz_iast hC hK hZ 35 0 i (Nat.le_of_ble_eq_true rfl) (fun _ => xc_35 q _ _) rfl rfl (by omega) (by decide) d_Code_givePlaces_62 (fun H locs hZ => ?_)
          refine lv_iinc (k := 3) (v := nI (i + 1)) (lv' := [(2, .int (nI (i + 1))), (3, .int (nI r)), (0, .ref (zz_ad (xg_G q) 27)), (1, .int (nI reg))]) hx_ hb_ d_Code_givePlaces_63 hl rfl (nI_add _ 1) (by decide) rfl (fun ls hl => ?_)
          refine lv_goto (tgt := 15) hx_ hb_ d_Code_givePlaces_66 (by decide) ?_
          exact ih_ _ (by omega) (i + 1) (zz_u (zz_u S26 37 r (nI i)) 35 i (nI r)) pl2 sc hd2  _ _ _ (by omega) (zz_off_tr ho26 g5) hcn26 ⟨pl, sc, hat, g1⟩ g3 hsc26 g4 g2 hZ (lv_sub hl [2, 3, 0] rfl) rfl
        · have hall : ∀ r, r < reg → (ph_rel un hd i) r < 1000 := by
            rcases hlf with ⟨r, hr, hre, hrf, hrl⟩ | h
            · rw [hre, nI_toInt (by omega), show (-1 : Int32).toInt = -1 from rfl] at h37
              omega
            · exact h.2
          clear hlf
          refine lv_aload_n hx_ hb_ d_Code_givePlaces_40 rfl (lv_at hl 1 rfl) ?_
          refine lv_iload_n hx_ hb_ d_Code_givePlaces_41 rfl (lv_at hl 3 rfl) ?_
          refine lv_iload_n hx_ hb_ d_Code_givePlaces_42 rfl (lv_at hl 2 rfl) ?_
          refine zz_cv (zz_rV (As := [.int (nI i), .int (nI reg)]) (rest := []) hC hK hZ 27 (c_Code_spillFor l q S26 i reg (ph_rel un hd i) hreg hp26.2 un n hn hun26 pl sc (by omega) (fun r hr => ph_ltB hBB hr (hall r hr)) hpl26 hsc26 (by omega) (fun hne => by
            have hm := ph_max hBB hall (by omega)
            rcases hm.1 with h | h
            · exact absurd h hne
            · exact ⟨h.1, h.2.1⟩)) k_Code_spillFor (Nat.le_of_ble_eq_true rfl) (xc_27 q _ _) rfl wd_453 ⟨rfl, rfl, by decide, by decide⟩ rfl hl.1 rfl (Nat.le_of_ble_eq_true rfl) d_Code_givePlaces_43 ⟨Nat.zero_le _, Nat.zero_le _⟩) hZ (fun S43 H locs hp43 hZ => ?_)
          obtain ⟨pl2, hd2, g1, g2, g3, g4, g5, g6, g7⟩ := gp_spill (by omega) hBB hall hpl26 hp26.2 hp43
          refine lv_goto (tgt := 63) hx_ hb_ d_Code_givePlaces_46 (by decide) ?_
          refine lv_iinc (k := 3) (v := nI (i + 1)) (lv' := [(2, .int (nI (i + 1))), (3, .int r31), (0, .ref (zz_ad (xg_G q) 27)), (1, .int (nI reg))]) hx_ hb_ d_Code_givePlaces_63 hl rfl (nI_add _ 1) (by decide) rfl (fun ls hl => ?_)
          refine lv_goto (tgt := 15) hx_ hb_ d_Code_givePlaces_66 (by decide) ?_
          exact ih_ _ (by omega) (i + 1) S43 pl2 (sc + 1) hd2  _ _ _ (by omega) (zz_off_tr ho26 g7) (g6.trans hcn26) ⟨pl, sc, hat, g1⟩ g3 g5 g4 g2 hZ (lv_sub hl [2, 3, 0] rfl) rfl
  have L15 : ∀ (i : Nat) (Si : zz_S) (pl : Nat → Nat) (sc : Nat) (hd : Nat → Nat) (H : Heap) (locs : List Loc) (ls : Array Slot) (hi : i ≤ n) (ho : zz_off xg_X S Si) (hci : Si.1 27 13 = nI n) (hat : pl_at reg un i pl sc) (hpl : ∀ j, j < i → Si.1 35 j = nI (pl j)) (hsc : Si.1 27 14 = nI sc) (hh : ∀ r, r < reg → Si.1 37 r = vw_h (hd r)) (hA : ph_A reg un pl hd i) (hZ : zz_Z (xg_G q) Si s_.heap H locs) (hl : lv_has ls 4 [(0, .ref (zz_ad (xg_G q) 27)), (1, .int (nI reg)), (2, .int (nI i))]), W p_ l e_ rm_Code_givePlaces s_ m_ ([.ref (zz_ad (xg_G q) 27), .int (nI reg)] : List Value).toArray bl_ mt_ c_ H locs 0 0 (MQ bl_ (va_Qv (fun S1 => zz_off xg_X S S1 ∧ S1.1 27 13 = nI n ∧ ∃ (pl : Nat → Nat) (sc : Nat), pl_at reg un n pl sc ∧ (∀ j, j < n → S1.1 35 j = nI (pl j)) ∧ S1.1 27 14 = nI sc) (zz_P (xg_G q)) (zz_A (xg_G q))) ([.ref (zz_ad (xg_G q) 27), .int (nI reg)] : List Value).toArray s_ 0 0 (zz_A (xg_G q))) (F0 m_ 15 ls []) := fun i Si pl sc hd H locs ls hi ho hci hat hpl hsc hh hA hZ hl => L15_ _ i Si pl sc hd H locs ls hi ho hci hat hpl hsc hh hA hZ hl rfl
  refine lv_aload_n hx_ hb_ d_Code_givePlaces_0 rfl (lv_at hl 0 rfl) ?_
  refine lv_iconst (v := nI 0) hx_ hb_ d_Code_givePlaces_1 (by decide) ?_
  refine zz_put hC hK hZ 27 14 (Nat.le_of_ble_eq_true rfl) (xc_27 q _ _) rfl hin_Code t_Code t_Code_ok n_Code (by decide) wd_196 rfl rfl rfl (Nat.le_of_ble_eq_true rfl) rfl d_Code_givePlaces_2 (fun H locs hZ => ?_)
  refine lv_aload_n hx_ hb_ d_Code_givePlaces_5 rfl (lv_at hl 0 rfl) ?_
  refine zz_get hC hK hZ 27 9 (Nat.le_of_ble_eq_true rfl) (xc_27 q _ _) rfl hin_Code (by decide) wd_190 rfl rfl d_Code_givePlaces_6 ?_
  refine lv_iconst (v := (-1)) hx_ hb_ d_Code_givePlaces_9 (by decide) ?_
  refine zz_cv (zz_rS (As := [.ref (zz_ad (xg_G q) 37), .int ((-1))]) (rest := []) hC hK hZ (c_fill37 l q (zz_u S 27 14 (nI 0)) (-1)) k_Arrays_fillI wd_444 ⟨rfl, rfl, by decide, by decide⟩ rfl hl.1 rfl (Nat.le_of_ble_eq_true rfl) d_Code_givePlaces_10 ⟨Nat.zero_le _, Nat.zero_le _⟩) hZ (fun S10 H locs hp10 hZ => ?_)
  refine lv_iconst (v := nI 0) hx_ hb_ d_Code_givePlaces_13 (by decide) ?_
  refine lv_istore_n (i := 2) (lv' := [(2, .int (nI 0)), (0, .ref (zz_ad (xg_G q) 27)), (1, .int (nI reg))]) hx_ hb_ d_Code_givePlaces_14 rfl hl (by decide) rfl (fun ls hl => ?_)
  exact L15 0 S10 (fun _ => 0) 0 (fun _ => 1000)  _ _ _ (Nat.zero_le _) (zz_off_tr (fun d hd => ⟨zz_u1 S 27 14 _ d (fun h => hd (Or.inl h)), rfl⟩) (zz_off_mono hp10.1 (fun c h => Or.inr (Or.inr h)))) (by rw [(hp10.1 27 (by omega)).1]; exact hcn) ⟨rfl, rfl⟩ (fun j hj => absurd hj (Nat.not_lt_zero j)) (by rw [(hp10.1 27 (by omega)).1]; rfl) (fun r hr => by rw [hp10.2 r (by omega)]; rfl) (fun r hr => Or.inl ⟨by show ¬ (1000 < 1000); omega, fun j hj => absurd hj (Nat.not_lt_zero j)⟩) hZ (lv_sub hl [1, 2, 0] rfl)
