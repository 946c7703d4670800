/-! The reference: places. Laid by wip/whole/prog/p28.py. -/
set_option maxHeartbeats 4000000 in
set_option maxRecDepth 100000 in
theorem c_Model_instruction (l : Launch) (q : xg_T) (S : zz_S) (i w : Int32) (cs : cd_T) (pl : Nat → Nat) (hcs : mk_cd S cs) (hcd : cd_ok cs) (hpl : ∀ j, j < cs.1 → S.1 26 j = nI (pl j)) : Met l y_Model_instruction (Cond.code y_Model_instruction b_Model_instruction 4 (some .int) :: zz_tbl) rm_Model_instruction (zz_Pc [.ref (zz_ad (mg_G q) 0), .int i, .int w] (mg_G q) S) (va_Qi (fun ans S1 => S = S1 ∧ ((¬ ((0 ≤ i.toInt ∧ i.toInt < (cs.1 : Int)) ∧ 0 ≤ w.toInt ∧ w.toInt < 5) ∧ ans = -1) ∨ (((0 ≤ i.toInt ∧ i.toInt < (cs.1 : Int)) ∧ 0 ≤ w.toInt ∧ w.toInt < 5) ∧ ans = xk_tell cs pl i.toNatClampNeg w.toNatClampNeg))) (zz_P (mg_G q)) (zz_A (mg_G q))) 0 0 (zz_A (mg_G q)) := by
  refine zz_met (by decide) (Nat.le_of_ble_eq_true rfl) ?_
  intro p_ e_ s_ m_ bl_ mt_ c_ ls hC hK hZ hl
  have hC : zz_C p_ s_ m_ _ mt_ c_ b_Model_instruction 4 (some .int) "TreeCoverForgeModel" := hC
  have hx_ := hC.1
  have hb_ := hC.2.1
  have hl : lv_has ls 4 [(0, .ref (zz_ad (mg_G q) 0)), (1, .int i), (2, .int w)] := hl
  have hn := hcs.2.1
  have J82 : ∀ (s : Int32) (x : Nat) (H : Heap) (locs : List Loc) (ls : Array Slot) (hgd : ((0 ≤ i.toInt ∧ i.toInt < (cs.1 : Int)) ∧ 0 ≤ w.toInt ∧ w.toInt < 5)) (hs0 : s = vw_s x) (hw : (w.toNatClampNeg = 3 ∧ x = cs.2.2.2.2.2.1 i.toNatClampNeg) ∨ (w.toNatClampNeg = 4 ∧ x = cs.2.2.2.2.2.2.1 i.toNatClampNeg)) (hxb : x < 1000 → x < cs.1) (hZ : zz_Z (mg_G q) S s_.heap H locs) (hl : lv_has ls 4 [(0, .ref (zz_ad (mg_G q) 0)), (1, .int i), (2, .int w), (3, .int s)]), W p_ l e_ rm_Model_instruction s_ m_ ([.ref (zz_ad (mg_G q) 0), .int i, .int w] : List Value).toArray bl_ mt_ c_ H locs 0 0 (MQ bl_ (va_Qi (fun ans S1 => S = S1 ∧ ((¬ ((0 ≤ i.toInt ∧ i.toInt < (cs.1 : Int)) ∧ 0 ≤ w.toInt ∧ w.toInt < 5) ∧ ans = -1) ∨ (((0 ≤ i.toInt ∧ i.toInt < (cs.1 : Int)) ∧ 0 ≤ w.toInt ∧ w.toInt < 5) ∧ ans = xk_tell cs pl i.toNatClampNeg w.toNatClampNeg))) (zz_P (mg_G q)) (zz_A (mg_G q))) ([.ref (zz_ad (mg_G q) 0), .int i, .int w] : List Value).toArray s_ 0 0 (zz_A (mg_G q))) (F0 m_ 82 ls []) := by
    intro s x H locs ls hgd hs0 hw hxb hZ hl
    refine lv_iload_n hx_ hb_ d_Model_instruction_82 rfl (lv_at hl 3 rfl) ?_
    refine zz_rige (tgt := 91) hC d_Model_instruction_83 (by decide) (fun h83 => ?_) (fun h83 => ?_)
    · rw [hs0] at h83
      have hs := vw_sge.1 h83
      have hxc := hxb hs
      refine lv_aload_n hx_ hb_ d_Model_instruction_91 rfl (lv_at hl 0 rfl) ?_
      refine zz_get hC hK hZ 0 32 (Nat.le_of_ble_eq_true rfl) (mc_0 q _ _) rfl hin_Model (by decide) wd_539 rfl rfl d_Model_instruction_92 ?_
      refine lv_iload_n hx_ hb_ d_Model_instruction_95 rfl (lv_at hl 3 rfl) ?_
      refine zz_topi (y := nI x) (by rw [hs0, vw_s_in hs]) ?_
      refine zz_iald hC hK hZ 26 0 x (Nat.le_of_ble_eq_true rfl) (mc_26 q _ _) rfl rfl (by omega) (by decide) rfl d_Model_instruction_96 ?_
      refine zz_topi (y := nI (pl x)) (hpl x (by omega)) ?_
      exact zz_iret hC hK hZ rfl d_Model_instruction_97 ⟨rfl, Or.inr ⟨hgd, by rw [xk_tell, if_neg (by omega), if_neg (by omega), if_neg (by omega)]; rcases hw with ⟨h1, h2⟩ | ⟨h1, h2⟩ <;> first | rw [if_pos h1, ← h2, if_pos hs] | rw [if_neg (by omega), ← h2, if_pos hs]⟩⟩
    · rw [hs0] at h83
      have hs : ¬ x < 1000 := fun h => absurd (vw_sge.2 h) (by omega)
      refine lv_bipush (v := (-3)) hx_ hb_ d_Model_instruction_86 (by decide) ?_
      refine lv_goto (tgt := 97) hx_ hb_ d_Model_instruction_88 (by decide) ?_
      exact zz_iret hC hK hZ rfl d_Model_instruction_97 ⟨rfl, Or.inr ⟨hgd, by rw [xk_tell, if_neg (by omega), if_neg (by omega), if_neg (by omega)]; rcases hw with ⟨h1, h2⟩ | ⟨h1, h2⟩ <;> first | rw [if_pos h1, ← h2, if_neg hs] | rw [if_neg (by omega), ← h2, if_neg hs]⟩⟩
  refine lv_iload_n hx_ hb_ d_Model_instruction_0 rfl (lv_at hl 1 rfl) ?_
  refine zz_rilt (tgt := 20) hC d_Model_instruction_1 (by decide) (fun h1 => ?_) (fun h1 => ?_)
  · refine lv_iconst (v := (-1)) hx_ hb_ d_Model_instruction_20 (by decide) ?_
    exact zz_iret hC hK hZ rfl d_Model_instruction_21 ⟨rfl, Or.inl ⟨by omega, rfl⟩⟩
  · refine lv_iload_n hx_ hb_ d_Model_instruction_4 rfl (lv_at hl 1 rfl) ?_
    refine lv_aload_n hx_ hb_ d_Model_instruction_5 rfl (lv_at hl 0 rfl) ?_
    refine zz_get hC hK hZ 0 22 (Nat.le_of_ble_eq_true rfl) (mc_0 q _ _) rfl hin_Model (by decide) wd_529 rfl rfl d_Model_instruction_6 ?_
    refine zz_topi (y := nI cs.1) hcs.1 ?_
    refine zz_rjge (tgt := 20) hC d_Model_instruction_9 (by decide) (fun h9 => ?_) (fun h9 => ?_)
    · rw [nI_toInt (by omega)] at h9
      refine lv_iconst (v := (-1)) hx_ hb_ d_Model_instruction_20 (by decide) ?_
      exact zz_iret hC hK hZ rfl d_Model_instruction_21 ⟨rfl, Or.inl ⟨by omega, rfl⟩⟩
    · rw [nI_toInt (by omega)] at h9
      refine lv_iload_n hx_ hb_ d_Model_instruction_12 rfl (lv_at hl 2 rfl) ?_
      refine lv_iconst (v := nI 4) hx_ hb_ d_Model_instruction_13 (by decide) ?_
      refine zz_ci (zz_rS (As := [.int w, .int (nI 4)]) (rest := []) hC hK hZ (c_Model_outside l q S w 4 (by omega)) k_Model_outside wd_629 ⟨rfl, rfl, by decide, by decide⟩ rfl hl.1 rfl (Nat.le_of_ble_eq_true rfl) d_Model_instruction_14 ⟨Nat.zero_le _, Nat.zero_le _⟩) hZ (fun r14 S14 H locs hp14 hZ => ?_)
      obtain ⟨rfl, rfl⟩ := hp14
      refine zz_beq (tgt := 22) hC d_Model_instruction_17 (by decide) (fun h17 => ?_) (fun h17 => ?_)
      · have hci := zz_clamp (show 0 ≤ i.toInt by omega)
        have hcw := zz_clamp (show 0 ≤ w.toInt by omega)
        refine lv_iload_n hx_ hb_ d_Model_instruction_22 rfl (lv_at hl 2 rfl) ?_
        refine lv_iconst (v := nI 3) hx_ hb_ d_Model_instruction_23 (by decide) ?_
        refine zz_rjge (tgt := 61) hC d_Model_instruction_24 (by decide) (fun h24 => ?_) (fun h24 => ?_)
        · rw [nI_toInt (by omega)] at h24
          refine lv_iload_n hx_ hb_ d_Model_instruction_61 rfl (lv_at hl 2 rfl) ?_
          refine lv_iconst (v := nI 3) hx_ hb_ d_Model_instruction_62 (by decide) ?_
          refine zz_rjne (tgt := 75) hC d_Model_instruction_63 (by decide) (fun h63 => ?_) (fun h63 => ?_)
          · rw [nI_toInt (by omega)] at h63
            refine lv_aload_n hx_ hb_ d_Model_instruction_75 rfl (lv_at hl 0 rfl) ?_
            refine zz_get hC hK hZ 0 30 (Nat.le_of_ble_eq_true rfl) (mc_0 q _ _) rfl hin_Model (by decide) wd_537 rfl rfl d_Model_instruction_76 ?_
            refine lv_iload_n hx_ hb_ d_Model_instruction_79 rfl (lv_at hl 1 rfl) ?_
            refine zz_topi (y := nI i.toNatClampNeg) hci.1 ?_
            refine zz_iald hC hK hZ 24 0 i.toNatClampNeg (Nat.le_of_ble_eq_true rfl) (mc_24 q _ _) rfl rfl (by omega) (by decide) rfl d_Model_instruction_80 ?_
            refine zz_topi (y := vw_s (cs.2.2.2.2.2.2.1 i.toNatClampNeg)) (hcs.2.2 i.toNatClampNeg (by omega)).2.2.2.2.2.1 ?_
            refine lv_istore_n (i := 3) (lv' := [(3, .int (vw_s (cs.2.2.2.2.2.2.1 i.toNatClampNeg))), (0, .ref (zz_ad (mg_G q) 0)), (1, .int i), (2, .int w)]) hx_ hb_ d_Model_instruction_81 rfl hl (by decide) rfl (fun ls hl => ?_)
            exact J82 (vw_s (cs.2.2.2.2.2.2.1 i.toNatClampNeg)) (cs.2.2.2.2.2.2.1 i.toNatClampNeg)  _ _ _ (by omega) rfl (Or.inr ⟨by omega, rfl⟩) (fun h => by have := ((hcd i.toNatClampNeg (by omega)).2.2.2 h).1; omega) hZ (lv_sub hl [1, 2, 3, 0] rfl)
          · rw [nI_toInt (by omega)] at h63
            refine lv_aload_n hx_ hb_ d_Model_instruction_66 rfl (lv_at hl 0 rfl) ?_
            refine zz_get hC hK hZ 0 29 (Nat.le_of_ble_eq_true rfl) (mc_0 q _ _) rfl hin_Model (by decide) wd_536 rfl rfl d_Model_instruction_67 ?_
            refine lv_iload_n hx_ hb_ d_Model_instruction_70 rfl (lv_at hl 1 rfl) ?_
            refine zz_topi (y := nI i.toNatClampNeg) hci.1 ?_
            refine zz_iald hC hK hZ 23 0 i.toNatClampNeg (Nat.le_of_ble_eq_true rfl) (mc_23 q _ _) rfl rfl (by omega) (by decide) rfl d_Model_instruction_71 ?_
            refine zz_topi (y := vw_s (cs.2.2.2.2.2.1 i.toNatClampNeg)) (hcs.2.2 i.toNatClampNeg (by omega)).2.2.2.2.1 ?_
            refine lv_goto (tgt := 81) hx_ hb_ d_Model_instruction_72 (by decide) ?_
            refine lv_istore_n (i := 3) (lv' := [(3, .int (vw_s (cs.2.2.2.2.2.1 i.toNatClampNeg))), (0, .ref (zz_ad (mg_G q) 0)), (1, .int i), (2, .int w)]) hx_ hb_ d_Model_instruction_81 rfl hl (by decide) rfl (fun ls hl => ?_)
            exact J82 (vw_s (cs.2.2.2.2.2.1 i.toNatClampNeg)) (cs.2.2.2.2.2.1 i.toNatClampNeg)  _ _ _ (by omega) rfl (Or.inl ⟨by omega, rfl⟩) (fun h => by have := ((hcd i.toNatClampNeg (by omega)).2.2.1 h).1; omega) hZ (lv_sub hl [1, 2, 3, 0] rfl)
        · rw [nI_toInt (by omega)] at h24
          refine lv_iload_n hx_ hb_ d_Model_instruction_27 rfl (lv_at hl 2 rfl) ?_
          refine zz_rine (tgt := 40) hC d_Model_instruction_28 (by decide) (fun h28 => ?_) (fun h28 => ?_)
          · refine lv_iload_n hx_ hb_ d_Model_instruction_40 rfl (lv_at hl 2 rfl) ?_
            refine lv_iconst (v := nI 1) hx_ hb_ d_Model_instruction_41 (by decide) ?_
            refine zz_rjne (tgt := 54) hC d_Model_instruction_42 (by decide) (fun h42 => ?_) (fun h42 => ?_)
            · rw [nI_toInt (by omega)] at h42
              refine lv_aload_n hx_ hb_ d_Model_instruction_54 rfl (lv_at hl 0 rfl) ?_
              refine zz_get hC hK hZ 0 32 (Nat.le_of_ble_eq_true rfl) (mc_0 q _ _) rfl hin_Model (by decide) wd_539 rfl rfl d_Model_instruction_55 ?_
              refine lv_iload_n hx_ hb_ d_Model_instruction_58 rfl (lv_at hl 1 rfl) ?_
              refine zz_topi (y := nI i.toNatClampNeg) hci.1 ?_
              refine zz_iald hC hK hZ 26 0 i.toNatClampNeg (Nat.le_of_ble_eq_true rfl) (mc_26 q _ _) rfl rfl (by omega) (by decide) rfl d_Model_instruction_59 ?_
              refine zz_topi (y := nI (pl i.toNatClampNeg)) (hpl _ (by omega)) ?_
              exact zz_iret hC hK hZ rfl d_Model_instruction_60 ⟨rfl, Or.inr ⟨by omega, by rw [xk_tell, if_neg (by omega), if_neg (by omega), if_pos (by omega)]⟩⟩
            · rw [nI_toInt (by omega)] at h42
              refine lv_aload_n hx_ hb_ d_Model_instruction_45 rfl (lv_at hl 0 rfl) ?_
              refine zz_get hC hK hZ 0 26 (Nat.le_of_ble_eq_true rfl) (mc_0 q _ _) rfl hin_Model (by decide) wd_533 rfl rfl d_Model_instruction_46 ?_
              refine lv_iload_n hx_ hb_ d_Model_instruction_49 rfl (lv_at hl 1 rfl) ?_
              refine zz_topi (y := nI i.toNatClampNeg) hci.1 ?_
              refine zz_iald hC hK hZ 20 0 i.toNatClampNeg (Nat.le_of_ble_eq_true rfl) (mc_20 q _ _) rfl rfl (by omega) (by decide) rfl d_Model_instruction_50 ?_
              refine zz_topi (y := nI (cs.2.2.1 i.toNatClampNeg)) (hcs.2.2 i.toNatClampNeg (by omega)).2.1 ?_
              refine lv_goto (tgt := 60) hx_ hb_ d_Model_instruction_51 (by decide) ?_
              exact zz_iret hC hK hZ rfl d_Model_instruction_60 ⟨rfl, Or.inr ⟨by omega, by rw [xk_tell, if_neg (by omega), if_pos (by omega)]⟩⟩
          · refine lv_aload_n hx_ hb_ d_Model_instruction_31 rfl (lv_at hl 0 rfl) ?_
            refine zz_get hC hK hZ 0 25 (Nat.le_of_ble_eq_true rfl) (mc_0 q _ _) rfl hin_Model (by decide) wd_532 rfl rfl d_Model_instruction_32 ?_
            refine lv_iload_n hx_ hb_ d_Model_instruction_35 rfl (lv_at hl 1 rfl) ?_
            refine zz_topi (y := nI i.toNatClampNeg) hci.1 ?_
            refine zz_iald hC hK hZ 19 0 i.toNatClampNeg (Nat.le_of_ble_eq_true rfl) (mc_19 q _ _) rfl rfl (by omega) (by decide) rfl d_Model_instruction_36 ?_
            refine zz_topi (y := nI (cs.2.1 i.toNatClampNeg)) (hcs.2.2 i.toNatClampNeg (by omega)).1 ?_
            refine lv_goto (tgt := 60) hx_ hb_ d_Model_instruction_37 (by decide) ?_
            exact zz_iret hC hK hZ rfl d_Model_instruction_60 ⟨rfl, Or.inr ⟨by omega, by rw [xk_tell, if_pos (by omega)]⟩⟩
      · refine lv_iconst (v := (-1)) hx_ hb_ d_Model_instruction_20 (by decide) ?_
        exact zz_iret hC hK hZ rfl d_Model_instruction_21 ⟨rfl, Or.inl ⟨by omega, rfl⟩⟩
set_option maxHeartbeats 4000000 in
set_option maxRecDepth 100000 in
theorem c_Model_holds (l : Launch) (q : xg_T) (S : zz_S) (j i reg : Nat) (un pl : Nat → Nat) (hrg : S.1 0 24 = nI reg) (hr4 : reg ≤ 4) (hj : j < 160) (hi : i < 160) (hun : S.1 25 j = nI (un j)) (hub : un j < 160) (hpl : S.1 26 j = nI (pl j)) (hpb : pl j < 1000) : Met l y_Model_holds (Cond.code y_Model_holds b_Model_holds 3 (some .boolean) :: zz_tbl) rm_Model_holds (zz_Pc [.ref (zz_ad (mg_G q) 0), .int (nI j), .int (nI i)] (mg_G q) S) (va_Qi (fun ans S1 => S = S1 ∧ ans = nI (if pl j < reg ∧ i < un j then 1 else 0)) (zz_P (mg_G q)) (zz_A (mg_G q))) 0 0 (zz_A (mg_G q)) := by
  refine zz_met (by decide) (Nat.le_of_ble_eq_true rfl) ?_
  intro p_ e_ s_ m_ bl_ mt_ c_ ls hC hK hZ hl
  have hC : zz_C p_ s_ m_ _ mt_ c_ b_Model_holds 3 (some .boolean) "TreeCoverForgeModel" := hC
  have hx_ := hC.1
  have hb_ := hC.2.1
  have hl : lv_has ls 3 [(0, .ref (zz_ad (mg_G q) 0)), (1, .int (nI j)), (2, .int (nI i))] := hl
  refine lv_aload_n hx_ hb_ d_Model_holds_0 rfl (lv_at hl 0 rfl) ?_
  refine zz_get hC hK hZ 0 32 (Nat.le_of_ble_eq_true rfl) (mc_0 q _ _) rfl hin_Model (by decide) wd_539 rfl rfl d_Model_holds_1 ?_
  refine lv_iload_n hx_ hb_ d_Model_holds_4 rfl (lv_at hl 1 rfl) ?_
  refine zz_iald hC hK hZ 26 0 j (Nat.le_of_ble_eq_true rfl) (mc_26 q _ _) rfl rfl (by omega) (by decide) rfl d_Model_holds_5 ?_
  refine zz_topi (y := nI (pl j)) hpl ?_
  refine lv_aload_n hx_ hb_ d_Model_holds_6 rfl (lv_at hl 0 rfl) ?_
  refine zz_get hC hK hZ 0 24 (Nat.le_of_ble_eq_true rfl) (mc_0 q _ _) rfl hin_Model (by decide) wd_531 rfl rfl d_Model_holds_7 ?_
  refine zz_topi (y := nI reg) hrg ?_
  refine zz_jge (tgt := 27) hC d_Model_holds_10 (by decide) (by omega) (by omega) (fun h10 => ?_) (fun h10 => ?_)
  · refine lv_iconst (v := nI 0) hx_ hb_ d_Model_holds_27 (by decide) ?_
    exact zz_zret hC hK hZ rfl d_Model_holds_28 (by decide) ⟨rfl, by rw [if_neg (by omega)]⟩
  · refine lv_aload_n hx_ hb_ d_Model_holds_13 rfl (lv_at hl 0 rfl) ?_
    refine zz_get hC hK hZ 0 31 (Nat.le_of_ble_eq_true rfl) (mc_0 q _ _) rfl hin_Model (by decide) wd_538 rfl rfl d_Model_holds_14 ?_
    refine lv_iload_n hx_ hb_ d_Model_holds_17 rfl (lv_at hl 1 rfl) ?_
    refine zz_iald hC hK hZ 25 0 j (Nat.le_of_ble_eq_true rfl) (mc_25 q _ _) rfl rfl (by omega) (by decide) rfl d_Model_holds_18 ?_
    refine zz_topi (y := nI (un j)) hun ?_
    refine lv_iload_n hx_ hb_ d_Model_holds_19 rfl (lv_at hl 2 rfl) ?_
    refine zz_jle (tgt := 27) hC d_Model_holds_20 (by decide) (by omega) (by omega) (fun h20 => ?_) (fun h20 => ?_)
    · refine lv_iconst (v := nI 0) hx_ hb_ d_Model_holds_27 (by decide) ?_
      exact zz_zret hC hK hZ rfl d_Model_holds_28 (by decide) ⟨rfl, by rw [if_neg (by omega)]⟩
    · refine lv_iconst (v := nI 1) hx_ hb_ d_Model_holds_23 (by decide) ?_
      refine lv_goto (tgt := 28) hx_ hb_ d_Model_holds_24 (by decide) ?_
      exact zz_zret hC hK hZ rfl d_Model_holds_28 (by decide) ⟨rfl, by rw [if_pos (by omega)]⟩
