/-! Labels and values of the top tree. Laid by wip/whole/prog/p7.py. -/
set_option maxHeartbeats 4000000 in
set_option maxRecDepth 100000 in
theorem c_Pile_labelOf (l : Launch) (q : xg_T) (S : zz_S) (op : Nat → Nat) (nu : Nat → Int32) (sz ht : Nat → Nat) (m t : Nat) (hP : xp_ok S op nu sz ht m t) (rl : mx_R) (R : Nat) (sz1 : Nat → Nat) (nb : Nat → Nat → Nat) (hB : xb_ok S rl R sz1 nb) (gs qs : Nat → Nat → Nat) (n nd : Nat) (hn : S.1 18 9 = nI n) (hnm : n ≤ m) (hQ : xq_ok S rl R op sz gs qs n) (hN : ∀ k, k < 4 → S.2 (42 + 3 * 40 + 1) k = vw_c 0) (hnd : nd < if t = 0 then 0 else sz (m - 1)) : Met l y_Pile_labelOf (Cond.code y_Pile_labelOf b_Pile_labelOf 7 (some (.object "TreeCoverForge$Label")) :: zz_tbl) rm_Pile_labelOf (zz_Pc [.ref (zz_ad (xg_G q) 18), .ref (zz_ad (xg_G q) 1), .int (nI nd)] (xg_G q) S) (zz_Qr (fun ans S1 => ans = 42 + 3 * (m - (if t = 0 then 0 else sz (m - 1)) + nd) ∧ ∃ (S0 : zz_S) (gs1 qs1 : Nat → Nat → Nat), zz_off xq_X S S0 ∧ S1 = zz_u S0 18 9 (nI m) ∧ xq_ok S1 rl R op sz gs1 qs1 m) (xg_G q)) 0 0 (zz_A (xg_G q)) := by
  refine zz_met (by decide) (Nat.le_of_ble_eq_true rfl) ?_
  intro p_ e_ s_ m_ bl_ mt_ c_ ls hC hK hZ hl
  have hC : zz_C p_ s_ m_ _ mt_ c_ b_Pile_labelOf 7 (some (.object "TreeCoverForge$Label")) "TreeCoverForge$Pile" := hC
  have hx_ := hC.1
  have hb_ := hC.2.1
  have hl : lv_has ls 7 [(0, .ref (zz_ad (xg_G q) 18)), (1, .ref (zz_ad (xg_G q) 1)), (2, .int (nI nd))] := hl
  have hP0 := hP
  obtain ⟨hm, ht0, hm40, htm, harr, htr, hts⟩ := hP
  have hok := hB.2.2.1
  have hle : (if t = 0 then 0 else sz (m - 1)) ≤ m := by
    split
    · omega
    · have := (htr (m - 1) (by omega)).2.2.1
      omega
  have L5_ : ∀ (n_ : Nat) (i : Nat) (Si : zz_S) (gs1 : Nat → Nat → Nat) (qs1 : Nat → Nat → Nat) (H : Heap) (locs : List Loc) (ls : Array Slot) (hi : i ≤ m) (ho : zz_off xq_X S Si) (hx : xq_ok Si rl R op sz gs1 qs1 i) (hZ : zz_Z (xg_G q) Si s_.heap H locs) (hl : lv_has ls 7 [(0, .ref (zz_ad (xg_G q) 18)), (1, .ref (zz_ad (xg_G q) 1)), (2, .int (nI nd)), (3, .int (nI i))]) (hn_ : m - i = n_), W p_ l e_ rm_Pile_labelOf s_ m_ ([.ref (zz_ad (xg_G q) 18), .ref (zz_ad (xg_G q) 1), .int (nI nd)] : List Value).toArray bl_ mt_ c_ H locs 0 0 (MQ bl_ (zz_Qr (fun ans S1 => ans = 42 + 3 * (m - (if t = 0 then 0 else sz (m - 1)) + nd) ∧ ∃ (S0 : zz_S) (gs1 qs1 : Nat → Nat → Nat), zz_off xq_X S S0 ∧ S1 = zz_u S0 18 9 (nI m) ∧ xq_ok S1 rl R op sz gs1 qs1 m) (xg_G q)) ([.ref (zz_ad (xg_G q) 18), .ref (zz_ad (xg_G q) 1), .int (nI nd)] : List Value).toArray s_ 0 0 (zz_A (xg_G q))) (F0 m_ 5 ls []) := by
    intro n_
    induction n_ using Nat.strongRecOn with
    | ind n_ ih_ =>
      intro i Si gs1 qs1 H locs ls hi ho hx hZ hl hn_
      have hBi := xb_keep hB (fun c h1 h2 => (ho c (by omega)).1)
      have hPi : xp_ok Si op nu sz ht m t := by
        unfold xp_ok
        rw [(ho 18 (by omega)).1, (ho 19 (by omega)).1, (ho 20 (by omega)).1, (ho 21 (by omega)).1, (ho 22 (by omega)).1]
        exact hP0
      have hN0 : ∀ k, k < 4 → Si.2 (42 + 3 * 40 + 1) k = vw_c 0 := fun k hk => by
        rw [(ho (42 + 3 * 40 + 1) (by omega)).2]
        exact hN k hk
      have hlz : ∀ k, k < 4 → (fun _ => 0 : Nat → Nat) k < mx_far → (fun _ => 0 : Nat → Nat) k ≤ 36 * 2 ^ i - 36 := fun k _ _ => Nat.zero_le _
      refine lv_iload_n hx_ hb_ d_Pile_labelOf_5 rfl (lv_at hl 3 rfl) ?_
      refine lv_aload_n hx_ hb_ d_Pile_labelOf_6 rfl (lv_at hl 0 rfl) ?_
      refine zz_get hC hK hZ 18 7 (Nat.le_of_ble_eq_true rfl) (xc_18 q _ _) rfl hin_Pile (by decide) wd_125 rfl rfl d_Pile_labelOf_7 ?_
      refine zz_topi (y := nI m) hPi.1 ?_
      refine zz_jge (tgt := 104) hC d_Pile_labelOf_10 (by decide) (by omega) (by omega) (fun h10 => ?_) (fun h10 => ?_)
      · refine lv_aload_n hx_ hb_ d_Pile_labelOf_104 rfl (lv_at hl 0 rfl) ?_
        refine lv_aload_n hx_ hb_ d_Pile_labelOf_105 rfl (lv_at hl 0 rfl) ?_
        refine zz_get hC hK hZ 18 7 (Nat.le_of_ble_eq_true rfl) (xc_18 q _ _) rfl hin_Pile (by decide) wd_125 rfl rfl d_Pile_labelOf_106 ?_
        refine zz_topi (y := nI m) hPi.1 ?_
        refine zz_put hC hK hZ 18 9 (Nat.le_of_ble_eq_true rfl) (xc_18 q _ _) rfl hin_Pile t_Pile t_Pile_ok n_Pile (by decide) wd_130 rfl rfl rfl (Nat.le_of_ble_eq_true rfl) rfl d_Pile_labelOf_109 (fun H locs hZ => ?_)
        refine lv_aload_n hx_ hb_ d_Pile_labelOf_112 rfl (lv_at hl 0 rfl) ?_
        refine zz_get hC hK hZ 18 5 (Nat.le_of_ble_eq_true rfl) (xc_18 q _ _) rfl hin_Pile (by decide) wd_122 rfl rfl d_Pile_labelOf_113 ?_
        refine lv_aload_n hx_ hb_ d_Pile_labelOf_116 rfl (lv_at hl 0 rfl) ?_
        refine zz_ci (zz_rV (As := []) (rest := [.ref (zz_ad (xg_G q) 24)]) hC hK hZ 18 (c_Pile_topStart l q (zz_u Si 18 9 (nI m)) op nu sz ht m t (by
          unfold xp_ok
          exact hPi)) k_Pile_topStart (Nat.le_of_ble_eq_true rfl) (xc_18 q _ _) rfl wd_395 ⟨rfl, rfl, by decide, by decide⟩ rfl hl.1 rfl (Nat.le_of_ble_eq_true rfl) d_Pile_labelOf_117 ⟨Nat.zero_le _, Nat.zero_le _⟩) hZ (fun r117 S117 H locs hp117 hZ => ?_)
        obtain ⟨rfl, rfl⟩ := hp117
        refine lv_iload_n hx_ hb_ d_Pile_labelOf_120 rfl (lv_at hl 2 rfl) ?_
        refine lv_iadd hx_ hb_ d_Pile_labelOf_121 ?_
        refine zz_topi (y := nI ((m - (if t = 0 then 0 else sz (m - 1))) + nd)) (nI_add _ _) ?_
        refine zz_aald (q := (42 + 3 * ((m - (if t = 0 then 0 else sz (m - 1))) + nd))) hC hK hZ 24 2 ((m - (if t = 0 then 0 else sz (m - 1))) + nd) (Nat.le_of_ble_eq_true rfl) (xc_24 q _ _) rfl rfl rfl (by omega) (by decide) rfl d_Pile_labelOf_122 ?_
        exact zz_aretQ (post := fun ans S1 => ans = 42 + 3 * (m - (if t = 0 then 0 else sz (m - 1)) + nd) ∧ ∃ (S0 : zz_S) (gs1 qs1 : Nat → Nat → Nat), zz_off xq_X S S0 ∧ S1 = zz_u S0 18 9 (nI m) ∧ xq_ok S1 rl R op sz gs1 qs1 m) (q := (42 + 3 * ((m - (if t = 0 then 0 else sz (m - 1))) + nd))) hC hK hZ rfl d_Pile_labelOf_123 ⟨rfl, Si, gs1, qs1, ho, rfl, by
          rw [show m = i by omega]
          exact xq_keep hx (by omega) (fun c h1 h2 => ⟨zz_u1 Si 18 9 _ c (by omega), rfl⟩)⟩
      · have hai := hPi.2.2.2.2.1 i (by omega)
        obtain ⟨t1, t2, t3, t4, t5, t6⟩ := htr i (by omega)
        have hkd := tr_kd (op i)
        refine zz_garsN hC hK hZ wd_345 d_Pile_labelOf_13 ?_
        refine lv_aload_n hx_ hb_ d_Pile_labelOf_16 rfl (lv_at hl 0 rfl) ?_
        refine zz_get hC hK hZ 18 0 (Nat.le_of_ble_eq_true rfl) (xc_18 q _ _) rfl hin_Pile (by decide) wd_115 rfl rfl d_Pile_labelOf_17 ?_
        refine lv_iload_n hx_ hb_ d_Pile_labelOf_20 rfl (lv_at hl 3 rfl) ?_
        refine zz_iald hC hK hZ 19 0 i (Nat.le_of_ble_eq_true rfl) (xc_19 q _ _) rfl rfl (by omega) (by decide) rfl d_Pile_labelOf_21 ?_
        refine zz_topi (y := nI (op i)) hai.1 ?_
        refine zz_ari hC hK hZ (op i) rfl (by omega) d_Pile_labelOf_22 ?_
        refine lv_istore (i := 4) (lv' := [(4, .int (nI (zz_kd (op i)))), (0, .ref (zz_ad (xg_G q) 18)), (1, .ref (zz_ad (xg_G q) 1)), (2, .int (nI nd)), (3, .int (nI i))]) hx_ hb_ d_Pile_labelOf_23 hl (by decide) rfl (fun ls hl => ?_)
        refine lv_iload hx_ hb_ d_Pile_labelOf_25 (lv_at hl 0 rfl) ?_
        refine zz_ine (tgt := 37) hC d_Pile_labelOf_27 (by decide) (by omega) (fun h27 => ?_) (fun h27 => ?_)
        · have hfa : tr_fa op sz i < i ∧ 1 ≤ i ∧ (zz_kd (op i) = 2 → sz (i - 1) ≤ i - 1) := by
            rcases hkd with h0 | h0 | h0
            · omega
            · have := t5 h0
              rw [tr_fa, if_neg (by omega)]
              omega
            · have := t6 h0
              rw [tr_fa, if_pos h0]
              omega
          have hlk : ∀ k, k < 4 → gs1 (tr_fa op sz i) k < mx_far → gs1 (tr_fa op sz i) k ≤ 36 * 2 ^ i - 36 := fun k hk hf => by
            have h9 := (hx (tr_fa op sz i) (by omega)).2.2 k hk hf
            have h8 := Nat.pow_le_pow_right (n := 2) (by omega) (show (tr_fa op sz i) + 1 ≤ i by omega)
            omega
          have hrk : ∀ k, k < 4 → gs1 (i - 1) k < mx_far → gs1 (i - 1) k ≤ 36 * 2 ^ i - 36 := fun k hk hf => by
            have h9 := (hx (i - 1) (by omega)).2.2 k hk hf
            have h8 := Nat.pow_le_pow_right (n := 2) (by omega) (show (i - 1) + 1 ≤ i by omega)
            omega
          refine lv_aload_n hx_ hb_ d_Pile_labelOf_37 rfl (lv_at hl 1 rfl) ?_
          refine zz_get hC hK hZ 18 5 (Nat.le_of_ble_eq_true rfl) (xc_18 q _ _) rfl hin_Pile (by decide) wd_122 rfl rfl d_Pile_labelOf_38 ?_
          refine lv_aload_n hx_ hb_ d_Pile_labelOf_41 rfl (lv_at hl 1 rfl) ?_
          refine lv_iload_n hx_ hb_ d_Pile_labelOf_42 rfl (lv_at hl 4 rfl) ?_
          refine lv_aload_n hx_ hb_ d_Pile_labelOf_43 rfl (lv_at hl 1 rfl) ?_
          refine zz_get hC hK hZ 18 0 (Nat.le_of_ble_eq_true rfl) (xc_18 q _ _) rfl hin_Pile (by decide) wd_115 rfl rfl d_Pile_labelOf_44 ?_
          refine lv_iload_n hx_ hb_ d_Pile_labelOf_47 rfl (lv_at hl 4 rfl) ?_
          refine zz_iald hC hK hZ 19 0 i (Nat.le_of_ble_eq_true rfl) (xc_19 q _ _) rfl rfl (by omega) (by decide) rfl d_Pile_labelOf_48 ?_
          refine zz_topi (y := nI (op i)) hai.1 ?_
          refine zz_ci (zz_rV (As := [.int (nI i), .int (nI (op i))]) (rest := [.ref (zz_ad (xg_G q) 24)]) hC hK hZ 18 (c_Pile_firstKid l q Si op nu sz ht m t hPi i (op i) (by omega) (by omega) (by omega) hfa.2.2) k_Pile_firstKid (Nat.le_of_ble_eq_true rfl) (xc_18 q _ _) rfl wd_346 ⟨rfl, rfl, by decide, by decide⟩ rfl hl.1 rfl (Nat.le_of_ble_eq_true rfl) d_Pile_labelOf_49 ⟨Nat.zero_le _, Nat.zero_le _⟩) hZ (fun r49 S49 H locs hp49 hZ => ?_)
          obtain ⟨rfl, rfl⟩ := hp49
          refine zz_aald (q := (42 + 3 * (tr_fa op sz i))) hC hK hZ 24 2 (tr_fa op sz i) (Nat.le_of_ble_eq_true rfl) (xc_24 q _ _) rfl rfl rfl (by omega) (by decide) rfl d_Pile_labelOf_52 ?_
          refine lv_astore (i := 5) (lv' := [(5, .ref (zz_ad (xg_G q) (42 + 3 * (tr_fa op sz i)))), (4, .int (nI (zz_kd (op i)))), (0, .ref (zz_ad (xg_G q) 18)), (1, .ref (zz_ad (xg_G q) 1)), (2, .int (nI nd)), (3, .int (nI i))]) hx_ hb_ d_Pile_labelOf_53 hl (by decide) rfl (fun ls hl => ?_)
          refine lv_iload hx_ hb_ d_Pile_labelOf_55 (lv_at hl 1 rfl) ?_
          refine lv_iconst (v := nI 2) hx_ hb_ d_Pile_labelOf_57 (by decide) ?_
          refine zz_jne (tgt := 72) hC d_Pile_labelOf_58 (by decide) (by omega) (by omega) (fun h58 => ?_) (fun h58 => ?_)
          · refine lv_aload_n hx_ hb_ d_Pile_labelOf_72 rfl (lv_at hl 2 rfl) ?_
            refine zz_get hC hK hZ 18 6 (Nat.le_of_ble_eq_true rfl) (xc_18 q _ _) rfl hin_Pile (by decide) wd_124 rfl rfl d_Pile_labelOf_73 ?_
            refine lv_astore (i := 6) (lv' := [(6, .ref (zz_ad (xg_G q) (42 + 3 * 40))), (5, .ref (zz_ad (xg_G q) (42 + 3 * (tr_fa op sz i)))), (4, .int (nI (zz_kd (op i)))), (0, .ref (zz_ad (xg_G q) 18)), (1, .ref (zz_ad (xg_G q) 1)), (2, .int (nI nd)), (3, .int (nI i))]) hx_ hb_ d_Pile_labelOf_76 hl (by decide) rfl (fun ls hl => ?_)
            refine lv_aload_n hx_ hb_ d_Pile_labelOf_78 rfl (lv_at hl 3 rfl) ?_
            refine zz_get hC hK hZ 18 5 (Nat.le_of_ble_eq_true rfl) (xc_18 q _ _) rfl hin_Pile (by decide) wd_122 rfl rfl d_Pile_labelOf_79 ?_
            refine lv_iload_n hx_ hb_ d_Pile_labelOf_82 rfl (lv_at hl 6 rfl) ?_
            refine zz_aald (q := (42 + 3 * i)) hC hK hZ 24 2 i (Nat.le_of_ble_eq_true rfl) (xc_24 q _ _) rfl rfl rfl (by omega) (by decide) rfl d_Pile_labelOf_83 ?_
            refine lv_aload_n hx_ hb_ d_Pile_labelOf_84 rfl (lv_at hl 4 rfl) ?_
            refine lv_aload_n hx_ hb_ d_Pile_labelOf_85 rfl (lv_at hl 3 rfl) ?_
            refine zz_get hC hK hZ 18 0 (Nat.le_of_ble_eq_true rfl) (xc_18 q _ _) rfl hin_Pile (by decide) wd_115 rfl rfl d_Pile_labelOf_86 ?_
            refine lv_iload_n hx_ hb_ d_Pile_labelOf_89 rfl (lv_at hl 6 rfl) ?_
            refine zz_iald hC hK hZ 19 0 i (Nat.le_of_ble_eq_true rfl) (xc_19 q _ _) rfl rfl (by omega) (by decide) rfl d_Pile_labelOf_90 ?_
            refine zz_topi (y := nI (op i)) hai.1 ?_
            refine lv_aload hx_ hb_ d_Pile_labelOf_91 (lv_at hl 1 rfl) ?_
            refine lv_aload hx_ hb_ d_Pile_labelOf_93 (lv_at hl 0 rfl) ?_
            refine zz_cv (zz_rV (As := [.ref (zz_ad (xg_G q) 1), .int (nI (op i)), .ref (zz_ad (xg_G q) (42 + 3 * (tr_fa op sz i))), .ref (zz_ad (xg_G q) (42 + 3 * 40))]) (rest := []) hC hK hZ (42 + 3 * i) (c_Label_derive l q Si i (op i) (tr_fa op sz i) 40 (by omega) (by omega) (by omega) (by omega) (by omega) (by omega) rl R sz1 nb hBi (gs1 (tr_fa op sz i)) (fun _ => 0) (36 * 2 ^ i - 36) (by have := xt_pow (n := i) (by omega); omega) hlk hlz (fun k hk => ((hx (tr_fa op sz i) (by omega)).1 k hk).1) hN0 (fun h => absurd h (by omega)) (fun _ _ _ => rfl)) k_Label_derive (by show _ < 291; omega) (xy_lab q i _ _) rfl wd_394 ⟨rfl, rfl, by decide, by decide⟩ rfl hl.1 rfl (Nat.le_of_ble_eq_true rfl) d_Pile_labelOf_95 ⟨Nat.zero_le _, Nat.zero_le _⟩) hZ (fun S95 H locs hp95 hZ => ?_)
            have hLab := mp_cls (lf := (gs1 (tr_fa op sz i))) (rt := (fun _ => 0)) hok (show op i < 8 by omega)
            refine lv_iinc (k := 6) (v := nI (i + 1)) (lv' := [(3, .int (nI (i + 1))), (6, .ref (zz_ad (xg_G q) (42 + 3 * 40))), (5, .ref (zz_ad (xg_G q) (42 + 3 * (tr_fa op sz i)))), (4, .int (nI (zz_kd (op i)))), (0, .ref (zz_ad (xg_G q) 18)), (1, .ref (zz_ad (xg_G q) 1)), (2, .int (nI nd))]) hx_ hb_ d_Pile_labelOf_98 hl rfl (nI_add _ 1) (by decide) rfl (fun ls hl => ?_)
            refine lv_goto (tgt := 5) hx_ hb_ d_Pile_labelOf_101 (by decide) ?_
            exact ih_ _ (by omega) (i + 1) S95 _ _  _ _ _ (by omega) (zz_off_tr ho (zz_off_mono hp95.1 (fun c h => by rcases h with h | h <;> omega))) (xq_add hok htr (by omega) hx hp95.1 hp95.2 (sk_lab hok (fun hk k hk4 => by first | (exact absurd h27 (by omega)) | rfl) (fun hk k hk4 => by first | (exact absurd hk (by omega)) | rfl) hLab) (fun k hk hf => by
              have h9 := ns_bound hok hLab.1 (M := 36 * 2 ^ i - 36) (hlk) (hlz) k hk hf
              have h2 : 1 ≤ 2 ^ i := Nat.one_le_two_pow
              rw [Nat.pow_succ]
              omega)) hZ (lv_sub hl [4, 5, 6, 0] rfl) rfl
          · refine lv_aload_n hx_ hb_ d_Pile_labelOf_61 rfl (lv_at hl 2 rfl) ?_
            refine zz_get hC hK hZ 18 5 (Nat.le_of_ble_eq_true rfl) (xc_18 q _ _) rfl hin_Pile (by decide) wd_122 rfl rfl d_Pile_labelOf_62 ?_
            refine lv_iload_n hx_ hb_ d_Pile_labelOf_65 rfl (lv_at hl 5 rfl) ?_
            refine lv_iconst (v := nI 1) hx_ hb_ d_Pile_labelOf_66 (by decide) ?_
            refine lv_isub hx_ hb_ d_Pile_labelOf_67 ?_
            refine zz_topi (y := nI (i - 1)) (pk_sub (by omega)) ?_
            refine zz_aald (q := (42 + 3 * (i - 1))) hC hK hZ 24 2 (i - 1) (Nat.le_of_ble_eq_true rfl) (xc_24 q _ _) rfl rfl rfl (by omega) (by decide) rfl d_Pile_labelOf_68 ?_
            refine lv_goto (tgt := 76) hx_ hb_ d_Pile_labelOf_69 (by decide) ?_
            refine lv_astore (i := 6) (lv' := [(6, .ref (zz_ad (xg_G q) (42 + 3 * (i - 1)))), (5, .ref (zz_ad (xg_G q) (42 + 3 * (tr_fa op sz i)))), (4, .int (nI (zz_kd (op i)))), (0, .ref (zz_ad (xg_G q) 18)), (1, .ref (zz_ad (xg_G q) 1)), (2, .int (nI nd)), (3, .int (nI i))]) hx_ hb_ d_Pile_labelOf_76 hl (by decide) rfl (fun ls hl => ?_)
            refine lv_aload_n hx_ hb_ d_Pile_labelOf_78 rfl (lv_at hl 3 rfl) ?_
            refine zz_get hC hK hZ 18 5 (Nat.le_of_ble_eq_true rfl) (xc_18 q _ _) rfl hin_Pile (by decide) wd_122 rfl rfl d_Pile_labelOf_79 ?_
            refine lv_iload_n hx_ hb_ d_Pile_labelOf_82 rfl (lv_at hl 6 rfl) ?_
            refine zz_aald (q := (42 + 3 * i)) hC hK hZ 24 2 i (Nat.le_of_ble_eq_true rfl) (xc_24 q _ _) rfl rfl rfl (by omega) (by decide) rfl d_Pile_labelOf_83 ?_
            refine lv_aload_n hx_ hb_ d_Pile_labelOf_84 rfl (lv_at hl 4 rfl) ?_
            refine lv_aload_n hx_ hb_ d_Pile_labelOf_85 rfl (lv_at hl 3 rfl) ?_
            refine zz_get hC hK hZ 18 0 (Nat.le_of_ble_eq_true rfl) (xc_18 q _ _) rfl hin_Pile (by decide) wd_115 rfl rfl d_Pile_labelOf_86 ?_
            refine lv_iload_n hx_ hb_ d_Pile_labelOf_89 rfl (lv_at hl 6 rfl) ?_
            refine zz_iald hC hK hZ 19 0 i (Nat.le_of_ble_eq_true rfl) (xc_19 q _ _) rfl rfl (by omega) (by decide) rfl d_Pile_labelOf_90 ?_
            refine zz_topi (y := nI (op i)) hai.1 ?_
            refine lv_aload hx_ hb_ d_Pile_labelOf_91 (lv_at hl 1 rfl) ?_
            refine lv_aload hx_ hb_ d_Pile_labelOf_93 (lv_at hl 0 rfl) ?_
            refine zz_cv (zz_rV (As := [.ref (zz_ad (xg_G q) 1), .int (nI (op i)), .ref (zz_ad (xg_G q) (42 + 3 * (tr_fa op sz i))), .ref (zz_ad (xg_G q) (42 + 3 * (i - 1)))]) (rest := []) hC hK hZ (42 + 3 * i) (c_Label_derive l q Si i (op i) (tr_fa op sz i) (i - 1) (by omega) (by omega) (by omega) (by omega) (by omega) (by omega) rl R sz1 nb hBi (gs1 (tr_fa op sz i)) (gs1 (i - 1)) (36 * 2 ^ i - 36) (by have := xt_pow (n := i) (by omega); omega) hlk hrk (fun k hk => ((hx (tr_fa op sz i) (by omega)).1 k hk).1) (fun k hk => ((hx (i - 1) (by omega)).1 k hk).1) (fun h => absurd h (by omega)) (fun h => absurd h (by omega))) k_Label_derive (by show _ < 291; omega) (xy_lab q i _ _) rfl wd_394 ⟨rfl, rfl, by decide, by decide⟩ rfl hl.1 rfl (Nat.le_of_ble_eq_true rfl) d_Pile_labelOf_95 ⟨Nat.zero_le _, Nat.zero_le _⟩) hZ (fun S95 H locs hp95 hZ => ?_)
            have hLab := mp_cls (lf := (gs1 (tr_fa op sz i))) (rt := (gs1 (i - 1))) hok (show op i < 8 by omega)
            refine lv_iinc (k := 6) (v := nI (i + 1)) (lv' := [(3, .int (nI (i + 1))), (6, .ref (zz_ad (xg_G q) (42 + 3 * (i - 1)))), (5, .ref (zz_ad (xg_G q) (42 + 3 * (tr_fa op sz i)))), (4, .int (nI (zz_kd (op i)))), (0, .ref (zz_ad (xg_G q) 18)), (1, .ref (zz_ad (xg_G q) 1)), (2, .int (nI nd))]) hx_ hb_ d_Pile_labelOf_98 hl rfl (nI_add _ 1) (by decide) rfl (fun ls hl => ?_)
            refine lv_goto (tgt := 5) hx_ hb_ d_Pile_labelOf_101 (by decide) ?_
            exact ih_ _ (by omega) (i + 1) S95 _ _  _ _ _ (by omega) (zz_off_tr ho (zz_off_mono hp95.1 (fun c h => by rcases h with h | h <;> omega))) (xq_add hok htr (by omega) hx hp95.1 hp95.2 (sk_lab hok (fun hk k hk4 => by first | (exact absurd h27 (by omega)) | rfl) (fun hk k hk4 => by first | (exact absurd hk (by omega)) | rfl) hLab) (fun k hk hf => by
              have h9 := ns_bound hok hLab.1 (M := 36 * 2 ^ i - 36) (hlk) (hrk) k hk hf
              have h2 : 1 ≤ 2 ^ i := Nat.one_le_two_pow
              rw [Nat.pow_succ]
              omega)) hZ (lv_sub hl [4, 5, 6, 0] rfl) rfl
        · refine lv_aload_n hx_ hb_ d_Pile_labelOf_30 rfl (lv_at hl 1 rfl) ?_
          refine zz_get hC hK hZ 18 6 (Nat.le_of_ble_eq_true rfl) (xc_18 q _ _) rfl hin_Pile (by decide) wd_124 rfl rfl d_Pile_labelOf_31 ?_
          refine lv_goto (tgt := 53) hx_ hb_ d_Pile_labelOf_34 (by decide) ?_
          refine lv_astore (i := 5) (lv' := [(5, .ref (zz_ad (xg_G q) (42 + 3 * 40))), (4, .int (nI (zz_kd (op i)))), (0, .ref (zz_ad (xg_G q) 18)), (1, .ref (zz_ad (xg_G q) 1)), (2, .int (nI nd)), (3, .int (nI i))]) hx_ hb_ d_Pile_labelOf_53 hl (by decide) rfl (fun ls hl => ?_)
          refine lv_iload hx_ hb_ d_Pile_labelOf_55 (lv_at hl 1 rfl) ?_
          refine lv_iconst (v := nI 2) hx_ hb_ d_Pile_labelOf_57 (by decide) ?_
          refine zz_jne (tgt := 72) hC d_Pile_labelOf_58 (by decide) (by omega) (by omega) (fun h58 => ?_) (fun h58 => ?_)
          · refine lv_aload_n hx_ hb_ d_Pile_labelOf_72 rfl (lv_at hl 2 rfl) ?_
            refine zz_get hC hK hZ 18 6 (Nat.le_of_ble_eq_true rfl) (xc_18 q _ _) rfl hin_Pile (by decide) wd_124 rfl rfl d_Pile_labelOf_73 ?_
            refine lv_astore (i := 6) (lv' := [(6, .ref (zz_ad (xg_G q) (42 + 3 * 40))), (5, .ref (zz_ad (xg_G q) (42 + 3 * 40))), (4, .int (nI (zz_kd (op i)))), (0, .ref (zz_ad (xg_G q) 18)), (1, .ref (zz_ad (xg_G q) 1)), (2, .int (nI nd)), (3, .int (nI i))]) hx_ hb_ d_Pile_labelOf_76 hl (by decide) rfl (fun ls hl => ?_)
            refine lv_aload_n hx_ hb_ d_Pile_labelOf_78 rfl (lv_at hl 3 rfl) ?_
            refine zz_get hC hK hZ 18 5 (Nat.le_of_ble_eq_true rfl) (xc_18 q _ _) rfl hin_Pile (by decide) wd_122 rfl rfl d_Pile_labelOf_79 ?_
            refine lv_iload_n hx_ hb_ d_Pile_labelOf_82 rfl (lv_at hl 6 rfl) ?_
            refine zz_aald (q := (42 + 3 * i)) hC hK hZ 24 2 i (Nat.le_of_ble_eq_true rfl) (xc_24 q _ _) rfl rfl rfl (by omega) (by decide) rfl d_Pile_labelOf_83 ?_
            refine lv_aload_n hx_ hb_ d_Pile_labelOf_84 rfl (lv_at hl 4 rfl) ?_
            refine lv_aload_n hx_ hb_ d_Pile_labelOf_85 rfl (lv_at hl 3 rfl) ?_
            refine zz_get hC hK hZ 18 0 (Nat.le_of_ble_eq_true rfl) (xc_18 q _ _) rfl hin_Pile (by decide) wd_115 rfl rfl d_Pile_labelOf_86 ?_
            refine lv_iload_n hx_ hb_ d_Pile_labelOf_89 rfl (lv_at hl 6 rfl) ?_
            refine zz_iald hC hK hZ 19 0 i (Nat.le_of_ble_eq_true rfl) (xc_19 q _ _) rfl rfl (by omega) (by decide) rfl d_Pile_labelOf_90 ?_
            refine zz_topi (y := nI (op i)) hai.1 ?_
            refine lv_aload hx_ hb_ d_Pile_labelOf_91 (lv_at hl 1 rfl) ?_
            refine lv_aload hx_ hb_ d_Pile_labelOf_93 (lv_at hl 0 rfl) ?_
            refine zz_cv (zz_rV (As := [.ref (zz_ad (xg_G q) 1), .int (nI (op i)), .ref (zz_ad (xg_G q) (42 + 3 * 40)), .ref (zz_ad (xg_G q) (42 + 3 * 40))]) (rest := []) hC hK hZ (42 + 3 * i) (c_Label_derive l q Si i (op i) 40 40 (by omega) (by omega) (by omega) (by omega) (by omega) (by omega) rl R sz1 nb hBi (fun _ => 0) (fun _ => 0) (36 * 2 ^ i - 36) (by have := xt_pow (n := i) (by omega); omega) hlz hlz hN0 hN0 (fun _ _ _ => rfl) (fun _ _ _ => rfl)) k_Label_derive (by show _ < 291; omega) (xy_lab q i _ _) rfl wd_394 ⟨rfl, rfl, by decide, by decide⟩ rfl hl.1 rfl (Nat.le_of_ble_eq_true rfl) d_Pile_labelOf_95 ⟨Nat.zero_le _, Nat.zero_le _⟩) hZ (fun S95 H locs hp95 hZ => ?_)
            have hLab := mp_cls (lf := (fun _ => 0)) (rt := (fun _ => 0)) hok (show op i < 8 by omega)
            refine lv_iinc (k := 6) (v := nI (i + 1)) (lv' := [(3, .int (nI (i + 1))), (6, .ref (zz_ad (xg_G q) (42 + 3 * 40))), (5, .ref (zz_ad (xg_G q) (42 + 3 * 40))), (4, .int (nI (zz_kd (op i)))), (0, .ref (zz_ad (xg_G q) 18)), (1, .ref (zz_ad (xg_G q) 1)), (2, .int (nI nd))]) hx_ hb_ d_Pile_labelOf_98 hl rfl (nI_add _ 1) (by decide) rfl (fun ls hl => ?_)
            refine lv_goto (tgt := 5) hx_ hb_ d_Pile_labelOf_101 (by decide) ?_
            exact ih_ _ (by omega) (i + 1) S95 _ _  _ _ _ (by omega) (zz_off_tr ho (zz_off_mono hp95.1 (fun c h => by rcases h with h | h <;> omega))) (xq_add hok htr (by omega) hx hp95.1 hp95.2 (sk_lab hok (fun hk k hk4 => by first | (exact absurd h27 (by omega)) | rfl) (fun hk k hk4 => by first | (exact absurd hk (by omega)) | rfl) hLab) (fun k hk hf => by
              have h9 := ns_bound hok hLab.1 (M := 36 * 2 ^ i - 36) (hlz) (hlz) k hk hf
              have h2 : 1 ≤ 2 ^ i := Nat.one_le_two_pow
              rw [Nat.pow_succ]
              omega)) hZ (lv_sub hl [4, 5, 6, 0] rfl) rfl
          · exact absurd h58 (by omega)
  have L5 : ∀ (i : Nat) (Si : zz_S) (gs1 : Nat → Nat → Nat) (qs1 : Nat → Nat → Nat) (H : Heap) (locs : List Loc) (ls : Array Slot) (hi : i ≤ m) (ho : zz_off xq_X S Si) (hx : xq_ok Si rl R op sz gs1 qs1 i) (hZ : zz_Z (xg_G q) Si s_.heap H locs) (hl : lv_has ls 7 [(0, .ref (zz_ad (xg_G q) 18)), (1, .ref (zz_ad (xg_G q) 1)), (2, .int (nI nd)), (3, .int (nI i))]), W p_ l e_ rm_Pile_labelOf s_ m_ ([.ref (zz_ad (xg_G q) 18), .ref (zz_ad (xg_G q) 1), .int (nI nd)] : List Value).toArray bl_ mt_ c_ H locs 0 0 (MQ bl_ (zz_Qr (fun ans S1 => ans = 42 + 3 * (m - (if t = 0 then 0 else sz (m - 1)) + nd) ∧ ∃ (S0 : zz_S) (gs1 qs1 : Nat → Nat → Nat), zz_off xq_X S S0 ∧ S1 = zz_u S0 18 9 (nI m) ∧ xq_ok S1 rl R op sz gs1 qs1 m) (xg_G q)) ([.ref (zz_ad (xg_G q) 18), .ref (zz_ad (xg_G q) 1), .int (nI nd)] : List Value).toArray s_ 0 0 (zz_A (xg_G q))) (F0 m_ 5 ls []) := fun i Si gs1 qs1 H locs ls hi ho hx hZ hl => L5_ _ i Si gs1 qs1 H locs ls hi ho hx hZ hl rfl
  refine lv_aload_n hx_ hb_ d_Pile_labelOf_0 rfl (lv_at hl 0 rfl) ?_
  refine zz_get hC hK hZ 18 9 (Nat.le_of_ble_eq_true rfl) (xc_18 q _ _) rfl hin_Pile (by decide) wd_130 rfl rfl d_Pile_labelOf_1 ?_
  refine zz_topi (y := nI n) hn ?_
  refine lv_istore_n (i := 3) (lv' := [(3, .int (nI n)), (0, .ref (zz_ad (xg_G q) 18)), (1, .ref (zz_ad (xg_G q) 1)), (2, .int (nI nd))]) hx_ hb_ d_Pile_labelOf_4 rfl hl (by decide) rfl (fun ls hl => ?_)
  exact L5 n S _ _  _ _ _ hnm zz_off_rf hQ hZ (lv_sub hl [1, 2, 3, 0] rfl)
set_option maxHeartbeats 4000000 in
set_option maxRecDepth 100000 in
theorem c_Pile_evaluateTop (l : Launch) (q : xg_T) (S : zz_S) (op : Nat → Nat) (nu : Nat → Int32) (sz ht : Nat → Nat) (m t : Nat) (hP : xp_ok S op nu sz ht m t) (vr : Nat → Int32) (hvr : ∀ k, k < 8 → S.1 41 k = vr k) (hnu : xn_ok op nu m) : Met l y_Pile_evaluateTop (Cond.code y_Pile_evaluateTop b_Pile_evaluateTop 6 (some .int) :: zz_tbl) rm_Pile_evaluateTop (zz_Pc [.ref (zz_ad (xg_G q) 18), .ref (zz_ad (xg_G q) 41)] (xg_G q) S) (va_Qi (fun ans S1 => zz_off (fun c => c = 23) S S1 ∧ ((t = 0 ∧ ans = nI 0) ∨ (t ≠ 0 ∧ ∃ vl, xe_ok vr op nu sz vl (m - sz (m - 1)) m ∧ ans = vl (m - 1)))) (zz_P (xg_G q)) (zz_A (xg_G q))) 0 0 (zz_A (xg_G q)) := by
  refine zz_met (by decide) (Nat.le_of_ble_eq_true rfl) ?_
  intro p_ e_ s_ m_ bl_ mt_ c_ ls hC hK hZ hl
  have hC : zz_C p_ s_ m_ _ mt_ c_ b_Pile_evaluateTop 6 (some .int) "TreeCoverForge$Pile" := hC
  have hx_ := hC.1
  have hb_ := hC.2.1
  have hl : lv_has ls 6 [(0, .ref (zz_ad (xg_G q) 18)), (1, .ref (zz_ad (xg_G q) 41))] := hl
  have hP0 := hP
  obtain ⟨hm, ht0, hm40, htm, harr, htr, hts⟩ := hP
  have hle : t ≠ 0 → sz (m - 1) ≤ m ∧ 1 ≤ sz (m - 1) := fun h => by
    have := (htr (m - 1) (by omega)).2.2.1
    have := (htr (m - 1) (by omega)).2.1
    omega
  have hti : t ≠ 0 → ∀ i, (m - sz (m - 1)) ≤ i → i < m → _ := fun h i h1 h2 => tr_in htr (by omega) (by have := hle h; omega) h1 h2
  have L14_ : ∀ (n_ : Nat) (i : Nat) (Si : zz_S) (vl : Nat → Int32) (H : Heap) (locs : List Loc) (ls : Array Slot) (ht1 : t ≠ 0) (hi : (m - sz (m - 1)) ≤ i ∧ i ≤ m) (ho : zz_off (fun c => c = 23) S Si) (hv : xe_ok vr op nu sz vl (m - sz (m - 1)) i) (hr : ∀ j, (m - sz (m - 1)) ≤ j → j < i → Si.1 23 j = vl j) (hZ : zz_Z (xg_G q) Si s_.heap H locs) (hl : lv_has ls 6 [(0, .ref (zz_ad (xg_G q) 18)), (1, .ref (zz_ad (xg_G q) 41)), (2, .int (nI i))]) (hn_ : m - i = n_), W p_ l e_ rm_Pile_evaluateTop s_ m_ ([.ref (zz_ad (xg_G q) 18), .ref (zz_ad (xg_G q) 41)] : List Value).toArray bl_ mt_ c_ H locs 0 0 (MQ bl_ (va_Qi (fun ans S1 => zz_off (fun c => c = 23) S S1 ∧ ((t = 0 ∧ ans = nI 0) ∨ (t ≠ 0 ∧ ∃ vl, xe_ok vr op nu sz vl (m - sz (m - 1)) m ∧ ans = vl (m - 1)))) (zz_P (xg_G q)) (zz_A (xg_G q))) ([.ref (zz_ad (xg_G q) 18), .ref (zz_ad (xg_G q) 41)] : List Value).toArray s_ 0 0 (zz_A (xg_G q))) (F0 m_ 14 ls []) := by
    intro n_
    induction n_ using Nat.strongRecOn with
    | ind n_ ih_ =>
      intro i Si vl H locs ls ht1 hi ho hv hr hZ hl hn_
      have hti := hti ht1
      have hle := hle ht1
      have hPi : xp_ok Si op nu sz ht m t := by
        unfold xp_ok
        rw [(ho 18 (by omega)).1, (ho 19 (by omega)).1, (ho 20 (by omega)).1, (ho 21 (by omega)).1, (ho 22 (by omega)).1]
        exact hP0
      have hva : ∀ k, k < 8 → Si.1 41 k = vr k := fun k hk => by
        rw [(ho 41 (by omega)).1]
        exact hvr k hk
      refine lv_iload_n hx_ hb_ d_Pile_evaluateTop_14 rfl (lv_at hl 2 rfl) ?_
      refine lv_aload_n hx_ hb_ d_Pile_evaluateTop_15 rfl (lv_at hl 0 rfl) ?_
      refine zz_get hC hK hZ 18 7 (Nat.le_of_ble_eq_true rfl) (xc_18 q _ _) rfl hin_Pile (by decide) wd_125 rfl rfl d_Pile_evaluateTop_16 ?_
      refine zz_topi (y := nI m) hPi.1 ?_
      refine zz_jge (tgt := 110) hC d_Pile_evaluateTop_19 (by decide) (by omega) (by omega) (fun h19 => ?_) (fun h19 => ?_)
      · refine lv_aload_n hx_ hb_ d_Pile_evaluateTop_110 rfl (lv_at hl 0 rfl) ?_
        refine zz_get hC hK hZ 18 4 (Nat.le_of_ble_eq_true rfl) (xc_18 q _ _) rfl hin_Pile (by decide) wd_121 rfl rfl d_Pile_evaluateTop_111 ?_
        refine lv_aload_n hx_ hb_ d_Pile_evaluateTop_114 rfl (lv_at hl 0 rfl) ?_
        refine zz_get hC hK hZ 18 7 (Nat.le_of_ble_eq_true rfl) (xc_18 q _ _) rfl hin_Pile (by decide) wd_125 rfl rfl d_Pile_evaluateTop_115 ?_
        refine zz_topi (y := nI m) hPi.1 ?_
        refine lv_iconst (v := nI 1) hx_ hb_ d_Pile_evaluateTop_118 (by decide) ?_
        refine lv_isub hx_ hb_ d_Pile_evaluateTop_119 ?_
        refine zz_topi (y := nI (m - 1)) (pk_sub (by omega)) ?_
        refine zz_iald hC hK hZ 23 0 (m - 1) (Nat.le_of_ble_eq_true rfl) (xc_23 q _ _) rfl rfl (by omega) (by decide) rfl d_Pile_evaluateTop_120 ?_
        refine zz_topi (y := vl (m - 1)) (hr _ (by omega) (by omega)) ?_
        exact zz_iret hC hK hZ rfl d_Pile_evaluateTop_121 ⟨ho, Or.inr ⟨ht1, vl, fun j h1 h2 => hv j h1 (by omega), rfl⟩⟩
      · have hai := hPi.2.2.2.2.1 i (by omega)
        obtain ⟨t1, t2, t3, t4, t5, t6⟩ := htr i (by omega)
        have hkd := tr_kd (op i)
        have hki := (hti i hi.1 (by omega)).2
        refine zz_garsN hC hK hZ wd_345 d_Pile_evaluateTop_22 ?_
        refine lv_aload_n hx_ hb_ d_Pile_evaluateTop_25 rfl (lv_at hl 0 rfl) ?_
        refine zz_get hC hK hZ 18 0 (Nat.le_of_ble_eq_true rfl) (xc_18 q _ _) rfl hin_Pile (by decide) wd_115 rfl rfl d_Pile_evaluateTop_26 ?_
        refine lv_iload_n hx_ hb_ d_Pile_evaluateTop_29 rfl (lv_at hl 2 rfl) ?_
        refine zz_iald hC hK hZ 19 0 i (Nat.le_of_ble_eq_true rfl) (xc_19 q _ _) rfl rfl (by omega) (by decide) rfl d_Pile_evaluateTop_30 ?_
        refine zz_topi (y := nI (op i)) hai.1 ?_
        refine zz_ari hC hK hZ (op i) rfl (by omega) d_Pile_evaluateTop_31 ?_
        refine lv_istore_n (i := 3) (lv' := [(3, .int (nI (zz_kd (op i)))), (0, .ref (zz_ad (xg_G q) 18)), (1, .ref (zz_ad (xg_G q) 41)), (2, .int (nI i))]) hx_ hb_ d_Pile_evaluateTop_32 rfl hl (by decide) rfl (fun ls hl => ?_)
        refine lv_iload_n hx_ hb_ d_Pile_evaluateTop_33 rfl (lv_at hl 0 rfl) ?_
        refine zz_ine (tgt := 41) hC d_Pile_evaluateTop_34 (by decide) (by omega) (fun h34 => ?_) (fun h34 => ?_)
        · have hkj := hki (by omega)
          have hfa : zz_kd (op i) = 2 → sz (i - 1) ≤ i - 1 := fun h0 => by
            have := t6 h0
            omega
          refine lv_aload_n hx_ hb_ d_Pile_evaluateTop_41 rfl (lv_at hl 1 rfl) ?_
          refine zz_get hC hK hZ 18 4 (Nat.le_of_ble_eq_true rfl) (xc_18 q _ _) rfl hin_Pile (by decide) wd_121 rfl rfl d_Pile_evaluateTop_42 ?_
          refine lv_aload_n hx_ hb_ d_Pile_evaluateTop_45 rfl (lv_at hl 1 rfl) ?_
          refine lv_iload_n hx_ hb_ d_Pile_evaluateTop_46 rfl (lv_at hl 3 rfl) ?_
          refine lv_aload_n hx_ hb_ d_Pile_evaluateTop_47 rfl (lv_at hl 1 rfl) ?_
          refine zz_get hC hK hZ 18 0 (Nat.le_of_ble_eq_true rfl) (xc_18 q _ _) rfl hin_Pile (by decide) wd_115 rfl rfl d_Pile_evaluateTop_48 ?_
          refine lv_iload_n hx_ hb_ d_Pile_evaluateTop_51 rfl (lv_at hl 3 rfl) ?_
          refine zz_iald hC hK hZ 19 0 i (Nat.le_of_ble_eq_true rfl) (xc_19 q _ _) rfl rfl (by omega) (by decide) rfl d_Pile_evaluateTop_52 ?_
          refine zz_topi (y := nI (op i)) hai.1 ?_
          refine zz_ci (zz_rV (As := [.int (nI i), .int (nI (op i))]) (rest := [.ref (zz_ad (xg_G q) 23)]) hC hK hZ 18 (c_Pile_firstKid l q Si op nu sz ht m t hPi i (op i) (by omega) (by omega) (by omega) hfa) k_Pile_firstKid (Nat.le_of_ble_eq_true rfl) (xc_18 q _ _) rfl wd_346 ⟨rfl, rfl, by decide, by decide⟩ rfl hl.1 rfl (Nat.le_of_ble_eq_true rfl) d_Pile_evaluateTop_53 ⟨Nat.zero_le _, Nat.zero_le _⟩) hZ (fun r53 S53 H locs hp53 hZ => ?_)
          obtain ⟨rfl, rfl⟩ := hp53
          refine zz_iald hC hK hZ 23 0 (tr_fa op sz i) (Nat.le_of_ble_eq_true rfl) (xc_23 q _ _) rfl rfl (by omega) (by decide) rfl d_Pile_evaluateTop_56 ?_
          refine zz_topi (y := vl (tr_fa op sz i)) (hr _ (by omega) (by omega)) ?_
          refine lv_istore (i := 4) (lv' := [(4, .int (vl (tr_fa op sz i))), (3, .int (nI (zz_kd (op i)))), (0, .ref (zz_ad (xg_G q) 18)), (1, .ref (zz_ad (xg_G q) 41)), (2, .int (nI i))]) hx_ hb_ d_Pile_evaluateTop_57 hl (by decide) rfl (fun ls hl => ?_)
          refine lv_iload_n hx_ hb_ d_Pile_evaluateTop_59 rfl (lv_at hl 1 rfl) ?_
          refine lv_iconst (v := nI 2) hx_ hb_ d_Pile_evaluateTop_60 (by decide) ?_
          refine zz_jne (tgt := 75) hC d_Pile_evaluateTop_61 (by decide) (by omega) (by omega) (fun h61 => ?_) (fun h61 => ?_)
          · refine lv_iconst (v := nI 0) hx_ hb_ d_Pile_evaluateTop_75 (by decide) ?_
            refine lv_istore (i := 5) (lv' := [(5, .int (nI 0)), (4, .int (vl (tr_fa op sz i))), (3, .int (nI (zz_kd (op i)))), (0, .ref (zz_ad (xg_G q) 18)), (1, .ref (zz_ad (xg_G q) 41)), (2, .int (nI i))]) hx_ hb_ d_Pile_evaluateTop_76 hl (by decide) rfl (fun ls hl => ?_)
            refine lv_aload_n hx_ hb_ d_Pile_evaluateTop_78 rfl (lv_at hl 3 rfl) ?_
            refine zz_get hC hK hZ 18 4 (Nat.le_of_ble_eq_true rfl) (xc_18 q _ _) rfl hin_Pile (by decide) wd_121 rfl rfl d_Pile_evaluateTop_79 ?_
            refine lv_iload_n hx_ hb_ d_Pile_evaluateTop_82 rfl (lv_at hl 5 rfl) ?_
            refine lv_aload_n hx_ hb_ d_Pile_evaluateTop_83 rfl (lv_at hl 3 rfl) ?_
            refine zz_get hC hK hZ 18 0 (Nat.le_of_ble_eq_true rfl) (xc_18 q _ _) rfl hin_Pile (by decide) wd_115 rfl rfl d_Pile_evaluateTop_84 ?_
            refine lv_iload_n hx_ hb_ d_Pile_evaluateTop_87 rfl (lv_at hl 5 rfl) ?_
            refine zz_iald hC hK hZ 19 0 i (Nat.le_of_ble_eq_true rfl) (xc_19 q _ _) rfl rfl (by omega) (by decide) rfl d_Pile_evaluateTop_88 ?_
            refine zz_topi (y := nI (op i)) hai.1 ?_
            refine lv_aload_n hx_ hb_ d_Pile_evaluateTop_89 rfl (lv_at hl 3 rfl) ?_
            refine zz_get hC hK hZ 18 1 (Nat.le_of_ble_eq_true rfl) (xc_18 q _ _) rfl hin_Pile (by decide) wd_117 rfl rfl d_Pile_evaluateTop_90 ?_
            refine lv_iload_n hx_ hb_ d_Pile_evaluateTop_93 rfl (lv_at hl 5 rfl) ?_
            refine zz_iald hC hK hZ 20 0 i (Nat.le_of_ble_eq_true rfl) (xc_20 q _ _) rfl rfl (by omega) (by decide) rfl d_Pile_evaluateTop_94 ?_
            refine zz_topi (y := nu i) hai.2.1 ?_
            refine lv_iload hx_ hb_ d_Pile_evaluateTop_95 (lv_at hl 1 rfl) ?_
            refine lv_iload hx_ hb_ d_Pile_evaluateTop_97 (lv_at hl 0 rfl) ?_
            refine lv_aload_n hx_ hb_ d_Pile_evaluateTop_99 rfl (lv_at hl 4 rfl) ?_
            refine zz_ci (zz_rSN (As := [.int (nI (op i)), .int (nu i), .int (vl (tr_fa op sz i)), .int (nI 0), .ref (zz_ad (xg_G q) 41)]) (rest := [.int (nI i), .ref (zz_ad (xg_G q) 23)]) hC hK hZ (c_Forge_resultOf l q Si (op i) (nu i) (vl (tr_fa op sz i)) (nI 0) (by omega) (hnu i (by omega))) k_Forge_resultOf wd_500 ⟨rfl, rfl, by decide, by decide⟩ rfl hl.1 rfl (Nat.le_of_ble_eq_true rfl) d_Pile_evaluateTop_100 ⟨Nat.zero_le _, Nat.zero_le _⟩) hZ (fun r100 S100 H locs hp100 hZ => ?_)
            obtain ⟨rfl, rfl⟩ := hp100
            rw [ex_cv (hva : ∀ k, k < 8 → Si.1 41 k = vr k) (hnu i (by omega))]
            refine zz_iast hC hK hZ 23 0 i (Nat.le_of_ble_eq_true rfl) (fun _ => xc_23 q _ _) rfl rfl (by omega) (by decide) d_Pile_evaluateTop_103 (fun H locs hZ => ?_)
            refine lv_iinc (k := 5) (v := nI (i + 1)) (lv' := [(2, .int (nI (i + 1))), (5, .int (nI 0)), (4, .int (vl (tr_fa op sz i))), (3, .int (nI (zz_kd (op i)))), (0, .ref (zz_ad (xg_G q) 18)), (1, .ref (zz_ad (xg_G q) 41))]) hx_ hb_ d_Pile_evaluateTop_104 hl rfl (nI_add _ 1) (by decide) rfl (fun ls hl => ?_)
            refine lv_goto (tgt := 14) hx_ hb_ d_Pile_evaluateTop_107 (by decide) ?_
            exact ih_ _ (by omega) (i + 1) (zz_u Si 23 i (ex_cal vr (op i) (nu i) (vl (tr_fa op sz i)) (nI 0))) (upd vl i (ex_cal vr (op i) (nu i) (vl (tr_fa op sz i)) (nI 0)))  _ _ _ ht1 (by omega) (zz_off_tr ho (fun d hd => ⟨zz_u1 Si 23 i _ d hd, rfl⟩)) (fun j h1 h2 => by
              have hkj : j ≠ i → upd vl i (ex_cal vr (op i) (nu i) (vl (tr_fa op sz i)) (nI 0)) j = vl j := fun h => pk_un h
              by_cases e : j = i
              · subst e
                rw [pk_us]
                congr 1
                · split
                  · rename_i c
                    first | (exact absurd h34 (by omega)) | rw [pk_un (by have := (hti j h1 (by omega)).2 c; omega)]
                  · first | rfl | (exact absurd h34 (by omega))
                · split
                  · rename_i c
                    first | (exact absurd c h61) | rw [pk_un (by have := (hti j h1 (by omega)).2 (by omega); omega)]
                  · first | rfl | (exact absurd h61 (by omega))
              · rw [hkj e, hv j h1 (by omega)]
                congr 1
                · split
                  · rename_i c
                    rw [pk_un (by have := (hti j h1 (by omega)).2 c; omega)]
                  · rfl
                · split
                  · rename_i c
                    rw [pk_un (by have := (hti j h1 (by omega)).2 (by omega); omega)]
                  · rfl) (fun j h1 h2 => by
              rw [zz_u1s]
              by_cases e : j = i
              · rw [e, pk_us, pk_us]
              · rw [pk_un e, pk_un e]
                exact hr j h1 (by omega)) hZ (lv_sub hl [4, 5, 0] rfl) rfl
          · refine lv_aload_n hx_ hb_ d_Pile_evaluateTop_64 rfl (lv_at hl 2 rfl) ?_
            refine zz_get hC hK hZ 18 4 (Nat.le_of_ble_eq_true rfl) (xc_18 q _ _) rfl hin_Pile (by decide) wd_121 rfl rfl d_Pile_evaluateTop_65 ?_
            refine lv_iload_n hx_ hb_ d_Pile_evaluateTop_68 rfl (lv_at hl 4 rfl) ?_
            refine lv_iconst (v := nI 1) hx_ hb_ d_Pile_evaluateTop_69 (by decide) ?_
            refine lv_isub hx_ hb_ d_Pile_evaluateTop_70 ?_
            refine zz_topi (y := nI (i - 1)) (pk_sub (by omega)) ?_
            refine zz_iald hC hK hZ 23 0 (i - 1) (Nat.le_of_ble_eq_true rfl) (xc_23 q _ _) rfl rfl (by omega) (by decide) rfl d_Pile_evaluateTop_71 ?_
            refine zz_topi (y := vl (i - 1)) (hr _ (by omega) (by omega)) ?_
            refine lv_goto (tgt := 76) hx_ hb_ d_Pile_evaluateTop_72 (by decide) ?_
            refine lv_istore (i := 5) (lv' := [(5, .int (vl (i - 1))), (4, .int (vl (tr_fa op sz i))), (3, .int (nI (zz_kd (op i)))), (0, .ref (zz_ad (xg_G q) 18)), (1, .ref (zz_ad (xg_G q) 41)), (2, .int (nI i))]) hx_ hb_ d_Pile_evaluateTop_76 hl (by decide) rfl (fun ls hl => ?_)
            refine lv_aload_n hx_ hb_ d_Pile_evaluateTop_78 rfl (lv_at hl 3 rfl) ?_
            refine zz_get hC hK hZ 18 4 (Nat.le_of_ble_eq_true rfl) (xc_18 q _ _) rfl hin_Pile (by decide) wd_121 rfl rfl d_Pile_evaluateTop_79 ?_
            refine lv_iload_n hx_ hb_ d_Pile_evaluateTop_82 rfl (lv_at hl 5 rfl) ?_
            refine lv_aload_n hx_ hb_ d_Pile_evaluateTop_83 rfl (lv_at hl 3 rfl) ?_
            refine zz_get hC hK hZ 18 0 (Nat.le_of_ble_eq_true rfl) (xc_18 q _ _) rfl hin_Pile (by decide) wd_115 rfl rfl d_Pile_evaluateTop_84 ?_
            refine lv_iload_n hx_ hb_ d_Pile_evaluateTop_87 rfl (lv_at hl 5 rfl) ?_
            refine zz_iald hC hK hZ 19 0 i (Nat.le_of_ble_eq_true rfl) (xc_19 q _ _) rfl rfl (by omega) (by decide) rfl d_Pile_evaluateTop_88 ?_
            refine zz_topi (y := nI (op i)) hai.1 ?_
            refine lv_aload_n hx_ hb_ d_Pile_evaluateTop_89 rfl (lv_at hl 3 rfl) ?_
            refine zz_get hC hK hZ 18 1 (Nat.le_of_ble_eq_true rfl) (xc_18 q _ _) rfl hin_Pile (by decide) wd_117 rfl rfl d_Pile_evaluateTop_90 ?_
            refine lv_iload_n hx_ hb_ d_Pile_evaluateTop_93 rfl (lv_at hl 5 rfl) ?_
            refine zz_iald hC hK hZ 20 0 i (Nat.le_of_ble_eq_true rfl) (xc_20 q _ _) rfl rfl (by omega) (by decide) rfl d_Pile_evaluateTop_94 ?_
            refine zz_topi (y := nu i) hai.2.1 ?_
            refine lv_iload hx_ hb_ d_Pile_evaluateTop_95 (lv_at hl 1 rfl) ?_
            refine lv_iload hx_ hb_ d_Pile_evaluateTop_97 (lv_at hl 0 rfl) ?_
            refine lv_aload_n hx_ hb_ d_Pile_evaluateTop_99 rfl (lv_at hl 4 rfl) ?_
            refine zz_ci (zz_rSN (As := [.int (nI (op i)), .int (nu i), .int (vl (tr_fa op sz i)), .int (vl (i - 1)), .ref (zz_ad (xg_G q) 41)]) (rest := [.int (nI i), .ref (zz_ad (xg_G q) 23)]) hC hK hZ (c_Forge_resultOf l q Si (op i) (nu i) (vl (tr_fa op sz i)) (vl (i - 1)) (by omega) (hnu i (by omega))) k_Forge_resultOf wd_500 ⟨rfl, rfl, by decide, by decide⟩ rfl hl.1 rfl (Nat.le_of_ble_eq_true rfl) d_Pile_evaluateTop_100 ⟨Nat.zero_le _, Nat.zero_le _⟩) hZ (fun r100 S100 H locs hp100 hZ => ?_)
            obtain ⟨rfl, rfl⟩ := hp100
            rw [ex_cv (hva : ∀ k, k < 8 → Si.1 41 k = vr k) (hnu i (by omega))]
            refine zz_iast hC hK hZ 23 0 i (Nat.le_of_ble_eq_true rfl) (fun _ => xc_23 q _ _) rfl rfl (by omega) (by decide) d_Pile_evaluateTop_103 (fun H locs hZ => ?_)
            refine lv_iinc (k := 5) (v := nI (i + 1)) (lv' := [(2, .int (nI (i + 1))), (5, .int (vl (i - 1))), (4, .int (vl (tr_fa op sz i))), (3, .int (nI (zz_kd (op i)))), (0, .ref (zz_ad (xg_G q) 18)), (1, .ref (zz_ad (xg_G q) 41))]) hx_ hb_ d_Pile_evaluateTop_104 hl rfl (nI_add _ 1) (by decide) rfl (fun ls hl => ?_)
            refine lv_goto (tgt := 14) hx_ hb_ d_Pile_evaluateTop_107 (by decide) ?_
            exact ih_ _ (by omega) (i + 1) (zz_u Si 23 i (ex_cal vr (op i) (nu i) (vl (tr_fa op sz i)) (vl (i - 1)))) (upd vl i (ex_cal vr (op i) (nu i) (vl (tr_fa op sz i)) (vl (i - 1))))  _ _ _ ht1 (by omega) (zz_off_tr ho (fun d hd => ⟨zz_u1 Si 23 i _ d hd, rfl⟩)) (fun j h1 h2 => by
              have hkj : j ≠ i → upd vl i (ex_cal vr (op i) (nu i) (vl (tr_fa op sz i)) (vl (i - 1))) j = vl j := fun h => pk_un h
              by_cases e : j = i
              · subst e
                rw [pk_us]
                congr 1
                · split
                  · rename_i c
                    first | (exact absurd h34 (by omega)) | rw [pk_un (by have := (hti j h1 (by omega)).2 c; omega)]
                  · first | rfl | (exact absurd h34 (by omega))
                · split
                  · rename_i c
                    first | (exact absurd c h61) | rw [pk_un (by have := (hti j h1 (by omega)).2 (by omega); omega)]
                  · first | rfl | (exact absurd h61 (by omega))
              · rw [hkj e, hv j h1 (by omega)]
                congr 1
                · split
                  · rename_i c
                    rw [pk_un (by have := (hti j h1 (by omega)).2 c; omega)]
                  · rfl
                · split
                  · rename_i c
                    rw [pk_un (by have := (hti j h1 (by omega)).2 (by omega); omega)]
                  · rfl) (fun j h1 h2 => by
              rw [zz_u1s]
              by_cases e : j = i
              · rw [e, pk_us, pk_us]
              · rw [pk_un e, pk_un e]
                exact hr j h1 (by omega)) hZ (lv_sub hl [4, 5, 0] rfl) rfl
        · refine lv_iconst (v := nI 0) hx_ hb_ d_Pile_evaluateTop_37 (by decide) ?_
          refine lv_goto (tgt := 57) hx_ hb_ d_Pile_evaluateTop_38 (by decide) ?_
          refine lv_istore (i := 4) (lv' := [(4, .int (nI 0)), (3, .int (nI (zz_kd (op i)))), (0, .ref (zz_ad (xg_G q) 18)), (1, .ref (zz_ad (xg_G q) 41)), (2, .int (nI i))]) hx_ hb_ d_Pile_evaluateTop_57 hl (by decide) rfl (fun ls hl => ?_)
          refine lv_iload_n hx_ hb_ d_Pile_evaluateTop_59 rfl (lv_at hl 1 rfl) ?_
          refine lv_iconst (v := nI 2) hx_ hb_ d_Pile_evaluateTop_60 (by decide) ?_
          refine zz_jne (tgt := 75) hC d_Pile_evaluateTop_61 (by decide) (by omega) (by omega) (fun h61 => ?_) (fun h61 => ?_)
          · refine lv_iconst (v := nI 0) hx_ hb_ d_Pile_evaluateTop_75 (by decide) ?_
            refine lv_istore (i := 5) (lv' := [(5, .int (nI 0)), (4, .int (nI 0)), (3, .int (nI (zz_kd (op i)))), (0, .ref (zz_ad (xg_G q) 18)), (1, .ref (zz_ad (xg_G q) 41)), (2, .int (nI i))]) hx_ hb_ d_Pile_evaluateTop_76 hl (by decide) rfl (fun ls hl => ?_)
            refine lv_aload_n hx_ hb_ d_Pile_evaluateTop_78 rfl (lv_at hl 3 rfl) ?_
            refine zz_get hC hK hZ 18 4 (Nat.le_of_ble_eq_true rfl) (xc_18 q _ _) rfl hin_Pile (by decide) wd_121 rfl rfl d_Pile_evaluateTop_79 ?_
            refine lv_iload_n hx_ hb_ d_Pile_evaluateTop_82 rfl (lv_at hl 5 rfl) ?_
            refine lv_aload_n hx_ hb_ d_Pile_evaluateTop_83 rfl (lv_at hl 3 rfl) ?_
            refine zz_get hC hK hZ 18 0 (Nat.le_of_ble_eq_true rfl) (xc_18 q _ _) rfl hin_Pile (by decide) wd_115 rfl rfl d_Pile_evaluateTop_84 ?_
            refine lv_iload_n hx_ hb_ d_Pile_evaluateTop_87 rfl (lv_at hl 5 rfl) ?_
            refine zz_iald hC hK hZ 19 0 i (Nat.le_of_ble_eq_true rfl) (xc_19 q _ _) rfl rfl (by omega) (by decide) rfl d_Pile_evaluateTop_88 ?_
            refine zz_topi (y := nI (op i)) hai.1 ?_
            refine lv_aload_n hx_ hb_ d_Pile_evaluateTop_89 rfl (lv_at hl 3 rfl) ?_
            refine zz_get hC hK hZ 18 1 (Nat.le_of_ble_eq_true rfl) (xc_18 q _ _) rfl hin_Pile (by decide) wd_117 rfl rfl d_Pile_evaluateTop_90 ?_
            refine lv_iload_n hx_ hb_ d_Pile_evaluateTop_93 rfl (lv_at hl 5 rfl) ?_
            refine zz_iald hC hK hZ 20 0 i (Nat.le_of_ble_eq_true rfl) (xc_20 q _ _) rfl rfl (by omega) (by decide) rfl d_Pile_evaluateTop_94 ?_
            refine zz_topi (y := nu i) hai.2.1 ?_
            refine lv_iload hx_ hb_ d_Pile_evaluateTop_95 (lv_at hl 1 rfl) ?_
            refine lv_iload hx_ hb_ d_Pile_evaluateTop_97 (lv_at hl 0 rfl) ?_
            refine lv_aload_n hx_ hb_ d_Pile_evaluateTop_99 rfl (lv_at hl 4 rfl) ?_
            refine zz_ci (zz_rSN (As := [.int (nI (op i)), .int (nu i), .int (nI 0), .int (nI 0), .ref (zz_ad (xg_G q) 41)]) (rest := [.int (nI i), .ref (zz_ad (xg_G q) 23)]) hC hK hZ (c_Forge_resultOf l q Si (op i) (nu i) (nI 0) (nI 0) (by omega) (hnu i (by omega))) k_Forge_resultOf wd_500 ⟨rfl, rfl, by decide, by decide⟩ rfl hl.1 rfl (Nat.le_of_ble_eq_true rfl) d_Pile_evaluateTop_100 ⟨Nat.zero_le _, Nat.zero_le _⟩) hZ (fun r100 S100 H locs hp100 hZ => ?_)
            obtain ⟨rfl, rfl⟩ := hp100
            rw [ex_cv (hva : ∀ k, k < 8 → Si.1 41 k = vr k) (hnu i (by omega))]
            refine zz_iast hC hK hZ 23 0 i (Nat.le_of_ble_eq_true rfl) (fun _ => xc_23 q _ _) rfl rfl (by omega) (by decide) d_Pile_evaluateTop_103 (fun H locs hZ => ?_)
            refine lv_iinc (k := 5) (v := nI (i + 1)) (lv' := [(2, .int (nI (i + 1))), (5, .int (nI 0)), (4, .int (nI 0)), (3, .int (nI (zz_kd (op i)))), (0, .ref (zz_ad (xg_G q) 18)), (1, .ref (zz_ad (xg_G q) 41))]) hx_ hb_ d_Pile_evaluateTop_104 hl rfl (nI_add _ 1) (by decide) rfl (fun ls hl => ?_)
            refine lv_goto (tgt := 14) hx_ hb_ d_Pile_evaluateTop_107 (by decide) ?_
            exact ih_ _ (by omega) (i + 1) (zz_u Si 23 i (ex_cal vr (op i) (nu i) (nI 0) (nI 0))) (upd vl i (ex_cal vr (op i) (nu i) (nI 0) (nI 0)))  _ _ _ ht1 (by omega) (zz_off_tr ho (fun d hd => ⟨zz_u1 Si 23 i _ d hd, rfl⟩)) (fun j h1 h2 => by
              have hkj : j ≠ i → upd vl i (ex_cal vr (op i) (nu i) (nI 0) (nI 0)) j = vl j := fun h => pk_un h
              by_cases e : j = i
              · subst e
                rw [pk_us]
                congr 1
                · split
                  · rename_i c
                    first | (exact absurd h34 (by omega)) | rw [pk_un (by have := (hti j h1 (by omega)).2 c; omega)]
                  · first | rfl | (exact absurd h34 (by omega))
                · split
                  · rename_i c
                    first | (exact absurd c h61) | rw [pk_un (by have := (hti j h1 (by omega)).2 (by omega); omega)]
                  · first | rfl | (exact absurd h61 (by omega))
              · rw [hkj e, hv j h1 (by omega)]
                congr 1
                · split
                  · rename_i c
                    rw [pk_un (by have := (hti j h1 (by omega)).2 c; omega)]
                  · rfl
                · split
                  · rename_i c
                    rw [pk_un (by have := (hti j h1 (by omega)).2 (by omega); omega)]
                  · rfl) (fun j h1 h2 => by
              rw [zz_u1s]
              by_cases e : j = i
              · rw [e, pk_us, pk_us]
              · rw [pk_un e, pk_un e]
                exact hr j h1 (by omega)) hZ (lv_sub hl [4, 5, 0] rfl) rfl
          · exact absurd h61 (by omega)
  have L14 : ∀ (i : Nat) (Si : zz_S) (vl : Nat → Int32) (H : Heap) (locs : List Loc) (ls : Array Slot) (ht1 : t ≠ 0) (hi : (m - sz (m - 1)) ≤ i ∧ i ≤ m) (ho : zz_off (fun c => c = 23) S Si) (hv : xe_ok vr op nu sz vl (m - sz (m - 1)) i) (hr : ∀ j, (m - sz (m - 1)) ≤ j → j < i → Si.1 23 j = vl j) (hZ : zz_Z (xg_G q) Si s_.heap H locs) (hl : lv_has ls 6 [(0, .ref (zz_ad (xg_G q) 18)), (1, .ref (zz_ad (xg_G q) 41)), (2, .int (nI i))]), W p_ l e_ rm_Pile_evaluateTop s_ m_ ([.ref (zz_ad (xg_G q) 18), .ref (zz_ad (xg_G q) 41)] : List Value).toArray bl_ mt_ c_ H locs 0 0 (MQ bl_ (va_Qi (fun ans S1 => zz_off (fun c => c = 23) S S1 ∧ ((t = 0 ∧ ans = nI 0) ∨ (t ≠ 0 ∧ ∃ vl, xe_ok vr op nu sz vl (m - sz (m - 1)) m ∧ ans = vl (m - 1)))) (zz_P (xg_G q)) (zz_A (xg_G q))) ([.ref (zz_ad (xg_G q) 18), .ref (zz_ad (xg_G q) 41)] : List Value).toArray s_ 0 0 (zz_A (xg_G q))) (F0 m_ 14 ls []) := fun i Si vl H locs ls ht1 hi ho hv hr hZ hl => L14_ _ i Si vl H locs ls ht1 hi ho hv hr hZ hl rfl
  refine lv_aload_n hx_ hb_ d_Pile_evaluateTop_0 rfl (lv_at hl 0 rfl) ?_
  refine zz_get hC hK hZ 18 8 (Nat.le_of_ble_eq_true rfl) (xc_18 q _ _) rfl hin_Pile (by decide) wd_128 rfl rfl d_Pile_evaluateTop_1 ?_
  refine zz_topi (y := nI t) ht0 ?_
  refine zz_ine (tgt := 9) hC d_Pile_evaluateTop_4 (by decide) (by omega) (fun h4 => ?_) (fun h4 => ?_)
  · refine lv_aload_n hx_ hb_ d_Pile_evaluateTop_9 rfl (lv_at hl 0 rfl) ?_
    refine zz_ci (zz_rV (As := []) (rest := []) hC hK hZ 18 (c_Pile_topStart l q S op nu sz ht m t hP0) k_Pile_topStart (Nat.le_of_ble_eq_true rfl) (xc_18 q _ _) rfl wd_395 ⟨rfl, rfl, by decide, by decide⟩ rfl hl.1 rfl (Nat.le_of_ble_eq_true rfl) d_Pile_evaluateTop_10 ⟨Nat.zero_le _, Nat.zero_le _⟩) hZ (fun r10 S10 H locs hp10 hZ => ?_)
    obtain ⟨rfl, rfl⟩ := hp10
    rw [if_neg h4]
    refine lv_istore_n (i := 2) (lv' := [(2, .int (nI (m - sz (m - 1)))), (0, .ref (zz_ad (xg_G q) 18)), (1, .ref (zz_ad (xg_G q) 41))]) hx_ hb_ d_Pile_evaluateTop_13 rfl hl (by decide) rfl (fun ls hl => ?_)
    exact L14 (m - sz (m - 1)) S (fun _ => 0)  _ _ _ h4 (by omega) zz_off_rf (fun j h1 h2 => absurd h2 (by omega)) (fun j h1 h2 => absurd h2 (by omega)) hZ (lv_sub hl [1, 2, 0] rfl)
  · refine lv_iconst (v := nI 0) hx_ hb_ d_Pile_evaluateTop_7 (by decide) ?_
    exact zz_iret hC hK hZ rfl d_Pile_evaluateTop_8 ⟨zz_off_rf, Or.inl ⟨h4, rfl⟩⟩
