/-! The reference: the search for states. Laid by wip/whole/prog/p25.py. -/
set_option maxHeartbeats 4000000 in
set_option maxRecDepth 100000 in
theorem c_Model_reach (l : Launch) (q : xg_T) (S : zz_S) (o x y : Nat) (rl : mx_R) (R : Nat) (hB : mb_ok S rl R) (A : Nat → ns_St) (n : Nat) (hM : mk_st S A n) (hn : n ≤ 40) (hG : xt_gd rl R A n) (ho8 : 3 ≤ o ∧ o < 8) (hx : x < n) (hy : y < n) : Met l y_Model_reach (Cond.code y_Model_reach b_Model_reach 5 (some .boolean) :: zz_tbl) rm_Model_reach (zz_Pc [.ref (zz_ad (mg_G q) 0), .int (nI o), .int (nI x), .int (nI y)] (mg_G q) S) (va_Qi (fun ans S1 => zz_off ms_X S S1 ∧ (∀ j, j ≠ 19 → S1.1 0 j = S.1 0 j) ∧ ∃ (A1 : Nat → ns_St) (n1 : Nat), xt_ex A n A1 n1 ∧ n1 ≤ 41 ∧ mk_st S1 A1 n1 ∧ xt_gd rl R A1 n1 ∧ (∀ c, ns_nx rl R o (A x) (A y) c → sk_has A1 n1 c) ∧ ans = nI (if n1 ≤ 40 then 1 else 0)) (zz_P (mg_G q)) (zz_A (mg_G q))) 0 0 (zz_A (mg_G q)) := by
  refine zz_met (by decide) (Nat.le_of_ble_eq_true rfl) ?_
  intro p_ e_ s_ m_ bl_ mt_ c_ ls hC hK hZ hl
  have hC : zz_C p_ s_ m_ _ mt_ c_ b_Model_reach 5 (some .boolean) "TreeCoverForgeModel" := hC
  have hx_ := hC.1
  have hb_ := hC.2.1
  have hl : lv_has ls 5 [(0, .ref (zz_ad (mg_G q) 0)), (1, .int (nI o)), (2, .int (nI x)), (3, .int (nI y))] := hl
  have hR24 := hB.2.1
  have hok := hB.2.2.1
  have L3_ : ∀ (n_ : Nat) (k : Nat) (Si : zz_S) (H : Heap) (locs : List Loc) (ls : Array Slot) (hk : k ≤ 4) (ho1 : zz_off (fun c => c = 13 ∨ c = 14) S Si) (hL : ∀ j, j < k → Si.2 13 j = lN (ns_at (A x).1 j)) (hRr : ∀ j, j < k → Si.2 14 j = lN (ns_at (A y).1 j)) (hZ : zz_Z (mg_G q) Si s_.heap H locs) (hl : lv_has ls 5 [(0, .ref (zz_ad (mg_G q) 0)), (1, .int (nI o)), (2, .int (nI x)), (3, .int (nI y)), (4, .int (nI k))]) (hn_ : 4 - k = n_), W p_ l e_ rm_Model_reach s_ m_ ([.ref (zz_ad (mg_G q) 0), .int (nI o), .int (nI x), .int (nI y)] : List Value).toArray bl_ mt_ c_ H locs 0 0 (MQ bl_ (va_Qi (fun ans S1 => zz_off ms_X S S1 ∧ (∀ j, j ≠ 19 → S1.1 0 j = S.1 0 j) ∧ ∃ (A1 : Nat → ns_St) (n1 : Nat), xt_ex A n A1 n1 ∧ n1 ≤ 41 ∧ mk_st S1 A1 n1 ∧ xt_gd rl R A1 n1 ∧ (∀ c, ns_nx rl R o (A x) (A y) c → sk_has A1 n1 c) ∧ ans = nI (if n1 ≤ 40 then 1 else 0)) (zz_P (mg_G q)) (zz_A (mg_G q))) ([.ref (zz_ad (mg_G q) 0), .int (nI o), .int (nI x), .int (nI y)] : List Value).toArray s_ 0 0 (zz_A (mg_G q))) (F0 m_ 3 ls []) := by
    intro n_
    induction n_ using Nat.strongRecOn with
    | ind n_ ih_ =>
      intro k Si H locs ls hk ho1 hL hRr hZ hl hn_
      refine lv_iload hx_ hb_ d_Model_reach_3 (lv_at hl 4 rfl) ?_
      refine lv_iconst (v := nI 4) hx_ hb_ d_Model_reach_5 (by decide) ?_
      refine zz_jge (tgt := 51) hC d_Model_reach_6 (by decide) (by omega) (by omega) (fun h6 => ?_) (fun h6 => ?_)
      · have hBi : mb_ok Si rl R := mb_keep hB (by rw [(ho1 0 (by omega)).1]) (fun c h1 h2 => (ho1 c (by omega)).1)
        refine lv_aload_n hx_ hb_ d_Model_reach_51 rfl (lv_at hl 0 rfl) ?_
        refine lv_iload_n hx_ hb_ d_Model_reach_52 rfl (lv_at hl 1 rfl) ?_
        refine zz_cv (zz_rV (As := [.int (nI o)]) (rest := []) hC hK hZ 0 (c_Model_combine l q Si rl R hBi o (ns_at (A x).1) (ns_at (A y).1) ho8.2 (fun _ j hj => hL j (by omega)) (fun _ j hj => hRr j (by omega)) (fun k hk => (hG.2.2 x hx k hk).1) (fun k hk => (hG.2.2 y hy k hk).1)) k_Model_combine (Nat.le_of_ble_eq_true rfl) (mc_0 q _ _) rfl wd_640 ⟨rfl, rfl, by decide, by decide⟩ rfl hl.1 rfl (Nat.le_of_ble_eq_true rfl) d_Model_reach_53 ⟨Nat.zero_le _, Nat.zero_le _⟩) hZ (fun S53 H locs hp53 hZ => ?_)
        obtain ⟨ho53, g, yy, hlab, hgy⟩ := hp53
        have hM53 : mk_st S53 A n := mk_off hM (by rw [(ho53 0 (by omega)).1, (ho1 0 (by omega)).1]) (by rw [(ho53 17 (by omega)).2, (ho1 17 (by omega)).2]) (by rw [(ho53 18 (by omega)).1, (ho1 18 (by omega)).1])
        refine lv_aload_n hx_ hb_ d_Model_reach_56 rfl (lv_at hl 0 rfl) ?_
        refine zz_ci (zz_rV (As := []) (rest := []) hC hK hZ 0 (c_Model_known l q S53 A n g yy hM53 hn (fun k hk => (hgy k hk).1) (fun k hk => (hgy k hk).2) hlab.1.1 (fun k hk => sk_q24 hlab hR24 k hk) (fun i hi k hk => (hG.2.2 i hi k hk).2.2) (fun i hi k hk => (hG.2.2 i hi k hk).1)) k_Model_known (Nat.le_of_ble_eq_true rfl) (mc_0 q _ _) rfl wd_652 ⟨rfl, rfl, by decide, by decide⟩ rfl hl.1 rfl (Nat.le_of_ble_eq_true rfl) d_Model_reach_57 ⟨Nat.zero_le _, Nat.zero_le _⟩) hZ (fun r57 S57 H locs hp57 hZ => ?_)
        have hr57 : ∃ f, r57 = nI f ∧ f ≤ 1 ∧ (f = 1 → S53 = S57) := hp57.elim (fun h => ⟨1, h.2.1, Nat.le_refl _, fun _ => h.2.2⟩) (fun h => ⟨0, h.2.1, Nat.zero_le _, fun h => absurd h (by omega)⟩)
        have hgot := ms_got_of (S := S) hok hR24 hn hM53 hG (zz_off_tr (zz_off_mono ho1 (fun c h => by unfold ms_X; omega)) (zz_off_mono ho53 (fun c h => by unfold ms_X; omega))) (by rw [(ho53 0 (by omega)).1, (ho1 0 (by omega)).1]) hlab (sk_gdM hG hx) (sk_gdM hG hy) (Or.inr ⟨ho8.1, ho8.2, x, y, hx, hy, rfl, rfl⟩) hp57
        obtain ⟨g1, g2, A1, n1, g3, g4, g5, g6, g7⟩ := hgot
        obtain ⟨f, rfl, hf1, hfS⟩ := hr57
        have hfn : f = 1 → n1 ≤ 40 := fun h => nI_lt41 (by rw [← g5.1, ← hfS h]; exact hM53.1) hn g5.2.1
        refine lv_istore (i := 4) (lv' := [(4, .int (nI f)), (0, .ref (zz_ad (mg_G q) 0)), (1, .int (nI o)), (2, .int (nI x)), (3, .int (nI y))]) hx_ hb_ d_Model_reach_60 hl (by decide) rfl (fun ls hl => ?_)
        refine lv_iload hx_ hb_ d_Model_reach_62 (lv_at hl 0 rfl) ?_
        refine zz_ine (tgt := 76) hC d_Model_reach_64 (by decide) (by omega) (fun h64 => ?_) (fun h64 => ?_)
        · refine lv_iconst (v := nI 1) hx_ hb_ d_Model_reach_76 (by decide) ?_
          refine lv_goto (tgt := 81) hx_ hb_ d_Model_reach_77 (by decide) ?_
          exact zz_zret hC hK hZ rfl d_Model_reach_81 (by decide) ⟨g1, g2, A1, n1, g3, by omega, g5, g6, g7, by rw [if_pos (by omega)]⟩
        · refine lv_aload_n hx_ hb_ d_Model_reach_67 rfl (lv_at hl 1 rfl) ?_
          refine zz_get hC hK hZ 0 19 (Nat.le_of_ble_eq_true rfl) (mc_0 q _ _) rfl hin_Model (by decide) wd_526 rfl rfl d_Model_reach_68 ?_
          refine zz_topi (y := nI n1) g5.1 ?_
          refine lv_bipush (v := nI 40) hx_ hb_ d_Model_reach_71 (by decide) ?_
          refine zz_jgt (tgt := 80) hC d_Model_reach_73 (by decide) (by omega) (by omega) (fun h73 => ?_) (fun h73 => ?_)
          · refine lv_iconst (v := nI 0) hx_ hb_ d_Model_reach_80 (by decide) ?_
            exact zz_zret hC hK hZ rfl d_Model_reach_81 (by decide) ⟨g1, g2, A1, n1, g3, by omega, g5, g6, g7, by rw [if_neg (by omega)]⟩
          · refine lv_iconst (v := nI 1) hx_ hb_ d_Model_reach_76 (by decide) ?_
            refine lv_goto (tgt := 81) hx_ hb_ d_Model_reach_77 (by decide) ?_
            exact zz_zret hC hK hZ rfl d_Model_reach_81 (by decide) ⟨g1, g2, A1, n1, g3, by omega, g5, g6, g7, by rw [if_pos (by omega)]⟩
      · refine lv_aload_n hx_ hb_ d_Model_reach_9 rfl (lv_at hl 0 rfl) ?_
        refine zz_get hC hK hZ 0 15 (Nat.le_of_ble_eq_true rfl) (mc_0 q _ _) rfl hin_Model (by decide) wd_522 rfl rfl d_Model_reach_10 ?_
        refine lv_iload hx_ hb_ d_Model_reach_13 (lv_at hl 4 rfl) ?_
        refine lv_aload_n hx_ hb_ d_Model_reach_15 rfl (lv_at hl 0 rfl) ?_
        refine zz_get hC hK hZ 0 20 (Nat.le_of_ble_eq_true rfl) (mc_0 q _ _) rfl hin_Model (by decide) wd_527 rfl rfl d_Model_reach_16 ?_
        refine lv_iconst (v := nI 4) hx_ hb_ d_Model_reach_19 (by decide) ?_
        refine lv_iload_n hx_ hb_ d_Model_reach_20 rfl (lv_at hl 2 rfl) ?_
        refine lv_imul hx_ hb_ d_Model_reach_21 ?_
        refine zz_topi (y := nI (4 * x)) (pk_mul _ _) ?_
        refine lv_iload hx_ hb_ d_Model_reach_22 (lv_at hl 4 rfl) ?_
        refine lv_iadd hx_ hb_ d_Model_reach_24 ?_
        refine zz_topi (y := nI (4 * x + k)) (nI_add _ _) ?_
        refine zz_lald hC hK hZ 17 1 (4 * x + k) (Nat.le_of_ble_eq_true rfl) (mc_17 q _ _) rfl rfl (by omega) (by decide) rfl d_Model_reach_25 ?_
        refine zz_topl (y := lN (ns_at (A x).1 k)) (by rw [(ho1 17 (by omega)).2]; exact (hM.2.2 x hx k (by omega)).1) ?_
        refine zz_last hC hK hZ 13 1 k (Nat.le_of_ble_eq_true rfl) (fun _ => mc_13 q _ _) rfl rfl (by omega) (by decide) d_Model_reach_26 (fun H locs hZ => ?_)
        refine lv_aload_n hx_ hb_ d_Model_reach_27 rfl (lv_at hl 0 rfl) ?_
        refine zz_get hC hK hZ 0 16 (Nat.le_of_ble_eq_true rfl) (mc_0 q _ _) rfl hin_Model (by decide) wd_523 rfl rfl d_Model_reach_28 ?_
        refine lv_iload hx_ hb_ d_Model_reach_31 (lv_at hl 4 rfl) ?_
        refine lv_aload_n hx_ hb_ d_Model_reach_33 rfl (lv_at hl 0 rfl) ?_
        refine zz_get hC hK hZ 0 20 (Nat.le_of_ble_eq_true rfl) (mc_0 q _ _) rfl hin_Model (by decide) wd_527 rfl rfl d_Model_reach_34 ?_
        refine lv_iconst (v := nI 4) hx_ hb_ d_Model_reach_37 (by decide) ?_
        refine lv_iload_n hx_ hb_ d_Model_reach_38 rfl (lv_at hl 3 rfl) ?_
        refine lv_imul hx_ hb_ d_Model_reach_39 ?_
        refine zz_topi (y := nI (4 * y)) (pk_mul _ _) ?_
        refine lv_iload hx_ hb_ d_Model_reach_40 (lv_at hl 4 rfl) ?_
        refine lv_iadd hx_ hb_ d_Model_reach_42 ?_
        refine zz_topi (y := nI (4 * y + k)) (nI_add _ _) ?_
        refine zz_lald hC hK hZ 17 1 (4 * y + k) (Nat.le_of_ble_eq_true rfl) (mc_17 q _ _) rfl rfl (by omega) (by decide) rfl d_Model_reach_43 ?_
        refine zz_topl (y := lN (ns_at (A y).1 k)) (by rw [zz_v2 _ 13 _ _ 17 (by omega), (ho1 17 (by omega)).2]; exact (hM.2.2 y hy k (by omega)).1) ?_
        refine zz_last hC hK hZ 14 1 k (Nat.le_of_ble_eq_true rfl) (fun _ => mc_14 q _ _) rfl rfl (by omega) (by decide) d_Model_reach_44 (fun H locs hZ => ?_)
        refine lv_iinc (k := 4) (v := nI (k + 1)) (lv' := [(4, .int (nI (k + 1))), (0, .ref (zz_ad (mg_G q) 0)), (1, .int (nI o)), (2, .int (nI x)), (3, .int (nI y))]) hx_ hb_ d_Model_reach_45 hl rfl (nI_add _ 1) (by decide) rfl (fun ls hl => ?_)
        refine lv_goto (tgt := 3) hx_ hb_ d_Model_reach_48 (by decide) ?_
        exact ih_ _ (by omega) (k + 1) (zz_v (zz_v Si 13 k (lN (ns_at (A x).1 k))) 14 k (lN (ns_at (A y).1 k)))  _ _ _ (by omega) (zz_off_tr ho1 (fun d hd => ⟨rfl, by rw [zz_v2 _ 14 _ _ d (fun h => hd (Or.inr h)), zz_v2 _ 13 _ _ d (fun h => hd (Or.inl h))]⟩)) (fun j hj => by
          rw [zz_v2 _ 14 _ _ 13 (by omega), zz_v2s]
          by_cases e : j = k
          · rw [e, pk_uLs]
          · rw [pk_uLn e]
            exact hL j (by omega)) (fun j hj => by
          rw [zz_v2s]
          by_cases e : j = k
          · rw [e, pk_uLs]
          · rw [pk_uLn e, zz_v2 _ 13 _ _ 14 (by omega)]
            exact hRr j (by omega)) hZ (lv_sub hl [1, 2, 3, 4, 0] rfl) rfl
  have L3 : ∀ (k : Nat) (Si : zz_S) (H : Heap) (locs : List Loc) (ls : Array Slot) (hk : k ≤ 4) (ho1 : zz_off (fun c => c = 13 ∨ c = 14) S Si) (hL : ∀ j, j < k → Si.2 13 j = lN (ns_at (A x).1 j)) (hRr : ∀ j, j < k → Si.2 14 j = lN (ns_at (A y).1 j)) (hZ : zz_Z (mg_G q) Si s_.heap H locs) (hl : lv_has ls 5 [(0, .ref (zz_ad (mg_G q) 0)), (1, .int (nI o)), (2, .int (nI x)), (3, .int (nI y)), (4, .int (nI k))]), W p_ l e_ rm_Model_reach s_ m_ ([.ref (zz_ad (mg_G q) 0), .int (nI o), .int (nI x), .int (nI y)] : List Value).toArray bl_ mt_ c_ H locs 0 0 (MQ bl_ (va_Qi (fun ans S1 => zz_off ms_X S S1 ∧ (∀ j, j ≠ 19 → S1.1 0 j = S.1 0 j) ∧ ∃ (A1 : Nat → ns_St) (n1 : Nat), xt_ex A n A1 n1 ∧ n1 ≤ 41 ∧ mk_st S1 A1 n1 ∧ xt_gd rl R A1 n1 ∧ (∀ c, ns_nx rl R o (A x) (A y) c → sk_has A1 n1 c) ∧ ans = nI (if n1 ≤ 40 then 1 else 0)) (zz_P (mg_G q)) (zz_A (mg_G q))) ([.ref (zz_ad (mg_G q) 0), .int (nI o), .int (nI x), .int (nI y)] : List Value).toArray s_ 0 0 (zz_A (mg_G q))) (F0 m_ 3 ls []) := fun k Si H locs ls hk ho1 hL hRr hZ hl => L3_ _ k Si H locs ls hk ho1 hL hRr hZ hl rfl
  refine lv_iconst (v := nI 0) hx_ hb_ d_Model_reach_0 (by decide) ?_
  refine lv_istore (i := 4) (lv' := [(4, .int (nI 0)), (0, .ref (zz_ad (mg_G q) 0)), (1, .int (nI o)), (2, .int (nI x)), (3, .int (nI y))]) hx_ hb_ d_Model_reach_1 hl (by decide) rfl (fun ls hl => ?_)
  exact L3 0 S  _ _ _ (Nat.zero_le _) zz_off_rf (fun j hj => absurd hj (Nat.not_lt_zero j)) (fun j hj => absurd hj (Nat.not_lt_zero j)) hZ (lv_sub hl [1, 2, 3, 4, 0] rfl)
