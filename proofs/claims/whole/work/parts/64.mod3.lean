/-! The reference: labels. Laid by wip/whole/prog/p21.py. -/
set_option maxHeartbeats 4000000 in
set_option maxRecDepth 100000 in
theorem c_Model_takeKids (l : Launch) (q : xg_T) (S : zz_S) (op : Nat → Nat) (nu : Nat → Int32) (sz ht : Nat → Nat) (m t : Nat) (ps : Nat → Nat) (hT : mt_ok S op nu sz ht m t ps) (i : Nat) (gs : Nat → Nat → Nat) (hi : i < m) (hkl : 0 < zz_kd (op i) → tr_fa op sz i < i ∧ ∀ k, k < 4 → S.2 11 (4 * tr_fa op sz i + k) = lN (gs (tr_fa op sz i) k)) (hkr : zz_kd (op i) = 2 → ∀ k, k < 4 → S.2 11 (4 * (i - 1) + k) = lN (gs (i - 1) k)) : Met l y_Model_takeKids (Cond.code y_Model_takeKids b_Model_takeKids 5 none :: zz_tbl) rm_Model_takeKids (zz_Pc [.ref (zz_ad (mg_G q) 0), .int (nI i)] (mg_G q) S) (va_Qv (fun S1 => zz_off (fun c => c = 13 ∨ c = 14) S S1 ∧ (0 < zz_kd (op i) → mg_ok S1 13 (gs (tr_fa op sz i))) ∧ (1 < zz_kd (op i) → mg_ok S1 14 (gs (i - 1)))) (zz_P (mg_G q)) (zz_A (mg_G q))) 0 0 (zz_A (mg_G q)) := by
  refine zz_met (by decide) (Nat.le_of_ble_eq_true rfl) ?_
  intro p_ e_ s_ m_ bl_ mt_ c_ ls hC hK hZ hl
  have hC : zz_C p_ s_ m_ _ mt_ c_ b_Model_takeKids 5 none "TreeCoverForgeModel" := hC
  have hx_ := hC.1
  have hb_ := hC.2.1
  have hl : lv_has ls 5 [(0, .ref (zz_ad (mg_G q) 0)), (1, .int (nI i))] := hl
  have hm := hT.2.2.1
  have hrow := hT.2.2.2.2.1
  have hti := hT.2.2.2.2.2.1 i hi
  have hkd := tr_kd (op i)
  have L35_ : ∀ (n_ : Nat) (k : Nat) (fr : Int32) (Si : zz_S) (H : Heap) (locs : List Loc) (ls : Array Slot) (hk : k ≤ 4) (hfr : 0 < zz_kd (op i) → fr = nI (tr_fa op sz i)) (ho1 : zz_off (fun c => c = 13 ∨ c = 14) S Si) (hL : 0 < zz_kd (op i) → ∀ j, j < k → Si.2 13 j = lN (gs (tr_fa op sz i) j)) (hRr : zz_kd (op i) = 2 → ∀ j, j < k → Si.2 14 j = lN (gs (i - 1) j)) (hZ : zz_Z (mg_G q) Si s_.heap H locs) (hl : lv_has ls 5 [(0, .ref (zz_ad (mg_G q) 0)), (1, .int (nI i)), (2, .int (nI (zz_kd (op i)))), (3, .int fr), (4, .int (nI k))]) (hn_ : 4 - k = n_), W p_ l e_ rm_Model_takeKids s_ m_ ([.ref (zz_ad (mg_G q) 0), .int (nI i)] : List Value).toArray bl_ mt_ c_ H locs 0 0 (MQ bl_ (va_Qv (fun S1 => zz_off (fun c => c = 13 ∨ c = 14) S S1 ∧ (0 < zz_kd (op i) → mg_ok S1 13 (gs (tr_fa op sz i))) ∧ (1 < zz_kd (op i) → mg_ok S1 14 (gs (i - 1)))) (zz_P (mg_G q)) (zz_A (mg_G q))) ([.ref (zz_ad (mg_G q) 0), .int (nI i)] : List Value).toArray s_ 0 0 (zz_A (mg_G q))) (F0 m_ 35 ls []) := by
    intro n_
    induction n_ using Nat.strongRecOn with
    | ind n_ ih_ =>
      intro k fr Si H locs ls hk hfr ho1 hL hRr hZ hl hn_
      refine lv_iload hx_ hb_ d_Model_takeKids_35 (lv_at hl 4 rfl) ?_
      refine lv_iconst (v := nI 4) hx_ hb_ d_Model_takeKids_37 (by decide) ?_
      refine zz_jge (tgt := 106) hC d_Model_takeKids_38 (by decide) (by omega) (by omega) (fun h38 => ?_) (fun h38 => ?_)
      · exact zz_vret hC hK hZ rfl d_Model_takeKids_106 ⟨ho1, fun h j hj => hL h j (by omega), fun h j hj => hRr (by omega) j (by omega)⟩
      · refine lv_aload_n hx_ hb_ d_Model_takeKids_41 rfl (lv_at hl 0 rfl) ?_
        refine zz_get hC hK hZ 0 15 (Nat.le_of_ble_eq_true rfl) (mc_0 q _ _) rfl hin_Model (by decide) wd_522 rfl rfl d_Model_takeKids_42 ?_
        refine lv_iload hx_ hb_ d_Model_takeKids_45 (lv_at hl 4 rfl) ?_
        refine lv_iload_n hx_ hb_ d_Model_takeKids_47 rfl (lv_at hl 2 rfl) ?_
        refine zz_ine (tgt := 57) hC d_Model_takeKids_48 (by decide) (by omega) (fun h48 => ?_) (fun h48 => ?_)
        · have hkl1 := (hkl (by omega)).1
          refine lv_aload_n hx_ hb_ d_Model_takeKids_57 rfl (lv_at hl 0 rfl) ?_
          refine zz_get hC hK hZ 0 13 (Nat.le_of_ble_eq_true rfl) (mc_0 q _ _) rfl hin_Model (by decide) wd_520 rfl rfl d_Model_takeKids_58 ?_
          refine lv_iconst (v := nI 4) hx_ hb_ d_Model_takeKids_61 (by decide) ?_
          refine lv_iload_n hx_ hb_ d_Model_takeKids_62 rfl (lv_at hl 3 rfl) ?_
          refine zz_topi (y := nI (tr_fa op sz i)) (hfr (by omega)) ?_
          refine lv_imul hx_ hb_ d_Model_takeKids_63 ?_
          refine zz_topi (y := nI (4 * (tr_fa op sz i))) (pk_mul _ _) ?_
          refine lv_iload hx_ hb_ d_Model_takeKids_64 (lv_at hl 4 rfl) ?_
          refine lv_iadd hx_ hb_ d_Model_takeKids_66 ?_
          refine zz_topi (y := nI (4 * (tr_fa op sz i) + k)) (nI_add _ _) ?_
          refine zz_lald hC hK hZ 11 1 (4 * (tr_fa op sz i) + k) (Nat.le_of_ble_eq_true rfl) (mc_11 q _ _) rfl rfl (by omega) (by decide) rfl d_Model_takeKids_67 ?_
          refine zz_topl (y := lN (gs (tr_fa op sz i) k)) (by rw [(ho1 11 (by omega)).2]; exact (hkl (by omega)).2 k (by omega)) ?_
          refine zz_last hC hK hZ 13 1 k (Nat.le_of_ble_eq_true rfl) (fun _ => mc_13 q _ _) rfl rfl (by omega) (by decide) d_Model_takeKids_68 (fun H locs hZ => ?_)
          refine lv_aload_n hx_ hb_ d_Model_takeKids_69 rfl (lv_at hl 0 rfl) ?_
          refine zz_get hC hK hZ 0 16 (Nat.le_of_ble_eq_true rfl) (mc_0 q _ _) rfl hin_Model (by decide) wd_523 rfl rfl d_Model_takeKids_70 ?_
          refine lv_iload hx_ hb_ d_Model_takeKids_73 (lv_at hl 4 rfl) ?_
          refine lv_iload_n hx_ hb_ d_Model_takeKids_75 rfl (lv_at hl 2 rfl) ?_
          refine lv_iconst (v := nI 2) hx_ hb_ d_Model_takeKids_76 (by decide) ?_
          refine zz_jge (tgt := 86) hC d_Model_takeKids_77 (by decide) (by omega) (by omega) (fun h77 => ?_) (fun h77 => ?_)
          · refine lv_aload_n hx_ hb_ d_Model_takeKids_86 rfl (lv_at hl 0 rfl) ?_
            refine zz_get hC hK hZ 0 13 (Nat.le_of_ble_eq_true rfl) (mc_0 q _ _) rfl hin_Model (by decide) wd_520 rfl rfl d_Model_takeKids_87 ?_
            refine lv_iconst (v := nI 4) hx_ hb_ d_Model_takeKids_90 (by decide) ?_
            refine lv_iload_n hx_ hb_ d_Model_takeKids_91 rfl (lv_at hl 1 rfl) ?_
            refine lv_iconst (v := nI 1) hx_ hb_ d_Model_takeKids_92 (by decide) ?_
            refine lv_isub hx_ hb_ d_Model_takeKids_93 ?_
            refine zz_topi (y := nI (i - 1)) (pk_sub (by omega)) ?_
            refine lv_imul hx_ hb_ d_Model_takeKids_94 ?_
            refine zz_topi (y := nI (4 * (i - 1))) (pk_mul _ _) ?_
            refine lv_iload hx_ hb_ d_Model_takeKids_95 (lv_at hl 4 rfl) ?_
            refine lv_iadd hx_ hb_ d_Model_takeKids_97 ?_
            refine zz_topi (y := nI ((4 * (i - 1)) + k)) (nI_add _ _) ?_
            refine zz_lald hC hK hZ 11 1 ((4 * (i - 1)) + k) (Nat.le_of_ble_eq_true rfl) (mc_11 q _ _) rfl rfl (by omega) (by decide) rfl d_Model_takeKids_98 ?_
            refine zz_topl (y := lN (gs (i - 1) k)) (by rw [zz_v2 _ 13 _ _ 11 (by omega), (ho1 11 (by omega)).2]; exact hkr (by omega) k (by omega)) ?_
            refine zz_last hC hK hZ 14 1 k (Nat.le_of_ble_eq_true rfl) (fun _ => mc_14 q _ _) rfl rfl (by omega) (by decide) d_Model_takeKids_99 (fun H locs hZ => ?_)
            refine lv_iinc (k := 4) (v := nI (k + 1)) (lv' := [(4, .int (nI (k + 1))), (0, .ref (zz_ad (mg_G q) 0)), (1, .int (nI i)), (2, .int (nI (zz_kd (op i)))), (3, .int fr)]) hx_ hb_ d_Model_takeKids_100 hl rfl (nI_add _ 1) (by decide) rfl (fun ls hl => ?_)
            refine lv_goto (tgt := 35) hx_ hb_ d_Model_takeKids_103 (by decide) ?_
            exact ih_ _ (by omega) (k + 1) fr (zz_v (zz_v Si 13 k (lN (gs (tr_fa op sz i) k))) 14 k (lN (gs (i - 1) k)))  _ _ _ (by omega) hfr (zz_off_tr ho1 (fun d hd => ⟨rfl, by rw [zz_v2 _ 14 _ _ d (fun h => hd (Or.inr h)), zz_v2 _ 13 _ _ d (fun h => hd (Or.inl h))]⟩)) (fun h j hj => by
              rw [zz_v2 _ 14 _ _ 13 (by omega), zz_v2s]
              by_cases e : j = k
              · rw [e, pk_uLs]
              · rw [pk_uLn e]
                exact hL h j (by omega)) (fun h j hj => by
              rw [zz_v2s]
              by_cases e : j = k
              · rw [e, pk_uLs]
              · rw [pk_uLn e, zz_v2 _ 13 _ _ 14 (by omega)]
                exact hRr h j (by omega)) hZ (lv_sub hl [1, 2, 3, 4, 0] rfl) rfl
          · refine lv_ldc2 (v := lN 1125899906842624) hx_ hb_ hC.2.2.2.1 (hC.2.2.2.2.1 _ wd_644) d_Model_takeKids_80 ?_
            refine lv_goto (tgt := 99) hx_ hb_ d_Model_takeKids_83 (by decide) ?_
            refine zz_last hC hK hZ 14 1 k (Nat.le_of_ble_eq_true rfl) (fun _ => mc_14 q _ _) rfl rfl (by omega) (by decide) d_Model_takeKids_99 (fun H locs hZ => ?_)
            refine lv_iinc (k := 4) (v := nI (k + 1)) (lv' := [(4, .int (nI (k + 1))), (0, .ref (zz_ad (mg_G q) 0)), (1, .int (nI i)), (2, .int (nI (zz_kd (op i)))), (3, .int fr)]) hx_ hb_ d_Model_takeKids_100 hl rfl (nI_add _ 1) (by decide) rfl (fun ls hl => ?_)
            refine lv_goto (tgt := 35) hx_ hb_ d_Model_takeKids_103 (by decide) ?_
            exact ih_ _ (by omega) (k + 1) fr (zz_v (zz_v Si 13 k (lN (gs (tr_fa op sz i) k))) 14 k (lN 1125899906842624))  _ _ _ (by omega) hfr (zz_off_tr ho1 (fun d hd => ⟨rfl, by rw [zz_v2 _ 14 _ _ d (fun h => hd (Or.inr h)), zz_v2 _ 13 _ _ d (fun h => hd (Or.inl h))]⟩)) (fun h j hj => by
              rw [zz_v2 _ 14 _ _ 13 (by omega), zz_v2s]
              by_cases e : j = k
              · rw [e, pk_uLs]
              · rw [pk_uLn e]
                exact hL h j (by omega)) (fun h => absurd h (by omega)) hZ (lv_sub hl [1, 2, 3, 4, 0] rfl) rfl
        · refine lv_ldc2 (v := lN 1125899906842624) hx_ hb_ hC.2.2.2.1 (hC.2.2.2.2.1 _ wd_644) d_Model_takeKids_51 ?_
          refine lv_goto (tgt := 68) hx_ hb_ d_Model_takeKids_54 (by decide) ?_
          refine zz_last hC hK hZ 13 1 k (Nat.le_of_ble_eq_true rfl) (fun _ => mc_13 q _ _) rfl rfl (by omega) (by decide) d_Model_takeKids_68 (fun H locs hZ => ?_)
          refine lv_aload_n hx_ hb_ d_Model_takeKids_69 rfl (lv_at hl 0 rfl) ?_
          refine zz_get hC hK hZ 0 16 (Nat.le_of_ble_eq_true rfl) (mc_0 q _ _) rfl hin_Model (by decide) wd_523 rfl rfl d_Model_takeKids_70 ?_
          refine lv_iload hx_ hb_ d_Model_takeKids_73 (lv_at hl 4 rfl) ?_
          refine lv_iload_n hx_ hb_ d_Model_takeKids_75 rfl (lv_at hl 2 rfl) ?_
          refine lv_iconst (v := nI 2) hx_ hb_ d_Model_takeKids_76 (by decide) ?_
          refine zz_jge (tgt := 86) hC d_Model_takeKids_77 (by decide) (by omega) (by omega) (fun h77 => ?_) (fun h77 => ?_)
          · refine lv_aload_n hx_ hb_ d_Model_takeKids_86 rfl (lv_at hl 0 rfl) ?_
            refine zz_get hC hK hZ 0 13 (Nat.le_of_ble_eq_true rfl) (mc_0 q _ _) rfl hin_Model (by decide) wd_520 rfl rfl d_Model_takeKids_87 ?_
            refine lv_iconst (v := nI 4) hx_ hb_ d_Model_takeKids_90 (by decide) ?_
            refine lv_iload_n hx_ hb_ d_Model_takeKids_91 rfl (lv_at hl 1 rfl) ?_
            refine lv_iconst (v := nI 1) hx_ hb_ d_Model_takeKids_92 (by decide) ?_
            refine lv_isub hx_ hb_ d_Model_takeKids_93 ?_
            refine zz_topi (y := nI (i - 1)) (pk_sub (by omega)) ?_
            refine lv_imul hx_ hb_ d_Model_takeKids_94 ?_
            refine zz_topi (y := nI (4 * (i - 1))) (pk_mul _ _) ?_
            refine lv_iload hx_ hb_ d_Model_takeKids_95 (lv_at hl 4 rfl) ?_
            refine lv_iadd hx_ hb_ d_Model_takeKids_97 ?_
            refine zz_topi (y := nI ((4 * (i - 1)) + k)) (nI_add _ _) ?_
            refine zz_lald hC hK hZ 11 1 ((4 * (i - 1)) + k) (Nat.le_of_ble_eq_true rfl) (mc_11 q _ _) rfl rfl (by omega) (by decide) rfl d_Model_takeKids_98 ?_
            refine zz_topl (y := lN (gs (i - 1) k)) (by rw [zz_v2 _ 13 _ _ 11 (by omega), (ho1 11 (by omega)).2]; exact hkr (by omega) k (by omega)) ?_
            refine zz_last hC hK hZ 14 1 k (Nat.le_of_ble_eq_true rfl) (fun _ => mc_14 q _ _) rfl rfl (by omega) (by decide) d_Model_takeKids_99 (fun H locs hZ => ?_)
            refine lv_iinc (k := 4) (v := nI (k + 1)) (lv' := [(4, .int (nI (k + 1))), (0, .ref (zz_ad (mg_G q) 0)), (1, .int (nI i)), (2, .int (nI (zz_kd (op i)))), (3, .int fr)]) hx_ hb_ d_Model_takeKids_100 hl rfl (nI_add _ 1) (by decide) rfl (fun ls hl => ?_)
            refine lv_goto (tgt := 35) hx_ hb_ d_Model_takeKids_103 (by decide) ?_
            exact ih_ _ (by omega) (k + 1) fr (zz_v (zz_v Si 13 k (lN 1125899906842624)) 14 k (lN (gs (i - 1) k)))  _ _ _ (by omega) hfr (zz_off_tr ho1 (fun d hd => ⟨rfl, by rw [zz_v2 _ 14 _ _ d (fun h => hd (Or.inr h)), zz_v2 _ 13 _ _ d (fun h => hd (Or.inl h))]⟩)) (fun h => absurd h (by omega)) (fun h j hj => by
              rw [zz_v2s]
              by_cases e : j = k
              · rw [e, pk_uLs]
              · rw [pk_uLn e, zz_v2 _ 13 _ _ 14 (by omega)]
                exact hRr h j (by omega)) hZ (lv_sub hl [1, 2, 3, 4, 0] rfl) rfl
          · refine lv_ldc2 (v := lN 1125899906842624) hx_ hb_ hC.2.2.2.1 (hC.2.2.2.2.1 _ wd_644) d_Model_takeKids_80 ?_
            refine lv_goto (tgt := 99) hx_ hb_ d_Model_takeKids_83 (by decide) ?_
            refine zz_last hC hK hZ 14 1 k (Nat.le_of_ble_eq_true rfl) (fun _ => mc_14 q _ _) rfl rfl (by omega) (by decide) d_Model_takeKids_99 (fun H locs hZ => ?_)
            refine lv_iinc (k := 4) (v := nI (k + 1)) (lv' := [(4, .int (nI (k + 1))), (0, .ref (zz_ad (mg_G q) 0)), (1, .int (nI i)), (2, .int (nI (zz_kd (op i)))), (3, .int fr)]) hx_ hb_ d_Model_takeKids_100 hl rfl (nI_add _ 1) (by decide) rfl (fun ls hl => ?_)
            refine lv_goto (tgt := 35) hx_ hb_ d_Model_takeKids_103 (by decide) ?_
            exact ih_ _ (by omega) (k + 1) fr (zz_v (zz_v Si 13 k (lN 1125899906842624)) 14 k (lN 1125899906842624))  _ _ _ (by omega) hfr (zz_off_tr ho1 (fun d hd => ⟨rfl, by rw [zz_v2 _ 14 _ _ d (fun h => hd (Or.inr h)), zz_v2 _ 13 _ _ d (fun h => hd (Or.inl h))]⟩)) (fun h => absurd h (by omega)) (fun h => absurd h (by omega)) hZ (lv_sub hl [1, 2, 3, 4, 0] rfl) rfl
  have L35 : ∀ (k : Nat) (fr : Int32) (Si : zz_S) (H : Heap) (locs : List Loc) (ls : Array Slot) (hk : k ≤ 4) (hfr : 0 < zz_kd (op i) → fr = nI (tr_fa op sz i)) (ho1 : zz_off (fun c => c = 13 ∨ c = 14) S Si) (hL : 0 < zz_kd (op i) → ∀ j, j < k → Si.2 13 j = lN (gs (tr_fa op sz i) j)) (hRr : zz_kd (op i) = 2 → ∀ j, j < k → Si.2 14 j = lN (gs (i - 1) j)) (hZ : zz_Z (mg_G q) Si s_.heap H locs) (hl : lv_has ls 5 [(0, .ref (zz_ad (mg_G q) 0)), (1, .int (nI i)), (2, .int (nI (zz_kd (op i)))), (3, .int fr), (4, .int (nI k))]), W p_ l e_ rm_Model_takeKids s_ m_ ([.ref (zz_ad (mg_G q) 0), .int (nI i)] : List Value).toArray bl_ mt_ c_ H locs 0 0 (MQ bl_ (va_Qv (fun S1 => zz_off (fun c => c = 13 ∨ c = 14) S S1 ∧ (0 < zz_kd (op i) → mg_ok S1 13 (gs (tr_fa op sz i))) ∧ (1 < zz_kd (op i) → mg_ok S1 14 (gs (i - 1)))) (zz_P (mg_G q)) (zz_A (mg_G q))) ([.ref (zz_ad (mg_G q) 0), .int (nI i)] : List Value).toArray s_ 0 0 (zz_A (mg_G q))) (F0 m_ 35 ls []) := fun k fr Si H locs ls hk hfr ho1 hL hRr hZ hl => L35_ _ k fr Si H locs ls hk hfr ho1 hL hRr hZ hl rfl
  refine lv_aload_n hx_ hb_ d_Model_takeKids_0 rfl (lv_at hl 0 rfl) ?_
  refine zz_get hC hK hZ 0 7 (Nat.le_of_ble_eq_true rfl) (mc_0 q _ _) rfl hin_Model (by decide) wd_514 rfl rfl d_Model_takeKids_1 ?_
  refine lv_iload_n hx_ hb_ d_Model_takeKids_4 rfl (lv_at hl 1 rfl) ?_
  refine zz_iald hC hK hZ 6 0 i (Nat.le_of_ble_eq_true rfl) (mc_6 q _ _) rfl rfl (by omega) (by decide) rfl d_Model_takeKids_5 ?_
  refine zz_topi (y := nI (op i)) (hrow i hi).1 ?_
  refine zz_ci (zz_rS (As := [.int (nI (op i))]) (rest := []) hC hK hZ (c_Model_kids l q S (op i) (by omega)) k_Model_kids wd_649 ⟨rfl, rfl, by decide, by decide⟩ rfl hl.1 rfl (Nat.le_of_ble_eq_true rfl) d_Model_takeKids_6 ⟨Nat.zero_le _, Nat.zero_le _⟩) hZ (fun r6 S6 H locs hp6 hZ => ?_)
  obtain ⟨rfl, rfl⟩ := hp6
  refine lv_istore_n (i := 2) (lv' := [(2, .int (nI (zz_kd (op i)))), (0, .ref (zz_ad (mg_G q) 0)), (1, .int (nI i))]) hx_ hb_ d_Model_takeKids_9 rfl hl (by decide) rfl (fun ls hl => ?_)
  refine lv_iload_n hx_ hb_ d_Model_takeKids_10 rfl (lv_at hl 2 rfl) ?_
  refine lv_iconst (v := nI 1) hx_ hb_ d_Model_takeKids_11 (by decide) ?_
  refine lv_isub hx_ hb_ d_Model_takeKids_12 ?_
  refine zz_topi (y := nI i - nI 1) rfl ?_
  refine lv_iload_n hx_ hb_ d_Model_takeKids_13 rfl (lv_at hl 0 rfl) ?_
  refine lv_iconst (v := nI 1) hx_ hb_ d_Model_takeKids_14 (by decide) ?_
  refine zz_jle (tgt := 29) hC d_Model_takeKids_15 (by decide) (by omega) (by omega) (fun h15 => ?_) (fun h15 => ?_)
  · refine lv_iconst (v := nI 0) hx_ hb_ d_Model_takeKids_29 (by decide) ?_
    refine lv_isub hx_ hb_ d_Model_takeKids_30 ?_
    refine lv_istore_n (i := 3) (lv' := [(3, .int ((nI i - nI 1) - (nI 0))), (2, .int (nI (zz_kd (op i)))), (0, .ref (zz_ad (mg_G q) 0)), (1, .int (nI i))]) hx_ hb_ d_Model_takeKids_31 rfl hl (by decide) rfl (fun ls hl => ?_)
    refine lv_iconst (v := nI 0) hx_ hb_ d_Model_takeKids_32 (by decide) ?_
    refine lv_istore (i := 4) (lv' := [(4, .int (nI 0)), (3, .int ((nI i - nI 1) - (nI 0))), (2, .int (nI (zz_kd (op i)))), (0, .ref (zz_ad (mg_G q) 0)), (1, .int (nI i))]) hx_ hb_ d_Model_takeKids_33 hl (by decide) rfl (fun ls hl => ?_)
    exact L35 0 ((nI i - nI 1) - (nI 0)) S  _ _ _ (Nat.zero_le _) (fun h => by rw [tr_fa, if_neg (by omega), pk_sub (by omega), pk_sub (by omega)]; rfl) zz_off_rf (fun _ j hj => absurd hj (Nat.not_lt_zero j)) (fun _ j hj => absurd hj (Nat.not_lt_zero j)) hZ (lv_sub hl [3, 4, 2, 1, 0] rfl)
  · refine lv_aload_n hx_ hb_ d_Model_takeKids_18 rfl (lv_at hl 1 rfl) ?_
    refine zz_get hC hK hZ 0 9 (Nat.le_of_ble_eq_true rfl) (mc_0 q _ _) rfl hin_Model (by decide) wd_516 rfl rfl d_Model_takeKids_19 ?_
    refine lv_iload_n hx_ hb_ d_Model_takeKids_22 rfl (lv_at hl 2 rfl) ?_
    refine lv_iconst (v := nI 1) hx_ hb_ d_Model_takeKids_23 (by decide) ?_
    refine lv_isub hx_ hb_ d_Model_takeKids_24 ?_
    refine zz_topi (y := nI (i - 1)) (pk_sub (by omega)) ?_
    refine zz_iald hC hK hZ 8 0 (i - 1) (Nat.le_of_ble_eq_true rfl) (mc_8 q _ _) rfl rfl (by omega) (by decide) rfl d_Model_takeKids_25 ?_
    refine zz_topi (y := nI (sz (i - 1))) (hrow (i - 1) (by omega)).2.2.1 ?_
    refine lv_goto (tgt := 30) hx_ hb_ d_Model_takeKids_26 (by decide) ?_
    refine lv_isub hx_ hb_ d_Model_takeKids_30 ?_
    refine lv_istore_n (i := 3) (lv' := [(3, .int ((nI i - nI 1) - (nI (sz (i - 1))))), (2, .int (nI (zz_kd (op i)))), (0, .ref (zz_ad (mg_G q) 0)), (1, .int (nI i))]) hx_ hb_ d_Model_takeKids_31 rfl hl (by decide) rfl (fun ls hl => ?_)
    refine lv_iconst (v := nI 0) hx_ hb_ d_Model_takeKids_32 (by decide) ?_
    refine lv_istore (i := 4) (lv' := [(4, .int (nI 0)), (3, .int ((nI i - nI 1) - (nI (sz (i - 1))))), (2, .int (nI (zz_kd (op i)))), (0, .ref (zz_ad (mg_G q) 0)), (1, .int (nI i))]) hx_ hb_ d_Model_takeKids_33 hl (by decide) rfl (fun ls hl => ?_)
    exact L35 0 ((nI i - nI 1) - (nI (sz (i - 1)))) S  _ _ _ (Nat.zero_le _) (fun h => by rw [tr_fa, if_pos (by omega), pk_sub (by omega), pk_sub (by omega)]) zz_off_rf (fun _ j hj => absurd hj (Nat.not_lt_zero j)) (fun _ j hj => absurd hj (Nat.not_lt_zero j)) hZ (lv_sub hl [3, 4, 2, 1, 0] rfl)
set_option maxHeartbeats 4000000 in
set_option maxRecDepth 100000 in
theorem c_Model_work (l : Launch) (q : xg_T) (S : zz_S) (rl : mx_R) (R : Nat) (hB : mb_ok S rl R) (op : Nat → Nat) (nu : Nat → Int32) (sz ht : Nat → Nat) (m t : Nat) (ps : Nat → Nat) (hT : mt_ok S op nu sz ht m t ps) : Met l y_Model_work (Cond.code y_Model_work b_Model_work 3 (some .boolean) :: zz_tbl) rm_Model_work (zz_Pc [.ref (zz_ad (mg_G q) 0)] (mg_G q) S) (va_Qi (fun ans S1 => (t = 0 ∧ ans = nI 0 ∧ S = S1) ∨ (t ≠ 0 ∧ ans = nI 1 ∧ zz_off mr_X S S1 ∧ ∃ gs qs, (∀ i, (m - sz (m - 1)) ≤ i → i < m → xq_lab rl R op sz gs qs i) ∧ mr_ok S1 gs qs (m - sz (m - 1)) m)) (zz_P (mg_G q)) (zz_A (mg_G q))) 0 0 (zz_A (mg_G q)) := by
  refine zz_met (by decide) (Nat.le_of_ble_eq_true rfl) ?_
  intro p_ e_ s_ m_ bl_ mt_ c_ ls hC hK hZ hl
  have hC : zz_C p_ s_ m_ _ mt_ c_ b_Model_work 3 (some .boolean) "TreeCoverForgeModel" := hC
  have hx_ := hC.1
  have hb_ := hC.2.1
  have hl : lv_has ls 3 [(0, .ref (zz_ad (mg_G q) 0))] := hl
  have hok := hB.2.2.1
  have hm := hT.2.2.1
  have htm := hT.2.2.2.1
  have htr := hT.2.2.2.2.2.1
  have hts := hT.2.2.2.2.2.2.2.1
  have hps := hT.2.2.2.2.2.2.2.2
  have h2ts := ts_two hts
  have L46_ : ∀ (n_ : Nat) (i : Nat) (k : Nat) (gs : Nat → Nat → Nat) (qs : Nat → Nat → Nat) (g : Nat → Nat) (y : Nat → Nat) (Sk : zz_S) (hk89 : ∀ (Sk : zz_S) (H : Heap) (locs : List Loc) (ls : Array Slot) (ho1 : zz_off mr_X S Sk) (hrows : mr_ok Sk gs qs (m - sz (m - 1)) i) (hnew : ∀ j, j < 4 → Sk.2 11 (4 * i + j) = lN (g j) ∧ Sk.1 12 (4 * i + j) = vw_p (y j)) (hZ : zz_Z (mg_G q) Sk s_.heap H locs) (hl : lv_has ls 3 [(0, .ref (zz_ad (mg_G q) 0)), (1, .int (nI i))]), W p_ l e_ rm_Model_work s_ m_ ([.ref (zz_ad (mg_G q) 0)] : List Value).toArray bl_ mt_ c_ H locs 0 0 (MQ bl_ (va_Qi (fun ans S1 => (t = 0 ∧ ans = nI 0 ∧ S = S1) ∨ (t ≠ 0 ∧ ans = nI 1 ∧ zz_off mr_X S S1 ∧ ∃ gs qs, (∀ i, (m - sz (m - 1)) ≤ i → i < m → xq_lab rl R op sz gs qs i) ∧ mr_ok S1 gs qs (m - sz (m - 1)) m)) (zz_P (mg_G q)) (zz_A (mg_G q))) ([.ref (zz_ad (mg_G q) 0)] : List Value).toArray s_ 0 0 (zz_A (mg_G q))) (F0 m_ 89 ls [])) (H : Heap) (locs : List Loc) (ls : Array Slot) (hi1 : (m - sz (m - 1)) ≤ i) (h26 : i < m) (hG : ml_M gs i) (hLb : ∀ j, (m - sz (m - 1)) ≤ j → j < i → xq_lab rl R op sz gs qs j) (hlab : mx_Lab rl R (op i) (gs (tr_fa op sz i)) (gs (i - 1)) g y) (hk : k ≤ 4) (ho1 : zz_off mr_X S Sk) (hgy : ∀ k, k < 4 → Sk.2 15 k = lN (g k) ∧ Sk.1 16 k = vw_p (y k)) (hrows : mr_ok Sk gs qs (m - sz (m - 1)) i) (hnew : ∀ j, j < k → Sk.2 11 (4 * i + j) = lN (g j) ∧ Sk.1 12 (4 * i + j) = vw_p (y j)) (hZ : zz_Z (mg_G q) Sk s_.heap H locs) (hl : lv_has ls 3 [(0, .ref (zz_ad (mg_G q) 0)), (1, .int (nI i)), (2, .int (nI k))]) (hn_ : 4 - k = n_), W p_ l e_ rm_Model_work s_ m_ ([.ref (zz_ad (mg_G q) 0)] : List Value).toArray bl_ mt_ c_ H locs 0 0 (MQ bl_ (va_Qi (fun ans S1 => (t = 0 ∧ ans = nI 0 ∧ S = S1) ∨ (t ≠ 0 ∧ ans = nI 1 ∧ zz_off mr_X S S1 ∧ ∃ gs qs, (∀ i, (m - sz (m - 1)) ≤ i → i < m → xq_lab rl R op sz gs qs i) ∧ mr_ok S1 gs qs (m - sz (m - 1)) m)) (zz_P (mg_G q)) (zz_A (mg_G q))) ([.ref (zz_ad (mg_G q) 0)] : List Value).toArray s_ 0 0 (zz_A (mg_G q))) (F0 m_ 46 ls []) := by
    intro n_
    induction n_ using Nat.strongRecOn with
    | ind n_ ih_ =>
      intro i k gs qs g y Sk hk89 H locs ls hi1 h26 hG hLb hlab hk ho1 hgy hrows hnew hZ hl hn_
      refine lv_iload_n hx_ hb_ d_Model_work_46 rfl (lv_at hl 2 rfl) ?_
      refine lv_iconst (v := nI 4) hx_ hb_ d_Model_work_47 (by decide) ?_
      refine zz_jge (tgt := 89) hC d_Model_work_48 (by decide) (by omega) (by omega) (fun h48 => ?_) (fun h48 => ?_)
      · exact hk89 Sk  _ _ _ ho1 hrows (fun j hj => hnew j (by omega)) hZ (lv_sub hl [0, 1] rfl)
      · refine lv_aload_n hx_ hb_ d_Model_work_51 rfl (lv_at hl 0 rfl) ?_
        refine zz_get hC hK hZ 0 13 (Nat.le_of_ble_eq_true rfl) (mc_0 q _ _) rfl hin_Model (by decide) wd_520 rfl rfl d_Model_work_52 ?_
        refine lv_iconst (v := nI 4) hx_ hb_ d_Model_work_55 (by decide) ?_
        refine lv_iload_n hx_ hb_ d_Model_work_56 rfl (lv_at hl 1 rfl) ?_
        refine lv_imul hx_ hb_ d_Model_work_57 ?_
        refine zz_topi (y := nI (4 * i)) (pk_mul _ _) ?_
        refine lv_iload_n hx_ hb_ d_Model_work_58 rfl (lv_at hl 2 rfl) ?_
        refine lv_iadd hx_ hb_ d_Model_work_59 ?_
        refine zz_topi (y := nI (4 * i + k)) (nI_add _ _) ?_
        refine lv_aload_n hx_ hb_ d_Model_work_60 rfl (lv_at hl 0 rfl) ?_
        refine zz_get hC hK hZ 0 17 (Nat.le_of_ble_eq_true rfl) (mc_0 q _ _) rfl hin_Model (by decide) wd_524 rfl rfl d_Model_work_61 ?_
        refine lv_iload_n hx_ hb_ d_Model_work_64 rfl (lv_at hl 2 rfl) ?_
        refine zz_lald hC hK hZ 15 1 k (Nat.le_of_ble_eq_true rfl) (mc_15 q _ _) rfl rfl (by omega) (by decide) rfl d_Model_work_65 ?_
        refine zz_topl (y := lN (g k)) (hgy k (by omega)).1 ?_
        refine zz_last hC hK hZ 11 1 (4 * i + k) (Nat.le_of_ble_eq_true rfl) (fun _ => mc_11 q _ _) rfl rfl (by omega) (by decide) d_Model_work_66 (fun H locs hZ => ?_)
        refine lv_aload_n hx_ hb_ d_Model_work_67 rfl (lv_at hl 0 rfl) ?_
        refine zz_get hC hK hZ 0 14 (Nat.le_of_ble_eq_true rfl) (mc_0 q _ _) rfl hin_Model (by decide) wd_521 rfl rfl d_Model_work_68 ?_
        refine lv_iconst (v := nI 4) hx_ hb_ d_Model_work_71 (by decide) ?_
        refine lv_iload_n hx_ hb_ d_Model_work_72 rfl (lv_at hl 1 rfl) ?_
        refine lv_imul hx_ hb_ d_Model_work_73 ?_
        refine zz_topi (y := nI (4 * i)) (pk_mul _ _) ?_
        refine lv_iload_n hx_ hb_ d_Model_work_74 rfl (lv_at hl 2 rfl) ?_
        refine lv_iadd hx_ hb_ d_Model_work_75 ?_
        refine zz_topi (y := nI (4 * i + k)) (nI_add _ _) ?_
        refine lv_aload_n hx_ hb_ d_Model_work_76 rfl (lv_at hl 0 rfl) ?_
        refine zz_get hC hK hZ 0 18 (Nat.le_of_ble_eq_true rfl) (mc_0 q _ _) rfl hin_Model (by decide) wd_525 rfl rfl d_Model_work_77 ?_
        refine lv_iload_n hx_ hb_ d_Model_work_80 rfl (lv_at hl 2 rfl) ?_
        refine zz_iald hC hK hZ 16 0 k (Nat.le_of_ble_eq_true rfl) (mc_16 q _ _) rfl rfl (by omega) (by decide) rfl d_Model_work_81 ?_
        refine zz_topi (y := vw_p (y k)) (hgy k (by omega)).2 ?_
        refine zz_iast hC hK hZ 12 0 (4 * i + k) (Nat.le_of_ble_eq_true rfl) (fun _ => mc_12 q _ _) rfl rfl (by omega) (by decide) d_Model_work_82 (fun H locs hZ => ?_)
        refine lv_iinc (k := 2) (v := nI (k + 1)) (lv' := [(2, .int (nI (k + 1))), (0, .ref (zz_ad (mg_G q) 0)), (1, .int (nI i))]) hx_ hb_ d_Model_work_83 hl rfl (nI_add _ 1) (by decide) rfl (fun ls hl => ?_)
        refine lv_goto (tgt := 46) hx_ hb_ d_Model_work_86 (by decide) ?_
        exact ih_ _ (by omega) i (k + 1) gs qs g y (zz_u (zz_v Sk 11 (4 * i + k) (lN (g k))) 12 (4 * i + k) (vw_p (y k))) hk89 _ _ _ hi1 h26 hG hLb hlab (by omega) (zz_off_tr ho1 (fun d hd => ⟨zz_u1 _ 12 _ _ d (fun h => hd (by unfold mr_X; omega)), zz_v2 Sk 11 _ _ d (fun h => hd (by unfold mr_X; omega))⟩)) (fun j hj => ⟨by
          show (zz_v Sk 11 (4 * i + k) (lN (g k))).2 15 j = _
          rw [zz_v2 Sk 11 _ _ 15 (by omega)]
          exact (hgy j hj).1, by
          rw [zz_u1 _ 12 _ _ 16 (by omega)]
          exact (hgy j hj).2⟩) (fun j h1 h2 k2 hk2 => ⟨by
          show (zz_v Sk 11 (4 * i + k) (lN (g k))).2 11 (4 * j + k2) = _
          rw [zz_v2s, pk_uLn (by omega)]
          exact (hrows j h1 h2 k2 hk2).1, by
          rw [zz_u1s, pk_un (by omega)]
          exact (hrows j h1 h2 k2 hk2).2⟩) (fun j hj => by
          by_cases e : j = k
          · rw [e]
            refine ⟨?_, ?_⟩
            · show (zz_v Sk 11 (4 * i + k) (lN (g k))).2 11 (4 * i + k) = _
              rw [zz_v2s, pk_uLs]
            · rw [zz_u1s, pk_us]
          · refine ⟨?_, ?_⟩
            · show (zz_v Sk 11 (4 * i + k) (lN (g k))).2 11 (4 * i + j) = _
              rw [zz_v2s, pk_uLn (by omega)]
              exact (hnew j (by omega)).1
            · rw [zz_u1s, pk_un (by omega)]
              exact (hnew j (by omega)).2) hZ (lv_sub hl [1, 2, 0] rfl) rfl
  have L46 : ∀ (i : Nat) (k : Nat) (gs : Nat → Nat → Nat) (qs : Nat → Nat → Nat) (g : Nat → Nat) (y : Nat → Nat) (Sk : zz_S) (hk89 : ∀ (Sk : zz_S) (H : Heap) (locs : List Loc) (ls : Array Slot) (ho1 : zz_off mr_X S Sk) (hrows : mr_ok Sk gs qs (m - sz (m - 1)) i) (hnew : ∀ j, j < 4 → Sk.2 11 (4 * i + j) = lN (g j) ∧ Sk.1 12 (4 * i + j) = vw_p (y j)) (hZ : zz_Z (mg_G q) Sk s_.heap H locs) (hl : lv_has ls 3 [(0, .ref (zz_ad (mg_G q) 0)), (1, .int (nI i))]), W p_ l e_ rm_Model_work s_ m_ ([.ref (zz_ad (mg_G q) 0)] : List Value).toArray bl_ mt_ c_ H locs 0 0 (MQ bl_ (va_Qi (fun ans S1 => (t = 0 ∧ ans = nI 0 ∧ S = S1) ∨ (t ≠ 0 ∧ ans = nI 1 ∧ zz_off mr_X S S1 ∧ ∃ gs qs, (∀ i, (m - sz (m - 1)) ≤ i → i < m → xq_lab rl R op sz gs qs i) ∧ mr_ok S1 gs qs (m - sz (m - 1)) m)) (zz_P (mg_G q)) (zz_A (mg_G q))) ([.ref (zz_ad (mg_G q) 0)] : List Value).toArray s_ 0 0 (zz_A (mg_G q))) (F0 m_ 89 ls [])) (H : Heap) (locs : List Loc) (ls : Array Slot) (hi1 : (m - sz (m - 1)) ≤ i) (h26 : i < m) (hG : ml_M gs i) (hLb : ∀ j, (m - sz (m - 1)) ≤ j → j < i → xq_lab rl R op sz gs qs j) (hlab : mx_Lab rl R (op i) (gs (tr_fa op sz i)) (gs (i - 1)) g y) (hk : k ≤ 4) (ho1 : zz_off mr_X S Sk) (hgy : ∀ k, k < 4 → Sk.2 15 k = lN (g k) ∧ Sk.1 16 k = vw_p (y k)) (hrows : mr_ok Sk gs qs (m - sz (m - 1)) i) (hnew : ∀ j, j < k → Sk.2 11 (4 * i + j) = lN (g j) ∧ Sk.1 12 (4 * i + j) = vw_p (y j)) (hZ : zz_Z (mg_G q) Sk s_.heap H locs) (hl : lv_has ls 3 [(0, .ref (zz_ad (mg_G q) 0)), (1, .int (nI i)), (2, .int (nI k))]), W p_ l e_ rm_Model_work s_ m_ ([.ref (zz_ad (mg_G q) 0)] : List Value).toArray bl_ mt_ c_ H locs 0 0 (MQ bl_ (va_Qi (fun ans S1 => (t = 0 ∧ ans = nI 0 ∧ S = S1) ∨ (t ≠ 0 ∧ ans = nI 1 ∧ zz_off mr_X S S1 ∧ ∃ gs qs, (∀ i, (m - sz (m - 1)) ≤ i → i < m → xq_lab rl R op sz gs qs i) ∧ mr_ok S1 gs qs (m - sz (m - 1)) m)) (zz_P (mg_G q)) (zz_A (mg_G q))) ([.ref (zz_ad (mg_G q) 0)] : List Value).toArray s_ 0 0 (zz_A (mg_G q))) (F0 m_ 46 ls []) := fun i k gs qs g y Sk hk89 H locs ls hi1 h26 hG hLb hlab hk ho1 hgy hrows hnew hZ hl => L46_ _ i k gs qs g y Sk hk89 H locs ls hi1 h26 hG hLb hlab hk ho1 hgy hrows hnew hZ hl rfl
  have L21_ : ∀ (n_ : Nat) (i : Nat) (gs : Nat → Nat → Nat) (qs : Nat → Nat → Nat) (Si : zz_S) (H : Heap) (locs : List Loc) (ls : Array Slot) (ht0 : t ≠ 0) (hi1 : (m - sz (m - 1)) ≤ i) (hi2 : i ≤ m) (ho1 : zz_off mr_X S Si) (hG : ml_M gs i) (hLb : ∀ j, (m - sz (m - 1)) ≤ j → j < i → xq_lab rl R op sz gs qs j) (hrows : mr_ok Si gs qs (m - sz (m - 1)) i) (hZ : zz_Z (mg_G q) Si s_.heap H locs) (hl : lv_has ls 3 [(0, .ref (zz_ad (mg_G q) 0)), (1, .int (nI i))]) (hn_ : m - i = n_), W p_ l e_ rm_Model_work s_ m_ ([.ref (zz_ad (mg_G q) 0)] : List Value).toArray bl_ mt_ c_ H locs 0 0 (MQ bl_ (va_Qi (fun ans S1 => (t = 0 ∧ ans = nI 0 ∧ S = S1) ∨ (t ≠ 0 ∧ ans = nI 1 ∧ zz_off mr_X S S1 ∧ ∃ gs qs, (∀ i, (m - sz (m - 1)) ≤ i → i < m → xq_lab rl R op sz gs qs i) ∧ mr_ok S1 gs qs (m - sz (m - 1)) m)) (zz_P (mg_G q)) (zz_A (mg_G q))) ([.ref (zz_ad (mg_G q) 0)] : List Value).toArray s_ 0 0 (zz_A (mg_G q))) (F0 m_ 21 ls []) := by
    intro n_
    induction n_ using Nat.strongRecOn with
    | ind n_ ih_ =>
      intro i gs qs Si H locs ls ht0 hi1 hi2 ho1 hG hLb hrows hZ hl hn_
      have hBi : mb_ok Si rl R := mb_keep hB (by rw [(ho1 0 (by unfold mr_X; omega)).1]) (fun c h1 h2 => (ho1 c (by unfold mr_X; omega)).1)
      have hTi : mt_ok Si op nu sz ht m t ps := mt_keep hT (by rw [(ho1 0 (by unfold mr_X; omega)).1]) (by rw [(ho1 0 (by unfold mr_X; omega)).1]) (fun c h1 h2 => (ho1 c (by unfold mr_X; omega)).1)
      refine lv_iload_n hx_ hb_ d_Model_work_21 rfl (lv_at hl 1 rfl) ?_
      refine lv_aload_n hx_ hb_ d_Model_work_22 rfl (lv_at hl 0 rfl) ?_
      refine zz_get hC hK hZ 0 6 (Nat.le_of_ble_eq_true rfl) (mc_0 q _ _) rfl hin_Model (by decide) wd_513 rfl rfl d_Model_work_23 ?_
      refine zz_topi (y := nI m) hTi.1 ?_
      refine zz_jge (tgt := 95) hC d_Model_work_26 (by decide) (by omega) (by omega) (fun h26 => ?_) (fun h26 => ?_)
      · refine lv_iconst (v := nI 1) hx_ hb_ d_Model_work_95 (by decide) ?_
        exact zz_zret hC hK hZ rfl d_Model_work_96 (by decide) (Or.inr ⟨by omega, rfl, ho1, gs, qs, by rw [show i = m by omega] at hLb; exact hLb, by rw [show i = m by omega] at hrows; exact hrows⟩)
      · have h2t := h2ts.1 (by omega)
        have hin := tr_in htr (show 0 < m by omega) (show (m - sz (m - 1)) + sz (m - 1) = m by omega) hi1 h26
        have hkl : 0 < zz_kd (op i) → tr_fa op sz i < i ∧ ∀ k, k < 4 → Si.2 11 (4 * tr_fa op sz i + k) = lN (gs (tr_fa op sz i) k) := fun h => ⟨(hin.2 h).2.2.2, fun k hk => (hrows _ (hin.2 h).2.2.1 (hin.2 h).2.2.2 k hk).1⟩
        have hkr : zz_kd (op i) = 2 → ∀ k, k < 4 → Si.2 11 (4 * (i - 1) + k) = lN (gs (i - 1) k) := fun h k hk => (hrows (i - 1) (hin.2 (by omega)).1 (by have := (hin.2 (by omega)).2.1; omega) k hk).1
        refine lv_aload_n hx_ hb_ d_Model_work_29 rfl (lv_at hl 0 rfl) ?_
        refine lv_iload_n hx_ hb_ d_Model_work_30 rfl (lv_at hl 1 rfl) ?_
        refine zz_cv (zz_rV (As := [.int (nI i)]) (rest := []) hC hK hZ 0 (c_Model_takeKids l q Si op nu sz ht m t ps hTi i gs h26 hkl hkr) k_Model_takeKids (Nat.le_of_ble_eq_true rfl) (mc_0 q _ _) rfl wd_693 ⟨rfl, rfl, by decide, by decide⟩ rfl hl.1 rfl (Nat.le_of_ble_eq_true rfl) d_Model_work_31 ⟨Nat.zero_le _, Nat.zero_le _⟩) hZ (fun S31 H locs hp31 hZ => ?_)
        have hB31 : mb_ok S31 rl R := mb_keep hBi (by rw [(hp31.1 0 (by omega)).1]) (fun c h1 h2 => (hp31.1 c (by omega)).1)
        refine lv_aload_n hx_ hb_ d_Model_work_34 rfl (lv_at hl 0 rfl) ?_
        refine lv_aload_n hx_ hb_ d_Model_work_35 rfl (lv_at hl 0 rfl) ?_
        refine zz_get hC hK hZ 0 7 (Nat.le_of_ble_eq_true rfl) (mc_0 q _ _) rfl hin_Model (by decide) wd_514 rfl rfl d_Model_work_36 ?_
        refine lv_iload_n hx_ hb_ d_Model_work_39 rfl (lv_at hl 1 rfl) ?_
        refine zz_iald hC hK hZ 6 0 i (Nat.le_of_ble_eq_true rfl) (mc_6 q _ _) rfl rfl (by omega) (by decide) rfl d_Model_work_40 ?_
        refine zz_topi (y := nI (op i)) (by rw [(hp31.1 6 (by omega)).1]; exact (hTi.2.2.2.2.1 i h26).1) ?_
        refine zz_cv (zz_rV (As := [.int (nI (op i))]) (rest := []) hC hK hZ 0 (c_Model_combine l q S31 rl R hB31 (op i) (gs (tr_fa op sz i)) (gs (i - 1)) (htr i h26).1 hp31.2.1 hp31.2.2 (fun k hk => (hG _ k hk).1) (fun k hk => (hG _ k hk).1)) k_Model_combine (Nat.le_of_ble_eq_true rfl) (mc_0 q _ _) rfl wd_640 ⟨rfl, rfl, by decide, by decide⟩ rfl hl.1 rfl (Nat.le_of_ble_eq_true rfl) d_Model_work_41 ⟨Nat.zero_le _, Nat.zero_le _⟩) hZ (fun S41 H locs hp41 hZ => ?_)
        obtain ⟨ho41, g, y, hlab, hgy⟩ := hp41
        refine lv_iconst (v := nI 0) hx_ hb_ d_Model_work_44 (by decide) ?_
        refine lv_istore_n (i := 2) (lv' := [(2, .int (nI 0)), (0, .ref (zz_ad (mg_G q) 0)), (1, .int (nI i))]) hx_ hb_ d_Model_work_45 rfl hl (by decide) rfl (fun ls hl => ?_)
        refine L46 i 0 gs qs g y S41 ?_ _ _ _ hi1 h26 hG hLb hlab (Nat.zero_le _) (zz_off_tr (zz_off_tr ho1 (zz_off_mono hp31.1 (fun c h => by unfold mr_X; omega))) (zz_off_mono ho41 (fun c h => by unfold mr_X; omega))) hgy (fun j h1 h2 k hk => by
          rw [(ho41 11 (by omega)).2, (hp31.1 11 (by omega)).2, (ho41 12 (by omega)).1, (hp31.1 12 (by omega)).1]
          exact hrows j h1 h2 k hk) (fun j hj => absurd hj (Nat.not_lt_zero j)) hZ (lv_sub hl [1, 2, 0] rfl)
        · intro Sk H locs ls ho1 hrows hnew hZ hl
          refine lv_iinc (k := 1) (v := nI (i + 1)) (lv' := [(1, .int (nI (i + 1))), (0, .ref (zz_ad (mg_G q) 0))]) hx_ hb_ d_Model_work_89 hl rfl (nI_add _ 1) (by decide) rfl (fun ls hl => ?_)
          refine lv_goto (tgt := 21) hx_ hb_ d_Model_work_92 (by decide) ?_
          exact ih_ _ (by omega) (i + 1) (va_up gs i g) (va_up qs i y) Sk  _ _ _ ht0 (by omega) (by omega) ho1 (ml_add (fm := (m - sz (m - 1))) hok htr h26 hG hLb hlab).1 (ml_add hok htr h26 hG hLb hlab).2 (mr_add hrows hnew) hZ (lv_sub hl [1, 0] rfl) rfl
  have L21 : ∀ (i : Nat) (gs : Nat → Nat → Nat) (qs : Nat → Nat → Nat) (Si : zz_S) (H : Heap) (locs : List Loc) (ls : Array Slot) (ht0 : t ≠ 0) (hi1 : (m - sz (m - 1)) ≤ i) (hi2 : i ≤ m) (ho1 : zz_off mr_X S Si) (hG : ml_M gs i) (hLb : ∀ j, (m - sz (m - 1)) ≤ j → j < i → xq_lab rl R op sz gs qs j) (hrows : mr_ok Si gs qs (m - sz (m - 1)) i) (hZ : zz_Z (mg_G q) Si s_.heap H locs) (hl : lv_has ls 3 [(0, .ref (zz_ad (mg_G q) 0)), (1, .int (nI i))]), W p_ l e_ rm_Model_work s_ m_ ([.ref (zz_ad (mg_G q) 0)] : List Value).toArray bl_ mt_ c_ H locs 0 0 (MQ bl_ (va_Qi (fun ans S1 => (t = 0 ∧ ans = nI 0 ∧ S = S1) ∨ (t ≠ 0 ∧ ans = nI 1 ∧ zz_off mr_X S S1 ∧ ∃ gs qs, (∀ i, (m - sz (m - 1)) ≤ i → i < m → xq_lab rl R op sz gs qs i) ∧ mr_ok S1 gs qs (m - sz (m - 1)) m)) (zz_P (mg_G q)) (zz_A (mg_G q))) ([.ref (zz_ad (mg_G q) 0)] : List Value).toArray s_ 0 0 (zz_A (mg_G q))) (F0 m_ 21 ls []) := fun i gs qs Si H locs ls ht0 hi1 hi2 ho1 hG hLb hrows hZ hl => L21_ _ i gs qs Si H locs ls ht0 hi1 hi2 ho1 hG hLb hrows hZ hl rfl
  refine lv_aload_n hx_ hb_ d_Model_work_0 rfl (lv_at hl 0 rfl) ?_
  refine zz_get hC hK hZ 0 11 (Nat.le_of_ble_eq_true rfl) (mc_0 q _ _) rfl hin_Model (by decide) wd_518 rfl rfl d_Model_work_1 ?_
  refine zz_topi (y := nI t) hT.2.1 ?_
  refine zz_ine (tgt := 9) hC d_Model_work_4 (by decide) (by omega) (fun h4 => ?_) (fun h4 => ?_)
  · have h2t := h2ts.1 (by omega)
    refine lv_aload_n hx_ hb_ d_Model_work_9 rfl (lv_at hl 0 rfl) ?_
    refine zz_get hC hK hZ 0 12 (Nat.le_of_ble_eq_true rfl) (mc_0 q _ _) rfl hin_Model (by decide) wd_519 rfl rfl d_Model_work_10 ?_
    refine lv_aload_n hx_ hb_ d_Model_work_13 rfl (lv_at hl 0 rfl) ?_
    refine zz_get hC hK hZ 0 11 (Nat.le_of_ble_eq_true rfl) (mc_0 q _ _) rfl hin_Model (by decide) wd_518 rfl rfl d_Model_work_14 ?_
    refine zz_topi (y := nI t) hT.2.1 ?_
    refine lv_iconst (v := nI 1) hx_ hb_ d_Model_work_17 (by decide) ?_
    refine lv_isub hx_ hb_ d_Model_work_18 ?_
    refine zz_topi (y := nI (t - 1)) (pk_sub (by omega)) ?_
    refine zz_iald hC hK hZ 10 0 (t - 1) (Nat.le_of_ble_eq_true rfl) (mc_10 q _ _) rfl rfl (by omega) (by decide) rfl d_Model_work_19 ?_
    refine zz_topi (y := nI ((m - sz (m - 1)))) (by rw [hps (t - 1) (by omega), show ps (t - 1) = (m - sz (m - 1)) by omega]) ?_
    refine lv_istore_n (i := 1) (lv' := [(1, .int (nI ((m - sz (m - 1))))), (0, .ref (zz_ad (mg_G q) 0))]) hx_ hb_ d_Model_work_20 rfl hl (by decide) rfl (fun ls hl => ?_)
    exact L21 ((m - sz (m - 1))) (fun _ _ => 0) (fun _ _ => 0) S  _ _ _ (by omega) (Nat.le_refl _) (by omega) zz_off_rf (ml_M0 _) (fun j h1 h2 => absurd h2 (by omega)) (fun j h1 h2 => absurd h2 (by omega)) hZ (lv_sub hl [1, 0] rfl)
  · refine lv_iconst (v := nI 0) hx_ hb_ d_Model_work_7 (by decide) ?_
    exact zz_zret hC hK hZ rfl d_Model_work_8 (by decide) (Or.inl ⟨by omega, rfl, rfl⟩)
set_option maxHeartbeats 4000000 in
set_option maxRecDepth 100000 in
theorem c_Model_lowest (l : Launch) (q : xg_T) (S : zz_S) (g : Nat → Nat) (hg : mg_ok S 15 g) (hgb : ∀ k, k < 4 → g k ≤ mx_far) : Met l y_Model_lowest (Cond.code y_Model_lowest b_Model_lowest 4 (some .long) :: zz_tbl) rm_Model_lowest (zz_Pc [.ref (zz_ad (mg_G q) 0)] (mg_G q) S) (va_Ql (fun ans S1 => S = S1 ∧ ans = lN (xl_lo g 4)) (zz_P (mg_G q)) (zz_A (mg_G q))) 0 0 (zz_A (mg_G q)) := by
  refine zz_met (by decide) (Nat.le_of_ble_eq_true rfl) ?_
  intro p_ e_ s_ m_ bl_ mt_ c_ ls hC hK hZ hl
  have hC : zz_C p_ s_ m_ _ mt_ c_ b_Model_lowest 4 (some .long) "TreeCoverForgeModel" := hC
  have hx_ := hC.1
  have hb_ := hC.2.1
  have hl : lv_has ls 4 [(0, .ref (zz_ad (mg_G q) 0))] := hl
  have hfar := vw_far
  have L6_ : ∀ (n_ : Nat) (k : Nat) (v : Int64) (H : Heap) (locs : List Loc) (ls : Array Slot) (hk : k ≤ 4) (hv : v = lN (xl_lo g k)) (hZ : zz_Z (mg_G q) S s_.heap H locs) (hl : lv_has ls 4 [(0, .ref (zz_ad (mg_G q) 0)), (1, .long v), (3, .int (nI k))]) (hn_ : 4 - k = n_), W p_ l e_ rm_Model_lowest s_ m_ ([.ref (zz_ad (mg_G q) 0)] : List Value).toArray bl_ mt_ c_ H locs 0 0 (MQ bl_ (va_Ql (fun ans S1 => S = S1 ∧ ans = lN (xl_lo g 4)) (zz_P (mg_G q)) (zz_A (mg_G q))) ([.ref (zz_ad (mg_G q) 0)] : List Value).toArray s_ 0 0 (zz_A (mg_G q))) (F0 m_ 6 ls []) := by
    intro n_
    induction n_ using Nat.strongRecOn with
    | ind n_ ih_ =>
      intro k v H locs ls hk hv hZ hl hn_
      refine lv_iload_n hx_ hb_ d_Model_lowest_6 rfl (lv_at hl 2 rfl) ?_
      refine lv_iconst (v := nI 4) hx_ hb_ d_Model_lowest_7 (by decide) ?_
      refine zz_jge (tgt := 39) hC d_Model_lowest_8 (by decide) (by omega) (by omega) (fun h8 => ?_) (fun h8 => ?_)
      · refine lv_lload_n hx_ hb_ d_Model_lowest_39 rfl (lv_at hl 1 rfl) ?_
        exact zz_lret hC hK hZ rfl d_Model_lowest_40 ⟨rfl, by rw [hv, show k = 4 by omega]⟩
      · have hlo := xl_lo_le g k
        have hgk := hgb k (by omega)
        refine lv_aload_n hx_ hb_ d_Model_lowest_11 rfl (lv_at hl 0 rfl) ?_
        refine zz_get hC hK hZ 0 17 (Nat.le_of_ble_eq_true rfl) (mc_0 q _ _) rfl hin_Model (by decide) wd_524 rfl rfl d_Model_lowest_12 ?_
        refine lv_iload_n hx_ hb_ d_Model_lowest_15 rfl (lv_at hl 2 rfl) ?_
        refine zz_lald hC hK hZ 15 1 k (Nat.le_of_ble_eq_true rfl) (mc_15 q _ _) rfl rfl (by omega) (by decide) rfl d_Model_lowest_16 ?_
        refine zz_topl (y := lN (g k)) (hg k (by omega)) ?_
        refine lv_lload_n hx_ hb_ d_Model_lowest_17 rfl (lv_at hl 1 rfl) ?_
        refine zz_topl (y := lN (xl_lo g k)) hv ?_
        refine W.lcmp hx_ hb_ d_Model_lowest_18 ?_
        refine lv_if_ge (tgt := 31) hx_ hb_ d_Model_lowest_19 (by decide) (fun h19 => ?_) (fun h19 => ?_)
        · have h19 : (lN (xl_lo g k)) ≤ (lN (g k)) := (lg_cmp_ge _ _).mp h19
          rw [pk_lLE (by omega) (by omega)] at h19
          refine lv_lload_n hx_ hb_ d_Model_lowest_31 rfl (lv_at hl 1 rfl) ?_
          refine zz_topl (y := lN (xl_lo g k)) hv ?_
          refine lv_lstore_n (i := 1) (lv' := [(1, .long (lN (xl_lo g k))), (0, .ref (zz_ad (mg_G q) 0)), (3, .int (nI k))]) hx_ hb_ d_Model_lowest_32 rfl hl (by decide) rfl (fun ls hl => ?_)
          refine lv_iinc (k := 2) (v := nI (k + 1)) (lv' := [(3, .int (nI (k + 1))), (1, .long (lN (xl_lo g k))), (0, .ref (zz_ad (mg_G q) 0))]) hx_ hb_ d_Model_lowest_33 hl rfl (nI_add _ 1) (by decide) rfl (fun ls hl => ?_)
          refine lv_goto (tgt := 6) hx_ hb_ d_Model_lowest_36 (by decide) ?_
          exact ih_ _ (by omega) (k + 1) (lN (xl_lo g k))  _ _ _ (by omega) (by show _ = lN (min (xl_lo g k) (g k)); rw [Nat.min_eq_left (by omega)]) hZ (lv_sub hl [2, 1, 0] rfl) rfl
        · have h19 : ¬ ((lN (xl_lo g k)) ≤ (lN (g k))) := fun x => h19 ((lg_cmp_ge _ _).mpr x)
          rw [pk_lLE (by omega) (by omega)] at h19
          refine lv_aload_n hx_ hb_ d_Model_lowest_22 rfl (lv_at hl 0 rfl) ?_
          refine zz_get hC hK hZ 0 17 (Nat.le_of_ble_eq_true rfl) (mc_0 q _ _) rfl hin_Model (by decide) wd_524 rfl rfl d_Model_lowest_23 ?_
          refine lv_iload_n hx_ hb_ d_Model_lowest_26 rfl (lv_at hl 2 rfl) ?_
          refine zz_lald hC hK hZ 15 1 k (Nat.le_of_ble_eq_true rfl) (mc_15 q _ _) rfl rfl (by omega) (by decide) rfl d_Model_lowest_27 ?_
          refine zz_topl (y := lN (g k)) (hg k (by omega)) ?_
          refine lv_goto (tgt := 32) hx_ hb_ d_Model_lowest_28 (by decide) ?_
          refine lv_lstore_n (i := 1) (lv' := [(1, .long (lN (g k))), (0, .ref (zz_ad (mg_G q) 0)), (3, .int (nI k))]) hx_ hb_ d_Model_lowest_32 rfl hl (by decide) rfl (fun ls hl => ?_)
          refine lv_iinc (k := 2) (v := nI (k + 1)) (lv' := [(3, .int (nI (k + 1))), (1, .long (lN (g k))), (0, .ref (zz_ad (mg_G q) 0))]) hx_ hb_ d_Model_lowest_33 hl rfl (nI_add _ 1) (by decide) rfl (fun ls hl => ?_)
          refine lv_goto (tgt := 6) hx_ hb_ d_Model_lowest_36 (by decide) ?_
          exact ih_ _ (by omega) (k + 1) (lN (g k))  _ _ _ (by omega) (by show _ = lN (min (xl_lo g k) (g k)); rw [Nat.min_eq_right (by omega)]) hZ (lv_sub hl [2, 1, 0] rfl) rfl
  have L6 : ∀ (k : Nat) (v : Int64) (H : Heap) (locs : List Loc) (ls : Array Slot) (hk : k ≤ 4) (hv : v = lN (xl_lo g k)) (hZ : zz_Z (mg_G q) S s_.heap H locs) (hl : lv_has ls 4 [(0, .ref (zz_ad (mg_G q) 0)), (1, .long v), (3, .int (nI k))]), W p_ l e_ rm_Model_lowest s_ m_ ([.ref (zz_ad (mg_G q) 0)] : List Value).toArray bl_ mt_ c_ H locs 0 0 (MQ bl_ (va_Ql (fun ans S1 => S = S1 ∧ ans = lN (xl_lo g 4)) (zz_P (mg_G q)) (zz_A (mg_G q))) ([.ref (zz_ad (mg_G q) 0)] : List Value).toArray s_ 0 0 (zz_A (mg_G q))) (F0 m_ 6 ls []) := fun k v H locs ls hk hv hZ hl => L6_ _ k v H locs ls hk hv hZ hl rfl
  refine lv_ldc2 (v := lN 1125899906842624) hx_ hb_ hC.2.2.2.1 (hC.2.2.2.2.1 _ wd_644) d_Model_lowest_0 ?_
  refine lv_lstore_n (i := 1) (lv' := [(1, .long (lN 1125899906842624)), (0, .ref (zz_ad (mg_G q) 0))]) hx_ hb_ d_Model_lowest_3 rfl hl (by decide) rfl (fun ls hl => ?_)
  refine lv_iconst (v := nI 0) hx_ hb_ d_Model_lowest_4 (by decide) ?_
  refine lv_istore_n (i := 3) (lv' := [(3, .int (nI 0)), (1, .long (lN 1125899906842624)), (0, .ref (zz_ad (mg_G q) 0))]) hx_ hb_ d_Model_lowest_5 rfl hl (by decide) rfl (fun ls hl => ?_)
  exact L6 0 (lN 1125899906842624)  _ _ _ (Nat.zero_le _) rfl hZ (lv_sub hl [2, 1, 0] rfl)
set_option maxHeartbeats 4000000 in
set_option maxRecDepth 100000 in
theorem c_Model_trees (l : Launch) (q : xg_T) (S : zz_S) (op : Nat → Nat) (nu : Nat → Int32) (sz ht : Nat → Nat) (m t : Nat) (ps : Nat → Nat) (hT : mt_ok S op nu sz ht m t ps) : Met l y_Model_trees (Cond.code y_Model_trees b_Model_trees 1 (some .int) :: zz_tbl) rm_Model_trees (zz_Pc [.ref (zz_ad (mg_G q) 0)] (mg_G q) S) (va_Qi (fun ans S1 => S = S1 ∧ ans = nI t) (zz_P (mg_G q)) (zz_A (mg_G q))) 0 0 (zz_A (mg_G q)) := by
  refine zz_met (by decide) (Nat.le_of_ble_eq_true rfl) ?_
  intro p_ e_ s_ m_ bl_ mt_ c_ ls hC hK hZ hl
  have hC : zz_C p_ s_ m_ _ mt_ c_ b_Model_trees 1 (some .int) "TreeCoverForgeModel" := hC
  have hx_ := hC.1
  have hb_ := hC.2.1
  have hl : lv_has ls 1 [(0, .ref (zz_ad (mg_G q) 0))] := hl
  refine lv_aload_n hx_ hb_ d_Model_trees_0 rfl (lv_at hl 0 rfl) ?_
  refine zz_get hC hK hZ 0 11 (Nat.le_of_ble_eq_true rfl) (mc_0 q _ _) rfl hin_Model (by decide) wd_518 rfl rfl d_Model_trees_1 ?_
  refine zz_topi (y := nI t) hT.2.1 ?_
  exact zz_iret hC hK hZ rfl d_Model_trees_4 ⟨rfl, rfl⟩
set_option maxHeartbeats 4000000 in
set_option maxRecDepth 100000 in
theorem c_Model_nodes (l : Launch) (q : xg_T) (S : zz_S) (op : Nat → Nat) (nu : Nat → Int32) (sz ht : Nat → Nat) (m t : Nat) (ps : Nat → Nat) (hT : mt_ok S op nu sz ht m t ps) : Met l y_Model_nodes (Cond.code y_Model_nodes b_Model_nodes 1 (some .int) :: zz_tbl) rm_Model_nodes (zz_Pc [.ref (zz_ad (mg_G q) 0)] (mg_G q) S) (va_Qi (fun ans S1 => S = S1 ∧ ans = nI (md_n sz m t)) (zz_P (mg_G q)) (zz_A (mg_G q))) 0 0 (zz_A (mg_G q)) := by
  refine zz_met (by decide) (Nat.le_of_ble_eq_true rfl) ?_
  intro p_ e_ s_ m_ bl_ mt_ c_ ls hC hK hZ hl
  have hC : zz_C p_ s_ m_ _ mt_ c_ b_Model_nodes 1 (some .int) "TreeCoverForgeModel" := hC
  have hx_ := hC.1
  have hb_ := hC.2.1
  have hl : lv_has ls 1 [(0, .ref (zz_ad (mg_G q) 0))] := hl
  have hm := hT.2.2.1
  have hps := hT.2.2.2.2.2.2.2.2
  have h2ts := ts_two hT.2.2.2.2.2.2.2.1
  have htm := hT.2.2.2.1
  refine lv_aload_n hx_ hb_ d_Model_nodes_0 rfl (lv_at hl 0 rfl) ?_
  refine zz_get hC hK hZ 0 11 (Nat.le_of_ble_eq_true rfl) (mc_0 q _ _) rfl hin_Model (by decide) wd_518 rfl rfl d_Model_nodes_1 ?_
  refine zz_topi (y := nI t) hT.2.1 ?_
  refine zz_ine (tgt := 11) hC d_Model_nodes_4 (by decide) (by omega) (fun h4 => ?_) (fun h4 => ?_)
  · have h2t := h2ts.1 (by omega)
    refine lv_aload_n hx_ hb_ d_Model_nodes_11 rfl (lv_at hl 0 rfl) ?_
    refine zz_get hC hK hZ 0 6 (Nat.le_of_ble_eq_true rfl) (mc_0 q _ _) rfl hin_Model (by decide) wd_513 rfl rfl d_Model_nodes_12 ?_
    refine zz_topi (y := nI m) hT.1 ?_
    refine lv_aload_n hx_ hb_ d_Model_nodes_15 rfl (lv_at hl 0 rfl) ?_
    refine zz_get hC hK hZ 0 12 (Nat.le_of_ble_eq_true rfl) (mc_0 q _ _) rfl hin_Model (by decide) wd_519 rfl rfl d_Model_nodes_16 ?_
    refine lv_aload_n hx_ hb_ d_Model_nodes_19 rfl (lv_at hl 0 rfl) ?_
    refine zz_get hC hK hZ 0 11 (Nat.le_of_ble_eq_true rfl) (mc_0 q _ _) rfl hin_Model (by decide) wd_518 rfl rfl d_Model_nodes_20 ?_
    refine zz_topi (y := nI t) hT.2.1 ?_
    refine lv_iconst (v := nI 1) hx_ hb_ d_Model_nodes_23 (by decide) ?_
    refine lv_isub hx_ hb_ d_Model_nodes_24 ?_
    refine zz_topi (y := nI (t - 1)) (pk_sub (by omega)) ?_
    refine zz_iald hC hK hZ 10 0 (t - 1) (Nat.le_of_ble_eq_true rfl) (mc_10 q _ _) rfl rfl (by omega) (by decide) rfl d_Model_nodes_25 ?_
    refine zz_topi (y := nI (ps (t - 1))) (hps (t - 1) (by omega)) ?_
    refine lv_isub hx_ hb_ d_Model_nodes_26 ?_
    refine zz_topi (y := nI (m - (ps (t - 1)))) (pk_sub (by omega)) ?_
    exact zz_iret hC hK hZ rfl d_Model_nodes_27 ⟨rfl, by rw [md_n, if_neg (by omega), h2t.1]⟩
  · refine lv_iconst (v := nI 0) hx_ hb_ d_Model_nodes_7 (by decide) ?_
    refine lv_goto (tgt := 27) hx_ hb_ d_Model_nodes_8 (by decide) ?_
    exact zz_iret hC hK hZ rfl d_Model_nodes_27 ⟨rfl, by rw [md_n, if_pos (by omega)]⟩
