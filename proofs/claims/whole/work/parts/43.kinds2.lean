/-! Kinds of the top tree. Laid by wip/whole/prog/p12.py. -/
set_option maxHeartbeats 4000000 in
set_option maxRecDepth 100000 in
theorem c_Code_chooseKinds (l : Launch) (q : xg_T) (S : zz_S) (op : Nat → Nat) (nu : Nat → Int32) (sz ht : Nat → Nat) (m t : Nat) (hP : xp_ok S op nu sz ht m t) (rl : mx_R) (R : Nat) (sz1 : Nat → Nat) (nb : Nat → Nat → Nat) (hB : xb_ok S rl R sz1 nb) (gs qs : Nat → Nat → Nat) (hQ : xq_ok S rl R op sz gs qs m) (ht1 : t ≠ 0) (hcov : gs (m - 1) 0 < mx_far) : Met l y_Code_chooseKinds (Cond.code y_Code_chooseKinds b_Code_chooseKinds 6 none :: zz_tbl) rm_Code_chooseKinds (zz_Pc [.ref (zz_ad (xg_G q) 27), .ref (zz_ad (xg_G q) 1), .ref (zz_ad (xg_G q) 18)] (xg_G q) S) (va_Qv (fun S1 => zz_off (fun c => c = 38 ∨ c = 40) S S1 ∧ ∃ Wk, wk_ok rl op sz gs qs Wk (m - sz (m - 1)) m ∧ ∀ i, (m - sz (m - 1)) ≤ i → i < m → S1.1 38 i = nI (Wk i)) (zz_P (xg_G q)) (zz_A (xg_G q))) 0 0 (zz_A (xg_G q)) := by
  refine zz_met (by decide) (Nat.le_of_ble_eq_true rfl) ?_
  intro p_ e_ s_ m_ bl_ mt_ c_ ls hC hK hZ hl
  have hC : zz_C p_ s_ m_ _ mt_ c_ b_Code_chooseKinds 6 none "TreeCoverForge$Code" := hC
  have hx_ := hC.1
  have hb_ := hC.2.1
  have hl : lv_has ls 6 [(0, .ref (zz_ad (xg_G q) 27)), (1, .ref (zz_ad (xg_G q) 1)), (2, .ref (zz_ad (xg_G q) 18))] := hl
  have hP0 := hP
  obtain ⟨hm, ht0, hm40, htm, harr, htr, hts⟩ := hP
  have hok := hB.2.2.1
  have hle := (htr (m - 1) (by omega)).2.2.1
  have hle1 := (htr (m - 1) (by omega)).2.1
  have hfm : (m - sz (m - 1)) + sz (m - 1) = m := by omega
  have L19_ : ∀ (n_ : Nat) (x : Nat) (Si : zz_S) (Wk : Nat → Nat) (Lf : List Nat) (H : Heap) (locs : List Loc) (ls : Array Slot) (hx : (m - sz (m - 1)) ≤ x ∧ x ≤ m) (ho : zz_off (fun c => c = 38 ∨ c = 40) S Si) (hW0 : Wk (m - 1) = 0) (hfr : tr_fr sz (wk_at gs (Si.1 38) Wk) (m - sz (m - 1)) x Lf) (hpr : ∀ i, x ≤ i → i < m → Si.1 38 i = nI (Wk i) ∧ wk_node rl op sz gs qs Wk i) (hZ : zz_Z (xg_G q) Si s_.heap H locs) (hl : lv_has ls 6 [(0, .ref (zz_ad (xg_G q) 27)), (1, .ref (zz_ad (xg_G q) 1)), (2, .ref (zz_ad (xg_G q) 18)), (3, .int (nI x - 1))]) (hn_ : x = n_), W p_ l e_ rm_Code_chooseKinds s_ m_ ([.ref (zz_ad (xg_G q) 27), .ref (zz_ad (xg_G q) 1), .ref (zz_ad (xg_G q) 18)] : List Value).toArray bl_ mt_ c_ H locs 0 0 (MQ bl_ (va_Qv (fun S1 => zz_off (fun c => c = 38 ∨ c = 40) S S1 ∧ ∃ Wk, wk_ok rl op sz gs qs Wk (m - sz (m - 1)) m ∧ ∀ i, (m - sz (m - 1)) ≤ i → i < m → S1.1 38 i = nI (Wk i)) (zz_P (xg_G q)) (zz_A (xg_G q))) ([.ref (zz_ad (xg_G q) 27), .ref (zz_ad (xg_G q) 1), .ref (zz_ad (xg_G q) 18)] : List Value).toArray s_ 0 0 (zz_A (xg_G q))) (F0 m_ 19 ls []) := by
    intro n_
    induction n_ using Nat.strongRecOn with
    | ind n_ ih_ =>
      intro x Si Wk Lf H locs ls hx ho hW0 hfr hpr hZ hl hn_
      have e : ∀ c, c ≠ 38 → c ≠ 40 → Si.1 c = S.1 c ∧ Si.2 c = S.2 c := fun c h1 h2 => ho c (fun h => h.elim h1 h2)
      have hPi : xp_ok Si op nu sz ht m t := by
        unfold xp_ok
        rw [(e 18 (by omega) (by omega)).1, (e 19 (by omega) (by omega)).1, (e 20 (by omega) (by omega)).1, (e 21 (by omega) (by omega)).1, (e 22 (by omega) (by omega)).1]
        exact hP0
      have hBi := xb_keep hB (fun c h1 h2 => (e c (by omega) (by omega)).1)
      refine lv_iload_n hx_ hb_ d_Code_chooseKinds_19 rfl (lv_at hl 3 rfl) ?_
      refine lv_aload_n hx_ hb_ d_Code_chooseKinds_20 rfl (lv_at hl 2 rfl) ?_
      refine zz_ci (zz_rV (As := []) (rest := [.int (nI x - 1)]) hC hK hZ 18 (c_Pile_topStart l q Si op nu sz ht m t hPi) k_Pile_topStart (Nat.le_of_ble_eq_true rfl) (xc_18 q _ _) rfl wd_425 ⟨rfl, rfl, by decide, by decide⟩ rfl hl.1 rfl (Nat.le_of_ble_eq_true rfl) d_Code_chooseKinds_21 ⟨Nat.zero_le _, Nat.zero_le _⟩) hZ (fun r21 S21 H locs hp21 hZ => ?_)
      obtain ⟨rfl, rfl⟩ := hp21
      rw [if_neg ht1]
      refine zz_rjlt (tgt := 111) hC d_Code_chooseKinds_24 (by decide) (fun h24 => ?_) (fun h24 => ?_)
      · rw [zz_m1 (by omega)] at h24
        rw [nI_toInt (by omega)] at h24
        exact zz_vret hC hK hZ rfl d_Code_chooseKinds_111 ⟨ho, Wk, ⟨hW0, fun i h1 h2 => (hpr i (by omega) h2).2⟩, fun i h1 h2 => (hpr i (by omega) h2).1⟩
      · rw [zz_m1 (by omega)] at h24
        rw [nI_toInt (by omega)] at h24
        have hx1 : x - 1 + 1 = x := by omega
        have hai := hPi.2.2.2.2.1 (x - 1) (by omega)
        obtain ⟨t1, t2, t3, t4, t5, t6⟩ := htr (x - 1) (by omega)
        have hkd := tr_kd (op (x - 1))
        have hki := tr_kid htr (show x - 1 < m by omega) (by rw [hx1]; exact hfr) (by omega)
        have hok1 := hki.1
        obtain ⟨q1, q2, q3, q4, q5, q6, q7⟩ := wr_ok hok (hQ (x - 1) (by omega)).2 hok1.2.1 hok1.2.2
        have hrr := hBi.2.2.2.1 _ q4
        have hkq := wk_kids htr (show x - 1 < m by omega)
        have hR24 := hB.2.1
        refine lv_aload_n hx_ hb_ d_Code_chooseKinds_27 rfl (lv_at hl 0 rfl) ?_
        refine zz_get hC hK hZ 27 12 (Nat.le_of_ble_eq_true rfl) (xc_27 q _ _) rfl hin_Code (by decide) wd_193 rfl rfl d_Code_chooseKinds_28 ?_
        refine lv_aload_n hx_ hb_ d_Code_chooseKinds_31 rfl (lv_at hl 0 rfl) ?_
        refine lv_aload_n hx_ hb_ d_Code_chooseKinds_32 rfl (lv_at hl 1 rfl) ?_
        refine lv_aload_n hx_ hb_ d_Code_chooseKinds_33 rfl (lv_at hl 2 rfl) ?_
        refine lv_iload_n hx_ hb_ d_Code_chooseKinds_34 rfl (lv_at hl 3 rfl) ?_
        refine zz_topi (y := nI (x - 1)) (zz_prd (by omega)) ?_
        refine zz_ci (zz_rV (As := [.ref (zz_ad (xg_G q) 1), .ref (zz_ad (xg_G q) 18), .int (nI (x - 1))]) (rest := [.ref (zz_ad (xg_G q) 40)]) hC hK hZ 27 (c_Code_followChoices l q Si (x - 1) (by omega) rl R sz1 nb hBi (gs (x - 1)) (qs (x - 1)) (op (x - 1)) _ _ (fun k hk => by
          rw [(e (42 + 3 * (x - 1) + 1) (by omega) (by omega)).2, (e (42 + 3 * (x - 1) + 2) (by omega) (by omega)).1]
          exact (hQ (x - 1) (by omega)).1 k hk) (hQ (x - 1) (by omega)).2.1 (Wk (x - 1)) hok1.2.1 hok1.1 hok1.2.2 (wr_path rl qs Wk (x - 1)) q1 q2) k_Code_followChoices (Nat.le_of_ble_eq_true rfl) (xc_27 q _ _) rfl wd_426 ⟨rfl, rfl, by decide, by decide⟩ rfl hl.1 rfl (Nat.le_of_ble_eq_true rfl) d_Code_chooseKinds_35 ⟨Nat.zero_le _, Nat.zero_le _⟩) hZ (fun r35 S35 H locs hp35 hZ => ?_)
        obtain ⟨hp35a, rfl, hp35b⟩ := hp35
        have hp35 : zz_off (fun c => c = 40) Si S35 ∧ True ∧ ∀ i, i < (wr_path rl qs Wk (x - 1)).length → S35.1 40 i = nI ((wr_path rl qs Wk (x - 1)).getD i 0) := ⟨hp35a, trivial, hp35b⟩
        have hr5 : S35.1 5 (wr_last rl qs Wk (x - 1)) = nI (rl (wr_last rl qs Wk (x - 1))).2.2.2.1 := by
          rw [(hp35.1 5 (by omega)).1]
          exact hrr.2.2.2.1
        refine lv_iconst (v := nI 1) hx_ hb_ d_Code_chooseKinds_38 (by decide) ?_
        refine lv_isub hx_ hb_ d_Code_chooseKinds_39 ?_
        refine zz_topi (y := nI ((wr_path rl qs Wk (x - 1)).length - 1)) (pk_sub (by omega)) ?_
        refine zz_iald hC hK hZ 40 0 ((wr_path rl qs Wk (x - 1)).length - 1) (Nat.le_of_ble_eq_true rfl) (xc_40 q _ _) rfl rfl (by omega) (by decide) rfl d_Code_chooseKinds_40 ?_
        refine zz_topi (y := nI (wr_last rl qs Wk (x - 1))) (hp35.2.2 _ (by omega)) ?_
        refine lv_istore (i := 4) (lv' := [(4, .int (nI (wr_last rl qs Wk (x - 1)))), (0, .ref (zz_ad (xg_G q) 27)), (1, .ref (zz_ad (xg_G q) 1)), (2, .ref (zz_ad (xg_G q) 18)), (3, .int (nI x - 1))]) hx_ hb_ d_Code_chooseKinds_41 hl (by decide) rfl (fun ls hl => ?_)
        refine lv_aload_n hx_ hb_ d_Code_chooseKinds_43 rfl (lv_at hl 3 rfl) ?_
        refine zz_get hC hK hZ 18 0 (Nat.le_of_ble_eq_true rfl) (xc_18 q _ _) rfl hin_Pile (by decide) wd_116 rfl rfl d_Code_chooseKinds_44 ?_
        refine lv_iload_n hx_ hb_ d_Code_chooseKinds_47 rfl (lv_at hl 4 rfl) ?_
        refine zz_topi (y := nI (x - 1)) (zz_prd (by omega)) ?_
        refine zz_iald hC hK hZ 19 0 (x - 1) (Nat.le_of_ble_eq_true rfl) (xc_19 q _ _) rfl rfl (by omega) (by decide) rfl d_Code_chooseKinds_48 ?_
        refine zz_topi (y := nI (op (x - 1))) (by rw [(hp35.1 19 (by omega)).1]; exact hai.1) ?_
        refine lv_istore (i := 5) (lv' := [(5, .int (nI (op (x - 1)))), (4, .int (nI (wr_last rl qs Wk (x - 1)))), (0, .ref (zz_ad (xg_G q) 27)), (1, .ref (zz_ad (xg_G q) 1)), (2, .ref (zz_ad (xg_G q) 18)), (3, .int (nI x - 1))]) hx_ hb_ d_Code_chooseKinds_49 hl (by decide) rfl (fun ls hl => ?_)
        refine zz_garsN hC hK hZ wd_430 d_Code_chooseKinds_51 ?_
        refine lv_iload hx_ hb_ d_Code_chooseKinds_54 (lv_at hl 0 rfl) ?_
        refine zz_ari hC hK hZ (op (x - 1)) rfl (by omega) d_Code_chooseKinds_56 ?_
        refine lv_iconst (v := nI 1) hx_ hb_ d_Code_chooseKinds_57 (by decide) ?_
        refine zz_jlt (tgt := 80) hC d_Code_chooseKinds_58 (by decide) (by omega) (by omega) (fun h58 => ?_) (fun h58 => ?_)
        · refine zz_garsN hC hK hZ wd_430 d_Code_chooseKinds_80 ?_
          refine lv_iload hx_ hb_ d_Code_chooseKinds_83 (lv_at hl 0 rfl) ?_
          refine zz_ari hC hK hZ (op (x - 1)) rfl (by omega) d_Code_chooseKinds_85 ?_
          refine lv_iconst (v := nI 2) hx_ hb_ d_Code_chooseKinds_86 (by decide) ?_
          refine zz_jne (tgt := 105) hC d_Code_chooseKinds_87 (by decide) (by omega) (by omega) (fun h87 => ?_) (fun h87 => ?_)
          · have hst := wk_step (c' := (S35).1 38) (c := Si.1 38) (W := Wk) (gs := gs) (fm := m - sz (m - 1)) hok htr (show x - 1 < m by omega) (by omega) (hQ (x - 1) (by omega)).2 (by rw [hx1]; exact hfr) (by rw [hx1]; exact hpr) hW0 (fun j => by
              rw [if_neg (fun h => absurd h.1 (by omega)), if_neg (fun h => absurd h.1 (by omega)), (hp35.1 38 (by omega)).1])
            obtain ⟨Lf2, hLf2⟩ := hst.1
            refine lv_iinc (k := 5) (v := nI (x - 1) - 1) (lv' := [(3, .int (nI (x - 1) - 1)), (5, .int (nI (op (x - 1)))), (4, .int (nI (wr_last rl qs Wk (x - 1)))), (0, .ref (zz_ad (xg_G q) 27)), (1, .ref (zz_ad (xg_G q) 1)), (2, .ref (zz_ad (xg_G q) 18))]) hx_ hb_ d_Code_chooseKinds_105 hl rfl (zz_prd1 (by omega)) (by decide) rfl (fun ls hl => ?_)
            refine lv_goto (tgt := 19) hx_ hb_ d_Code_chooseKinds_108 (by decide) ?_
            exact ih_ _ (by omega) (x - 1) S35 (wk_up op sz Wk (x - 1) (rl (wr_last rl qs Wk (x - 1))).2.2.1 (rl (wr_last rl qs Wk (x - 1))).2.2.2.1) Lf2  _ _ _ (by omega) (zz_off_tr ho (zz_off_tr (zz_off_mono hp35.1 (fun c h => Or.inr h)) (zz_off_rf))) hst.2.2 hLf2 (fun i h1 h2 => hst.2.1 i h1 h2) hZ (lv_sub hl [3, 4, 5, 0] rfl) rfl
          · exact absurd h87 (by omega)
        · have hka := hkq.1 (by omega)
          have hkb : zz_kd (op (x - 1)) = 2 → sz (x - 1 - 1) ≤ x - 1 - 1 := fun h => by have := t6 h; omega
          refine lv_aload_n hx_ hb_ d_Code_chooseKinds_61 rfl (lv_at hl 2 rfl) ?_
          refine zz_get hC hK hZ 27 10 (Nat.le_of_ble_eq_true rfl) (xc_27 q _ _) rfl hin_Code (by decide) wd_191 rfl rfl d_Code_chooseKinds_62 ?_
          refine lv_aload_n hx_ hb_ d_Code_chooseKinds_65 rfl (lv_at hl 4 rfl) ?_
          refine lv_iload_n hx_ hb_ d_Code_chooseKinds_66 rfl (lv_at hl 5 rfl) ?_
          refine zz_topi (y := nI (x - 1)) (zz_prd (by omega)) ?_
          refine lv_iload hx_ hb_ d_Code_chooseKinds_67 (lv_at hl 0 rfl) ?_
          refine zz_ci (zz_rV (As := [.int (nI (x - 1)), .int (nI (op (x - 1)))]) (rest := [.ref (zz_ad (xg_G q) 38)]) hC hK hZ 18 (c_Pile_firstKid l q S35 op nu sz ht m t (by
            unfold xp_ok
            rw [(hp35.1 18 (by omega)).1, (hp35.1 19 (by omega)).1, (hp35.1 20 (by omega)).1, (hp35.1 21 (by omega)).1, (hp35.1 22 (by omega)).1]
            exact hPi) (x - 1) (op (x - 1)) (by omega) (by omega) (by omega) hkb) k_Pile_firstKid (Nat.le_of_ble_eq_true rfl) (xc_18 q _ _) rfl wd_431 ⟨rfl, rfl, by decide, by decide⟩ rfl hl.1 rfl (Nat.le_of_ble_eq_true rfl) d_Code_chooseKinds_69 ⟨Nat.zero_le _, Nat.zero_le _⟩) hZ (fun r69 S69 H locs hp69 hZ => ?_)
          obtain ⟨rfl, rfl⟩ := hp69
          refine lv_aload_n hx_ hb_ d_Code_chooseKinds_72 rfl (lv_at hl 3 rfl) ?_
          refine zz_get hC hK hZ 1 2 (Nat.le_of_ble_eq_true rfl) (xc_1 q _ _) rfl hin_Book (by decide) wd_61 rfl rfl d_Code_chooseKinds_73 ?_
          refine lv_iload hx_ hb_ d_Code_chooseKinds_76 (lv_at hl 1 rfl) ?_
          refine zz_iald hC hK hZ 4 0 (wr_last rl qs Wk (x - 1)) (Nat.le_of_ble_eq_true rfl) (xc_4 q _ _) rfl rfl (by omega) (by decide) rfl d_Code_chooseKinds_78 ?_
          refine zz_topi (y := nI ((rl (wr_last rl qs Wk (x - 1))).2.2.1)) (by rw [(hp35.1 4 (by omega)).1]; exact hrr.2.2.1) ?_
          refine zz_iast hC hK hZ 38 0 (tr_fa op sz (x - 1)) (Nat.le_of_ble_eq_true rfl) (fun _ => xc_38 q _ _) rfl rfl (by omega) (by decide) d_Code_chooseKinds_79 (fun H locs hZ => ?_)
          refine zz_garsN hC hK hZ wd_430 d_Code_chooseKinds_80 ?_
          refine lv_iload hx_ hb_ d_Code_chooseKinds_83 (lv_at hl 0 rfl) ?_
          refine zz_ari hC hK hZ (op (x - 1)) rfl (by omega) d_Code_chooseKinds_85 ?_
          refine lv_iconst (v := nI 2) hx_ hb_ d_Code_chooseKinds_86 (by decide) ?_
          refine zz_jne (tgt := 105) hC d_Code_chooseKinds_87 (by decide) (by omega) (by omega) (fun h87 => ?_) (fun h87 => ?_)
          · have hst := wk_step (c' := ((zz_u S35 38 (tr_fa op sz (x - 1)) (nI ((rl (wr_last rl qs Wk (x - 1))).2.2.1)))).1 38) (c := Si.1 38) (W := Wk) (gs := gs) (fm := m - sz (m - 1)) hok htr (show x - 1 < m by omega) (by omega) (hQ (x - 1) (by omega)).2 (by rw [hx1]; exact hfr) (by rw [hx1]; exact hpr) hW0 (fun j => by
              rw [zz_u1s, (hp35.1 38 (by omega)).1]
              by_cases e : j = tr_fa op sz (x - 1)
              · rw [e, pk_us, if_pos ⟨by omega, rfl⟩]
              · rw [pk_un e, if_neg (fun h => e h.2), if_neg (fun h => absurd h.1 (by omega))])
            obtain ⟨Lf2, hLf2⟩ := hst.1
            refine lv_iinc (k := 5) (v := nI (x - 1) - 1) (lv' := [(3, .int (nI (x - 1) - 1)), (5, .int (nI (op (x - 1)))), (4, .int (nI (wr_last rl qs Wk (x - 1)))), (0, .ref (zz_ad (xg_G q) 27)), (1, .ref (zz_ad (xg_G q) 1)), (2, .ref (zz_ad (xg_G q) 18))]) hx_ hb_ d_Code_chooseKinds_105 hl rfl (zz_prd1 (by omega)) (by decide) rfl (fun ls hl => ?_)
            refine lv_goto (tgt := 19) hx_ hb_ d_Code_chooseKinds_108 (by decide) ?_
            exact ih_ _ (by omega) (x - 1) (zz_u S35 38 (tr_fa op sz (x - 1)) (nI ((rl (wr_last rl qs Wk (x - 1))).2.2.1))) (wk_up op sz Wk (x - 1) (rl (wr_last rl qs Wk (x - 1))).2.2.1 (rl (wr_last rl qs Wk (x - 1))).2.2.2.1) Lf2  _ _ _ (by omega) (zz_off_tr ho (zz_off_tr (zz_off_mono hp35.1 (fun c h => Or.inr h)) (fun d hd => ⟨zz_u1 _ 38 _ _ d (fun h => hd (Or.inl h)), rfl⟩))) hst.2.2 hLf2 (fun i h1 h2 => hst.2.1 i h1 h2) hZ (lv_sub hl [3, 4, 5, 0] rfl) rfl
          · have hkk := (hkq.2 h87).1
            refine lv_aload_n hx_ hb_ d_Code_chooseKinds_90 rfl (lv_at hl 2 rfl) ?_
            refine zz_get hC hK hZ 27 10 (Nat.le_of_ble_eq_true rfl) (xc_27 q _ _) rfl hin_Code (by decide) wd_191 rfl rfl d_Code_chooseKinds_91 ?_
            refine lv_iload_n hx_ hb_ d_Code_chooseKinds_94 rfl (lv_at hl 5 rfl) ?_
            refine zz_topi (y := nI (x - 1)) (zz_prd (by omega)) ?_
            refine lv_iconst (v := nI 1) hx_ hb_ d_Code_chooseKinds_95 (by decide) ?_
            refine lv_isub hx_ hb_ d_Code_chooseKinds_96 ?_
            refine zz_topi (y := nI (x - 1 - 1)) (pk_sub (by omega)) ?_
            refine lv_aload_n hx_ hb_ d_Code_chooseKinds_97 rfl (lv_at hl 3 rfl) ?_
            refine zz_get hC hK hZ 1 3 (Nat.le_of_ble_eq_true rfl) (xc_1 q _ _) rfl hin_Book (by decide) wd_64 rfl rfl d_Code_chooseKinds_98 ?_
            refine lv_iload hx_ hb_ d_Code_chooseKinds_101 (lv_at hl 1 rfl) ?_
            refine zz_iald hC hK hZ 5 0 (wr_last rl qs Wk (x - 1)) (Nat.le_of_ble_eq_true rfl) (xc_5 q _ _) rfl rfl (by omega) (by decide) rfl d_Code_chooseKinds_103 ?_
            refine zz_topi (y := nI ((rl (wr_last rl qs Wk (x - 1))).2.2.2.1)) (hr5) ?_
            refine zz_iast hC hK hZ 38 0 (x - 1 - 1) (Nat.le_of_ble_eq_true rfl) (fun _ => xc_38 q _ _) rfl rfl (by omega) (by decide) d_Code_chooseKinds_104 (fun H locs hZ => ?_)
            have hst := wk_step (c' := ((zz_u (zz_u S35 38 (tr_fa op sz (x - 1)) (nI ((rl (wr_last rl qs Wk (x - 1))).2.2.1))) 38 (x - 1 - 1) (nI ((rl (wr_last rl qs Wk (x - 1))).2.2.2.1)))).1 38) (c := Si.1 38) (W := Wk) (gs := gs) (fm := m - sz (m - 1)) hok htr (show x - 1 < m by omega) (by omega) (hQ (x - 1) (by omega)).2 (by rw [hx1]; exact hfr) (by rw [hx1]; exact hpr) hW0 (fun j => by
              rw [zz_u1s, zz_u1s, (hp35.1 38 (by omega)).1]
              by_cases e : j = tr_fa op sz (x - 1)
              · rw [e, pk_un hkk, pk_us, if_pos ⟨by omega, rfl⟩]
              · by_cases e2 : j = x - 1 - 1
                · rw [e2, pk_us, if_neg (fun h => hkk h.2.symm), if_pos ⟨by omega, rfl⟩]
                · rw [pk_un e2, pk_un e, if_neg (fun h => e h.2), if_neg (fun h => e2 h.2)])
            obtain ⟨Lf2, hLf2⟩ := hst.1
            refine lv_iinc (k := 5) (v := nI (x - 1) - 1) (lv' := [(3, .int (nI (x - 1) - 1)), (5, .int (nI (op (x - 1)))), (4, .int (nI (wr_last rl qs Wk (x - 1)))), (0, .ref (zz_ad (xg_G q) 27)), (1, .ref (zz_ad (xg_G q) 1)), (2, .ref (zz_ad (xg_G q) 18))]) hx_ hb_ d_Code_chooseKinds_105 hl rfl (zz_prd1 (by omega)) (by decide) rfl (fun ls hl => ?_)
            refine lv_goto (tgt := 19) hx_ hb_ d_Code_chooseKinds_108 (by decide) ?_
            exact ih_ _ (by omega) (x - 1) (zz_u (zz_u S35 38 (tr_fa op sz (x - 1)) (nI ((rl (wr_last rl qs Wk (x - 1))).2.2.1))) 38 (x - 1 - 1) (nI ((rl (wr_last rl qs Wk (x - 1))).2.2.2.1))) (wk_up op sz Wk (x - 1) (rl (wr_last rl qs Wk (x - 1))).2.2.1 (rl (wr_last rl qs Wk (x - 1))).2.2.2.1) Lf2  _ _ _ (by omega) (zz_off_tr ho (zz_off_tr (zz_off_mono hp35.1 (fun c h => Or.inr h)) (fun d hd => ⟨by rw [zz_u1 _ 38 _ _ d (fun h => hd (Or.inl h)), zz_u1 _ 38 _ _ d (fun h => hd (Or.inl h))], rfl⟩))) hst.2.2 hLf2 (fun i h1 h2 => hst.2.1 i h1 h2) hZ (lv_sub hl [3, 4, 5, 0] rfl) rfl
  have L19 : ∀ (x : Nat) (Si : zz_S) (Wk : Nat → Nat) (Lf : List Nat) (H : Heap) (locs : List Loc) (ls : Array Slot) (hx : (m - sz (m - 1)) ≤ x ∧ x ≤ m) (ho : zz_off (fun c => c = 38 ∨ c = 40) S Si) (hW0 : Wk (m - 1) = 0) (hfr : tr_fr sz (wk_at gs (Si.1 38) Wk) (m - sz (m - 1)) x Lf) (hpr : ∀ i, x ≤ i → i < m → Si.1 38 i = nI (Wk i) ∧ wk_node rl op sz gs qs Wk i) (hZ : zz_Z (xg_G q) Si s_.heap H locs) (hl : lv_has ls 6 [(0, .ref (zz_ad (xg_G q) 27)), (1, .ref (zz_ad (xg_G q) 1)), (2, .ref (zz_ad (xg_G q) 18)), (3, .int (nI x - 1))]), W p_ l e_ rm_Code_chooseKinds s_ m_ ([.ref (zz_ad (xg_G q) 27), .ref (zz_ad (xg_G q) 1), .ref (zz_ad (xg_G q) 18)] : List Value).toArray bl_ mt_ c_ H locs 0 0 (MQ bl_ (va_Qv (fun S1 => zz_off (fun c => c = 38 ∨ c = 40) S S1 ∧ ∃ Wk, wk_ok rl op sz gs qs Wk (m - sz (m - 1)) m ∧ ∀ i, (m - sz (m - 1)) ≤ i → i < m → S1.1 38 i = nI (Wk i)) (zz_P (xg_G q)) (zz_A (xg_G q))) ([.ref (zz_ad (xg_G q) 27), .ref (zz_ad (xg_G q) 1), .ref (zz_ad (xg_G q) 18)] : List Value).toArray s_ 0 0 (zz_A (xg_G q))) (F0 m_ 19 ls []) := fun x Si Wk Lf H locs ls hx ho hW0 hfr hpr hZ hl => L19_ _ x Si Wk Lf H locs ls hx ho hW0 hfr hpr hZ hl rfl
  refine lv_aload_n hx_ hb_ d_Code_chooseKinds_0 rfl (lv_at hl 0 rfl) ?_
  refine zz_get hC hK hZ 27 10 (Nat.le_of_ble_eq_true rfl) (xc_27 q _ _) rfl hin_Code (by decide) wd_191 rfl rfl d_Code_chooseKinds_1 ?_
  refine lv_aload_n hx_ hb_ d_Code_chooseKinds_4 rfl (lv_at hl 2 rfl) ?_
  refine zz_get hC hK hZ 18 7 (Nat.le_of_ble_eq_true rfl) (xc_18 q _ _) rfl hin_Pile (by decide) wd_126 rfl rfl d_Code_chooseKinds_5 ?_
  refine zz_topi (y := nI m) hm ?_
  refine lv_iconst (v := nI 1) hx_ hb_ d_Code_chooseKinds_8 (by decide) ?_
  refine lv_isub hx_ hb_ d_Code_chooseKinds_9 ?_
  refine zz_topi (y := nI (m - 1)) (pk_sub (by omega)) ?_
  refine lv_iconst (v := nI 0) hx_ hb_ d_Code_chooseKinds_10 (by decide) ?_
  refine zz_iast hC hK hZ 38 0 (m - 1) (Nat.le_of_ble_eq_true rfl) (fun _ => xc_38 q _ _) rfl rfl (by omega) (by decide) d_Code_chooseKinds_11 (fun H locs hZ => ?_)
  refine lv_aload_n hx_ hb_ d_Code_chooseKinds_12 rfl (lv_at hl 2 rfl) ?_
  refine zz_get hC hK hZ 18 7 (Nat.le_of_ble_eq_true rfl) (xc_18 q _ _) rfl hin_Pile (by decide) wd_126 rfl rfl d_Code_chooseKinds_13 ?_
  refine zz_topi (y := nI m) hm ?_
  refine lv_iconst (v := nI 1) hx_ hb_ d_Code_chooseKinds_16 (by decide) ?_
  refine lv_isub hx_ hb_ d_Code_chooseKinds_17 ?_
  refine zz_topi (y := nI m - 1) rfl ?_
  refine lv_istore_n (i := 3) (lv' := [(3, .int (nI m - 1)), (0, .ref (zz_ad (xg_G q) 27)), (1, .ref (zz_ad (xg_G q) 1)), (2, .ref (zz_ad (xg_G q) 18))]) hx_ hb_ d_Code_chooseKinds_18 rfl hl (by decide) rfl (fun ls hl => ?_)
  exact L19 m (zz_u S 38 (m - 1) (nI 0)) (fun _ => 0) ([m - 1])  _ _ _ (by omega) (fun d hd => ⟨zz_u1 S 38 _ _ d (fun h => hd (Or.inl h)), rfl⟩) rfl (show tr_fr sz (wk_at gs _ (fun _ => 0)) (m - sz (m - 1)) m [m - 1] from ⟨by omega, by omega, ⟨by rw [zz_u1s]; exact pk_us, by show 0 < 4; omega, hcov⟩, by show m - sz (m - 1) = (m - sz (m - 1)); omega⟩) (fun i h1 h2 => absurd h2 (by omega)) hZ (lv_sub hl [1, 2, 3, 0] rfl)
