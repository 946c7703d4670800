/-! Kinds and code of the top tree. Laid by wip/whole/prog/p11.py. -/
set_option maxHeartbeats 4000000 in
set_option maxRecDepth 100000 in
theorem c_Code_followChoices (l : Launch) (q : xg_T) (S : zz_S) (nd : Nat) (hnd : nd < 40) (rl : mx_R) (R : Nat) (sz1 : Nat → Nat) (nb : Nat → Nat → Nat) (hB : xb_ok S rl R sz1 nb) (g y : Nat → Nat) (o : Nat) (lf rt : Nat → Nat) (hxl : xl_ok S nd g y) (hLab : mx_Lab rl R o lf rt g y) (k : Nat) (hk : k < 4) (hkd : S.1 38 nd = nI k) (hf : g k < mx_far) (L : List Nat) (hL : fo_path rl y k L) (hlen : L.length ≤ 4) : Met l y_Code_followChoices (Cond.code y_Code_followChoices b_Code_followChoices 8 (some .int) :: zz_tbl) rm_Code_followChoices (zz_Pc [.ref (zz_ad (xg_G q) 27), .ref (zz_ad (xg_G q) 1), .ref (zz_ad (xg_G q) 18), .int (nI nd)] (xg_G q) S) (va_Qi (fun ans S1 => zz_off (fun c => c = 40) S S1 ∧ ans = nI L.length ∧ ∀ i, i < L.length → S1.1 40 i = nI (L.getD i 0)) (zz_P (xg_G q)) (zz_A (xg_G q))) 0 0 (zz_A (xg_G q)) := by
  refine zz_met (by decide) (Nat.le_of_ble_eq_true rfl) ?_
  intro p_ e_ s_ m_ bl_ mt_ c_ ls hC hK hZ hl
  have hC : zz_C p_ s_ m_ _ mt_ c_ b_Code_followChoices 8 (some .int) "TreeCoverForge$Code" := hC
  have hx_ := hC.1
  have hb_ := hC.2.1
  have hl : lv_has ls 8 [(0, .ref (zz_ad (xg_G q) 27)), (1, .ref (zz_ad (xg_G q) 1)), (2, .ref (zz_ad (xg_G q) 18)), (3, .int (nI nd))] := hl
  have L14_ : ∀ (n_ : Nat) (len : Nat) (k2 : Nat) (ch : Nat) (rest : List Nat) (Si : zz_S) (H : Heap) (locs : List Loc) (ls : Array Slot) (ho : zz_off (fun c => c = 40) S Si) (hpre : len + rest.length = L.length) (hs : ∀ i, i < len → Si.1 40 i = nI (L.getD i 0)) (hdrop : L.drop len = rest) (hch : (ch = 1 ∧ fo_path rl y k2 rest ∧ k2 < 4 ∧ g k2 < mx_far) ∨ (ch = 0 ∧ rest = [])) (hZ : zz_Z (xg_G q) Si s_.heap H locs) (hl : lv_has ls 8 [(0, .ref (zz_ad (xg_G q) 27)), (1, .ref (zz_ad (xg_G q) 1)), (2, .ref (zz_ad (xg_G q) 18)), (3, .int (nI nd)), (4, .int (nI k2)), (5, .int (nI len)), (6, .int (nI ch))]) (hn_ : rest.length = n_), W p_ l e_ rm_Code_followChoices s_ m_ ([.ref (zz_ad (xg_G q) 27), .ref (zz_ad (xg_G q) 1), .ref (zz_ad (xg_G q) 18), .int (nI nd)] : List Value).toArray bl_ mt_ c_ H locs 0 0 (MQ bl_ (va_Qi (fun ans S1 => zz_off (fun c => c = 40) S S1 ∧ ans = nI L.length ∧ ∀ i, i < L.length → S1.1 40 i = nI (L.getD i 0)) (zz_P (xg_G q)) (zz_A (xg_G q))) ([.ref (zz_ad (xg_G q) 27), .ref (zz_ad (xg_G q) 1), .ref (zz_ad (xg_G q) 18), .int (nI nd)] : List Value).toArray s_ 0 0 (zz_A (xg_G q))) (F0 m_ 14 ls []) := by
    intro n_
    induction n_ using Nat.strongRecOn with
    | ind n_ ih_ =>
      intro len k2 ch rest Si H locs ls ho hpre hs hdrop hch hZ hl hn_
      have hch2 : ch < 2 := by rcases hch with h | h <;> omega
      refine lv_iload hx_ hb_ d_Code_followChoices_14 (lv_at hl 6 rfl) ?_
      refine zz_ieq (tgt := 82) hC d_Code_followChoices_16 (by decide) (by omega) (fun h16 => ?_) (fun h16 => ?_)
      · refine lv_iload hx_ hb_ d_Code_followChoices_82 (lv_at hl 5 rfl) ?_
        exact zz_iret hC hK hZ rfl d_Code_followChoices_84 ⟨ho, by
          have h9 : rest = [] := hch.elim (fun h => absurd h.1 (by omega)) (fun h => h.2)
          rw [h9] at hpre
          rw [← hpre]
          rfl, by
          have h9 : rest = [] := hch.elim (fun h => absurd h.1 (by omega)) (fun h => h.2)
          rw [h9] at hpre
          exact fun i hi => hs i (by rw [← hpre] at hi; exact hi)⟩
      · have hc1 : fo_path rl y k2 rest ∧ k2 < 4 ∧ g k2 < mx_far := hch.elim (fun h => h.2) (fun h => absurd h.1 h16)
        clear hch
        obtain ⟨r, rest2, hrs⟩ : ∃ r rest2, rest = r :: rest2 := by
          cases rest with
          | nil => exact absurd hc1.1 id
          | cons r rest2 => exact ⟨r, rest2, rfl⟩
        subst hrs
        have hre : r = y k2 := by
          cases rest2 with
          | nil => exact hc1.1.1
          | cons r2 rest3 => exact hc1.1.1
        have hlab := (hLab.2 k2 hc1.2.1).1 hc1.2.2
        rw [← hre] at hlab
        have hR24 := hB.2.1
        have hlc : len + (rest2.length + 1) = L.length := hpre
        have hgd := (wr_drop hdrop).1
        have hdr := (wr_drop hdrop).2
        have hrr := hB.2.2.2.1 r hlab.1
        refine lv_iload hx_ hb_ d_Code_followChoices_19 (lv_at hl 5 rfl) ?_
        refine lv_iconst (v := nI 4) hx_ hb_ d_Code_followChoices_21 (by decide) ?_
        refine zz_jge (tgt := 82) hC d_Code_followChoices_22 (by decide) (by omega) (by omega) (fun h22 => ?_) (fun h22 => ?_)
        · exact absurd h22 (by omega)
        · refine lv_aload_n hx_ hb_ d_Code_followChoices_25 rfl (lv_at hl 2 rfl) ?_
          refine zz_get hC hK hZ 18 5 (Nat.le_of_ble_eq_true rfl) (xc_18 q _ _) rfl hin_Pile (by decide) wd_123 rfl rfl d_Code_followChoices_26 ?_
          refine lv_iload_n hx_ hb_ d_Code_followChoices_29 rfl (lv_at hl 3 rfl) ?_
          refine zz_aald (q := (42 + 3 * nd)) hC hK hZ 24 2 nd (Nat.le_of_ble_eq_true rfl) (xc_24 q _ _) rfl rfl rfl (by omega) (by decide) rfl d_Code_followChoices_30 ?_
          refine zz_get hC hK hZ (42 + 3 * nd) 1 (by show _ < 291; omega) (xy_lab q nd _ _) rfl hin_Label (by decide) wd_107 rfl rfl d_Code_followChoices_31 ?_
          refine lv_iload hx_ hb_ d_Code_followChoices_34 (lv_at hl 4 rfl) ?_
          refine zz_iald hC hK hZ (42 + 3 * nd + 2) 0 k2 (by show _ < 291; omega) (xy_choi q nd _ _) rfl rfl (by omega) (by decide) rfl d_Code_followChoices_36 ?_
          refine zz_topi (y := nI r) (by rw [(ho (42 + 3 * nd + 2) (by omega)).1, (hxl k2 hc1.2.1).2, ← hre]; exact vw_p_in (by omega)) ?_
          refine lv_istore (i := 7) (lv' := [(7, .int (nI r)), (0, .ref (zz_ad (xg_G q) 27)), (1, .ref (zz_ad (xg_G q) 1)), (2, .ref (zz_ad (xg_G q) 18)), (3, .int (nI nd)), (4, .int (nI k2)), (5, .int (nI len)), (6, .int (nI ch))]) hx_ hb_ d_Code_followChoices_37 hl (by decide) rfl (fun ls hl => ?_)
          refine lv_aload_n hx_ hb_ d_Code_followChoices_39 rfl (lv_at hl 1 rfl) ?_
          refine zz_get hC hK hZ 27 12 (Nat.le_of_ble_eq_true rfl) (xc_27 q _ _) rfl hin_Code (by decide) wd_193 rfl rfl d_Code_followChoices_40 ?_
          refine lv_iload hx_ hb_ d_Code_followChoices_43 (lv_at hl 6 rfl) ?_
          refine lv_iload hx_ hb_ d_Code_followChoices_45 (lv_at hl 0 rfl) ?_
          refine zz_iast hC hK hZ 40 0 len (Nat.le_of_ble_eq_true rfl) (fun _ => xc_40 q _ _) rfl rfl (by omega) (by decide) d_Code_followChoices_47 (fun H locs hZ => ?_)
          refine lv_iinc (k := 6) (v := nI (len + 1)) (lv' := [(5, .int (nI (len + 1))), (7, .int (nI r)), (0, .ref (zz_ad (xg_G q) 27)), (1, .ref (zz_ad (xg_G q) 1)), (2, .ref (zz_ad (xg_G q) 18)), (3, .int (nI nd)), (4, .int (nI k2)), (6, .int (nI ch))]) hx_ hb_ d_Code_followChoices_48 hl rfl (nI_add _ 1) (by decide) rfl (fun ls hl => ?_)
          have hop8 := (hB.2.2.1 r hlab.1).2.1
          refine lv_aload_n hx_ hb_ d_Code_followChoices_51 rfl (lv_at hl 3 rfl) ?_
          refine zz_get hC hK hZ 1 1 (Nat.le_of_ble_eq_true rfl) (xc_1 q _ _) rfl hin_Book (by decide) wd_58 rfl rfl d_Code_followChoices_52 ?_
          refine lv_iload hx_ hb_ d_Code_followChoices_55 (lv_at hl 1 rfl) ?_
          refine zz_iald hC hK hZ 3 0 r (Nat.le_of_ble_eq_true rfl) (xc_3 q _ _) rfl rfl (by omega) (by decide) rfl d_Code_followChoices_57 ?_
          refine zz_topi (y := nI ((rl r).2.1)) (by show Si.1 3 r = _; rw [(ho 3 (by omega)).1]; exact hrr.2.1) ?_
          refine lv_bipush (v := nI 8) hx_ hb_ d_Code_followChoices_58 (by decide) ?_
          refine zz_jne (tgt := 67) hC d_Code_followChoices_60 (by decide) (by omega) (by omega) (fun h60 => ?_) (fun h60 => ?_)
          · refine lv_iconst (v := nI 0) hx_ hb_ d_Code_followChoices_67 (by decide) ?_
            refine lv_istore (i := 6) (lv' := [(6, .int (nI 0)), (5, .int (nI (len + 1))), (7, .int (nI r)), (0, .ref (zz_ad (xg_G q) 27)), (1, .ref (zz_ad (xg_G q) 1)), (2, .ref (zz_ad (xg_G q) 18)), (3, .int (nI nd)), (4, .int (nI k2))]) hx_ hb_ d_Code_followChoices_68 hl (by decide) rfl (fun ls hl => ?_)
            refine lv_aload_n hx_ hb_ d_Code_followChoices_70 rfl (lv_at hl 4 rfl) ?_
            refine zz_get hC hK hZ 1 2 (Nat.le_of_ble_eq_true rfl) (xc_1 q _ _) rfl hin_Book (by decide) wd_61 rfl rfl d_Code_followChoices_71 ?_
            refine lv_iload hx_ hb_ d_Code_followChoices_74 (lv_at hl 2 rfl) ?_
            refine zz_iald hC hK hZ 4 0 r (Nat.le_of_ble_eq_true rfl) (xc_4 q _ _) rfl rfl (by omega) (by decide) rfl d_Code_followChoices_76 ?_
            refine zz_topi (y := nI ((rl r).2.2.1)) (by show Si.1 4 r = _; rw [(ho 4 (by omega)).1]; exact hrr.2.2.1) ?_
            refine lv_istore (i := 4) (lv' := [(4, .int (nI ((rl r).2.2.1))), (6, .int (nI 0)), (5, .int (nI (len + 1))), (7, .int (nI r)), (0, .ref (zz_ad (xg_G q) 27)), (1, .ref (zz_ad (xg_G q) 1)), (2, .ref (zz_ad (xg_G q) 18)), (3, .int (nI nd))]) hx_ hb_ d_Code_followChoices_77 hl (by decide) rfl (fun ls hl => ?_)
            refine lv_goto (tgt := 14) hx_ hb_ d_Code_followChoices_79 (by decide) ?_
            exact ih_ _ (by rw [← hn_]; exact Nat.lt_succ_self _) (len + 1) ((rl r).2.2.1) 0 rest2 (zz_u Si 40 len (nI r))  _ _ _ (zz_off_tr ho (fun d hd => ⟨zz_u1 Si 40 _ _ d hd, rfl⟩)) (by omega) (fun i hi => by
              rw [zz_u1s]
              by_cases e : i = len
              · rw [e, pk_us, hgd]
              · rw [pk_un e]
                exact hs i (by omega)) hdr (Or.inr ⟨rfl, by
              cases rest2 with
              | nil => rfl
              | cons r2 rest3 => exact absurd (fo_cons hc1.1).2.1 h60⟩) hZ (lv_sub hl [4, 5, 6, 7, 0, 2, 1] rfl) rfl
          · refine lv_iconst (v := nI 1) hx_ hb_ d_Code_followChoices_63 (by decide) ?_
            refine lv_goto (tgt := 68) hx_ hb_ d_Code_followChoices_64 (by decide) ?_
            refine lv_istore (i := 6) (lv' := [(6, .int (nI 1)), (5, .int (nI (len + 1))), (7, .int (nI r)), (0, .ref (zz_ad (xg_G q) 27)), (1, .ref (zz_ad (xg_G q) 1)), (2, .ref (zz_ad (xg_G q) 18)), (3, .int (nI nd)), (4, .int (nI k2))]) hx_ hb_ d_Code_followChoices_68 hl (by decide) rfl (fun ls hl => ?_)
            refine lv_aload_n hx_ hb_ d_Code_followChoices_70 rfl (lv_at hl 4 rfl) ?_
            refine zz_get hC hK hZ 1 2 (Nat.le_of_ble_eq_true rfl) (xc_1 q _ _) rfl hin_Book (by decide) wd_61 rfl rfl d_Code_followChoices_71 ?_
            refine lv_iload hx_ hb_ d_Code_followChoices_74 (lv_at hl 2 rfl) ?_
            refine zz_iald hC hK hZ 4 0 r (Nat.le_of_ble_eq_true rfl) (xc_4 q _ _) rfl rfl (by omega) (by decide) rfl d_Code_followChoices_76 ?_
            refine zz_topi (y := nI ((rl r).2.2.1)) (by show Si.1 4 r = _; rw [(ho 4 (by omega)).1]; exact hrr.2.2.1) ?_
            refine lv_istore (i := 4) (lv' := [(4, .int (nI ((rl r).2.2.1))), (6, .int (nI 1)), (5, .int (nI (len + 1))), (7, .int (nI r)), (0, .ref (zz_ad (xg_G q) 27)), (1, .ref (zz_ad (xg_G q) 1)), (2, .ref (zz_ad (xg_G q) 18)), (3, .int (nI nd))]) hx_ hb_ d_Code_followChoices_77 hl (by decide) rfl (fun ls hl => ?_)
            refine lv_goto (tgt := 14) hx_ hb_ d_Code_followChoices_79 (by decide) ?_
            exact ih_ _ (by rw [← hn_]; exact Nat.lt_succ_self _) (len + 1) ((rl r).2.2.1) 1 rest2 (zz_u Si 40 len (nI r))  _ _ _ (zz_off_tr ho (fun d hd => ⟨zz_u1 Si 40 _ _ d hd, rfl⟩)) (by omega) (fun i hi => by
              rw [zz_u1s]
              by_cases e : i = len
              · rw [e, pk_us, hgd]
              · rw [pk_un e]
                exact hs i (by omega)) hdr (Or.inl ⟨rfl, by
              cases rest2 with
              | nil => exact absurd h60 hc1.1.2
              | cons r2 rest3 => exact (fo_cons hc1.1).2.2, (hB.2.2.1 r hlab.1).2.2.1, by
              have h9 := hlab.2.2.1
              rw [mx_th_ch h60] at h9
              omega⟩) hZ (lv_sub hl [4, 5, 6, 7, 0, 2, 1] rfl) rfl
  have L14 : ∀ (len : Nat) (k2 : Nat) (ch : Nat) (rest : List Nat) (Si : zz_S) (H : Heap) (locs : List Loc) (ls : Array Slot) (ho : zz_off (fun c => c = 40) S Si) (hpre : len + rest.length = L.length) (hs : ∀ i, i < len → Si.1 40 i = nI (L.getD i 0)) (hdrop : L.drop len = rest) (hch : (ch = 1 ∧ fo_path rl y k2 rest ∧ k2 < 4 ∧ g k2 < mx_far) ∨ (ch = 0 ∧ rest = [])) (hZ : zz_Z (xg_G q) Si s_.heap H locs) (hl : lv_has ls 8 [(0, .ref (zz_ad (xg_G q) 27)), (1, .ref (zz_ad (xg_G q) 1)), (2, .ref (zz_ad (xg_G q) 18)), (3, .int (nI nd)), (4, .int (nI k2)), (5, .int (nI len)), (6, .int (nI ch))]), W p_ l e_ rm_Code_followChoices s_ m_ ([.ref (zz_ad (xg_G q) 27), .ref (zz_ad (xg_G q) 1), .ref (zz_ad (xg_G q) 18), .int (nI nd)] : List Value).toArray bl_ mt_ c_ H locs 0 0 (MQ bl_ (va_Qi (fun ans S1 => zz_off (fun c => c = 40) S S1 ∧ ans = nI L.length ∧ ∀ i, i < L.length → S1.1 40 i = nI (L.getD i 0)) (zz_P (xg_G q)) (zz_A (xg_G q))) ([.ref (zz_ad (xg_G q) 27), .ref (zz_ad (xg_G q) 1), .ref (zz_ad (xg_G q) 18), .int (nI nd)] : List Value).toArray s_ 0 0 (zz_A (xg_G q))) (F0 m_ 14 ls []) := fun len k2 ch rest Si H locs ls ho hpre hs hdrop hch hZ hl => L14_ _ len k2 ch rest Si H locs ls ho hpre hs hdrop hch hZ hl rfl
  refine lv_aload_n hx_ hb_ d_Code_followChoices_0 rfl (lv_at hl 0 rfl) ?_
  refine zz_get hC hK hZ 27 10 (Nat.le_of_ble_eq_true rfl) (xc_27 q _ _) rfl hin_Code (by decide) wd_191 rfl rfl d_Code_followChoices_1 ?_
  refine lv_iload_n hx_ hb_ d_Code_followChoices_4 rfl (lv_at hl 3 rfl) ?_
  refine zz_iald hC hK hZ 38 0 nd (Nat.le_of_ble_eq_true rfl) (xc_38 q _ _) rfl rfl (by omega) (by decide) rfl d_Code_followChoices_5 ?_
  refine zz_topi (y := nI k) hkd ?_
  refine lv_istore (i := 4) (lv' := [(4, .int (nI k)), (0, .ref (zz_ad (xg_G q) 27)), (1, .ref (zz_ad (xg_G q) 1)), (2, .ref (zz_ad (xg_G q) 18)), (3, .int (nI nd))]) hx_ hb_ d_Code_followChoices_6 hl (by decide) rfl (fun ls hl => ?_)
  refine lv_iconst (v := nI 0) hx_ hb_ d_Code_followChoices_8 (by decide) ?_
  refine lv_istore (i := 5) (lv' := [(5, .int (nI 0)), (4, .int (nI k)), (0, .ref (zz_ad (xg_G q) 27)), (1, .ref (zz_ad (xg_G q) 1)), (2, .ref (zz_ad (xg_G q) 18)), (3, .int (nI nd))]) hx_ hb_ d_Code_followChoices_9 hl (by decide) rfl (fun ls hl => ?_)
  refine lv_iconst (v := nI 1) hx_ hb_ d_Code_followChoices_11 (by decide) ?_
  refine lv_istore (i := 6) (lv' := [(6, .int (nI 1)), (5, .int (nI 0)), (4, .int (nI k)), (0, .ref (zz_ad (xg_G q) 27)), (1, .ref (zz_ad (xg_G q) 1)), (2, .ref (zz_ad (xg_G q) 18)), (3, .int (nI nd))]) hx_ hb_ d_Code_followChoices_12 hl (by decide) rfl (fun ls hl => ?_)
  exact L14 0 k 1 L S  _ _ _ zz_off_rf (by omega) (fun i hi => absurd hi (Nat.not_lt_zero i)) rfl (Or.inl ⟨rfl, hL, hk, hf⟩) hZ (lv_sub hl [3, 4, 5, 6, 2, 1, 0] rfl)
