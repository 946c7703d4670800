/-! Registers and slots. Laid by wip/whole/prog/p9.py. -/
set_option maxHeartbeats 4000000 in
set_option maxRecDepth 100000 in
theorem c_Code_releaseUntil (l : Launch) (q : xg_T) (S : zz_S) (i : Nat) (reg : Nat) (hd : Nat → Nat) (hreg : reg ≤ 4) (hh : ∀ r, r < reg → S.1 37 r = vw_h (hd r)) (un : Nat → Nat) (n : Nat) (hn : n ≤ 160) (hun : ∀ j, j < n → S.1 34 j = nI (un j) ∧ un j < 160) (hhd : ∀ r, r < reg → hd r < 1000 → hd r < n) (hi : i ≤ 160) : Met l y_Code_releaseUntil (Cond.code y_Code_releaseUntil b_Code_releaseUntil 4 none :: zz_tbl) rm_Code_releaseUntil (zz_Pc [.ref (zz_ad (xg_G q) 27), .int (nI i), .int (nI reg)] (xg_G q) S) (va_Qv (fun S1 => zz_off (fun c => c = 37) S S1 ∧ ∀ r, r < reg → S1.1 37 r = vw_h (ph_rel un hd i r)) (zz_P (xg_G q)) (zz_A (xg_G q))) 0 0 (zz_A (xg_G q)) := by
  refine zz_met (by decide) (Nat.le_of_ble_eq_true rfl) ?_
  intro p_ e_ s_ m_ bl_ mt_ c_ ls hC hK hZ hl
  have hC : zz_C p_ s_ m_ _ mt_ c_ b_Code_releaseUntil 4 none "TreeCoverForge$Code" := hC
  have hx_ := hC.1
  have hb_ := hC.2.1
  have hl : lv_has ls 4 [(0, .ref (zz_ad (xg_G q) 27)), (1, .int (nI i)), (2, .int (nI reg))] := hl
  have L2_ : ∀ (n_ : Nat) (r : Nat) (Si : zz_S) (H : Heap) (locs : List Loc) (ls : Array Slot) (hr : r ≤ reg) (ho : zz_off (fun c => c = 37) S Si) (hx : ∀ s, s < reg → Si.1 37 s = vw_h (if s < r then ph_rel un hd i s else hd s)) (hZ : zz_Z (xg_G q) Si s_.heap H locs) (hl : lv_has ls 4 [(0, .ref (zz_ad (xg_G q) 27)), (1, .int (nI i)), (2, .int (nI reg)), (3, .int (nI r))]) (hn_ : reg - r = n_), W p_ l e_ rm_Code_releaseUntil s_ m_ ([.ref (zz_ad (xg_G q) 27), .int (nI i), .int (nI reg)] : List Value).toArray bl_ mt_ c_ H locs 0 0 (MQ bl_ (va_Qv (fun S1 => zz_off (fun c => c = 37) S S1 ∧ ∀ r, r < reg → S1.1 37 r = vw_h (ph_rel un hd i r)) (zz_P (xg_G q)) (zz_A (xg_G q))) ([.ref (zz_ad (xg_G q) 27), .int (nI i), .int (nI reg)] : List Value).toArray s_ 0 0 (zz_A (xg_G q))) (F0 m_ 2 ls []) := by
    intro n_
    induction n_ using Nat.strongRecOn with
    | ind n_ ih_ =>
      intro r Si H locs ls hr ho hx hZ hl hn_
      refine lv_iload_n hx_ hb_ d_Code_releaseUntil_2 rfl (lv_at hl 3 rfl) ?_
      refine lv_iload_n hx_ hb_ d_Code_releaseUntil_3 rfl (lv_at hl 2 rfl) ?_
      refine zz_jge (tgt := 45) hC d_Code_releaseUntil_4 (by decide) (by omega) (by omega) (fun h4 => ?_) (fun h4 => ?_)
      · exact zz_vret hC hK hZ rfl d_Code_releaseUntil_45 ⟨ho, fun r hr => by rw [hx r hr, if_pos (by omega)]⟩
      · have hxr : Si.1 37 r = vw_h (hd r) := by rw [hx r (by omega), if_neg (Nat.lt_irrefl r)]
        refine lv_aload_n hx_ hb_ d_Code_releaseUntil_7 rfl (lv_at hl 0 rfl) ?_
        refine zz_get hC hK hZ 27 9 (Nat.le_of_ble_eq_true rfl) (xc_27 q _ _) rfl hin_Code (by decide) wd_190 rfl rfl d_Code_releaseUntil_8 ?_
        refine lv_iload_n hx_ hb_ d_Code_releaseUntil_11 rfl (lv_at hl 3 rfl) ?_
        refine zz_iald hC hK hZ 37 0 r (Nat.le_of_ble_eq_true rfl) (xc_37 q _ _) rfl rfl (by omega) (by decide) rfl d_Code_releaseUntil_12 ?_
        refine zz_topi (y := vw_h (hd r)) hxr ?_
        refine lv_iconst (v := (-1)) hx_ hb_ d_Code_releaseUntil_13 (by decide) ?_
        refine zz_rjeq (tgt := 39) hC d_Code_releaseUntil_14 (by decide) (fun h14 => ?_) (fun h14 => ?_)
        · refine lv_iinc (k := 3) (v := nI (r + 1)) (lv' := [(3, .int (nI (r + 1))), (0, .ref (zz_ad (xg_G q) 27)), (1, .int (nI i)), (2, .int (nI reg))]) hx_ hb_ d_Code_releaseUntil_39 hl rfl (nI_add _ 1) (by decide) rfl (fun ls hl => ?_)
          refine lv_goto (tgt := 2) hx_ hb_ d_Code_releaseUntil_42 (by decide) ?_
          exact ih_ _ (by omega) (r + 1) Si  _ _ _ (by omega) ho (fun s hs => by
            rw [hx s hs]
            by_cases e2 : s < r
            · rw [if_pos e2, if_pos (by omega)]
            · rw [if_neg e2]
              by_cases e : s = r
              · rw [e, if_pos (Nat.lt_succ_self r), ph_rel, if_neg (fun c => by first | exact vw_h_eq h14 c.1 | (have := c.2; omega))]
              · rw [if_neg (by omega)]) hZ (lv_sub hl [1, 2, 3, 0] rfl) rfl
        · have hh1 := vw_h_ne h14
          have hh2 := hhd r (by omega) hh1
          have hu1 := hun _ hh2
          refine lv_aload_n hx_ hb_ d_Code_releaseUntil_17 rfl (lv_at hl 0 rfl) ?_
          refine zz_get hC hK hZ 27 6 (Nat.le_of_ble_eq_true rfl) (xc_27 q _ _) rfl hin_Code (by decide) wd_187 rfl rfl d_Code_releaseUntil_18 ?_
          refine lv_aload_n hx_ hb_ d_Code_releaseUntil_21 rfl (lv_at hl 0 rfl) ?_
          refine zz_get hC hK hZ 27 9 (Nat.le_of_ble_eq_true rfl) (xc_27 q _ _) rfl hin_Code (by decide) wd_190 rfl rfl d_Code_releaseUntil_22 ?_
          refine lv_iload_n hx_ hb_ d_Code_releaseUntil_25 rfl (lv_at hl 3 rfl) ?_
          refine zz_iald hC hK hZ 37 0 r (Nat.le_of_ble_eq_true rfl) (xc_37 q _ _) rfl rfl (by omega) (by decide) rfl d_Code_releaseUntil_26 ?_
          refine zz_topi (y := nI (hd r)) (hxr.trans (vw_h_in hh1)) ?_
          refine zz_iald hC hK hZ 34 0 (hd r) (Nat.le_of_ble_eq_true rfl) (xc_34 q _ _) rfl rfl (by omega) (by decide) rfl d_Code_releaseUntil_27 ?_
          refine zz_topi (y := nI (un (hd r))) (by rw [(ho 34 (by omega)).1]; exact hu1.1) ?_
          refine lv_iload_n hx_ hb_ d_Code_releaseUntil_28 rfl (lv_at hl 1 rfl) ?_
          refine zz_jgt (tgt := 39) hC d_Code_releaseUntil_29 (by decide) (by omega) (by omega) (fun h29 => ?_) (fun h29 => ?_)
          · refine lv_iinc (k := 3) (v := nI (r + 1)) (lv' := [(3, .int (nI (r + 1))), (0, .ref (zz_ad (xg_G q) 27)), (1, .int (nI i)), (2, .int (nI reg))]) hx_ hb_ d_Code_releaseUntil_39 hl rfl (nI_add _ 1) (by decide) rfl (fun ls hl => ?_)
            refine lv_goto (tgt := 2) hx_ hb_ d_Code_releaseUntil_42 (by decide) ?_
            exact ih_ _ (by omega) (r + 1) Si  _ _ _ (by omega) ho (fun s hs => by
              rw [hx s hs]
              by_cases e2 : s < r
              · rw [if_pos e2, if_pos (by omega)]
              · rw [if_neg e2]
                by_cases e : s = r
                · rw [e, if_pos (Nat.lt_succ_self r), ph_rel, if_neg (fun c => by first | exact vw_h_eq h14 c.1 | (have := c.2; omega))]
                · rw [if_neg (by omega)]) hZ (lv_sub hl [1, 2, 3, 0] rfl) rfl
          · refine lv_aload_n hx_ hb_ d_Code_releaseUntil_32 rfl (lv_at hl 0 rfl) ?_
            refine zz_get hC hK hZ 27 9 (Nat.le_of_ble_eq_true rfl) (xc_27 q _ _) rfl hin_Code (by decide) wd_190 rfl rfl d_Code_releaseUntil_33 ?_
            refine lv_iload_n hx_ hb_ d_Code_releaseUntil_36 rfl (lv_at hl 3 rfl) ?_
            refine lv_iconst (v := (-1)) hx_ hb_ d_Code_releaseUntil_37 (by decide) ?_
            refine zz_iast hC hK hZ 37 0 r (Nat.le_of_ble_eq_true rfl) (fun _ => xc_37 q _ _) rfl rfl (by omega) (by decide) d_Code_releaseUntil_38 (fun H locs hZ => ?_)
            refine lv_iinc (k := 3) (v := nI (r + 1)) (lv' := [(3, .int (nI (r + 1))), (0, .ref (zz_ad (xg_G q) 27)), (1, .int (nI i)), (2, .int (nI reg))]) hx_ hb_ d_Code_releaseUntil_39 hl rfl (nI_add _ 1) (by decide) rfl (fun ls hl => ?_)
            refine lv_goto (tgt := 2) hx_ hb_ d_Code_releaseUntil_42 (by decide) ?_
            exact ih_ _ (by omega) (r + 1) (zz_u Si 37 r ((-1)))  _ _ _ (by omega) (zz_off_tr ho (fun d hd => ⟨zz_u1 Si 37 _ _ d hd, rfl⟩)) (fun s hs => by
              rw [zz_u1s]
              by_cases e : s = r
              · rw [e, pk_us, if_pos (Nat.lt_succ_self r), ph_rel, if_pos ⟨vw_h_ne h14, h29⟩]
                rfl
              · rw [pk_un e, hx s hs]
                by_cases e2 : s < r
                · rw [if_pos e2, if_pos (by omega)]
                · rw [if_neg e2, if_neg (by omega)]) hZ (lv_sub hl [1, 2, 3, 0] rfl) rfl
  have L2 : ∀ (r : Nat) (Si : zz_S) (H : Heap) (locs : List Loc) (ls : Array Slot) (hr : r ≤ reg) (ho : zz_off (fun c => c = 37) S Si) (hx : ∀ s, s < reg → Si.1 37 s = vw_h (if s < r then ph_rel un hd i s else hd s)) (hZ : zz_Z (xg_G q) Si s_.heap H locs) (hl : lv_has ls 4 [(0, .ref (zz_ad (xg_G q) 27)), (1, .int (nI i)), (2, .int (nI reg)), (3, .int (nI r))]), W p_ l e_ rm_Code_releaseUntil s_ m_ ([.ref (zz_ad (xg_G q) 27), .int (nI i), .int (nI reg)] : List Value).toArray bl_ mt_ c_ H locs 0 0 (MQ bl_ (va_Qv (fun S1 => zz_off (fun c => c = 37) S S1 ∧ ∀ r, r < reg → S1.1 37 r = vw_h (ph_rel un hd i r)) (zz_P (xg_G q)) (zz_A (xg_G q))) ([.ref (zz_ad (xg_G q) 27), .int (nI i), .int (nI reg)] : List Value).toArray s_ 0 0 (zz_A (xg_G q))) (F0 m_ 2 ls []) := fun r Si H locs ls hr ho hx hZ hl => L2_ _ r Si H locs ls hr ho hx hZ hl rfl
  refine lv_iconst (v := nI 0) hx_ hb_ d_Code_releaseUntil_0 (by decide) ?_
  refine lv_istore_n (i := 3) (lv' := [(3, .int (nI 0)), (0, .ref (zz_ad (xg_G q) 27)), (1, .int (nI i)), (2, .int (nI reg))]) hx_ hb_ d_Code_releaseUntil_1 rfl hl (by decide) rfl (fun ls hl => ?_)
  exact L2 0 S  _ _ _ (Nat.zero_le _) zz_off_rf (fun s hs => by rw [if_neg (Nat.not_lt_zero s)]; exact hh s hs) hZ (lv_sub hl [1, 2, 3, 0] rfl)
set_option maxHeartbeats 4000000 in
set_option maxRecDepth 100000 in
theorem c_Code_leastFree (l : Launch) (q : xg_T) (S : zz_S) (reg : Nat) (hd : Nat → Nat) (hreg : reg ≤ 4) (hh : ∀ r, r < reg → S.1 37 r = vw_h (hd r)) : Met l y_Code_leastFree (Cond.code y_Code_leastFree b_Code_leastFree 3 (some .int) :: zz_tbl) rm_Code_leastFree (zz_Pc [.ref (zz_ad (xg_G q) 27), .int (nI reg)] (xg_G q) S) (va_Qi (fun ans S1 => S = S1 ∧ ((∃ r, r < reg ∧ ans = nI r ∧ ¬ hd r < 1000 ∧ ∀ s, s < r → hd s < 1000) ∨ (ans = -1 ∧ ∀ r, r < reg → hd r < 1000))) (zz_P (xg_G q)) (zz_A (xg_G q))) 0 0 (zz_A (xg_G q)) := by
  refine zz_met (by decide) (Nat.le_of_ble_eq_true rfl) ?_
  intro p_ e_ s_ m_ bl_ mt_ c_ ls hC hK hZ hl
  have hC : zz_C p_ s_ m_ _ mt_ c_ b_Code_leastFree 3 (some .int) "TreeCoverForge$Code" := hC
  have hx_ := hC.1
  have hb_ := hC.2.1
  have hl : lv_has ls 3 [(0, .ref (zz_ad (xg_G q) 27)), (1, .int (nI reg))] := hl
  have L2_ : ∀ (n_ : Nat) (r : Nat) (H : Heap) (locs : List Loc) (ls : Array Slot) (hr : r ≤ reg) (hx : ∀ s, s < r → hd s < 1000) (hZ : zz_Z (xg_G q) S s_.heap H locs) (hl : lv_has ls 3 [(0, .ref (zz_ad (xg_G q) 27)), (1, .int (nI reg)), (2, .int (nI r))]) (hn_ : reg - r = n_), W p_ l e_ rm_Code_leastFree s_ m_ ([.ref (zz_ad (xg_G q) 27), .int (nI reg)] : List Value).toArray bl_ mt_ c_ H locs 0 0 (MQ bl_ (va_Qi (fun ans S1 => S = S1 ∧ ((∃ r, r < reg ∧ ans = nI r ∧ ¬ hd r < 1000 ∧ ∀ s, s < r → hd s < 1000) ∨ (ans = -1 ∧ ∀ r, r < reg → hd r < 1000))) (zz_P (xg_G q)) (zz_A (xg_G q))) ([.ref (zz_ad (xg_G q) 27), .int (nI reg)] : List Value).toArray s_ 0 0 (zz_A (xg_G q))) (F0 m_ 2 ls []) := by
    intro n_
    induction n_ using Nat.strongRecOn with
    | ind n_ ih_ =>
      intro r H locs ls hr hx hZ hl hn_
      refine lv_iload_n hx_ hb_ d_Code_leastFree_2 rfl (lv_at hl 2 rfl) ?_
      refine lv_iload_n hx_ hb_ d_Code_leastFree_3 rfl (lv_at hl 1 rfl) ?_
      refine zz_jge (tgt := 25) hC d_Code_leastFree_4 (by decide) (by omega) (by omega) (fun h4 => ?_) (fun h4 => ?_)
      · refine lv_iconst (v := (-1)) hx_ hb_ d_Code_leastFree_25 (by decide) ?_
        exact zz_iret hC hK hZ rfl d_Code_leastFree_26 ⟨rfl, Or.inr ⟨rfl, fun s hs => hx s (by omega)⟩⟩
      · refine lv_aload_n hx_ hb_ d_Code_leastFree_7 rfl (lv_at hl 0 rfl) ?_
        refine zz_get hC hK hZ 27 9 (Nat.le_of_ble_eq_true rfl) (xc_27 q _ _) rfl hin_Code (by decide) wd_190 rfl rfl d_Code_leastFree_8 ?_
        refine lv_iload_n hx_ hb_ d_Code_leastFree_11 rfl (lv_at hl 2 rfl) ?_
        refine zz_iald hC hK hZ 37 0 r (Nat.le_of_ble_eq_true rfl) (xc_37 q _ _) rfl rfl (by omega) (by decide) rfl d_Code_leastFree_12 ?_
        refine zz_topi (y := vw_h (hd r)) (hh r (by omega)) ?_
        refine lv_iconst (v := (-1)) hx_ hb_ d_Code_leastFree_13 (by decide) ?_
        refine zz_rjne (tgt := 19) hC d_Code_leastFree_14 (by decide) (fun h14 => ?_) (fun h14 => ?_)
        · refine lv_iinc (k := 2) (v := nI (r + 1)) (lv' := [(2, .int (nI (r + 1))), (0, .ref (zz_ad (xg_G q) 27)), (1, .int (nI reg))]) hx_ hb_ d_Code_leastFree_19 hl rfl (nI_add _ 1) (by decide) rfl (fun ls hl => ?_)
          refine lv_goto (tgt := 2) hx_ hb_ d_Code_leastFree_22 (by decide) ?_
          exact ih_ _ (by omega) (r + 1)  _ _ _ (by omega) (fun s hs => by
            by_cases e : s = r
            · rw [e]
              exact vw_h_ne h14
            · exact hx s (by omega)) hZ (lv_sub hl [1, 2, 0] rfl) rfl
        · refine lv_iload_n hx_ hb_ d_Code_leastFree_17 rfl (lv_at hl 2 rfl) ?_
          exact zz_iret hC hK hZ rfl d_Code_leastFree_18 ⟨rfl, Or.inl ⟨r, by omega, rfl, vw_h_eq h14, hx⟩⟩
  have L2 : ∀ (r : Nat) (H : Heap) (locs : List Loc) (ls : Array Slot) (hr : r ≤ reg) (hx : ∀ s, s < r → hd s < 1000) (hZ : zz_Z (xg_G q) S s_.heap H locs) (hl : lv_has ls 3 [(0, .ref (zz_ad (xg_G q) 27)), (1, .int (nI reg)), (2, .int (nI r))]), W p_ l e_ rm_Code_leastFree s_ m_ ([.ref (zz_ad (xg_G q) 27), .int (nI reg)] : List Value).toArray bl_ mt_ c_ H locs 0 0 (MQ bl_ (va_Qi (fun ans S1 => S = S1 ∧ ((∃ r, r < reg ∧ ans = nI r ∧ ¬ hd r < 1000 ∧ ∀ s, s < r → hd s < 1000) ∨ (ans = -1 ∧ ∀ r, r < reg → hd r < 1000))) (zz_P (xg_G q)) (zz_A (xg_G q))) ([.ref (zz_ad (xg_G q) 27), .int (nI reg)] : List Value).toArray s_ 0 0 (zz_A (xg_G q))) (F0 m_ 2 ls []) := fun r H locs ls hr hx hZ hl => L2_ _ r H locs ls hr hx hZ hl rfl
  refine lv_iconst (v := nI 0) hx_ hb_ d_Code_leastFree_0 (by decide) ?_
  refine lv_istore_n (i := 2) (lv' := [(2, .int (nI 0)), (0, .ref (zz_ad (xg_G q) 27)), (1, .int (nI reg))]) hx_ hb_ d_Code_leastFree_1 rfl hl (by decide) rfl (fun ls hl => ?_)
  exact L2 0  _ _ _ (Nat.zero_le _) (fun s hs => absurd hs (Nat.not_lt_zero s)) hZ (lv_sub hl [1, 2, 0] rfl)
set_option maxHeartbeats 4000000 in
set_option maxRecDepth 100000 in
theorem c_Code_spillFor (l : Launch) (q : xg_T) (S : zz_S) (i : Nat) (reg : Nat) (hd : Nat → Nat) (hreg : reg ≤ 4) (hh : ∀ r, r < reg → S.1 37 r = vw_h (hd r)) (un : Nat → Nat) (n : Nat) (hn : n ≤ 160) (hun : ∀ j, j < n → S.1 34 j = nI (un j) ∧ un j < 160) (pl : Nat → Nat) (sc : Nat) (hi : i < n) (hall : ∀ r, r < reg → hd r < i) (hpl : ∀ j, j < i → S.1 35 j = nI (pl j)) (hsc : S.1 27 14 = nI sc) (hsc2 : sc ≤ 160) (hmx : ph_mx un hd i reg ≠ i → ph_mx un hd i reg < i ∧ pl (ph_mx un hd i reg) < reg) : Met l y_Code_spillFor (Cond.code y_Code_spillFor b_Code_spillFor 5 none :: zz_tbl) rm_Code_spillFor (zz_Pc [.ref (zz_ad (xg_G q) 27), .int (nI i), .int (nI reg)] (xg_G q) S) (va_Qv (fun S1 => (ph_mx un hd i reg = i ∧ S1 = zz_u (zz_u S 35 i (nI (reg + sc))) 27 14 (nI (sc + 1))) ∨ (ph_mx un hd i reg ≠ i ∧ S1 = zz_u (zz_u (zz_u (zz_u S 35 i (nI (pl (ph_mx un hd i reg)))) 37 (pl (ph_mx un hd i reg)) (nI i)) 35 (ph_mx un hd i reg) (nI (reg + sc))) 27 14 (nI (sc + 1)))) (zz_P (xg_G q)) (zz_A (xg_G q))) 0 0 (zz_A (xg_G q)) := by
  refine zz_met (by decide) (Nat.le_of_ble_eq_true rfl) ?_
  intro p_ e_ s_ m_ bl_ mt_ c_ ls hC hK hZ hl
  have hC : zz_C p_ s_ m_ _ mt_ c_ b_Code_spillFor 5 none "TreeCoverForge$Code" := hC
  have hx_ := hC.1
  have hb_ := hC.2.1
  have hl : lv_has ls 5 [(0, .ref (zz_ad (xg_G q) 27)), (1, .int (nI i)), (2, .int (nI reg))] := hl
  have L5_ : ∀ (n_ : Nat) (r : Nat) (x : Nat) (H : Heap) (locs : List Loc) (ls : Array Slot) (hr : r ≤ reg) (hx : x = ph_mx un hd i r) (hxn : x < n) (hZ : zz_Z (xg_G q) S s_.heap H locs) (hl : lv_has ls 5 [(0, .ref (zz_ad (xg_G q) 27)), (1, .int (nI i)), (2, .int (nI reg)), (3, .int (nI x)), (4, .int (nI r))]) (hn_ : reg - r = n_), W p_ l e_ rm_Code_spillFor s_ m_ ([.ref (zz_ad (xg_G q) 27), .int (nI i), .int (nI reg)] : List Value).toArray bl_ mt_ c_ H locs 0 0 (MQ bl_ (va_Qv (fun S1 => (ph_mx un hd i reg = i ∧ S1 = zz_u (zz_u S 35 i (nI (reg + sc))) 27 14 (nI (sc + 1))) ∨ (ph_mx un hd i reg ≠ i ∧ S1 = zz_u (zz_u (zz_u (zz_u S 35 i (nI (pl (ph_mx un hd i reg)))) 37 (pl (ph_mx un hd i reg)) (nI i)) 35 (ph_mx un hd i reg) (nI (reg + sc))) 27 14 (nI (sc + 1)))) (zz_P (xg_G q)) (zz_A (xg_G q))) ([.ref (zz_ad (xg_G q) 27), .int (nI i), .int (nI reg)] : List Value).toArray s_ 0 0 (zz_A (xg_G q))) (F0 m_ 5 ls []) := by
    intro n_
    induction n_ using Nat.strongRecOn with
    | ind n_ ih_ =>
      intro r x H locs ls hr hx hxn hZ hl hn_
      refine lv_iload hx_ hb_ d_Code_spillFor_5 (lv_at hl 4 rfl) ?_
      refine lv_iload_n hx_ hb_ d_Code_spillFor_7 rfl (lv_at hl 2 rfl) ?_
      refine zz_jge (tgt := 40) hC d_Code_spillFor_8 (by decide) (by omega) (by omega) (fun h8 => ?_) (fun h8 => ?_)
      · have hxr : x = ph_mx un hd i reg := by rw [hx, show r = reg by omega]
        refine lv_iload_n hx_ hb_ d_Code_spillFor_40 rfl (lv_at hl 3 rfl) ?_
        refine lv_iload_n hx_ hb_ d_Code_spillFor_41 rfl (lv_at hl 1 rfl) ?_
        refine zz_jeq (tgt := 69) hC d_Code_spillFor_42 (by decide) (by omega) (by omega) (fun h42 => ?_) (fun h42 => ?_)
        · refine lv_aload_n hx_ hb_ d_Code_spillFor_69 rfl (lv_at hl 0 rfl) ?_
          refine zz_get hC hK hZ 27 7 (Nat.le_of_ble_eq_true rfl) (xc_27 q _ _) rfl hin_Code (by decide) wd_188 rfl rfl d_Code_spillFor_70 ?_
          refine lv_iload_n hx_ hb_ d_Code_spillFor_73 rfl (lv_at hl 3 rfl) ?_
          refine lv_iload_n hx_ hb_ d_Code_spillFor_74 rfl (lv_at hl 2 rfl) ?_
          refine lv_aload_n hx_ hb_ d_Code_spillFor_75 rfl (lv_at hl 0 rfl) ?_
          refine zz_get hC hK hZ 27 14 (Nat.le_of_ble_eq_true rfl) (xc_27 q _ _) rfl hin_Code (by decide) wd_196 rfl rfl d_Code_spillFor_76 ?_
          refine zz_topi (y := nI sc) hsc ?_
          refine lv_iadd hx_ hb_ d_Code_spillFor_79 ?_
          refine zz_topi (y := nI (reg + sc)) (nI_add _ _) ?_
          refine zz_iast hC hK hZ 35 0 x (Nat.le_of_ble_eq_true rfl) (fun _ => xc_35 q _ _) rfl rfl (by omega) (by decide) d_Code_spillFor_80 (fun H locs hZ => ?_)
          refine lv_aload_n hx_ hb_ d_Code_spillFor_81 rfl (lv_at hl 0 rfl) ?_
          refine lv_dup hx_ hb_ d_Code_spillFor_82 rfl ?_
          refine zz_get hC hK hZ 27 14 (Nat.le_of_ble_eq_true rfl) (xc_27 q _ _) rfl hin_Code (by decide) wd_196 rfl rfl d_Code_spillFor_83 ?_
          refine zz_topi (y := nI sc) hsc ?_
          refine lv_iconst (v := nI 1) hx_ hb_ d_Code_spillFor_86 (by decide) ?_
          refine lv_iadd hx_ hb_ d_Code_spillFor_87 ?_
          refine zz_topi (y := nI (sc + 1)) (nI_add _ _) ?_
          refine zz_put hC hK hZ 27 14 (Nat.le_of_ble_eq_true rfl) (xc_27 q _ _) rfl hin_Code t_Code t_Code_ok n_Code (by decide) wd_196 rfl rfl rfl (Nat.le_of_ble_eq_true rfl) rfl d_Code_spillFor_88 (fun H locs hZ => ?_)
          exact zz_vret hC hK hZ rfl d_Code_spillFor_91 (Or.inl ⟨by rw [← hxr]; exact h42, by rw [h42]⟩)
        · have hm2 := hmx (by rw [← hxr]; exact h42)
          rw [← hxr] at hm2
          refine lv_aload_n hx_ hb_ d_Code_spillFor_45 rfl (lv_at hl 0 rfl) ?_
          refine zz_get hC hK hZ 27 7 (Nat.le_of_ble_eq_true rfl) (xc_27 q _ _) rfl hin_Code (by decide) wd_188 rfl rfl d_Code_spillFor_46 ?_
          refine lv_iload_n hx_ hb_ d_Code_spillFor_49 rfl (lv_at hl 1 rfl) ?_
          refine lv_aload_n hx_ hb_ d_Code_spillFor_50 rfl (lv_at hl 0 rfl) ?_
          refine zz_get hC hK hZ 27 7 (Nat.le_of_ble_eq_true rfl) (xc_27 q _ _) rfl hin_Code (by decide) wd_188 rfl rfl d_Code_spillFor_51 ?_
          refine lv_iload_n hx_ hb_ d_Code_spillFor_54 rfl (lv_at hl 3 rfl) ?_
          refine zz_iald hC hK hZ 35 0 x (Nat.le_of_ble_eq_true rfl) (xc_35 q _ _) rfl rfl (by omega) (by decide) rfl d_Code_spillFor_55 ?_
          refine zz_topi (y := nI (pl x)) (hpl x (by omega)) ?_
          refine zz_iast hC hK hZ 35 0 i (Nat.le_of_ble_eq_true rfl) (fun _ => xc_35 q _ _) rfl rfl (by omega) (by decide) d_Code_spillFor_56 (fun H locs hZ => ?_)
          refine lv_aload_n hx_ hb_ d_Code_spillFor_57 rfl (lv_at hl 0 rfl) ?_
          refine zz_get hC hK hZ 27 9 (Nat.le_of_ble_eq_true rfl) (xc_27 q _ _) rfl hin_Code (by decide) wd_190 rfl rfl d_Code_spillFor_58 ?_
          refine lv_aload_n hx_ hb_ d_Code_spillFor_61 rfl (lv_at hl 0 rfl) ?_
          refine zz_get hC hK hZ 27 7 (Nat.le_of_ble_eq_true rfl) (xc_27 q _ _) rfl hin_Code (by decide) wd_188 rfl rfl d_Code_spillFor_62 ?_
          refine lv_iload_n hx_ hb_ d_Code_spillFor_65 rfl (lv_at hl 1 rfl) ?_
          refine zz_iald hC hK hZ 35 0 i (Nat.le_of_ble_eq_true rfl) (xc_35 q _ _) rfl rfl (by omega) (by decide) rfl d_Code_spillFor_66 ?_
          refine zz_topi (y := nI (pl x)) (by rw [zz_u1s]; exact pk_us) ?_
          refine lv_iload_n hx_ hb_ d_Code_spillFor_67 rfl (lv_at hl 1 rfl) ?_
          refine zz_iast hC hK hZ 37 0 (pl x) (Nat.le_of_ble_eq_true rfl) (fun _ => xc_37 q _ _) rfl rfl (by omega) (by decide) d_Code_spillFor_68 (fun H locs hZ => ?_)
          refine lv_aload_n hx_ hb_ d_Code_spillFor_69 rfl (lv_at hl 0 rfl) ?_
          refine zz_get hC hK hZ 27 7 (Nat.le_of_ble_eq_true rfl) (xc_27 q _ _) rfl hin_Code (by decide) wd_188 rfl rfl d_Code_spillFor_70 ?_
          refine lv_iload_n hx_ hb_ d_Code_spillFor_73 rfl (lv_at hl 3 rfl) ?_
          refine lv_iload_n hx_ hb_ d_Code_spillFor_74 rfl (lv_at hl 2 rfl) ?_
          refine lv_aload_n hx_ hb_ d_Code_spillFor_75 rfl (lv_at hl 0 rfl) ?_
          refine zz_get hC hK hZ 27 14 (Nat.le_of_ble_eq_true rfl) (xc_27 q _ _) rfl hin_Code (by decide) wd_196 rfl rfl d_Code_spillFor_76 ?_
          refine zz_topi (y := nI sc) hsc ?_
          refine lv_iadd hx_ hb_ d_Code_spillFor_79 ?_
          refine zz_topi (y := nI (reg + sc)) (nI_add _ _) ?_
          refine zz_iast hC hK hZ 35 0 x (Nat.le_of_ble_eq_true rfl) (fun _ => xc_35 q _ _) rfl rfl (by omega) (by decide) d_Code_spillFor_80 (fun H locs hZ => ?_)
          refine lv_aload_n hx_ hb_ d_Code_spillFor_81 rfl (lv_at hl 0 rfl) ?_
          refine lv_dup hx_ hb_ d_Code_spillFor_82 rfl ?_
          refine zz_get hC hK hZ 27 14 (Nat.le_of_ble_eq_true rfl) (xc_27 q _ _) rfl hin_Code (by decide) wd_196 rfl rfl d_Code_spillFor_83 ?_
          refine zz_topi (y := nI sc) hsc ?_
          refine lv_iconst (v := nI 1) hx_ hb_ d_Code_spillFor_86 (by decide) ?_
          refine lv_iadd hx_ hb_ d_Code_spillFor_87 ?_
          refine zz_topi (y := nI (sc + 1)) (nI_add _ _) ?_
          refine zz_put hC hK hZ 27 14 (Nat.le_of_ble_eq_true rfl) (xc_27 q _ _) rfl hin_Code t_Code t_Code_ok n_Code (by decide) wd_196 rfl rfl rfl (Nat.le_of_ble_eq_true rfl) rfl d_Code_spillFor_88 (fun H locs hZ => ?_)
          exact zz_vret hC hK hZ rfl d_Code_spillFor_91 (Or.inr ⟨by rw [← hxr]; exact h42, by rw [← hxr]⟩)
      · have hal := hall r (by omega)
        have hu1 := hun (hd r) (by omega)
        have hu2 := hun x hxn
        have hhr : S.1 37 r = nI (hd r) := (hh r (by omega)).trans (vw_h_in (by omega))
        refine lv_aload_n hx_ hb_ d_Code_spillFor_11 rfl (lv_at hl 0 rfl) ?_
        refine lv_aload_n hx_ hb_ d_Code_spillFor_12 rfl (lv_at hl 0 rfl) ?_
        refine zz_get hC hK hZ 27 9 (Nat.le_of_ble_eq_true rfl) (xc_27 q _ _) rfl hin_Code (by decide) wd_190 rfl rfl d_Code_spillFor_13 ?_
        refine lv_iload hx_ hb_ d_Code_spillFor_16 (lv_at hl 4 rfl) ?_
        refine zz_iald hC hK hZ 37 0 r (Nat.le_of_ble_eq_true rfl) (xc_37 q _ _) rfl rfl (by omega) (by decide) rfl d_Code_spillFor_18 ?_
        refine zz_topi (y := nI (hd r)) hhr ?_
        refine lv_iload_n hx_ hb_ d_Code_spillFor_19 rfl (lv_at hl 3 rfl) ?_
        refine zz_ci (zz_rV (As := [.int (nI (hd r)), .int (nI x)]) (rest := []) hC hK hZ 27 (c_Code_isNeededLonger l q S (hd r) x (un (hd r)) (un x) (by omega) (by omega) hu1.1 hu2.1 hu1.2 hu2.2) k_Code_isNeededLonger (Nat.le_of_ble_eq_true rfl) (xc_27 q _ _) rfl wd_457 ⟨rfl, rfl, by decide, by decide⟩ rfl hl.1 rfl (Nat.le_of_ble_eq_true rfl) d_Code_spillFor_20 ⟨Nat.zero_le _, Nat.zero_le _⟩) hZ (fun r20 S20 H locs hp20 hZ => ?_)
        obtain ⟨rfl, rfl⟩ := hp20
        refine zz_beq (tgt := 34) hC d_Code_spillFor_23 (by decide) (fun h23 => ?_) (fun h23 => ?_)
        · refine lv_iinc (k := 4) (v := nI (r + 1)) (lv' := [(4, .int (nI (r + 1))), (0, .ref (zz_ad (xg_G q) 27)), (1, .int (nI i)), (2, .int (nI reg)), (3, .int (nI x))]) hx_ hb_ d_Code_spillFor_34 hl rfl (nI_add _ 1) (by decide) rfl (fun ls hl => ?_)
          refine lv_goto (tgt := 5) hx_ hb_ d_Code_spillFor_37 (by decide) ?_
          exact ih_ _ (by omega) (r + 1) x  _ _ _ (by omega) (by
            rw [hx] at h23
            rw [hx]
            exact (if_neg h23).symm) hxn hZ (lv_sub hl [1, 2, 3, 4, 0] rfl) rfl
        · refine lv_aload_n hx_ hb_ d_Code_spillFor_26 rfl (lv_at hl 0 rfl) ?_
          refine zz_get hC hK hZ 27 9 (Nat.le_of_ble_eq_true rfl) (xc_27 q _ _) rfl hin_Code (by decide) wd_190 rfl rfl d_Code_spillFor_27 ?_
          refine lv_iload hx_ hb_ d_Code_spillFor_30 (lv_at hl 4 rfl) ?_
          refine zz_iald hC hK hZ 37 0 r (Nat.le_of_ble_eq_true rfl) (xc_37 q _ _) rfl rfl (by omega) (by decide) rfl d_Code_spillFor_32 ?_
          refine zz_topi (y := nI (hd r)) hhr ?_
          refine lv_istore_n (i := 3) (lv' := [(3, .int (nI (hd r))), (0, .ref (zz_ad (xg_G q) 27)), (1, .int (nI i)), (2, .int (nI reg)), (4, .int (nI r))]) hx_ hb_ d_Code_spillFor_33 rfl hl (by decide) rfl (fun ls hl => ?_)
          refine lv_iinc (k := 4) (v := nI (r + 1)) (lv' := [(4, .int (nI (r + 1))), (3, .int (nI (hd r))), (0, .ref (zz_ad (xg_G q) 27)), (1, .int (nI i)), (2, .int (nI reg))]) hx_ hb_ d_Code_spillFor_34 hl rfl (nI_add _ 1) (by decide) rfl (fun ls hl => ?_)
          refine lv_goto (tgt := 5) hx_ hb_ d_Code_spillFor_37 (by decide) ?_
          exact ih_ _ (by omega) (r + 1) (hd r)  _ _ _ (by omega) (by
            rw [hx] at h23
            exact (if_pos h23).symm) (by omega) hZ (lv_sub hl [2, 3, 4, 1, 0] rfl) rfl
  have L5 : ∀ (r : Nat) (x : Nat) (H : Heap) (locs : List Loc) (ls : Array Slot) (hr : r ≤ reg) (hx : x = ph_mx un hd i r) (hxn : x < n) (hZ : zz_Z (xg_G q) S s_.heap H locs) (hl : lv_has ls 5 [(0, .ref (zz_ad (xg_G q) 27)), (1, .int (nI i)), (2, .int (nI reg)), (3, .int (nI x)), (4, .int (nI r))]), W p_ l e_ rm_Code_spillFor s_ m_ ([.ref (zz_ad (xg_G q) 27), .int (nI i), .int (nI reg)] : List Value).toArray bl_ mt_ c_ H locs 0 0 (MQ bl_ (va_Qv (fun S1 => (ph_mx un hd i reg = i ∧ S1 = zz_u (zz_u S 35 i (nI (reg + sc))) 27 14 (nI (sc + 1))) ∨ (ph_mx un hd i reg ≠ i ∧ S1 = zz_u (zz_u (zz_u (zz_u S 35 i (nI (pl (ph_mx un hd i reg)))) 37 (pl (ph_mx un hd i reg)) (nI i)) 35 (ph_mx un hd i reg) (nI (reg + sc))) 27 14 (nI (sc + 1)))) (zz_P (xg_G q)) (zz_A (xg_G q))) ([.ref (zz_ad (xg_G q) 27), .int (nI i), .int (nI reg)] : List Value).toArray s_ 0 0 (zz_A (xg_G q))) (F0 m_ 5 ls []) := fun r x H locs ls hr hx hxn hZ hl => L5_ _ r x H locs ls hr hx hxn hZ hl rfl
  refine lv_iload_n hx_ hb_ d_Code_spillFor_0 rfl (lv_at hl 1 rfl) ?_
  refine lv_istore_n (i := 3) (lv' := [(3, .int (nI i)), (0, .ref (zz_ad (xg_G q) 27)), (1, .int (nI i)), (2, .int (nI reg))]) hx_ hb_ d_Code_spillFor_1 rfl hl (by decide) rfl (fun ls hl => ?_)
  refine lv_iconst (v := nI 0) hx_ hb_ d_Code_spillFor_2 (by decide) ?_
  refine lv_istore (i := 4) (lv' := [(4, .int (nI 0)), (3, .int (nI i)), (0, .ref (zz_ad (xg_G q) 27)), (1, .int (nI i)), (2, .int (nI reg))]) hx_ hb_ d_Code_spillFor_3 hl (by decide) rfl (fun ls hl => ?_)
  exact L5 0 i  _ _ _ (Nat.zero_le _) rfl hi hZ (lv_sub hl [2, 3, 4, 1, 0] rfl)
