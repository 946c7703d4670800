/-! The reference: states(). Laid by wip/whole/prog/p26.py. -/
set_option maxHeartbeats 4000000 in
set_option maxRecDepth 100000 in
theorem c_Model_states (l : Launch) (q : xg_T) (S : zz_S) (rl : mx_R) (R : Nat) (hB : mb_ok S rl R) : Met l y_Model_states (Cond.code y_Model_states b_Model_states 4 (some .int) :: zz_tbl) rm_Model_states (zz_Pc [.ref (zz_ad (mg_G q) 0)] (mg_G q) S) (va_Qi (fun ans S1 => ns_ans rl R ans ∧ zz_off ms_X S S1 ∧ ∀ j, j ≠ 19 → S1.1 0 j = S.1 0 j) (zz_P (mg_G q)) (zz_A (mg_G q))) 0 0 (zz_A (mg_G q)) := by
  refine zz_met (by decide) (Nat.le_of_ble_eq_true rfl) ?_
  intro p_ e_ s_ m_ bl_ mt_ c_ ls hC hK hZ hl
  have hC : zz_C p_ s_ m_ _ mt_ c_ b_Model_states 4 (some .int) "TreeCoverForgeModel" := hC
  have hx_ := hC.1
  have hb_ := hC.2.1
  have hl : lv_has ls 4 [(0, .ref (zz_ad (mg_G q) 0))] := hl
  have hR24 := hB.2.1
  have hok := hB.2.2.1
  have L74_ : ∀ (n_ : Nat) (i : Nat) (o : Nat) (j : Nat) (A : Nat → ns_St) (n : Nat) (Si : zz_S) (hk108 : ∀ (A : Nat → ns_St) (n : Nat) (Si : zz_S) (H : Heap) (locs : List Loc) (ls : Array Slot) (hI : ms_inv S Si rl R A n) (hc0 : sk_c0 rl R A n 3) (hi : i < n) (hal : sk_al rl R A n i) (hc1 : sk_c1 rl R A n i 5) (hc2 : mq_c2 rl R A n i (o + 1) 0) (hZ : zz_Z (mg_G q) Si s_.heap H locs) (hl : lv_has ls 4 [(0, .ref (zz_ad (mg_G q) 0)), (1, .int (nI i)), (2, .int (nI o))]), W p_ l e_ rm_Model_states s_ m_ ([.ref (zz_ad (mg_G q) 0)] : List Value).toArray bl_ mt_ c_ H locs 0 0 (MQ bl_ (va_Qi (fun ans S1 => ns_ans rl R ans ∧ zz_off ms_X S S1 ∧ ∀ j, j ≠ 19 → S1.1 0 j = S.1 0 j) (zz_P (mg_G q)) (zz_A (mg_G q))) ([.ref (zz_ad (mg_G q) 0)] : List Value).toArray s_ 0 0 (zz_A (mg_G q))) (F0 m_ 108 ls [])) (H : Heap) (locs : List Loc) (ls : Array Slot) (hI : ms_inv S Si rl R A n) (hc0 : sk_c0 rl R A n 3) (hi : i < n) (hal : sk_al rl R A n i) (hc1 : sk_c1 rl R A n i 5) (ho : 5 ≤ o ∧ o < 8) (hj : j ≤ i + 1) (hc2 : mq_c2 rl R A n i o j) (hZ : zz_Z (mg_G q) Si s_.heap H locs) (hl : lv_has ls 4 [(0, .ref (zz_ad (mg_G q) 0)), (1, .int (nI i)), (2, .int (nI o)), (3, .int (nI j))]) (hn_ : i + 1 - j = n_), W p_ l e_ rm_Model_states s_ m_ ([.ref (zz_ad (mg_G q) 0)] : List Value).toArray bl_ mt_ c_ H locs 0 0 (MQ bl_ (va_Qi (fun ans S1 => ns_ans rl R ans ∧ zz_off ms_X S S1 ∧ ∀ j, j ≠ 19 → S1.1 0 j = S.1 0 j) (zz_P (mg_G q)) (zz_A (mg_G q))) ([.ref (zz_ad (mg_G q) 0)] : List Value).toArray s_ 0 0 (zz_A (mg_G q))) (F0 m_ 74 ls []) := by
    intro n_
    induction n_ using Nat.strongRecOn with
    | ind n_ ih_ =>
      intro i o j A n Si hk108 H locs ls hI hc0 hi hal hc1 ho hj hc2 hZ hl hn_
      have hn := hI.2.2.2.1
      have hBi := ms_book hB hI.1 hI.2.1
      have hM := hI.2.2.1
      have hG := hI.2.2.2.2
      refine lv_iload_n hx_ hb_ d_Model_states_74 rfl (lv_at hl 3 rfl) ?_
      refine lv_iload_n hx_ hb_ d_Model_states_75 rfl (lv_at hl 1 rfl) ?_
      refine zz_jgt (tgt := 108) hC d_Model_states_76 (by decide) (by omega) (by omega) (fun h76 => ?_) (fun h76 => ?_)
      · exact hk108 A n Si  _ _ _ hI hc0 hi hal hc1 (by rw [show j = i + 1 by omega] at hc2; exact mq_nx hc2) hZ (lv_sub hl [0, 1, 2] rfl)
      · refine lv_aload_n hx_ hb_ d_Model_states_79 rfl (lv_at hl 0 rfl) ?_
        refine lv_iload_n hx_ hb_ d_Model_states_80 rfl (lv_at hl 2 rfl) ?_
        refine lv_iload_n hx_ hb_ d_Model_states_81 rfl (lv_at hl 1 rfl) ?_
        refine lv_iload_n hx_ hb_ d_Model_states_82 rfl (lv_at hl 3 rfl) ?_
        refine zz_ci (zz_rV (As := [.int (nI o), .int (nI i), .int (nI j)]) (rest := []) hC hK hZ 0 (c_Model_reach l q Si o i j rl R hBi A n hM hn hG (by omega) hi (by omega)) k_Model_reach (Nat.le_of_ble_eq_true rfl) (mc_0 q _ _) rfl wd_660 ⟨rfl, rfl, by decide, by decide⟩ rfl hl.1 rfl (Nat.le_of_ble_eq_true rfl) d_Model_states_83 ⟨Nat.zero_le _, Nat.zero_le _⟩) hZ (fun r83 S83 H locs hp83 hZ => ?_)
        obtain ⟨g1, g2, A1, n1, g3, g4, g5, g6, g7, rfl⟩ := hp83
        refine zz_beq (tgt := 99) hC d_Model_states_86 (by decide) (fun h86 => ?_) (fun h86 => ?_)
        · refine lv_bipush (v := (-4)) hx_ hb_ d_Model_states_99 (by decide) ?_
          exact zz_iret hC hK hZ rfl d_Model_states_101 ⟨ms_end g6 g4 h86, zz_off_tr hI.1 g1, fun j hj => (g2 j hj).trans (hI.2.1 j hj)⟩
        · have hI2 := ms_step hI g1 g2 g5 h86 g6
          refine lv_aload_n hx_ hb_ d_Model_states_89 rfl (lv_at hl 0 rfl) ?_
          refine lv_iload_n hx_ hb_ d_Model_states_90 rfl (lv_at hl 2 rfl) ?_
          refine lv_iload_n hx_ hb_ d_Model_states_91 rfl (lv_at hl 3 rfl) ?_
          refine lv_iload_n hx_ hb_ d_Model_states_92 rfl (lv_at hl 1 rfl) ?_
          refine zz_ci (zz_rV (As := [.int (nI o), .int (nI j), .int (nI i)]) (rest := []) hC hK hZ 0 (c_Model_reach l q S83 o j i rl R (ms_book hB hI2.1 hI2.2.1) A1 n1 g5 h86 g6 (by omega) (by have := g3.1; omega) (by have := g3.1; omega)) k_Model_reach (Nat.le_of_ble_eq_true rfl) (mc_0 q _ _) rfl wd_660 ⟨rfl, rfl, by decide, by decide⟩ rfl hl.1 rfl (Nat.le_of_ble_eq_true rfl) d_Model_states_93 ⟨Nat.zero_le _, Nat.zero_le _⟩) hZ (fun r93 S93 H locs hp93 hZ => ?_)
          obtain ⟨k1, k2, A2, n2, k3, k4, k5, k6, k7, rfl⟩ := hp93
          refine zz_bne (tgt := 102) hC d_Model_states_96 (by decide) (fun h96 => ?_) (fun h96 => ?_)
          · refine lv_iinc (k := 3) (v := nI (j + 1)) (lv' := [(3, .int (nI (j + 1))), (0, .ref (zz_ad (mg_G q) 0)), (1, .int (nI i)), (2, .int (nI o))]) hx_ hb_ d_Model_states_102 hl rfl (nI_add _ 1) (by decide) rfl (fun ls hl => ?_)
            refine lv_goto (tgt := 74) hx_ hb_ d_Model_states_105 (by decide) ?_
            exact ih_ _ (by omega) i o (j + 1) A2 n2 S93 hk108 _ _ _ (ms_step hI2 k1 k2 k5 h96 k6) (sk_c0_ex (xt_ex_tr g3 k3) hc0) (by have := g3.1; have := k3.1; omega) (sk_al_ex (xt_ex_tr g3 k3) (by omega) hal) (sk_c1_ex (xt_ex_tr g3 k3) hi hc1) (by omega) (by omega) (mq_step hc2 g3 k3 hi (by omega) g7 k7) hZ (lv_sub hl [1, 2, 3, 0] rfl) rfl
          · refine lv_bipush (v := (-4)) hx_ hb_ d_Model_states_99 (by decide) ?_
            exact zz_iret hC hK hZ rfl d_Model_states_101 ⟨ms_end k6 k4 h96, zz_off_tr hI2.1 k1, fun j hj => (k2 j hj).trans (hI2.2.1 j hj)⟩
  have L74 : ∀ (i : Nat) (o : Nat) (j : Nat) (A : Nat → ns_St) (n : Nat) (Si : zz_S) (hk108 : ∀ (A : Nat → ns_St) (n : Nat) (Si : zz_S) (H : Heap) (locs : List Loc) (ls : Array Slot) (hI : ms_inv S Si rl R A n) (hc0 : sk_c0 rl R A n 3) (hi : i < n) (hal : sk_al rl R A n i) (hc1 : sk_c1 rl R A n i 5) (hc2 : mq_c2 rl R A n i (o + 1) 0) (hZ : zz_Z (mg_G q) Si s_.heap H locs) (hl : lv_has ls 4 [(0, .ref (zz_ad (mg_G q) 0)), (1, .int (nI i)), (2, .int (nI o))]), W p_ l e_ rm_Model_states s_ m_ ([.ref (zz_ad (mg_G q) 0)] : List Value).toArray bl_ mt_ c_ H locs 0 0 (MQ bl_ (va_Qi (fun ans S1 => ns_ans rl R ans ∧ zz_off ms_X S S1 ∧ ∀ j, j ≠ 19 → S1.1 0 j = S.1 0 j) (zz_P (mg_G q)) (zz_A (mg_G q))) ([.ref (zz_ad (mg_G q) 0)] : List Value).toArray s_ 0 0 (zz_A (mg_G q))) (F0 m_ 108 ls [])) (H : Heap) (locs : List Loc) (ls : Array Slot) (hI : ms_inv S Si rl R A n) (hc0 : sk_c0 rl R A n 3) (hi : i < n) (hal : sk_al rl R A n i) (hc1 : sk_c1 rl R A n i 5) (ho : 5 ≤ o ∧ o < 8) (hj : j ≤ i + 1) (hc2 : mq_c2 rl R A n i o j) (hZ : zz_Z (mg_G q) Si s_.heap H locs) (hl : lv_has ls 4 [(0, .ref (zz_ad (mg_G q) 0)), (1, .int (nI i)), (2, .int (nI o)), (3, .int (nI j))]), W p_ l e_ rm_Model_states s_ m_ ([.ref (zz_ad (mg_G q) 0)] : List Value).toArray bl_ mt_ c_ H locs 0 0 (MQ bl_ (va_Qi (fun ans S1 => ns_ans rl R ans ∧ zz_off ms_X S S1 ∧ ∀ j, j ≠ 19 → S1.1 0 j = S.1 0 j) (zz_P (mg_G q)) (zz_A (mg_G q))) ([.ref (zz_ad (mg_G q) 0)] : List Value).toArray s_ 0 0 (zz_A (mg_G q))) (F0 m_ 74 ls []) := fun i o j A n Si hk108 H locs ls hI hc0 hi hal hc1 ho hj hc2 hZ hl => L74_ _ i o j A n Si hk108 H locs ls hI hc0 hi hal hc1 ho hj hc2 hZ hl rfl
  have L66_ : ∀ (n_ : Nat) (i : Nat) (o : Nat) (A : Nat → ns_St) (n : Nat) (Si : zz_S) (hk114 : ∀ (A : Nat → ns_St) (n : Nat) (Si : zz_S) (H : Heap) (locs : List Loc) (ls : Array Slot) (hI : ms_inv S Si rl R A n) (hc0 : sk_c0 rl R A n 3) (hi : i < n) (hal : sk_al rl R A n i) (hc1 : sk_c1 rl R A n i 5) (hc2 : mq_c2 rl R A n i 8 0) (hZ : zz_Z (mg_G q) Si s_.heap H locs) (hl : lv_has ls 4 [(0, .ref (zz_ad (mg_G q) 0)), (1, .int (nI i))]), W p_ l e_ rm_Model_states s_ m_ ([.ref (zz_ad (mg_G q) 0)] : List Value).toArray bl_ mt_ c_ H locs 0 0 (MQ bl_ (va_Qi (fun ans S1 => ns_ans rl R ans ∧ zz_off ms_X S S1 ∧ ∀ j, j ≠ 19 → S1.1 0 j = S.1 0 j) (zz_P (mg_G q)) (zz_A (mg_G q))) ([.ref (zz_ad (mg_G q) 0)] : List Value).toArray s_ 0 0 (zz_A (mg_G q))) (F0 m_ 114 ls [])) (H : Heap) (locs : List Loc) (ls : Array Slot) (hI : ms_inv S Si rl R A n) (hc0 : sk_c0 rl R A n 3) (hi : i < n) (hal : sk_al rl R A n i) (hc1 : sk_c1 rl R A n i 5) (ho : 5 ≤ o ∧ o ≤ 8) (hc2 : mq_c2 rl R A n i o 0) (hZ : zz_Z (mg_G q) Si s_.heap H locs) (hl : lv_has ls 4 [(0, .ref (zz_ad (mg_G q) 0)), (1, .int (nI i)), (2, .int (nI o))]) (hn_ : 8 - o = n_), W p_ l e_ rm_Model_states s_ m_ ([.ref (zz_ad (mg_G q) 0)] : List Value).toArray bl_ mt_ c_ H locs 0 0 (MQ bl_ (va_Qi (fun ans S1 => ns_ans rl R ans ∧ zz_off ms_X S S1 ∧ ∀ j, j ≠ 19 → S1.1 0 j = S.1 0 j) (zz_P (mg_G q)) (zz_A (mg_G q))) ([.ref (zz_ad (mg_G q) 0)] : List Value).toArray s_ 0 0 (zz_A (mg_G q))) (F0 m_ 66 ls []) := by
    intro n_
    induction n_ using Nat.strongRecOn with
    | ind n_ ih_ =>
      intro i o A n Si hk114 H locs ls hI hc0 hi hal hc1 ho hc2 hZ hl hn_
      have hn := hI.2.2.2.1
      have hBi := ms_book hB hI.1 hI.2.1
      have hM := hI.2.2.1
      have hG := hI.2.2.2.2
      refine lv_iload_n hx_ hb_ d_Model_states_66 rfl (lv_at hl 2 rfl) ?_
      refine lv_bipush (v := nI 8) hx_ hb_ d_Model_states_67 (by decide) ?_
      refine zz_jge (tgt := 114) hC d_Model_states_69 (by decide) (by omega) (by omega) (fun h69 => ?_) (fun h69 => ?_)
      · exact hk114 A n Si  _ _ _ hI hc0 hi hal hc1 (by rw [show o = 8 by omega] at hc2; exact hc2) hZ (lv_sub hl [0, 1] rfl)
      · refine lv_iconst (v := nI 0) hx_ hb_ d_Model_states_72 (by decide) ?_
        refine lv_istore_n (i := 3) (lv' := [(3, .int (nI 0)), (0, .ref (zz_ad (mg_G q) 0)), (1, .int (nI i)), (2, .int (nI o))]) hx_ hb_ d_Model_states_73 rfl hl (by decide) rfl (fun ls hl => ?_)
        refine L74 i o 0 A n Si ?_ _ _ _ hI hc0 hi hal hc1 (by omega) (by omega) hc2 hZ (lv_sub hl [1, 2, 3, 0] rfl)
        · intro A n Si H locs ls hI hc0 hi hal hc1 hc2 hZ hl
          refine lv_iinc (k := 2) (v := nI (o + 1)) (lv' := [(2, .int (nI (o + 1))), (0, .ref (zz_ad (mg_G q) 0)), (1, .int (nI i))]) hx_ hb_ d_Model_states_108 hl rfl (nI_add _ 1) (by decide) rfl (fun ls hl => ?_)
          refine lv_goto (tgt := 66) hx_ hb_ d_Model_states_111 (by decide) ?_
          exact ih_ _ (by omega) i (o + 1) A n Si hk114 _ _ _ hI hc0 hi hal hc1 (by omega) hc2 hZ (lv_sub hl [1, 2, 0] rfl) rfl
  have L66 : ∀ (i : Nat) (o : Nat) (A : Nat → ns_St) (n : Nat) (Si : zz_S) (hk114 : ∀ (A : Nat → ns_St) (n : Nat) (Si : zz_S) (H : Heap) (locs : List Loc) (ls : Array Slot) (hI : ms_inv S Si rl R A n) (hc0 : sk_c0 rl R A n 3) (hi : i < n) (hal : sk_al rl R A n i) (hc1 : sk_c1 rl R A n i 5) (hc2 : mq_c2 rl R A n i 8 0) (hZ : zz_Z (mg_G q) Si s_.heap H locs) (hl : lv_has ls 4 [(0, .ref (zz_ad (mg_G q) 0)), (1, .int (nI i))]), W p_ l e_ rm_Model_states s_ m_ ([.ref (zz_ad (mg_G q) 0)] : List Value).toArray bl_ mt_ c_ H locs 0 0 (MQ bl_ (va_Qi (fun ans S1 => ns_ans rl R ans ∧ zz_off ms_X S S1 ∧ ∀ j, j ≠ 19 → S1.1 0 j = S.1 0 j) (zz_P (mg_G q)) (zz_A (mg_G q))) ([.ref (zz_ad (mg_G q) 0)] : List Value).toArray s_ 0 0 (zz_A (mg_G q))) (F0 m_ 114 ls [])) (H : Heap) (locs : List Loc) (ls : Array Slot) (hI : ms_inv S Si rl R A n) (hc0 : sk_c0 rl R A n 3) (hi : i < n) (hal : sk_al rl R A n i) (hc1 : sk_c1 rl R A n i 5) (ho : 5 ≤ o ∧ o ≤ 8) (hc2 : mq_c2 rl R A n i o 0) (hZ : zz_Z (mg_G q) Si s_.heap H locs) (hl : lv_has ls 4 [(0, .ref (zz_ad (mg_G q) 0)), (1, .int (nI i)), (2, .int (nI o))]), W p_ l e_ rm_Model_states s_ m_ ([.ref (zz_ad (mg_G q) 0)] : List Value).toArray bl_ mt_ c_ H locs 0 0 (MQ bl_ (va_Qi (fun ans S1 => ns_ans rl R ans ∧ zz_off ms_X S S1 ∧ ∀ j, j ≠ 19 → S1.1 0 j = S.1 0 j) (zz_P (mg_G q)) (zz_A (mg_G q))) ([.ref (zz_ad (mg_G q) 0)] : List Value).toArray s_ 0 0 (zz_A (mg_G q))) (F0 m_ 66 ls []) := fun i o A n Si hk114 H locs ls hI hc0 hi hal hc1 ho hc2 hZ hl => L66_ _ i o A n Si hk114 H locs ls hI hc0 hi hal hc1 ho hc2 hZ hl rfl
  have L40_ : ∀ (n_ : Nat) (i : Nat) (o : Nat) (A : Nat → ns_St) (n : Nat) (Si : zz_S) (hk64 : ∀ (A : Nat → ns_St) (n : Nat) (Si : zz_S) (H : Heap) (locs : List Loc) (ls : Array Slot) (hI : ms_inv S Si rl R A n) (hc0 : sk_c0 rl R A n 3) (hi : i < n) (hal : sk_al rl R A n i) (hc1 : sk_c1 rl R A n i 5) (hZ : zz_Z (mg_G q) Si s_.heap H locs) (hl : lv_has ls 4 [(0, .ref (zz_ad (mg_G q) 0)), (1, .int (nI i))]), W p_ l e_ rm_Model_states s_ m_ ([.ref (zz_ad (mg_G q) 0)] : List Value).toArray bl_ mt_ c_ H locs 0 0 (MQ bl_ (va_Qi (fun ans S1 => ns_ans rl R ans ∧ zz_off ms_X S S1 ∧ ∀ j, j ≠ 19 → S1.1 0 j = S.1 0 j) (zz_P (mg_G q)) (zz_A (mg_G q))) ([.ref (zz_ad (mg_G q) 0)] : List Value).toArray s_ 0 0 (zz_A (mg_G q))) (F0 m_ 64 ls [])) (H : Heap) (locs : List Loc) (ls : Array Slot) (hI : ms_inv S Si rl R A n) (hc0 : sk_c0 rl R A n 3) (hi : i < n) (hal : sk_al rl R A n i) (ho : 3 ≤ o ∧ o ≤ 5) (hc1 : sk_c1 rl R A n i o) (hZ : zz_Z (mg_G q) Si s_.heap H locs) (hl : lv_has ls 4 [(0, .ref (zz_ad (mg_G q) 0)), (1, .int (nI i)), (2, .int (nI o))]) (hn_ : 5 - o = n_), W p_ l e_ rm_Model_states s_ m_ ([.ref (zz_ad (mg_G q) 0)] : List Value).toArray bl_ mt_ c_ H locs 0 0 (MQ bl_ (va_Qi (fun ans S1 => ns_ans rl R ans ∧ zz_off ms_X S S1 ∧ ∀ j, j ≠ 19 → S1.1 0 j = S.1 0 j) (zz_P (mg_G q)) (zz_A (mg_G q))) ([.ref (zz_ad (mg_G q) 0)] : List Value).toArray s_ 0 0 (zz_A (mg_G q))) (F0 m_ 40 ls []) := by
    intro n_
    induction n_ using Nat.strongRecOn with
    | ind n_ ih_ =>
      intro i o A n Si hk64 H locs ls hI hc0 hi hal ho hc1 hZ hl hn_
      have hn := hI.2.2.2.1
      have hBi := ms_book hB hI.1 hI.2.1
      have hM := hI.2.2.1
      have hG := hI.2.2.2.2
      refine lv_iload_n hx_ hb_ d_Model_states_40 rfl (lv_at hl 2 rfl) ?_
      refine lv_iconst (v := nI 5) hx_ hb_ d_Model_states_41 (by decide) ?_
      refine zz_jge (tgt := 64) hC d_Model_states_42 (by decide) (by omega) (by omega) (fun h42 => ?_) (fun h42 => ?_)
      · exact hk64 A n Si  _ _ _ hI hc0 hi hal (by rw [show o = 5 by omega] at hc1; exact hc1) hZ (lv_sub hl [0, 1] rfl)
      · refine lv_aload_n hx_ hb_ d_Model_states_45 rfl (lv_at hl 0 rfl) ?_
        refine lv_iload_n hx_ hb_ d_Model_states_46 rfl (lv_at hl 2 rfl) ?_
        refine lv_iload_n hx_ hb_ d_Model_states_47 rfl (lv_at hl 1 rfl) ?_
        refine lv_iload_n hx_ hb_ d_Model_states_48 rfl (lv_at hl 1 rfl) ?_
        refine zz_ci (zz_rV (As := [.int (nI o), .int (nI i), .int (nI i)]) (rest := []) hC hK hZ 0 (c_Model_reach l q Si o i i rl R hBi A n hM hn hG (by omega) hi hi) k_Model_reach (Nat.le_of_ble_eq_true rfl) (mc_0 q _ _) rfl wd_660 ⟨rfl, rfl, by decide, by decide⟩ rfl hl.1 rfl (Nat.le_of_ble_eq_true rfl) d_Model_states_49 ⟨Nat.zero_le _, Nat.zero_le _⟩) hZ (fun r49 S49 H locs hp49 hZ => ?_)
        obtain ⟨g1, g2, A1, n1, g3, g4, g5, g6, g7, rfl⟩ := hp49
        refine zz_bne (tgt := 58) hC d_Model_states_52 (by decide) (fun h52 => ?_) (fun h52 => ?_)
        · refine lv_iinc (k := 2) (v := nI (o + 1)) (lv' := [(2, .int (nI (o + 1))), (0, .ref (zz_ad (mg_G q) 0)), (1, .int (nI i))]) hx_ hb_ d_Model_states_58 hl rfl (nI_add _ 1) (by decide) rfl (fun ls hl => ?_)
          refine lv_goto (tgt := 40) hx_ hb_ d_Model_states_61 (by decide) ?_
          exact ih_ _ (by omega) i (o + 1) A1 n1 S49 hk64 _ _ _ (ms_step hI g1 g2 g5 h52 g6) (sk_c0_ex g3 hc0) (by have := g3.1; omega) (sk_al_ex g3 (by omega) hal) (by omega) (mq_c1 hok hc1 g3 hi (by omega) (by omega) g7) hZ (lv_sub hl [1, 2, 0] rfl) rfl
        · refine lv_bipush (v := (-4)) hx_ hb_ d_Model_states_55 (by decide) ?_
          exact zz_iret hC hK hZ rfl d_Model_states_57 ⟨ms_end g6 g4 h52, zz_off_tr hI.1 g1, fun j hj => (g2 j hj).trans (hI.2.1 j hj)⟩
  have L40 : ∀ (i : Nat) (o : Nat) (A : Nat → ns_St) (n : Nat) (Si : zz_S) (hk64 : ∀ (A : Nat → ns_St) (n : Nat) (Si : zz_S) (H : Heap) (locs : List Loc) (ls : Array Slot) (hI : ms_inv S Si rl R A n) (hc0 : sk_c0 rl R A n 3) (hi : i < n) (hal : sk_al rl R A n i) (hc1 : sk_c1 rl R A n i 5) (hZ : zz_Z (mg_G q) Si s_.heap H locs) (hl : lv_has ls 4 [(0, .ref (zz_ad (mg_G q) 0)), (1, .int (nI i))]), W p_ l e_ rm_Model_states s_ m_ ([.ref (zz_ad (mg_G q) 0)] : List Value).toArray bl_ mt_ c_ H locs 0 0 (MQ bl_ (va_Qi (fun ans S1 => ns_ans rl R ans ∧ zz_off ms_X S S1 ∧ ∀ j, j ≠ 19 → S1.1 0 j = S.1 0 j) (zz_P (mg_G q)) (zz_A (mg_G q))) ([.ref (zz_ad (mg_G q) 0)] : List Value).toArray s_ 0 0 (zz_A (mg_G q))) (F0 m_ 64 ls [])) (H : Heap) (locs : List Loc) (ls : Array Slot) (hI : ms_inv S Si rl R A n) (hc0 : sk_c0 rl R A n 3) (hi : i < n) (hal : sk_al rl R A n i) (ho : 3 ≤ o ∧ o ≤ 5) (hc1 : sk_c1 rl R A n i o) (hZ : zz_Z (mg_G q) Si s_.heap H locs) (hl : lv_has ls 4 [(0, .ref (zz_ad (mg_G q) 0)), (1, .int (nI i)), (2, .int (nI o))]), W p_ l e_ rm_Model_states s_ m_ ([.ref (zz_ad (mg_G q) 0)] : List Value).toArray bl_ mt_ c_ H locs 0 0 (MQ bl_ (va_Qi (fun ans S1 => ns_ans rl R ans ∧ zz_off ms_X S S1 ∧ ∀ j, j ≠ 19 → S1.1 0 j = S.1 0 j) (zz_P (mg_G q)) (zz_A (mg_G q))) ([.ref (zz_ad (mg_G q) 0)] : List Value).toArray s_ 0 0 (zz_A (mg_G q))) (F0 m_ 40 ls []) := fun i o A n Si hk64 H locs ls hI hc0 hi hal ho hc1 hZ hl => L40_ _ i o A n Si hk64 H locs ls hI hc0 hi hal ho hc1 hZ hl rfl
  have L30_ : ∀ (n_ : Nat) (i : Nat) (A : Nat → ns_St) (n : Nat) (Si : zz_S) (H : Heap) (locs : List Loc) (ls : Array Slot) (hI : ms_inv S Si rl R A n) (hc0 : sk_c0 rl R A n 3) (hi : i ≤ n) (hal : sk_al rl R A n i) (hZ : zz_Z (mg_G q) Si s_.heap H locs) (hl : lv_has ls 4 [(0, .ref (zz_ad (mg_G q) 0)), (1, .int (nI i))]) (hn_ : 41 - i = n_), W p_ l e_ rm_Model_states s_ m_ ([.ref (zz_ad (mg_G q) 0)] : List Value).toArray bl_ mt_ c_ H locs 0 0 (MQ bl_ (va_Qi (fun ans S1 => ns_ans rl R ans ∧ zz_off ms_X S S1 ∧ ∀ j, j ≠ 19 → S1.1 0 j = S.1 0 j) (zz_P (mg_G q)) (zz_A (mg_G q))) ([.ref (zz_ad (mg_G q) 0)] : List Value).toArray s_ 0 0 (zz_A (mg_G q))) (F0 m_ 30 ls []) := by
    intro n_
    induction n_ using Nat.strongRecOn with
    | ind n_ ih_ =>
      intro i A n Si H locs ls hI hc0 hi hal hZ hl hn_
      have hn := hI.2.2.2.1
      have hBi := ms_book hB hI.1 hI.2.1
      have hM := hI.2.2.1
      have hG := hI.2.2.2.2
      refine lv_iload_n hx_ hb_ d_Model_states_30 rfl (lv_at hl 1 rfl) ?_
      refine lv_aload_n hx_ hb_ d_Model_states_31 rfl (lv_at hl 0 rfl) ?_
      refine zz_get hC hK hZ 0 19 (Nat.le_of_ble_eq_true rfl) (mc_0 q _ _) rfl hin_Model (by decide) wd_526 rfl rfl d_Model_states_32 ?_
      refine zz_topi (y := nI n) hM.1 ?_
      refine zz_jge (tgt := 120) hC d_Model_states_35 (by decide) (by omega) (by omega) (fun h35 => ?_) (fun h35 => ?_)
      · refine lv_aload_n hx_ hb_ d_Model_states_120 rfl (lv_at hl 0 rfl) ?_
        refine zz_get hC hK hZ 0 19 (Nat.le_of_ble_eq_true rfl) (mc_0 q _ _) rfl hin_Model (by decide) wd_526 rfl rfl d_Model_states_121 ?_
        refine zz_topi (y := nI n) hM.1 ?_
        exact zz_iret hC hK hZ rfl d_Model_states_124 ⟨Or.inl ⟨A, n, hn, rfl, hG.1, hG.2.1, sk_end hok hc0 (by rw [show i = n by omega] at hal; exact hal)⟩, hI.1, hI.2.1⟩
      · refine lv_iconst (v := nI 3) hx_ hb_ d_Model_states_38 (by decide) ?_
        refine lv_istore_n (i := 2) (lv' := [(2, .int (nI 3)), (0, .ref (zz_ad (mg_G q) 0)), (1, .int (nI i))]) hx_ hb_ d_Model_states_39 rfl hl (by decide) rfl (fun ls hl => ?_)
        refine L40 i 3 A n Si ?_ _ _ _ hI hc0 (by omega) hal (by omega) (fun o h1 h2 => absurd h1 (by omega)) hZ (lv_sub hl [1, 2, 0] rfl)
        · intro A n Si H locs ls hI hc0 hi hal hc1 hZ hl
          refine lv_iconst (v := nI 5) hx_ hb_ d_Model_states_64 (by decide) ?_
          refine lv_istore_n (i := 2) (lv' := [(2, .int (nI 5)), (0, .ref (zz_ad (mg_G q) 0)), (1, .int (nI i))]) hx_ hb_ d_Model_states_65 rfl hl (by decide) rfl (fun ls hl => ?_)
          refine L66 i 5 A n Si ?_ _ _ _ hI hc0 hi hal hc1 (by omega) mq_0 hZ (lv_sub hl [1, 2, 0] rfl)
          · intro A n Si H locs ls hI hc0 hi hal hc1 hc2 hZ hl
            refine lv_iinc (k := 1) (v := nI (i + 1)) (lv' := [(1, .int (nI (i + 1))), (0, .ref (zz_ad (mg_G q) 0))]) hx_ hb_ d_Model_states_114 hl rfl (nI_add _ 1) (by decide) rfl (fun ls hl => ?_)
            refine lv_goto (tgt := 30) hx_ hb_ d_Model_states_117 (by decide) ?_
            exact ih_ _ (by omega) (i + 1) A n Si  _ _ _ hI hc0 (by omega) (mq_al hal hc1 hc2) hZ (lv_sub hl [1, 0] rfl) rfl
  have L30 : ∀ (i : Nat) (A : Nat → ns_St) (n : Nat) (Si : zz_S) (H : Heap) (locs : List Loc) (ls : Array Slot) (hI : ms_inv S Si rl R A n) (hc0 : sk_c0 rl R A n 3) (hi : i ≤ n) (hal : sk_al rl R A n i) (hZ : zz_Z (mg_G q) Si s_.heap H locs) (hl : lv_has ls 4 [(0, .ref (zz_ad (mg_G q) 0)), (1, .int (nI i))]), W p_ l e_ rm_Model_states s_ m_ ([.ref (zz_ad (mg_G q) 0)] : List Value).toArray bl_ mt_ c_ H locs 0 0 (MQ bl_ (va_Qi (fun ans S1 => ns_ans rl R ans ∧ zz_off ms_X S S1 ∧ ∀ j, j ≠ 19 → S1.1 0 j = S.1 0 j) (zz_P (mg_G q)) (zz_A (mg_G q))) ([.ref (zz_ad (mg_G q) 0)] : List Value).toArray s_ 0 0 (zz_A (mg_G q))) (F0 m_ 30 ls []) := fun i A n Si H locs ls hI hc0 hi hal hZ hl => L30_ _ i A n Si H locs ls hI hc0 hi hal hZ hl rfl
  have L7_ : ∀ (n_ : Nat) (o : Nat) (A : Nat → ns_St) (n : Nat) (Si : zz_S) (H : Heap) (locs : List Loc) (ls : Array Slot) (ho : o ≤ 3) (hI : ms_inv S Si rl R A n) (hno : n ≤ o) (hc0 : sk_c0 rl R A n o) (hZ : zz_Z (mg_G q) Si s_.heap H locs) (hl : lv_has ls 4 [(0, .ref (zz_ad (mg_G q) 0)), (1, .int (nI o))]) (hn_ : 3 - o = n_), W p_ l e_ rm_Model_states s_ m_ ([.ref (zz_ad (mg_G q) 0)] : List Value).toArray bl_ mt_ c_ H locs 0 0 (MQ bl_ (va_Qi (fun ans S1 => ns_ans rl R ans ∧ zz_off ms_X S S1 ∧ ∀ j, j ≠ 19 → S1.1 0 j = S.1 0 j) (zz_P (mg_G q)) (zz_A (mg_G q))) ([.ref (zz_ad (mg_G q) 0)] : List Value).toArray s_ 0 0 (zz_A (mg_G q))) (F0 m_ 7 ls []) := by
    intro n_
    induction n_ using Nat.strongRecOn with
    | ind n_ ih_ =>
      intro o A n Si H locs ls ho hI hno hc0 hZ hl hn_
      have hn := hI.2.2.2.1
      have hBi := ms_book hB hI.1 hI.2.1
      have hM := hI.2.2.1
      have hG := hI.2.2.2.2
      refine lv_iload_n hx_ hb_ d_Model_states_7 rfl (lv_at hl 1 rfl) ?_
      refine lv_iconst (v := nI 3) hx_ hb_ d_Model_states_8 (by decide) ?_
      refine zz_jge (tgt := 28) hC d_Model_states_9 (by decide) (by omega) (by omega) (fun h9 => ?_) (fun h9 => ?_)
      · refine lv_iconst (v := nI 0) hx_ hb_ d_Model_states_28 (by decide) ?_
        refine lv_istore_n (i := 1) (lv' := [(1, .int (nI 0)), (0, .ref (zz_ad (mg_G q) 0))]) hx_ hb_ d_Model_states_29 rfl hl (by decide) rfl (fun ls hl => ?_)
        exact L30 0 A n Si  _ _ _ hI (by rw [show o = 3 by omega] at hc0; exact hc0) (Nat.zero_le _) (fun x hx => absurd hx (Nat.not_lt_zero x)) hZ (lv_sub hl [1, 0] rfl)
      · refine lv_aload_n hx_ hb_ d_Model_states_12 rfl (lv_at hl 0 rfl) ?_
        refine lv_iload_n hx_ hb_ d_Model_states_13 rfl (lv_at hl 1 rfl) ?_
        refine zz_cv (zz_rV (As := [.int (nI o)]) (rest := []) hC hK hZ 0 (c_Model_combine l q Si rl R hBi o (ns_at ns_z.1) (ns_at ns_z.1) (by omega) (fun h => absurd h (by rw [sk_kd0 (by omega)]; omega)) (fun h => absurd h (by rw [sk_kd0 (by omega)]; omega)) (fun k _ => by rw [ns_z0]; exact Nat.zero_le _) (fun k _ => by rw [ns_z0]; exact Nat.zero_le _)) k_Model_combine (Nat.le_of_ble_eq_true rfl) (mc_0 q _ _) rfl wd_640 ⟨rfl, rfl, by decide, by decide⟩ rfl hl.1 rfl (Nat.le_of_ble_eq_true rfl) d_Model_states_14 ⟨Nat.zero_le _, Nat.zero_le _⟩) hZ (fun S14 H locs hp14 hZ => ?_)
        obtain ⟨ho14, g, yy, hlab, hgy⟩ := hp14
        have hM14 : mk_st S14 A n := mk_off hM (by rw [(ho14 0 (by omega)).1]) (by rw [(ho14 17 (by omega)).2]) (by rw [(ho14 18 (by omega)).1])
        refine lv_aload_n hx_ hb_ d_Model_states_17 rfl (lv_at hl 0 rfl) ?_
        refine zz_ci (zz_rV (As := []) (rest := []) hC hK hZ 0 (c_Model_known l q S14 A n g yy hM14 hn (fun k hk => (hgy k hk).1) (fun k hk => (hgy k hk).2) hlab.1.1 (fun k hk => sk_q24 hlab hR24 k hk) (fun i hi k hk => (hG.2.2 i hi k hk).2.2) (fun i hi k hk => (hG.2.2 i hi k hk).1)) k_Model_known (Nat.le_of_ble_eq_true rfl) (mc_0 q _ _) rfl wd_652 ⟨rfl, rfl, by decide, by decide⟩ rfl hl.1 rfl (Nat.le_of_ble_eq_true rfl) d_Model_states_18 ⟨Nat.zero_le _, Nat.zero_le _⟩) hZ (fun r18 S18 H locs hp18 hZ => ?_)
        have hzM : ∀ k, k < 4 → ns_at ns_z.1 k < mx_far → ns_at ns_z.1 k + 36 ≤ 36 * 2 ^ n := fun k _ _ => by rw [ns_z0]; have : 1 ≤ 2 ^ n := Nat.one_le_two_pow; omega
        obtain ⟨g1, g2, A1, n1, g3, g4, g5, g6, g7⟩ := ms_got_of (S := Si) hok hR24 hn hM14 hG (zz_off_mono ho14 (fun c h => by unfold ms_X; omega)) (by rw [(ho14 0 (by omega)).1]) hlab hzM hzM (Or.inl (by omega)) hp18
        refine lv_istore_n (i := 2) (lv' := [(2, .int r18), (0, .ref (zz_ad (mg_G q) 0)), (1, .int (nI o))]) hx_ hb_ d_Model_states_21 rfl hl (by decide) rfl (fun ls hl => ?_)
        refine lv_iinc (k := 2) (v := nI (o + 1)) (lv' := [(1, .int (nI (o + 1))), (2, .int r18), (0, .ref (zz_ad (mg_G q) 0))]) hx_ hb_ d_Model_states_22 hl rfl (nI_add _ 1) (by decide) rfl (fun ls hl => ?_)
        refine lv_goto (tgt := 7) hx_ hb_ d_Model_states_25 (by decide) ?_
        exact ih_ _ (by omega) (o + 1) A1 n1 S18  _ _ _ (by omega) (ms_step hI g1 g2 g5 (by omega) g6) (by omega) (mq_c0 hok hc0 g3 (by omega) g7) hZ (lv_sub hl [2, 0] rfl) rfl
  have L7 : ∀ (o : Nat) (A : Nat → ns_St) (n : Nat) (Si : zz_S) (H : Heap) (locs : List Loc) (ls : Array Slot) (ho : o ≤ 3) (hI : ms_inv S Si rl R A n) (hno : n ≤ o) (hc0 : sk_c0 rl R A n o) (hZ : zz_Z (mg_G q) Si s_.heap H locs) (hl : lv_has ls 4 [(0, .ref (zz_ad (mg_G q) 0)), (1, .int (nI o))]), W p_ l e_ rm_Model_states s_ m_ ([.ref (zz_ad (mg_G q) 0)] : List Value).toArray bl_ mt_ c_ H locs 0 0 (MQ bl_ (va_Qi (fun ans S1 => ns_ans rl R ans ∧ zz_off ms_X S S1 ∧ ∀ j, j ≠ 19 → S1.1 0 j = S.1 0 j) (zz_P (mg_G q)) (zz_A (mg_G q))) ([.ref (zz_ad (mg_G q) 0)] : List Value).toArray s_ 0 0 (zz_A (mg_G q))) (F0 m_ 7 ls []) := fun o A n Si H locs ls ho hI hno hc0 hZ hl => L7_ _ o A n Si H locs ls ho hI hno hc0 hZ hl rfl
  refine lv_aload_n hx_ hb_ d_Model_states_0 rfl (lv_at hl 0 rfl) ?_
  refine lv_iconst (v := nI 0) hx_ hb_ d_Model_states_1 (by decide) ?_
  refine zz_put hC hK hZ 0 19 (Nat.le_of_ble_eq_true rfl) (mc_0 q _ _) rfl hin_Model t_Model t_Model_ok n_Model (by decide) wd_526 rfl rfl rfl (Nat.le_of_ble_eq_true rfl) (mput_19 q _ _ _ (mc_0 q _ _)) d_Model_states_2 (fun H locs hZ => ?_)
  refine lv_iconst (v := nI 0) hx_ hb_ d_Model_states_5 (by decide) ?_
  refine lv_istore_n (i := 1) (lv' := [(1, .int (nI 0)), (0, .ref (zz_ad (mg_G q) 0))]) hx_ hb_ d_Model_states_6 rfl hl (by decide) rfl (fun ls hl => ?_)
  exact L7 0 (fun _ => ns_z) 0 (zz_u S 0 19 (nI 0))  _ _ _ (Nat.zero_le _) ms_inv0 (Nat.zero_le _) (fun o h => absurd h (Nat.not_lt_zero o)) hZ (lv_sub hl [1, 0] rfl)
