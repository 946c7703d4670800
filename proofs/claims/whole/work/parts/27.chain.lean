/-! Labels: derive. Laid by wip/whole/prog/p5.py. -/
set_option maxHeartbeats 4000000 in
set_option maxRecDepth 100000 in
theorem c_Label_applyChains (l : Launch) (q : xg_T) (S : zz_S) (j o : Nat) (hj : j ≤ 82) (rl : mx_R) (R : Nat) (sz : Nat → Nat) (nb : Nat → Nat → Nat) (hB : xb_ok S rl R sz nb) (lf rt : Nat → Nat) (M : Nat) (hM : M ≤ 281474976710656) (hlM : ∀ k, k < 4 → lf k < mx_far → lf k ≤ M) (hrM : ∀ k, k < 4 → rt k < mx_far → rt k ≤ M) (hx0 : xl_ok S j (mp_C rl R o lf rt 0).1 (mp_C rl R o lf rt 0).2) : Met l y_Label_applyChains (Cond.code y_Label_applyChains b_Label_applyChains 8 none :: zz_tbl) rm_Label_applyChains (zz_Pc [.ref (zz_ad (xg_G q) (42 + 3 * j)), .ref (zz_ad (xg_G q) 1)] (xg_G q) S) (va_Qv (fun S1 => zz_off (xl_X j) S S1 ∧ xl_ok S1 j (mp_C rl R o lf rt 3).1 (mp_C rl R o lf rt 3).2) (zz_P (xg_G q)) (zz_A (xg_G q))) 0 0 (zz_A (xg_G q)) := by
  refine zz_met (by decide) (Nat.le_of_ble_eq_true rfl) ?_
  intro p_ e_ s_ m_ bl_ mt_ c_ ls hC hK hZ hl
  have hC : zz_C p_ s_ m_ _ mt_ c_ b_Label_applyChains 8 none "TreeCoverForge$Label" := hC
  have hx_ := hC.1
  have hb_ := hC.2.1
  have hl : lv_has ls 8 [(0, .ref (zz_ad (xg_G q) (42 + 3 * j))), (1, .ref (zz_ad (xg_G q) 1))] := hl
  have hfar := vw_far
  have hR := hB.2.1
  have L28_ : ∀ (n_ : Nat) (rn : Nat) (i : Nat) (ch : Nat) (Si : zz_S) (hk89 : ∀ (ch : Nat) (Si : zz_S) (H : Heap) (locs : List Loc) (ls : Array Slot) (hch : ch = 1 ∨ (ch = 0 ∧ (mp_C rl R o lf rt (rn + 1)) = (mp_C rl R o lf rt rn))) (ho : zz_off (xl_X j) S Si) (hx : xl_ok Si j (mp_C rl R o lf rt (rn + 1)).1 (mp_C rl R o lf rt (rn + 1)).2) (hZ : zz_Z (xg_G q) Si s_.heap H locs) (hl : lv_has ls 8 [(0, .ref (zz_ad (xg_G q) (42 + 3 * j))), (1, .ref (zz_ad (xg_G q) 1)), (2, .int (nI (sz 8))), (3, .int (nI ch)), (4, .int (nI rn))]), W p_ l e_ rm_Label_applyChains s_ m_ ([.ref (zz_ad (xg_G q) (42 + 3 * j)), .ref (zz_ad (xg_G q) 1)] : List Value).toArray bl_ mt_ c_ H locs 0 0 (MQ bl_ (va_Qv (fun S1 => zz_off (xl_X j) S S1 ∧ xl_ok S1 j (mp_C rl R o lf rt 3).1 (mp_C rl R o lf rt 3).2) (zz_P (xg_G q)) (zz_A (xg_G q))) ([.ref (zz_ad (xg_G q) (42 + 3 * j)), .ref (zz_ad (xg_G q) 1)] : List Value).toArray s_ 0 0 (zz_A (xg_G q))) (F0 m_ 89 ls [])) (H : Heap) (locs : List Loc) (ls : Array Slot) (hrn : rn < 3) (hi : i ≤ sz 8) (hch : ch = 1 ∨ (ch = 0 ∧ (xb_s rl R o lf rt sz nb 8 (mp_C rl R o lf rt rn) i) = (mp_C rl R o lf rt rn))) (ho : zz_off (xl_X j) S Si) (hx : xl_ok Si j (xb_s rl R o lf rt sz nb 8 (mp_C rl R o lf rt rn) i).1 (xb_s rl R o lf rt sz nb 8 (mp_C rl R o lf rt rn) i).2) (hZ : zz_Z (xg_G q) Si s_.heap H locs) (hl : lv_has ls 8 [(0, .ref (zz_ad (xg_G q) (42 + 3 * j))), (1, .ref (zz_ad (xg_G q) 1)), (2, .int (nI (sz 8))), (3, .int (nI ch)), (4, .int (nI rn)), (5, .int (nI i))]) (hn_ : sz 8 - i = n_), W p_ l e_ rm_Label_applyChains s_ m_ ([.ref (zz_ad (xg_G q) (42 + 3 * j)), .ref (zz_ad (xg_G q) 1)] : List Value).toArray bl_ mt_ c_ H locs 0 0 (MQ bl_ (va_Qv (fun S1 => zz_off (xl_X j) S S1 ∧ xl_ok S1 j (mp_C rl R o lf rt 3).1 (mp_C rl R o lf rt 3).2) (zz_P (xg_G q)) (zz_A (xg_G q))) ([.ref (zz_ad (xg_G q) (42 + 3 * j)), .ref (zz_ad (xg_G q) 1)] : List Value).toArray s_ 0 0 (zz_A (xg_G q))) (F0 m_ 28 ls []) := by
    intro n_
    induction n_ using Nat.strongRecOn with
    | ind n_ ih_ =>
      intro rn i ch Si hk89 H locs ls hrn hi hch ho hx hZ hl hn_
      have hBi := xb_off hB ho
      have hs8 := (hB.2.2.2.2 8 (by omega)).2.1
      have hI := xb_sI (o' := 8) hBi (mp_C_I (o := o) (lf := lf) (rt := rt) hB.2.2.1 rn) (by omega) i
      refine lv_iload hx_ hb_ d_Label_applyChains_28 (lv_at hl 5 rfl) ?_
      refine lv_iload_n hx_ hb_ d_Label_applyChains_30 rfl (lv_at hl 2 rfl) ?_
      refine zz_jge (tgt := 89) hC d_Label_applyChains_31 (by decide) (by omega) (by omega) (fun h31 => ?_) (fun h31 => ?_)
      · exact hk89 ch Si  _ _ _ (by
            rw [xb_sE (by omega)] at hch
            exact hch) ho (by
            rw [xb_sE (by omega)] at hx
            exact hx) hZ (lv_sub hl [0, 1, 2, 3, 4] rfl)
      · have hri := (hBi.2.2.2.2 8 (by omega)).2.2.1 i (by omega)
        have hrR := hri.2.1
        have hrr := hBi.2.2.2.1 _ hri.2.1
        have hok := hB.2.2.1 _ hri.2.1
        have h5 := hok.2.2.2.2.1
        have hth : mx_th rl o lf rt (xb_s rl R o lf rt sz nb 8 (mp_C rl R o lf rt rn) i).1 (nb 8 i) = (rl (nb 8 i)).2.2.2.2 + (xb_s rl R o lf rt sz nb 8 (mp_C rl R o lf rt rn) i).1 (rl (nb 8 i)).2.2.1 := mx_th_ch hri.2.2.1
        refine lv_aload_n hx_ hb_ d_Label_applyChains_34 rfl (lv_at hl 1 rfl) ?_
        refine zz_get hC hK hZ 1 5 (Nat.le_of_ble_eq_true rfl) (xc_1 q _ _) rfl hin_Book (by decide) wd_68 rfl rfl d_Label_applyChains_35 ?_
        refine lv_bipush (v := nI 8) hx_ hb_ d_Label_applyChains_38 (by decide) ?_
        refine zz_aald (q := (9 + 8)) hC hK hZ 7 3 8 (Nat.le_of_ble_eq_true rfl) (xc_7 q _ _) rfl rfl rfl (by omega) (by decide) rfl d_Label_applyChains_40 ?_
        refine lv_iload hx_ hb_ d_Label_applyChains_41 (lv_at hl 5 rfl) ?_
        refine zz_iald hC hK hZ (9 + 8) 0 i (by show _ < 291; omega) (xy_row q 8 (by omega) _ _) rfl rfl (by omega) (by decide) rfl d_Label_applyChains_43 ?_
        refine zz_topi (y := nI (nb 8 i)) hri.1 ?_
        refine lv_istore (i := 6) (lv' := [(6, .int (nI (nb 8 i))), (0, .ref (zz_ad (xg_G q) (42 + 3 * j))), (1, .ref (zz_ad (xg_G q) 1)), (2, .int (nI (sz 8))), (3, .int (nI ch)), (4, .int (nI rn)), (5, .int (nI i))]) hx_ hb_ d_Label_applyChains_44 hl (by decide) rfl (fun ls hl => ?_)
        refine lv_aload_n hx_ hb_ d_Label_applyChains_46 rfl (lv_at hl 2 rfl) ?_
        refine zz_get hC hK hZ 1 2 (Nat.le_of_ble_eq_true rfl) (xc_1 q _ _) rfl hin_Book (by decide) wd_60 rfl rfl d_Label_applyChains_47 ?_
        refine lv_iload hx_ hb_ d_Label_applyChains_50 (lv_at hl 0 rfl) ?_
        refine zz_iald hC hK hZ 4 0 (nb 8 i) (Nat.le_of_ble_eq_true rfl) (xc_4 q _ _) rfl rfl (by omega) (by decide) rfl d_Label_applyChains_52 ?_
        refine zz_topi (y := nI ((rl (nb 8 i)).2.2.1)) hrr.2.2.1 ?_
        refine lv_istore (i := 7) (lv' := [(7, .int (nI ((rl (nb 8 i)).2.2.1))), (6, .int (nI (nb 8 i))), (0, .ref (zz_ad (xg_G q) (42 + 3 * j))), (1, .ref (zz_ad (xg_G q) 1)), (2, .int (nI (sz 8))), (3, .int (nI ch)), (4, .int (nI rn)), (5, .int (nI i))]) hx_ hb_ d_Label_applyChains_53 hl (by decide) rfl (fun ls hl => ?_)
        refine lv_aload_n hx_ hb_ d_Label_applyChains_55 rfl (lv_at hl 2 rfl) ?_
        refine lv_iload hx_ hb_ d_Label_applyChains_56 (lv_at hl 0 rfl) ?_
        refine zz_ci (zz_rV (As := [.int (nI ((rl (nb 8 i)).2.2.1))]) (rest := []) hC hK hZ (42 + 3 * j) (c_Label_isCovered l q Si j _ ((xb_s rl R o lf rt sz nb 8 (mp_C rl R o lf rt rn) i).1 (rl (nb 8 i)).2.2.1) hj hok.2.2.1 (hx _ hok.2.2.1).1) k_Label_isCovered (by show _ < 291; omega) (xy_lab q j _ _) rfl wd_303 ⟨rfl, rfl, by decide, by decide⟩ rfl hl.1 rfl (Nat.le_of_ble_eq_true rfl) d_Label_applyChains_58 ⟨Nat.zero_le _, Nat.zero_le _⟩) hZ (fun r58 S58 H locs hp58 hZ => ?_)
        obtain ⟨rfl, rfl⟩ := hp58
        refine zz_beq (tgt := 83) hC d_Label_applyChains_61 (by decide) (fun h61 => ?_) (fun h61 => ?_)
        · have e1 := xb_s_no (o := o) (lf := lf) (rt := rt) (s0 := (mp_C rl R o lf rt rn)) hBi (by omega) h31 (fun hc => by
            have h9 := hc.1
            rw [hth] at h9
            omega)
          refine lv_iinc (k := 7) (v := nI (i + 1)) (lv' := [(5, .int (nI (i + 1))), (7, .int (nI ((rl (nb 8 i)).2.2.1))), (6, .int (nI (nb 8 i))), (0, .ref (zz_ad (xg_G q) (42 + 3 * j))), (1, .ref (zz_ad (xg_G q) 1)), (2, .int (nI (sz 8))), (3, .int (nI ch)), (4, .int (nI rn))]) hx_ hb_ d_Label_applyChains_83 hl rfl (nI_add _ 1) (by decide) rfl (fun ls hl => ?_)
          refine lv_goto (tgt := 28) hx_ hb_ d_Label_applyChains_86 (by decide) ?_
          exact ih_ _ (by omega) rn (i + 1) ch Si hk89 _ _ _ hrn (by omega) (by rw [e1]; exact hch) ho (by rw [e1]; exact hx) hZ (lv_sub hl [3, 4, 5, 6, 7, 0] rfl) rfl
        · have hbd := xb_sB (o := o) (s0 := (mp_C rl R o lf rt rn)) hBi hlM hrM (xb_bndC hB.2.2.1 hR hlM hrM rn) (by omega) (o' := 8) (by omega) i _ hok.2.2.1 h61
          have hT : (xb_s rl R o lf rt sz nb 8 (mp_C rl R o lf rt rn) i).1 (rl (nb 8 i)).2.2.1 + (rl (nb 8 i)).2.2.2.2 < mx_far := by omega
          have hlb := xb_lab hR hI hx hok.1
          rw [Nat.add_comm] at hth
          refine lv_aload_n hx_ hb_ d_Label_applyChains_64 rfl (lv_at hl 2 rfl) ?_
          refine lv_aload_n hx_ hb_ d_Label_applyChains_65 rfl (lv_at hl 3 rfl) ?_
          refine lv_iload hx_ hb_ d_Label_applyChains_66 (lv_at hl 1 rfl) ?_
          refine lv_aload_n hx_ hb_ d_Label_applyChains_68 rfl (lv_at hl 2 rfl) ?_
          refine zz_get hC hK hZ (42 + 3 * j) 0 (by show _ < 291; omega) (xy_lab q j _ _) rfl hin_Label (by decide) wd_104 rfl rfl d_Label_applyChains_69 ?_
          refine lv_iload hx_ hb_ d_Label_applyChains_72 (lv_at hl 0 rfl) ?_
          refine zz_lald hC hK hZ (42 + 3 * j + 1) 1 ((rl (nb 8 i)).2.2.1) (by show _ < 291; omega) (xy_cost q j _ _) rfl rfl (by omega) (by decide) rfl d_Label_applyChains_74 ?_
          refine zz_topl (y := lN ((xb_s rl R o lf rt sz nb 8 (mp_C rl R o lf rt rn) i).1 (rl (nb 8 i)).2.2.1)) ((hx _ hok.2.2.1).1.trans (vw_c_in h61)) ?_
          refine zz_ci (zz_rV (As := [.ref (zz_ad (xg_G q) 1), .int (nI (nb 8 i)), .long (lN ((xb_s rl R o lf rt sz nb 8 (mp_C rl R o lf rt rn) i).1 (rl (nb 8 i)).2.2.1))]) (rest := []) hC hK hZ (42 + 3 * j) (c_Label_offer l q Si j (nb 8 i) ((xb_s rl R o lf rt sz nb 8 (mp_C rl R o lf rt rn) i).1 (rl (nb 8 i)).2.2.1) (rl (nb 8 i)).1 (rl (nb 8 i)).2.2.2.2 ((xb_s rl R o lf rt sz nb 8 (mp_C rl R o lf rt rn) i).1 (rl (nb 8 i)).1) ((xb_s rl R o lf rt sz nb 8 (mp_C rl R o lf rt rn) i).2 (rl (nb 8 i)).1) hj (by omega) hok.1 h5 hrr.1 hrr.2.2.2.2 hT hlb.1 hlb.2) k_Label_offer (by show _ < 291; omega) (xy_lab q j _ _) rfl wd_307 ⟨rfl, rfl, by decide, by decide⟩ rfl hl.1 rfl (Nat.le_of_ble_eq_true rfl) d_Label_applyChains_75 ⟨Nat.zero_le _, Nat.zero_le _⟩) hZ (fun r75 S75 H locs hp75 hZ => ?_)
          obtain ⟨rfl, hS75⟩ := hp75
          refine zz_beq (tgt := 83) hC d_Label_applyChains_78 (by decide) (fun h78 => ?_) (fun h78 => ?_)
          · have e1 := xb_s_no (o := o) (lf := lf) (rt := rt) (s0 := (mp_C rl R o lf rt rn)) hBi (by omega) h31 (fun hc => h78 (by
              have h9 := hc.2
              rw [hth] at h9
              exact h9))
            refine lv_iinc (k := 7) (v := nI (i + 1)) (lv' := [(5, .int (nI (i + 1))), (7, .int (nI ((rl (nb 8 i)).2.2.1))), (6, .int (nI (nb 8 i))), (0, .ref (zz_ad (xg_G q) (42 + 3 * j))), (1, .ref (zz_ad (xg_G q) 1)), (2, .int (nI (sz 8))), (3, .int (nI ch)), (4, .int (nI rn))]) hx_ hb_ d_Label_applyChains_83 hl rfl (nI_add _ 1) (by decide) rfl (fun ls hl => ?_)
            refine lv_goto (tgt := 28) hx_ hb_ d_Label_applyChains_86 (by decide) ?_
            exact ih_ _ (by omega) rn (i + 1) ch S75 hk89 _ _ _ hrn (by omega) (by rw [e1]; exact hch) (by rw [hS75, if_neg h78]; exact ho) (by rw [e1, hS75, if_neg h78]; exact hx) hZ (lv_sub hl [3, 4, 5, 6, 7, 0] rfl) rfl
          · have e2 := xb_s_yes (o := o) (lf := lf) (rt := rt) (s0 := (mp_C rl R o lf rt rn)) hBi (by omega) h31 ⟨by rw [hth]; exact hT, by rw [hth]; exact h78⟩
            rw [mp_st, hth] at e2
            refine lv_iconst (v := nI 1) hx_ hb_ d_Label_applyChains_81 (by decide) ?_
            refine lv_istore_n (i := 3) (lv' := [(3, .int (nI 1)), (7, .int (nI ((rl (nb 8 i)).2.2.1))), (6, .int (nI (nb 8 i))), (0, .ref (zz_ad (xg_G q) (42 + 3 * j))), (1, .ref (zz_ad (xg_G q) 1)), (2, .int (nI (sz 8))), (4, .int (nI rn)), (5, .int (nI i))]) hx_ hb_ d_Label_applyChains_82 rfl hl (by decide) rfl (fun ls hl => ?_)
            refine lv_iinc (k := 7) (v := nI (i + 1)) (lv' := [(5, .int (nI (i + 1))), (3, .int (nI 1)), (7, .int (nI ((rl (nb 8 i)).2.2.1))), (6, .int (nI (nb 8 i))), (0, .ref (zz_ad (xg_G q) (42 + 3 * j))), (1, .ref (zz_ad (xg_G q) 1)), (2, .int (nI (sz 8))), (4, .int (nI rn))]) hx_ hb_ d_Label_applyChains_83 hl rfl (nI_add _ 1) (by decide) rfl (fun ls hl => ?_)
            refine lv_goto (tgt := 28) hx_ hb_ d_Label_applyChains_86 (by decide) ?_
            exact ih_ _ (by omega) rn (i + 1) 1 S75 hk89 _ _ _ hrn (by omega) (Or.inl rfl) (by rw [hS75, if_pos h78]; exact zz_off_tr ho xl_set_off) (by rw [e2, hS75, if_pos h78]; exact xl_ok_set hx hT (by omega)) hZ (lv_sub hl [4, 5, 6, 1, 7, 0] rfl) rfl
  have L28 : ∀ (rn : Nat) (i : Nat) (ch : Nat) (Si : zz_S) (hk89 : ∀ (ch : Nat) (Si : zz_S) (H : Heap) (locs : List Loc) (ls : Array Slot) (hch : ch = 1 ∨ (ch = 0 ∧ (mp_C rl R o lf rt (rn + 1)) = (mp_C rl R o lf rt rn))) (ho : zz_off (xl_X j) S Si) (hx : xl_ok Si j (mp_C rl R o lf rt (rn + 1)).1 (mp_C rl R o lf rt (rn + 1)).2) (hZ : zz_Z (xg_G q) Si s_.heap H locs) (hl : lv_has ls 8 [(0, .ref (zz_ad (xg_G q) (42 + 3 * j))), (1, .ref (zz_ad (xg_G q) 1)), (2, .int (nI (sz 8))), (3, .int (nI ch)), (4, .int (nI rn))]), W p_ l e_ rm_Label_applyChains s_ m_ ([.ref (zz_ad (xg_G q) (42 + 3 * j)), .ref (zz_ad (xg_G q) 1)] : List Value).toArray bl_ mt_ c_ H locs 0 0 (MQ bl_ (va_Qv (fun S1 => zz_off (xl_X j) S S1 ∧ xl_ok S1 j (mp_C rl R o lf rt 3).1 (mp_C rl R o lf rt 3).2) (zz_P (xg_G q)) (zz_A (xg_G q))) ([.ref (zz_ad (xg_G q) (42 + 3 * j)), .ref (zz_ad (xg_G q) 1)] : List Value).toArray s_ 0 0 (zz_A (xg_G q))) (F0 m_ 89 ls [])) (H : Heap) (locs : List Loc) (ls : Array Slot) (hrn : rn < 3) (hi : i ≤ sz 8) (hch : ch = 1 ∨ (ch = 0 ∧ (xb_s rl R o lf rt sz nb 8 (mp_C rl R o lf rt rn) i) = (mp_C rl R o lf rt rn))) (ho : zz_off (xl_X j) S Si) (hx : xl_ok Si j (xb_s rl R o lf rt sz nb 8 (mp_C rl R o lf rt rn) i).1 (xb_s rl R o lf rt sz nb 8 (mp_C rl R o lf rt rn) i).2) (hZ : zz_Z (xg_G q) Si s_.heap H locs) (hl : lv_has ls 8 [(0, .ref (zz_ad (xg_G q) (42 + 3 * j))), (1, .ref (zz_ad (xg_G q) 1)), (2, .int (nI (sz 8))), (3, .int (nI ch)), (4, .int (nI rn)), (5, .int (nI i))]), W p_ l e_ rm_Label_applyChains s_ m_ ([.ref (zz_ad (xg_G q) (42 + 3 * j)), .ref (zz_ad (xg_G q) 1)] : List Value).toArray bl_ mt_ c_ H locs 0 0 (MQ bl_ (va_Qv (fun S1 => zz_off (xl_X j) S S1 ∧ xl_ok S1 j (mp_C rl R o lf rt 3).1 (mp_C rl R o lf rt 3).2) (zz_P (xg_G q)) (zz_A (xg_G q))) ([.ref (zz_ad (xg_G q) (42 + 3 * j)), .ref (zz_ad (xg_G q) 1)] : List Value).toArray s_ 0 0 (zz_A (xg_G q))) (F0 m_ 28 ls []) := fun rn i ch Si hk89 H locs ls hrn hi hch ho hx hZ hl => L28_ _ rn i ch Si hk89 H locs ls hrn hi hch ho hx hZ hl rfl
  have L13_ : ∀ (n_ : Nat) (rn : Nat) (ch : Nat) (Si : zz_S) (H : Heap) (locs : List Loc) (ls : Array Slot) (hrn : rn ≤ 3) (hch : ch = 1 ∨ (ch = 0 ∧ (mp_C rl R o lf rt rn) = (mp_C rl R o lf rt 3))) (ho : zz_off (xl_X j) S Si) (hx : xl_ok Si j (mp_C rl R o lf rt rn).1 (mp_C rl R o lf rt rn).2) (hZ : zz_Z (xg_G q) Si s_.heap H locs) (hl : lv_has ls 8 [(0, .ref (zz_ad (xg_G q) (42 + 3 * j))), (1, .ref (zz_ad (xg_G q) 1)), (2, .int (nI (sz 8))), (3, .int (nI ch)), (4, .int (nI rn))]) (hn_ : 3 - rn = n_), W p_ l e_ rm_Label_applyChains s_ m_ ([.ref (zz_ad (xg_G q) (42 + 3 * j)), .ref (zz_ad (xg_G q) 1)] : List Value).toArray bl_ mt_ c_ H locs 0 0 (MQ bl_ (va_Qv (fun S1 => zz_off (xl_X j) S S1 ∧ xl_ok S1 j (mp_C rl R o lf rt 3).1 (mp_C rl R o lf rt 3).2) (zz_P (xg_G q)) (zz_A (xg_G q))) ([.ref (zz_ad (xg_G q) (42 + 3 * j)), .ref (zz_ad (xg_G q) 1)] : List Value).toArray s_ 0 0 (zz_A (xg_G q))) (F0 m_ 13 ls []) := by
    intro n_
    induction n_ using Nat.strongRecOn with
    | ind n_ ih_ =>
      intro rn ch Si H locs ls hrn hch ho hx hZ hl hn_
      have hBi := xb_off hB ho
      have hch2 : ch < 2 := by omega
      refine lv_iload hx_ hb_ d_Label_applyChains_13 (lv_at hl 4 rfl) ?_
      refine lv_iconst (v := nI 3) hx_ hb_ d_Label_applyChains_15 (by decide) ?_
      refine zz_jge (tgt := 95) hC d_Label_applyChains_16 (by decide) (by omega) (by omega) (fun h16 => ?_) (fun h16 => ?_)
      · exact zz_vret hC hK hZ rfl d_Label_applyChains_95 ⟨ho, by
          have e : (mp_C rl R o lf rt rn) = (mp_C rl R o lf rt 3) := by
            first | (rw [show rn = 3 by omega]; done) | (exact hch.elim (fun h => absurd h (by omega)) (fun h => h.2))
          rw [← e]
          exact hx⟩
      · refine lv_iload_n hx_ hb_ d_Label_applyChains_19 rfl (lv_at hl 3 rfl) ?_
        refine zz_ieq (tgt := 95) hC d_Label_applyChains_20 (by decide) (by omega) (fun h20 => ?_) (fun h20 => ?_)
        · exact zz_vret hC hK hZ rfl d_Label_applyChains_95 ⟨ho, by
            have e : (mp_C rl R o lf rt rn) = (mp_C rl R o lf rt 3) := by
              first | (rw [show rn = 3 by omega]; done) | (exact hch.elim (fun h => absurd h (by omega)) (fun h => h.2))
            rw [← e]
            exact hx⟩
        · refine lv_iconst (v := nI 0) hx_ hb_ d_Label_applyChains_23 (by decide) ?_
          refine lv_istore_n (i := 3) (lv' := [(3, .int (nI 0)), (0, .ref (zz_ad (xg_G q) (42 + 3 * j))), (1, .ref (zz_ad (xg_G q) 1)), (2, .int (nI (sz 8))), (4, .int (nI rn))]) hx_ hb_ d_Label_applyChains_24 rfl hl (by decide) rfl (fun ls hl => ?_)
          refine lv_iconst (v := nI 0) hx_ hb_ d_Label_applyChains_25 (by decide) ?_
          refine lv_istore (i := 5) (lv' := [(5, .int (nI 0)), (3, .int (nI 0)), (0, .ref (zz_ad (xg_G q) (42 + 3 * j))), (1, .ref (zz_ad (xg_G q) 1)), (2, .int (nI (sz 8))), (4, .int (nI rn))]) hx_ hb_ d_Label_applyChains_26 hl (by decide) rfl (fun ls hl => ?_)
          refine L28 rn 0 0 Si ?_ _ _ _ (by omega) (Nat.zero_le _) (Or.inr ⟨rfl, xb_s0 hBi (by omega)⟩) ho (by rw [xb_s0 hBi (by omega)]; exact hx) hZ (lv_sub hl [2, 3, 4, 1, 5, 0] rfl)
          · intro ch Si H locs ls hch ho hx hZ hl
            refine lv_iinc (k := 4) (v := nI (rn + 1)) (lv' := [(4, .int (nI (rn + 1))), (0, .ref (zz_ad (xg_G q) (42 + 3 * j))), (1, .ref (zz_ad (xg_G q) 1)), (2, .int (nI (sz 8))), (3, .int (nI ch))]) hx_ hb_ d_Label_applyChains_89 hl rfl (nI_add _ 1) (by decide) rfl (fun ls hl => ?_)
            refine lv_goto (tgt := 13) hx_ hb_ d_Label_applyChains_92 (by decide) ?_
            exact ih_ _ (by omega) (rn + 1) ch Si  _ _ _ (by omega) (by
                rcases hch with h | h
                · exact Or.inl h
                · refine Or.inr ⟨h.1, ?_⟩
                  have e := mp_C_same h.2 (3 - rn)
                  rw [show rn + (3 - rn) = 3 by omega] at e
                  rw [h.2, e]) ho hx hZ (lv_sub hl [1, 2, 3, 4, 0] rfl) rfl
  have L13 : ∀ (rn : Nat) (ch : Nat) (Si : zz_S) (H : Heap) (locs : List Loc) (ls : Array Slot) (hrn : rn ≤ 3) (hch : ch = 1 ∨ (ch = 0 ∧ (mp_C rl R o lf rt rn) = (mp_C rl R o lf rt 3))) (ho : zz_off (xl_X j) S Si) (hx : xl_ok Si j (mp_C rl R o lf rt rn).1 (mp_C rl R o lf rt rn).2) (hZ : zz_Z (xg_G q) Si s_.heap H locs) (hl : lv_has ls 8 [(0, .ref (zz_ad (xg_G q) (42 + 3 * j))), (1, .ref (zz_ad (xg_G q) 1)), (2, .int (nI (sz 8))), (3, .int (nI ch)), (4, .int (nI rn))]), W p_ l e_ rm_Label_applyChains s_ m_ ([.ref (zz_ad (xg_G q) (42 + 3 * j)), .ref (zz_ad (xg_G q) 1)] : List Value).toArray bl_ mt_ c_ H locs 0 0 (MQ bl_ (va_Qv (fun S1 => zz_off (xl_X j) S S1 ∧ xl_ok S1 j (mp_C rl R o lf rt 3).1 (mp_C rl R o lf rt 3).2) (zz_P (xg_G q)) (zz_A (xg_G q))) ([.ref (zz_ad (xg_G q) (42 + 3 * j)), .ref (zz_ad (xg_G q) 1)] : List Value).toArray s_ 0 0 (zz_A (xg_G q))) (F0 m_ 13 ls []) := fun rn ch Si H locs ls hrn hch ho hx hZ hl => L13_ _ rn ch Si H locs ls hrn hch ho hx hZ hl rfl
  refine lv_aload_n hx_ hb_ d_Label_applyChains_0 rfl (lv_at hl 1 rfl) ?_
  refine zz_get hC hK hZ 1 6 (Nat.le_of_ble_eq_true rfl) (xc_1 q _ _) rfl hin_Book (by decide) wd_70 rfl rfl d_Label_applyChains_1 ?_
  refine lv_bipush (v := nI 8) hx_ hb_ d_Label_applyChains_4 (by decide) ?_
  refine zz_iald hC hK hZ 8 0 8 (Nat.le_of_ble_eq_true rfl) (xc_8 q _ _) rfl rfl (by omega) (by decide) rfl d_Label_applyChains_6 ?_
  refine zz_topi (y := nI (sz 8)) (hB.2.2.2.2 8 (by omega)).1 ?_
  refine lv_istore_n (i := 2) (lv' := [(2, .int (nI (sz 8))), (0, .ref (zz_ad (xg_G q) (42 + 3 * j))), (1, .ref (zz_ad (xg_G q) 1))]) hx_ hb_ d_Label_applyChains_7 rfl hl (by decide) rfl (fun ls hl => ?_)
  refine lv_iconst (v := nI 1) hx_ hb_ d_Label_applyChains_8 (by decide) ?_
  refine lv_istore_n (i := 3) (lv' := [(3, .int (nI 1)), (2, .int (nI (sz 8))), (0, .ref (zz_ad (xg_G q) (42 + 3 * j))), (1, .ref (zz_ad (xg_G q) 1))]) hx_ hb_ d_Label_applyChains_9 rfl hl (by decide) rfl (fun ls hl => ?_)
  refine lv_iconst (v := nI 0) hx_ hb_ d_Label_applyChains_10 (by decide) ?_
  refine lv_istore (i := 4) (lv' := [(4, .int (nI 0)), (3, .int (nI 1)), (2, .int (nI (sz 8))), (0, .ref (zz_ad (xg_G q) (42 + 3 * j))), (1, .ref (zz_ad (xg_G q) 1))]) hx_ hb_ d_Label_applyChains_11 hl (by decide) rfl (fun ls hl => ?_)
  exact L13 0 1 S  _ _ _ (by omega) (Or.inl rfl) zz_off_rf hx0 hZ (lv_sub hl [3, 4, 2, 1, 0] rfl)
set_option maxHeartbeats 4000000 in
set_option maxRecDepth 100000 in
theorem c_Label_derive (l : Launch) (q : xg_T) (S : zz_S) (j o jl jr : Nat) (hj : j ≤ 82) (ho8 : o < 8) (hjl : jl ≤ 82) (hjr : jr ≤ 82) (hnl : jl ≠ j) (hnr : jr ≠ j) (rl : mx_R) (R : Nat) (sz : Nat → Nat) (nb : Nat → Nat → Nat) (hB : xb_ok S rl R sz nb) (lf rt : Nat → Nat) (M : Nat) (hM : M ≤ 281474976710656) (hlM : ∀ k, k < 4 → lf k < mx_far → lf k ≤ M) (hrM : ∀ k, k < 4 → rt k < mx_far → rt k ≤ M) (hlf : ∀ k, k < 4 → S.2 (42 + 3 * jl + 1) k = vw_c (lf k)) (hrt : ∀ k, k < 4 → S.2 (42 + 3 * jr + 1) k = vw_c (rt k)) (hz0 : zz_kd o = 0 → ∀ k, k < 4 → lf k = 0) (hz1 : zz_kd o < 2 → ∀ k, k < 4 → rt k = 0) : Met l y_Label_derive (Cond.code y_Label_derive b_Label_derive 10 none :: zz_tbl) rm_Label_derive (zz_Pc [.ref (zz_ad (xg_G q) (42 + 3 * j)), .ref (zz_ad (xg_G q) 1), .int (nI o), .ref (zz_ad (xg_G q) (42 + 3 * jl)), .ref (zz_ad (xg_G q) (42 + 3 * jr))] (xg_G q) S) (va_Qv (fun S1 => zz_off (xl_X j) S S1 ∧ xl_ok S1 j (mp_C rl R o lf rt 3).1 (mp_C rl R o lf rt 3).2) (zz_P (xg_G q)) (zz_A (xg_G q))) 0 0 (zz_A (xg_G q)) := by
  refine zz_met (by decide) (Nat.le_of_ble_eq_true rfl) ?_
  intro p_ e_ s_ m_ bl_ mt_ c_ ls hC hK hZ hl
  have hC : zz_C p_ s_ m_ _ mt_ c_ b_Label_derive 10 none "TreeCoverForge$Label" := hC
  have hx_ := hC.1
  have hb_ := hC.2.1
  have hl : lv_has ls 10 [(0, .ref (zz_ad (xg_G q) (42 + 3 * j))), (1, .ref (zz_ad (xg_G q) 1)), (2, .int (nI o)), (3, .ref (zz_ad (xg_G q) (42 + 3 * jl))), (4, .ref (zz_ad (xg_G q) (42 + 3 * jr)))] := hl
  have hfar := vw_far
  have hR := hB.2.1
  have L30_ : ∀ (n_ : Nat) (i : Nat) (Si : zz_S) (H : Heap) (locs : List Loc) (ls : Array Slot) (hi : i ≤ sz o) (ho : zz_off (xl_X j) S Si) (hx : xl_ok Si j (xb_s rl R o lf rt sz nb o mp_s0 i).1 (xb_s rl R o lf rt sz nb o mp_s0 i).2) (hZ : zz_Z (xg_G q) Si s_.heap H locs) (hl : lv_has ls 10 [(0, .ref (zz_ad (xg_G q) (42 + 3 * j))), (1, .ref (zz_ad (xg_G q) 1)), (2, .int (nI o)), (3, .ref (zz_ad (xg_G q) (42 + 3 * jl))), (4, .ref (zz_ad (xg_G q) (42 + 3 * jr))), (5, .int (nI (sz o))), (6, .int (nI i))]) (hn_ : sz o - i = n_), W p_ l e_ rm_Label_derive s_ m_ ([.ref (zz_ad (xg_G q) (42 + 3 * j)), .ref (zz_ad (xg_G q) 1), .int (nI o), .ref (zz_ad (xg_G q) (42 + 3 * jl)), .ref (zz_ad (xg_G q) (42 + 3 * jr))] : List Value).toArray bl_ mt_ c_ H locs 0 0 (MQ bl_ (va_Qv (fun S1 => zz_off (xl_X j) S S1 ∧ xl_ok S1 j (mp_C rl R o lf rt 3).1 (mp_C rl R o lf rt 3).2) (zz_P (xg_G q)) (zz_A (xg_G q))) ([.ref (zz_ad (xg_G q) (42 + 3 * j)), .ref (zz_ad (xg_G q) 1), .int (nI o), .ref (zz_ad (xg_G q) (42 + 3 * jl)), .ref (zz_ad (xg_G q) (42 + 3 * jr))] : List Value).toArray s_ 0 0 (zz_A (xg_G q))) (F0 m_ 30 ls []) := by
    intro n_
    induction n_ using Nat.strongRecOn with
    | ind n_ ih_ =>
      intro i Si H locs ls hi ho hx hZ hl hn_
      have hBi := xb_off hB ho
      have hs8 := (hB.2.2.2.2 o (by omega)).2.1
      have hI := xb_sI (o' := o) hBi (xb_I0 rl R o lf rt) (by omega) i
      have hlf1 : ∀ k, k < 4 → Si.2 (42 + 3 * jl + 1) k = vw_c (lf k) := fun k hk => by
        rw [(ho (42 + 3 * jl + 1) (fun h => by rcases h with h | h <;> omega)).2]
        exact hlf k hk
      have hrt1 : ∀ k, k < 4 → Si.2 (42 + 3 * jr + 1) k = vw_c (rt k) := fun k hk => by
        rw [(ho (42 + 3 * jr + 1) (fun h => by rcases h with h | h <;> omega)).2]
        exact hrt k hk
      refine lv_iload hx_ hb_ d_Label_derive_30 (lv_at hl 6 rfl) ?_
      refine lv_iload hx_ hb_ d_Label_derive_32 (lv_at hl 5 rfl) ?_
      refine zz_jge (tgt := 115) hC d_Label_derive_34 (by decide) (by omega) (by omega) (fun h34 => ?_) (fun h34 => ?_)
      · refine lv_aload_n hx_ hb_ d_Label_derive_115 rfl (lv_at hl 0 rfl) ?_
        refine lv_aload_n hx_ hb_ d_Label_derive_116 rfl (lv_at hl 1 rfl) ?_
        refine zz_cv (zz_rV (As := [.ref (zz_ad (xg_G q) 1)]) (rest := []) hC hK hZ (42 + 3 * j) (c_Label_applyChains l q Si j o hj rl R sz nb hBi lf rt M hM hlM hrM (by
          rw [xb_sE (by omega)] at hx
          exact hx)) k_Label_applyChains (by show _ < 291; omega) (xy_lab q j _ _) rfl wd_311 ⟨rfl, rfl, by decide, by decide⟩ rfl hl.1 rfl (Nat.le_of_ble_eq_true rfl) d_Label_derive_117 ⟨Nat.zero_le _, Nat.zero_le _⟩) hZ (fun S117 H locs hp117 hZ => ?_)
        exact zz_vret hC hK hZ rfl d_Label_derive_120 ⟨zz_off_tr ho hp117.1, hp117.2⟩
      · have hri := (hBi.2.2.2.2 o (by omega)).2.2.1 i (by omega)
        have hrR := hri.2.1
        have hrr := hBi.2.2.2.1 _ hri.2.1
        have hok := hB.2.2.1 _ hri.2.1
        have h5 := hok.2.2.2.2.1
        have hz2 : zz_kd o = 0 → lf (rl (nb o i)).2.2.1 = 0 := fun h => hz0 h _ hok.2.2.1
        have hz3 : zz_kd o < 2 → rt (rl (nb o i)).2.2.2.1 = 0 := fun h => hz1 h _ hok.2.2.2.1
        refine lv_aload_n hx_ hb_ d_Label_derive_37 rfl (lv_at hl 1 rfl) ?_
        refine zz_get hC hK hZ 1 5 (Nat.le_of_ble_eq_true rfl) (xc_1 q _ _) rfl hin_Book (by decide) wd_68 rfl rfl d_Label_derive_38 ?_
        refine lv_iload_n hx_ hb_ d_Label_derive_41 rfl (lv_at hl 2 rfl) ?_
        refine zz_aald (q := (9 + o)) hC hK hZ 7 3 o (Nat.le_of_ble_eq_true rfl) (xc_7 q _ _) rfl rfl rfl (by omega) (by decide) rfl d_Label_derive_42 ?_
        refine lv_iload hx_ hb_ d_Label_derive_43 (lv_at hl 6 rfl) ?_
        refine zz_iald hC hK hZ (9 + o) 0 i (by show _ < 291; omega) (xy_row q o (by omega) _ _) rfl rfl (by omega) (by decide) rfl d_Label_derive_45 ?_
        refine zz_topi (y := nI (nb o i)) hri.1 ?_
        refine lv_istore (i := 7) (lv' := [(7, .int (nI (nb o i))), (0, .ref (zz_ad (xg_G q) (42 + 3 * j))), (1, .ref (zz_ad (xg_G q) 1)), (2, .int (nI o)), (3, .ref (zz_ad (xg_G q) (42 + 3 * jl))), (4, .ref (zz_ad (xg_G q) (42 + 3 * jr))), (5, .int (nI (sz o))), (6, .int (nI i))]) hx_ hb_ d_Label_derive_46 hl (by decide) rfl (fun ls hl => ?_)
        refine lv_aload_n hx_ hb_ d_Label_derive_48 rfl (lv_at hl 2 rfl) ?_
        refine zz_get hC hK hZ 1 2 (Nat.le_of_ble_eq_true rfl) (xc_1 q _ _) rfl hin_Book (by decide) wd_60 rfl rfl d_Label_derive_49 ?_
        refine lv_iload hx_ hb_ d_Label_derive_52 (lv_at hl 0 rfl) ?_
        refine zz_iald hC hK hZ 4 0 (nb o i) (Nat.le_of_ble_eq_true rfl) (xc_4 q _ _) rfl rfl (by omega) (by decide) rfl d_Label_derive_54 ?_
        refine zz_topi (y := nI ((rl (nb o i)).2.2.1)) hrr.2.2.1 ?_
        refine lv_istore (i := 8) (lv' := [(8, .int (nI ((rl (nb o i)).2.2.1))), (7, .int (nI (nb o i))), (0, .ref (zz_ad (xg_G q) (42 + 3 * j))), (1, .ref (zz_ad (xg_G q) 1)), (2, .int (nI o)), (3, .ref (zz_ad (xg_G q) (42 + 3 * jl))), (4, .ref (zz_ad (xg_G q) (42 + 3 * jr))), (5, .int (nI (sz o))), (6, .int (nI i))]) hx_ hb_ d_Label_derive_55 hl (by decide) rfl (fun ls hl => ?_)
        refine lv_aload_n hx_ hb_ d_Label_derive_57 rfl (lv_at hl 3 rfl) ?_
        refine zz_get hC hK hZ 1 3 (Nat.le_of_ble_eq_true rfl) (xc_1 q _ _) rfl hin_Book (by decide) wd_63 rfl rfl d_Label_derive_58 ?_
        refine lv_iload hx_ hb_ d_Label_derive_61 (lv_at hl 1 rfl) ?_
        refine zz_iald hC hK hZ 5 0 (nb o i) (Nat.le_of_ble_eq_true rfl) (xc_5 q _ _) rfl rfl (by omega) (by decide) rfl d_Label_derive_63 ?_
        refine zz_topi (y := nI ((rl (nb o i)).2.2.2.1)) hrr.2.2.2.1 ?_
        refine lv_istore (i := 9) (lv' := [(9, .int (nI ((rl (nb o i)).2.2.2.1))), (8, .int (nI ((rl (nb o i)).2.2.1))), (7, .int (nI (nb o i))), (0, .ref (zz_ad (xg_G q) (42 + 3 * j))), (1, .ref (zz_ad (xg_G q) 1)), (2, .int (nI o)), (3, .ref (zz_ad (xg_G q) (42 + 3 * jl))), (4, .ref (zz_ad (xg_G q) (42 + 3 * jr))), (5, .int (nI (sz o))), (6, .int (nI i))]) hx_ hb_ d_Label_derive_64 hl (by decide) rfl (fun ls hl => ?_)
        refine lv_aload_n hx_ hb_ d_Label_derive_66 rfl (lv_at hl 6 rfl) ?_
        refine lv_iload hx_ hb_ d_Label_derive_67 (lv_at hl 1 rfl) ?_
        refine zz_ci (zz_rV (As := [.int (nI ((rl (nb o i)).2.2.1))]) (rest := []) hC hK hZ (42 + 3 * jl) (c_Label_isCovered l q Si jl _ (lf (rl (nb o i)).2.2.1) hjl hok.2.2.1 (hlf1 _ hok.2.2.1)) k_Label_isCovered (by show _ < 291; omega) (xy_lab q jl _ _) rfl wd_303 ⟨rfl, rfl, by decide, by decide⟩ rfl hl.1 rfl (Nat.le_of_ble_eq_true rfl) d_Label_derive_69 ⟨Nat.zero_le _, Nat.zero_le _⟩) hZ (fun r69 S69 H locs hp69 hZ => ?_)
        obtain ⟨rfl, rfl⟩ := hp69
        refine zz_beq (tgt := 109) hC d_Label_derive_72 (by decide) (fun h72 => ?_) (fun h72 => ?_)
        · have e1 := xb_s_no (o := o) (lf := lf) (rt := rt) (s0 := mp_s0) hBi (by omega) h34 (fun hc => by
            have h9 := hc.1
            have hkd := tr_kd o
            rw [mx_th, if_neg (by omega), if_pos hri.2.2.1] at h9
            split at h9 <;> split at h9 <;> omega)
          refine lv_iinc (k := 9) (v := nI (i + 1)) (lv' := [(6, .int (nI (i + 1))), (9, .int (nI ((rl (nb o i)).2.2.2.1))), (8, .int (nI ((rl (nb o i)).2.2.1))), (7, .int (nI (nb o i))), (0, .ref (zz_ad (xg_G q) (42 + 3 * j))), (1, .ref (zz_ad (xg_G q) 1)), (2, .int (nI o)), (3, .ref (zz_ad (xg_G q) (42 + 3 * jl))), (4, .ref (zz_ad (xg_G q) (42 + 3 * jr))), (5, .int (nI (sz o)))]) hx_ hb_ d_Label_derive_109 hl rfl (nI_add _ 1) (by decide) rfl (fun ls hl => ?_)
          refine lv_goto (tgt := 30) hx_ hb_ d_Label_derive_112 (by decide) ?_
          exact ih_ _ (by omega) (i + 1) Si  _ _ _ (by omega) ho (by rw [e1]; exact hx) hZ (lv_sub hl [4, 5, 6, 7, 8, 9, 0] rfl) rfl
        · refine lv_aload hx_ hb_ d_Label_derive_75 (lv_at hl 7 rfl) ?_
          refine lv_iload hx_ hb_ d_Label_derive_77 (lv_at hl 0 rfl) ?_
          refine zz_ci (zz_rV (As := [.int (nI ((rl (nb o i)).2.2.2.1))]) (rest := []) hC hK hZ (42 + 3 * jr) (c_Label_isCovered l q Si jr _ (rt (rl (nb o i)).2.2.2.1) hjr hok.2.2.2.1 (hrt1 _ hok.2.2.2.1)) k_Label_isCovered (by show _ < 291; omega) (xy_lab q jr _ _) rfl wd_303 ⟨rfl, rfl, by decide, by decide⟩ rfl hl.1 rfl (Nat.le_of_ble_eq_true rfl) d_Label_derive_79 ⟨Nat.zero_le _, Nat.zero_le _⟩) hZ (fun r79 S79 H locs hp79 hZ => ?_)
          obtain ⟨rfl, rfl⟩ := hp79
          refine zz_beq (tgt := 109) hC d_Label_derive_82 (by decide) (fun h82 => ?_) (fun h82 => ?_)
          · have e1 := xb_s_no (o := o) (lf := lf) (rt := rt) (s0 := mp_s0) hBi (by omega) h34 (fun hc => by
              have h9 := hc.1
              have hkd := tr_kd o
              rw [mx_th, if_neg (by omega), if_pos hri.2.2.1] at h9
              split at h9 <;> split at h9 <;> omega)
            refine lv_iinc (k := 9) (v := nI (i + 1)) (lv' := [(6, .int (nI (i + 1))), (9, .int (nI ((rl (nb o i)).2.2.2.1))), (8, .int (nI ((rl (nb o i)).2.2.1))), (7, .int (nI (nb o i))), (0, .ref (zz_ad (xg_G q) (42 + 3 * j))), (1, .ref (zz_ad (xg_G q) 1)), (2, .int (nI o)), (3, .ref (zz_ad (xg_G q) (42 + 3 * jl))), (4, .ref (zz_ad (xg_G q) (42 + 3 * jr))), (5, .int (nI (sz o)))]) hx_ hb_ d_Label_derive_109 hl rfl (nI_add _ 1) (by decide) rfl (fun ls hl => ?_)
            refine lv_goto (tgt := 30) hx_ hb_ d_Label_derive_112 (by decide) ?_
            exact ih_ _ (by omega) (i + 1) Si  _ _ _ (by omega) ho (by rw [e1]; exact hx) hZ (lv_sub hl [4, 5, 6, 7, 8, 9, 0] rfl) rfl
          · have hl9 := hlM _ hok.2.2.1 h72
            have hr9 := hrM _ hok.2.2.2.1 h82
            have hT : lf (rl (nb o i)).2.2.1 + rt (rl (nb o i)).2.2.2.1 + (rl (nb o i)).2.2.2.2 < mx_far := by omega
            have hth : mx_th rl o lf rt (xb_s rl R o lf rt sz nb o mp_s0 i).1 (nb o i) = lf (rl (nb o i)).2.2.1 + rt (rl (nb o i)).2.2.2.1 + (rl (nb o i)).2.2.2.2 := by
              have hkd := tr_kd o
              rw [mx_th, if_neg (by omega), if_pos hri.2.2.1]
              split <;> split <;> omega
            have hlb := xb_lab hR hI hx hok.1
            refine lv_aload_n hx_ hb_ d_Label_derive_85 rfl (lv_at hl 3 rfl) ?_
            refine lv_aload_n hx_ hb_ d_Label_derive_86 rfl (lv_at hl 4 rfl) ?_
            refine lv_iload hx_ hb_ d_Label_derive_87 (lv_at hl 2 rfl) ?_
            refine lv_aload_n hx_ hb_ d_Label_derive_89 rfl (lv_at hl 6 rfl) ?_
            refine zz_get hC hK hZ (42 + 3 * jl) 0 (by show _ < 291; omega) (xy_lab q jl _ _) rfl hin_Label (by decide) wd_104 rfl rfl d_Label_derive_90 ?_
            refine lv_iload hx_ hb_ d_Label_derive_93 (lv_at hl 1 rfl) ?_
            refine zz_lald hC hK hZ (42 + 3 * jl + 1) 1 ((rl (nb o i)).2.2.1) (by show _ < 291; omega) (xy_cost q jl _ _) rfl rfl (by omega) (by decide) rfl d_Label_derive_95 ?_
            refine zz_topl (y := lN (lf (rl (nb o i)).2.2.1)) ((hlf1 _ hok.2.2.1).trans (vw_c_in h72)) ?_
            refine lv_aload hx_ hb_ d_Label_derive_96 (lv_at hl 7 rfl) ?_
            refine zz_get hC hK hZ (42 + 3 * jr) 0 (by show _ < 291; omega) (xy_lab q jr _ _) rfl hin_Label (by decide) wd_104 rfl rfl d_Label_derive_98 ?_
            refine lv_iload hx_ hb_ d_Label_derive_101 (lv_at hl 0 rfl) ?_
            refine zz_lald hC hK hZ (42 + 3 * jr + 1) 1 ((rl (nb o i)).2.2.2.1) (by show _ < 291; omega) (xy_cost q jr _ _) rfl rfl (by omega) (by decide) rfl d_Label_derive_103 ?_
            refine zz_topl (y := lN (rt (rl (nb o i)).2.2.2.1)) ((hrt1 _ hok.2.2.2.1).trans (vw_c_in h82)) ?_
            refine lv_ladd hx_ hb_ d_Label_derive_104 ?_
            refine zz_topl (y := lN (lf (rl (nb o i)).2.2.1 + (rt (rl (nb o i)).2.2.2.1))) (lN_add _ _) ?_
            refine zz_ci (zz_rV (As := [.ref (zz_ad (xg_G q) 1), .int (nI (nb o i)), .long (lN (lf (rl (nb o i)).2.2.1 + (rt (rl (nb o i)).2.2.2.1)))]) (rest := []) hC hK hZ (42 + 3 * j) (c_Label_offer l q Si j (nb o i) (lf (rl (nb o i)).2.2.1 + rt (rl (nb o i)).2.2.2.1) (rl (nb o i)).1 (rl (nb o i)).2.2.2.2 ((xb_s rl R o lf rt sz nb o mp_s0 i).1 (rl (nb o i)).1) ((xb_s rl R o lf rt sz nb o mp_s0 i).2 (rl (nb o i)).1) hj (by omega) hok.1 h5 hrr.1 hrr.2.2.2.2 hT hlb.1 hlb.2) k_Label_offer (by show _ < 291; omega) (xy_lab q j _ _) rfl wd_307 ⟨rfl, rfl, by decide, by decide⟩ rfl hl.1 rfl (Nat.le_of_ble_eq_true rfl) d_Label_derive_105 ⟨Nat.zero_le _, Nat.zero_le _⟩) hZ (fun r105 S105 H locs hp105 hZ => ?_)
            obtain ⟨-, hS105⟩ := hp105
            refine lv_pop hx_ hb_ d_Label_derive_108 rfl ?_
            refine lv_iinc (k := 9) (v := nI (i + 1)) (lv' := [(6, .int (nI (i + 1))), (9, .int (nI ((rl (nb o i)).2.2.2.1))), (8, .int (nI ((rl (nb o i)).2.2.1))), (7, .int (nI (nb o i))), (0, .ref (zz_ad (xg_G q) (42 + 3 * j))), (1, .ref (zz_ad (xg_G q) 1)), (2, .int (nI o)), (3, .ref (zz_ad (xg_G q) (42 + 3 * jl))), (4, .ref (zz_ad (xg_G q) (42 + 3 * jr))), (5, .int (nI (sz o)))]) hx_ hb_ d_Label_derive_109 hl rfl (nI_add _ 1) (by decide) rfl (fun ls hl => ?_)
            refine lv_goto (tgt := 30) hx_ hb_ d_Label_derive_112 (by decide) ?_
            exact ih_ _ (by omega) (i + 1) S105  _ _ _ (by omega) (by
              rw [hS105]
              split
              · exact zz_off_tr ho xl_set_off
              · exact ho) (by
              by_cases hc : (lf (rl (nb o i)).2.2.1 + rt (rl (nb o i)).2.2.2.1 + (rl (nb o i)).2.2.2.2 < (xb_s rl R o lf rt sz nb o mp_s0 i).1 (rl (nb o i)).1 ∨ lf (rl (nb o i)).2.2.1 + rt (rl (nb o i)).2.2.2.1 + (rl (nb o i)).2.2.2.2 = (xb_s rl R o lf rt sz nb o mp_s0 i).1 (rl (nb o i)).1 ∧ (nb o i) < (xb_s rl R o lf rt sz nb o mp_s0 i).2 (rl (nb o i)).1)
              · have e2 := xb_s_yes (o := o) (lf := lf) (rt := rt) (s0 := mp_s0) hBi (by omega) h34 ⟨by rw [hth]; exact hT, by rw [hth]; exact hc⟩
                rw [mp_st, hth] at e2
                rw [e2, hS105, if_pos hc]
                exact xl_ok_set hx hT (by omega)
              · have e1 := xb_s_no (o := o) (lf := lf) (rt := rt) (s0 := mp_s0) hBi (by omega) h34 (fun h => hc (by
                  have h9 := h.2
                  rw [hth] at h9
                  exact h9))
                rw [e1, hS105, if_neg hc]
                exact hx) hZ (lv_sub hl [4, 5, 6, 7, 8, 9, 0] rfl) rfl
  have L30 : ∀ (i : Nat) (Si : zz_S) (H : Heap) (locs : List Loc) (ls : Array Slot) (hi : i ≤ sz o) (ho : zz_off (xl_X j) S Si) (hx : xl_ok Si j (xb_s rl R o lf rt sz nb o mp_s0 i).1 (xb_s rl R o lf rt sz nb o mp_s0 i).2) (hZ : zz_Z (xg_G q) Si s_.heap H locs) (hl : lv_has ls 10 [(0, .ref (zz_ad (xg_G q) (42 + 3 * j))), (1, .ref (zz_ad (xg_G q) 1)), (2, .int (nI o)), (3, .ref (zz_ad (xg_G q) (42 + 3 * jl))), (4, .ref (zz_ad (xg_G q) (42 + 3 * jr))), (5, .int (nI (sz o))), (6, .int (nI i))]), W p_ l e_ rm_Label_derive s_ m_ ([.ref (zz_ad (xg_G q) (42 + 3 * j)), .ref (zz_ad (xg_G q) 1), .int (nI o), .ref (zz_ad (xg_G q) (42 + 3 * jl)), .ref (zz_ad (xg_G q) (42 + 3 * jr))] : List Value).toArray bl_ mt_ c_ H locs 0 0 (MQ bl_ (va_Qv (fun S1 => zz_off (xl_X j) S S1 ∧ xl_ok S1 j (mp_C rl R o lf rt 3).1 (mp_C rl R o lf rt 3).2) (zz_P (xg_G q)) (zz_A (xg_G q))) ([.ref (zz_ad (xg_G q) (42 + 3 * j)), .ref (zz_ad (xg_G q) 1), .int (nI o), .ref (zz_ad (xg_G q) (42 + 3 * jl)), .ref (zz_ad (xg_G q) (42 + 3 * jr))] : List Value).toArray s_ 0 0 (zz_A (xg_G q))) (F0 m_ 30 ls []) := fun i Si H locs ls hi ho hx hZ hl => L30_ _ i Si H locs ls hi ho hx hZ hl rfl
  refine lv_aload_n hx_ hb_ d_Label_derive_0 rfl (lv_at hl 0 rfl) ?_
  refine zz_get hC hK hZ (42 + 3 * j) 0 (by show _ < 291; omega) (xy_lab q j _ _) rfl hin_Label (by decide) wd_104 rfl rfl d_Label_derive_1 ?_
  refine lv_ldc2 (v := (-1)) hx_ hb_ hC.2.2.2.1 (hC.2.2.2.2.1 _ wd_298) d_Label_derive_4 ?_
  refine zz_cv (zz_rS (As := [.ref (zz_ad (xg_G q) (42 + 3 * j + 1)), .long ((-1))]) (rest := []) hC hK hZ (c_fillL l q S j hj (-1)) k_Arrays_fillJ wd_299 ⟨rfl, rfl, by decide, by decide⟩ rfl hl.1 rfl (Nat.le_of_ble_eq_true rfl) d_Label_derive_7 ⟨Nat.zero_le _, Nat.zero_le _⟩) hZ (fun S7 H locs hp7 hZ => ?_)
  refine lv_aload_n hx_ hb_ d_Label_derive_10 rfl (lv_at hl 0 rfl) ?_
  refine zz_get hC hK hZ (42 + 3 * j) 1 (by show _ < 291; omega) (xy_lab q j _ _) rfl hin_Label (by decide) wd_106 rfl rfl d_Label_derive_11 ?_
  refine lv_bipush (v := (-3)) hx_ hb_ d_Label_derive_14 (by decide) ?_
  refine zz_cv (zz_rS (As := [.ref (zz_ad (xg_G q) (42 + 3 * j + 2)), .int ((-3))]) (rest := []) hC hK hZ (c_fillC l q S7 j hj (-3)) k_Arrays_fillI wd_302 ⟨rfl, rfl, by decide, by decide⟩ rfl hl.1 rfl (Nat.le_of_ble_eq_true rfl) d_Label_derive_16 ⟨Nat.zero_le _, Nat.zero_le _⟩) hZ (fun S16 H locs hp16 hZ => ?_)
  have hoff16 : zz_off (xl_X j) S S16 := zz_off_tr (zz_off_mono hp7.1 (fun c h => Or.inl h)) (zz_off_mono hp16.1 (fun c h => Or.inr h))
  have hB16 := xb_off hB hoff16
  have hx16 : xl_ok S16 j mp_s0.1 mp_s0.2 := fun k hk => ⟨by rw [(hp16.1 (42 + 3 * j + 1) (by omega)).2, hp7.2 k hk]; exact (vw_c_out (Nat.lt_irrefl _)).symm, by rw [hp16.2 k hk]; rfl⟩
  refine lv_aload_n hx_ hb_ d_Label_derive_19 rfl (lv_at hl 1 rfl) ?_
  refine zz_get hC hK hZ 1 6 (Nat.le_of_ble_eq_true rfl) (xc_1 q _ _) rfl hin_Book (by decide) wd_70 rfl rfl d_Label_derive_20 ?_
  refine lv_iload_n hx_ hb_ d_Label_derive_23 rfl (lv_at hl 2 rfl) ?_
  refine zz_iald hC hK hZ 8 0 o (Nat.le_of_ble_eq_true rfl) (xc_8 q _ _) rfl rfl (by omega) (by decide) rfl d_Label_derive_24 ?_
  refine zz_topi (y := nI (sz o)) (hB16.2.2.2.2 o (by omega)).1 ?_
  refine lv_istore (i := 5) (lv' := [(5, .int (nI (sz o))), (0, .ref (zz_ad (xg_G q) (42 + 3 * j))), (1, .ref (zz_ad (xg_G q) 1)), (2, .int (nI o)), (3, .ref (zz_ad (xg_G q) (42 + 3 * jl))), (4, .ref (zz_ad (xg_G q) (42 + 3 * jr)))]) hx_ hb_ d_Label_derive_25 hl (by decide) rfl (fun ls hl => ?_)
  refine lv_iconst (v := nI 0) hx_ hb_ d_Label_derive_27 (by decide) ?_
  refine lv_istore (i := 6) (lv' := [(6, .int (nI 0)), (5, .int (nI (sz o))), (0, .ref (zz_ad (xg_G q) (42 + 3 * j))), (1, .ref (zz_ad (xg_G q) 1)), (2, .int (nI o)), (3, .ref (zz_ad (xg_G q) (42 + 3 * jl))), (4, .ref (zz_ad (xg_G q) (42 + 3 * jr)))]) hx_ hb_ d_Label_derive_28 hl (by decide) rfl (fun ls hl => ?_)
  exact L30 0 S16  _ _ _ (Nat.zero_le _) hoff16 (by rw [xb_s0 hB16 (by omega)]; exact hx16) hZ (lv_sub hl [2, 3, 4, 5, 6, 1, 0] rfl)
