/-! The class's small questions. Laid by wip/whole/prog/p1.py. -/
set_option maxHeartbeats 4000000 in
set_option maxRecDepth 100000 in
theorem c_Forge_isKind (l : Launch) (q : xg_T) (S : zz_S) (x : Int32) : Met l y_Forge_isKind (Cond.code y_Forge_isKind b_Forge_isKind 1 (some .boolean) :: zz_tbl) rm_Forge_isKind (zz_Pc [.int x] (xg_G q) S) (va_Qi (fun ans S1 => S = S1 ∧ ans = nI (if 0 ≤ x.toInt ∧ x.toInt < 4 then 1 else 0)) (zz_P (xg_G q)) (zz_A (xg_G q))) 0 0 (zz_A (xg_G q)) := by
  refine zz_met (by decide) (Nat.le_of_ble_eq_true rfl) ?_
  intro p_ e_ s_ m_ bl_ mt_ c_ ls hC hK hZ hl
  have hC : zz_C p_ s_ m_ _ mt_ c_ b_Forge_isKind 1 (some .boolean) "TreeCoverForge" := hC
  have hx_ := hC.1
  have hb_ := hC.2.1
  have hl : lv_has ls 1 [(0, .int x)] := hl
  refine lv_iload_n hx_ hb_ d_Forge_isKind_0 rfl (lv_at hl 0 rfl) ?_
  refine zz_rilt (tgt := 13) hC d_Forge_isKind_1 (by decide) (fun h1 => ?_) (fun h1 => ?_)
  · refine lv_iconst (v := nI 0) hx_ hb_ d_Forge_isKind_13 (by decide) ?_
    exact zz_zret hC hK hZ rfl d_Forge_isKind_14 (by decide) ⟨rfl, by rw [if_neg (by omega)]⟩
  · refine lv_iload_n hx_ hb_ d_Forge_isKind_4 rfl (lv_at hl 0 rfl) ?_
    refine lv_iconst (v := nI 4) hx_ hb_ d_Forge_isKind_5 (by decide) ?_
    refine zz_rjge (tgt := 13) hC d_Forge_isKind_6 (by decide) (fun h6 => ?_) (fun h6 => ?_)
    · rw [nI_toInt (by omega)] at h6
      refine lv_iconst (v := nI 0) hx_ hb_ d_Forge_isKind_13 (by decide) ?_
      exact zz_zret hC hK hZ rfl d_Forge_isKind_14 (by decide) ⟨rfl, by rw [if_neg (by omega)]⟩
    · rw [nI_toInt (by omega)] at h6
      refine lv_iconst (v := nI 1) hx_ hb_ d_Forge_isKind_9 (by decide) ?_
      refine lv_goto (tgt := 14) hx_ hb_ d_Forge_isKind_10 (by decide) ?_
      exact zz_zret hC hK hZ rfl d_Forge_isKind_14 (by decide) ⟨rfl, by rw [if_pos (by omega)]⟩
set_option maxHeartbeats 4000000 in
set_option maxRecDepth 100000 in
theorem c_Forge_isVariable (l : Launch) (q : xg_T) (S : zz_S) (x : Int32) : Met l y_Forge_isVariable (Cond.code y_Forge_isVariable b_Forge_isVariable 1 (some .boolean) :: zz_tbl) rm_Forge_isVariable (zz_Pc [.int x] (xg_G q) S) (va_Qi (fun ans S1 => S = S1 ∧ ans = nI (if 0 ≤ x.toInt ∧ x.toInt < 8 then 1 else 0)) (zz_P (xg_G q)) (zz_A (xg_G q))) 0 0 (zz_A (xg_G q)) := by
  refine zz_met (by decide) (Nat.le_of_ble_eq_true rfl) ?_
  intro p_ e_ s_ m_ bl_ mt_ c_ ls hC hK hZ hl
  have hC : zz_C p_ s_ m_ _ mt_ c_ b_Forge_isVariable 1 (some .boolean) "TreeCoverForge" := hC
  have hx_ := hC.1
  have hb_ := hC.2.1
  have hl : lv_has ls 1 [(0, .int x)] := hl
  refine lv_iload_n hx_ hb_ d_Forge_isVariable_0 rfl (lv_at hl 0 rfl) ?_
  refine zz_rilt (tgt := 14) hC d_Forge_isVariable_1 (by decide) (fun h1 => ?_) (fun h1 => ?_)
  · refine lv_iconst (v := nI 0) hx_ hb_ d_Forge_isVariable_14 (by decide) ?_
    exact zz_zret hC hK hZ rfl d_Forge_isVariable_15 (by decide) ⟨rfl, by rw [if_neg (by omega)]⟩
  · refine lv_iload_n hx_ hb_ d_Forge_isVariable_4 rfl (lv_at hl 0 rfl) ?_
    refine lv_bipush (v := nI 8) hx_ hb_ d_Forge_isVariable_5 (by decide) ?_
    refine zz_rjge (tgt := 14) hC d_Forge_isVariable_7 (by decide) (fun h7 => ?_) (fun h7 => ?_)
    · rw [nI_toInt (by omega)] at h7
      refine lv_iconst (v := nI 0) hx_ hb_ d_Forge_isVariable_14 (by decide) ?_
      exact zz_zret hC hK hZ rfl d_Forge_isVariable_15 (by decide) ⟨rfl, by rw [if_neg (by omega)]⟩
    · rw [nI_toInt (by omega)] at h7
      refine lv_iconst (v := nI 1) hx_ hb_ d_Forge_isVariable_10 (by decide) ?_
      refine lv_goto (tgt := 15) hx_ hb_ d_Forge_isVariable_11 (by decide) ?_
      exact zz_zret hC hK hZ rfl d_Forge_isVariable_15 (by decide) ⟨rfl, by rw [if_pos (by omega)]⟩
set_option maxHeartbeats 4000000 in
set_option maxRecDepth 100000 in
theorem c_Forge_isNumberFor (l : Launch) (q : xg_T) (S : zz_S) (o : Nat) (v : Int32) (ho : o < 8) : Met l y_Forge_isNumberFor (Cond.code y_Forge_isNumberFor b_Forge_isNumberFor 2 (some .boolean) :: zz_tbl) rm_Forge_isNumberFor (zz_Pc [.int (nI o), .int v] (xg_G q) S) (va_Qi (fun ans S1 => S = S1 ∧ ans = nI (if (o = 1 ∨ o = 2) → 0 ≤ v.toInt ∧ v.toInt < 8 then 1 else 0)) (zz_P (xg_G q)) (zz_A (xg_G q))) 0 0 (zz_A (xg_G q)) := by
  refine zz_met (by decide) (Nat.le_of_ble_eq_true rfl) ?_
  intro p_ e_ s_ m_ bl_ mt_ c_ ls hC hK hZ hl
  have hC : zz_C p_ s_ m_ _ mt_ c_ b_Forge_isNumberFor 2 (some .boolean) "TreeCoverForge" := hC
  have hx_ := hC.1
  have hb_ := hC.2.1
  have hl : lv_has ls 2 [(0, .int (nI o)), (1, .int v)] := hl
  refine lv_iload_n hx_ hb_ d_Forge_isNumberFor_0 rfl (lv_at hl 0 rfl) ?_
  refine lv_iconst (v := nI 1) hx_ hb_ d_Forge_isNumberFor_1 (by decide) ?_
  refine zz_jeq (tgt := 10) hC d_Forge_isNumberFor_2 (by decide) (by omega) (by omega) (fun h2 => ?_) (fun h2 => ?_)
  · refine lv_iload_n hx_ hb_ d_Forge_isNumberFor_10 rfl (lv_at hl 1 rfl) ?_
    refine zz_ci (zz_rS (As := [.int v]) (rest := []) hC hK hZ (c_Forge_isVariable l q S v) k_Forge_isVariable wd_338 ⟨rfl, rfl, by decide, by decide⟩ rfl hl.1 rfl (Nat.le_of_ble_eq_true rfl) d_Forge_isNumberFor_11 ⟨Nat.zero_le _, Nat.zero_le _⟩) hZ (fun r11 S11 H locs hp11 hZ => ?_)
    obtain ⟨rfl, rfl⟩ := hp11
    refine zz_beq (tgt := 21) hC d_Forge_isNumberFor_14 (by decide) (fun h14 => ?_) (fun h14 => ?_)
    · refine lv_iconst (v := nI 0) hx_ hb_ d_Forge_isNumberFor_21 (by decide) ?_
      exact zz_zret hC hK hZ rfl d_Forge_isNumberFor_22 (by decide) ⟨rfl, by rw [if_neg (by omega)]⟩
    · refine lv_iconst (v := nI 1) hx_ hb_ d_Forge_isNumberFor_17 (by decide) ?_
      refine lv_goto (tgt := 22) hx_ hb_ d_Forge_isNumberFor_18 (by decide) ?_
      exact zz_zret hC hK hZ rfl d_Forge_isNumberFor_22 (by decide) ⟨rfl, by rw [if_pos (by omega)]⟩
  · refine lv_iload_n hx_ hb_ d_Forge_isNumberFor_5 rfl (lv_at hl 0 rfl) ?_
    refine lv_iconst (v := nI 2) hx_ hb_ d_Forge_isNumberFor_6 (by decide) ?_
    refine zz_jne (tgt := 17) hC d_Forge_isNumberFor_7 (by decide) (by omega) (by omega) (fun h7 => ?_) (fun h7 => ?_)
    · refine lv_iconst (v := nI 1) hx_ hb_ d_Forge_isNumberFor_17 (by decide) ?_
      refine lv_goto (tgt := 22) hx_ hb_ d_Forge_isNumberFor_18 (by decide) ?_
      exact zz_zret hC hK hZ rfl d_Forge_isNumberFor_22 (by decide) ⟨rfl, by rw [if_pos (by omega)]⟩
    · refine lv_iload_n hx_ hb_ d_Forge_isNumberFor_10 rfl (lv_at hl 1 rfl) ?_
      refine zz_ci (zz_rS (As := [.int v]) (rest := []) hC hK hZ (c_Forge_isVariable l q S v) k_Forge_isVariable wd_338 ⟨rfl, rfl, by decide, by decide⟩ rfl hl.1 rfl (Nat.le_of_ble_eq_true rfl) d_Forge_isNumberFor_11 ⟨Nat.zero_le _, Nat.zero_le _⟩) hZ (fun r11 S11 H locs hp11 hZ => ?_)
      obtain ⟨rfl, rfl⟩ := hp11
      refine zz_beq (tgt := 21) hC d_Forge_isNumberFor_14 (by decide) (fun h14 => ?_) (fun h14 => ?_)
      · refine lv_iconst (v := nI 0) hx_ hb_ d_Forge_isNumberFor_21 (by decide) ?_
        exact zz_zret hC hK hZ rfl d_Forge_isNumberFor_22 (by decide) ⟨rfl, by rw [if_neg (by omega)]⟩
      · refine lv_iconst (v := nI 1) hx_ hb_ d_Forge_isNumberFor_17 (by decide) ?_
        refine lv_goto (tgt := 22) hx_ hb_ d_Forge_isNumberFor_18 (by decide) ?_
        exact zz_zret hC hK hZ rfl d_Forge_isNumberFor_22 (by decide) ⟨rfl, by rw [if_pos (by omega)]⟩
set_option maxHeartbeats 4000000 in
set_option maxRecDepth 100000 in
theorem c_Forge_fitsOperator (l : Launch) (q : xg_T) (S : zz_S) (k : Int32) (o : Nat) (a b : Int32) (ho : o ≤ 8) : Met l y_Forge_fitsOperator (Cond.code y_Forge_fitsOperator b_Forge_fitsOperator 4 (some .boolean) :: zz_tbl) rm_Forge_fitsOperator (zz_Pc [.int k, .int (nI o), .int a, .int b] (xg_G q) S) (va_Qi (fun ans S1 => S = S1 ∧ ans = nI (if (o = 8 ∧ a.toInt ≠ k.toInt ∧ b.toInt = 0) ∨ (o ≠ 8 ∧ (1 ≤ zz_kd o ∨ a.toInt = 0) ∧ (zz_kd o = 2 ∨ b.toInt = 0)) then 1 else 0)) (zz_P (xg_G q)) (zz_A (xg_G q))) 0 0 (zz_A (xg_G q)) := by
  refine zz_met (by decide) (Nat.le_of_ble_eq_true rfl) ?_
  intro p_ e_ s_ m_ bl_ mt_ c_ ls hC hK hZ hl
  have hC : zz_C p_ s_ m_ _ mt_ c_ b_Forge_fitsOperator 4 (some .boolean) "TreeCoverForge" := hC
  have hx_ := hC.1
  have hb_ := hC.2.1
  have hl : lv_has ls 4 [(0, .int k), (1, .int (nI o)), (2, .int a), (3, .int b)] := hl
  have hkd := tr_kd o
  refine lv_iload_n hx_ hb_ d_Forge_fitsOperator_0 rfl (lv_at hl 1 rfl) ?_
  refine lv_bipush (v := nI 8) hx_ hb_ d_Forge_fitsOperator_1 (by decide) ?_
  refine zz_jne (tgt := 21) hC d_Forge_fitsOperator_3 (by decide) (by omega) (by omega) (fun h3 => ?_) (fun h3 => ?_)
  · refine zz_gars (ref := "") hC hK hZ wd_258 d_Forge_fitsOperator_21 ?_
    refine lv_iload_n hx_ hb_ d_Forge_fitsOperator_24 rfl (lv_at hl 1 rfl) ?_
    refine zz_ari hC hK hZ o rfl (by omega) d_Forge_fitsOperator_25 ?_
    refine lv_iconst (v := nI 1) hx_ hb_ d_Forge_fitsOperator_26 (by decide) ?_
    refine zz_jge (tgt := 34) hC d_Forge_fitsOperator_27 (by decide) (by omega) (by omega) (fun h27 => ?_) (fun h27 => ?_)
    · refine zz_gars (ref := "") hC hK hZ wd_258 d_Forge_fitsOperator_34 ?_
      refine lv_iload_n hx_ hb_ d_Forge_fitsOperator_37 rfl (lv_at hl 1 rfl) ?_
      refine zz_ari hC hK hZ o rfl (by omega) d_Forge_fitsOperator_38 ?_
      refine lv_iconst (v := nI 2) hx_ hb_ d_Forge_fitsOperator_39 (by decide) ?_
      refine zz_jeq (tgt := 47) hC d_Forge_fitsOperator_40 (by decide) (by omega) (by omega) (fun h40 => ?_) (fun h40 => ?_)
      · refine lv_iconst (v := nI 1) hx_ hb_ d_Forge_fitsOperator_47 (by decide) ?_
        refine lv_goto (tgt := 52) hx_ hb_ d_Forge_fitsOperator_48 (by decide) ?_
        exact zz_zret hC hK hZ rfl d_Forge_fitsOperator_52 (by decide) ⟨rfl, by rw [if_pos (by omega)]⟩
      · refine lv_iload_n hx_ hb_ d_Forge_fitsOperator_43 rfl (lv_at hl 3 rfl) ?_
        refine zz_rine (tgt := 51) hC d_Forge_fitsOperator_44 (by decide) (fun h44 => ?_) (fun h44 => ?_)
        · refine lv_iconst (v := nI 0) hx_ hb_ d_Forge_fitsOperator_51 (by decide) ?_
          exact zz_zret hC hK hZ rfl d_Forge_fitsOperator_52 (by decide) ⟨rfl, by rw [if_neg (by omega)]⟩
        · refine lv_iconst (v := nI 1) hx_ hb_ d_Forge_fitsOperator_47 (by decide) ?_
          refine lv_goto (tgt := 52) hx_ hb_ d_Forge_fitsOperator_48 (by decide) ?_
          exact zz_zret hC hK hZ rfl d_Forge_fitsOperator_52 (by decide) ⟨rfl, by rw [if_pos (by omega)]⟩
    · refine lv_iload_n hx_ hb_ d_Forge_fitsOperator_30 rfl (lv_at hl 2 rfl) ?_
      refine zz_rine (tgt := 51) hC d_Forge_fitsOperator_31 (by decide) (fun h31 => ?_) (fun h31 => ?_)
      · refine lv_iconst (v := nI 0) hx_ hb_ d_Forge_fitsOperator_51 (by decide) ?_
        exact zz_zret hC hK hZ rfl d_Forge_fitsOperator_52 (by decide) ⟨rfl, by rw [if_neg (by omega)]⟩
      · refine zz_gars (ref := "") hC hK hZ wd_258 d_Forge_fitsOperator_34 ?_
        refine lv_iload_n hx_ hb_ d_Forge_fitsOperator_37 rfl (lv_at hl 1 rfl) ?_
        refine zz_ari hC hK hZ o rfl (by omega) d_Forge_fitsOperator_38 ?_
        refine lv_iconst (v := nI 2) hx_ hb_ d_Forge_fitsOperator_39 (by decide) ?_
        refine zz_jeq (tgt := 47) hC d_Forge_fitsOperator_40 (by decide) (by omega) (by omega) (fun h40 => ?_) (fun h40 => ?_)
        · refine lv_iconst (v := nI 1) hx_ hb_ d_Forge_fitsOperator_47 (by decide) ?_
          refine lv_goto (tgt := 52) hx_ hb_ d_Forge_fitsOperator_48 (by decide) ?_
          exact zz_zret hC hK hZ rfl d_Forge_fitsOperator_52 (by decide) ⟨rfl, by rw [if_pos (by omega)]⟩
        · refine lv_iload_n hx_ hb_ d_Forge_fitsOperator_43 rfl (lv_at hl 3 rfl) ?_
          refine zz_rine (tgt := 51) hC d_Forge_fitsOperator_44 (by decide) (fun h44 => ?_) (fun h44 => ?_)
          · refine lv_iconst (v := nI 0) hx_ hb_ d_Forge_fitsOperator_51 (by decide) ?_
            exact zz_zret hC hK hZ rfl d_Forge_fitsOperator_52 (by decide) ⟨rfl, by rw [if_neg (by omega)]⟩
          · refine lv_iconst (v := nI 1) hx_ hb_ d_Forge_fitsOperator_47 (by decide) ?_
            refine lv_goto (tgt := 52) hx_ hb_ d_Forge_fitsOperator_48 (by decide) ?_
            exact zz_zret hC hK hZ rfl d_Forge_fitsOperator_52 (by decide) ⟨rfl, by rw [if_pos (by omega)]⟩
  · refine lv_iload_n hx_ hb_ d_Forge_fitsOperator_6 rfl (lv_at hl 2 rfl) ?_
    refine lv_iload_n hx_ hb_ d_Forge_fitsOperator_7 rfl (lv_at hl 0 rfl) ?_
    refine zz_rjeq (tgt := 19) hC d_Forge_fitsOperator_8 (by decide) (fun h8 => ?_) (fun h8 => ?_)
    · refine lv_iconst (v := nI 0) hx_ hb_ d_Forge_fitsOperator_19 (by decide) ?_
      exact zz_zret hC hK hZ rfl d_Forge_fitsOperator_20 (by decide) ⟨rfl, by rw [if_neg (by omega)]⟩
    · refine lv_iload_n hx_ hb_ d_Forge_fitsOperator_11 rfl (lv_at hl 3 rfl) ?_
      refine zz_rine (tgt := 19) hC d_Forge_fitsOperator_12 (by decide) (fun h12 => ?_) (fun h12 => ?_)
      · refine lv_iconst (v := nI 0) hx_ hb_ d_Forge_fitsOperator_19 (by decide) ?_
        exact zz_zret hC hK hZ rfl d_Forge_fitsOperator_20 (by decide) ⟨rfl, by rw [if_neg (by omega)]⟩
      · refine lv_iconst (v := nI 1) hx_ hb_ d_Forge_fitsOperator_15 (by decide) ?_
        refine lv_goto (tgt := 20) hx_ hb_ d_Forge_fitsOperator_16 (by decide) ?_
        exact zz_zret hC hK hZ rfl d_Forge_fitsOperator_20 (by decide) ⟨rfl, by rw [if_pos (by omega)]⟩
set_option maxHeartbeats 4000000 in
set_option maxRecDepth 100000 in
theorem c_Forge_isCostFor (l : Launch) (q : xg_T) (S : zz_S) (o : Nat) (k : Int32) (ho : o ≤ 8) : Met l y_Forge_isCostFor (Cond.code y_Forge_isCostFor b_Forge_isCostFor 2 (some .boolean) :: zz_tbl) rm_Forge_isCostFor (zz_Pc [.int (nI o), .int k] (xg_G q) S) (va_Qi (fun ans S1 => S = S1 ∧ ans = nI (if ((o = 8 ∧ 1 ≤ k.toInt) ∨ (o ≠ 8 ∧ 0 ≤ k.toInt)) ∧ k.toInt ≤ 9 then 1 else 0)) (zz_P (xg_G q)) (zz_A (xg_G q))) 0 0 (zz_A (xg_G q)) := by
  refine zz_met (by decide) (Nat.le_of_ble_eq_true rfl) ?_
  intro p_ e_ s_ m_ bl_ mt_ c_ ls hC hK hZ hl
  have hC : zz_C p_ s_ m_ _ mt_ c_ b_Forge_isCostFor 2 (some .boolean) "TreeCoverForge" := hC
  have hx_ := hC.1
  have hb_ := hC.2.1
  have hl : lv_has ls 2 [(0, .int (nI o)), (1, .int k)] := hl
  refine lv_iload_n hx_ hb_ d_Forge_isCostFor_0 rfl (lv_at hl 1 rfl) ?_
  refine lv_iload_n hx_ hb_ d_Forge_isCostFor_1 rfl (lv_at hl 0 rfl) ?_
  refine lv_bipush (v := nI 8) hx_ hb_ d_Forge_isCostFor_2 (by decide) ?_
  refine zz_jne (tgt := 11) hC d_Forge_isCostFor_4 (by decide) (by omega) (by omega) (fun h4 => ?_) (fun h4 => ?_)
  · refine lv_iconst (v := nI 0) hx_ hb_ d_Forge_isCostFor_11 (by decide) ?_
    refine zz_rjlt (tgt := 25) hC d_Forge_isCostFor_12 (by decide) (fun h12 => ?_) (fun h12 => ?_)
    · rw [nI_toInt (by omega)] at h12
      refine lv_iconst (v := nI 0) hx_ hb_ d_Forge_isCostFor_25 (by decide) ?_
      exact zz_zret hC hK hZ rfl d_Forge_isCostFor_26 (by decide) ⟨rfl, by rw [if_neg (by omega)]⟩
    · rw [nI_toInt (by omega)] at h12
      refine lv_iload_n hx_ hb_ d_Forge_isCostFor_15 rfl (lv_at hl 1 rfl) ?_
      refine lv_bipush (v := nI 9) hx_ hb_ d_Forge_isCostFor_16 (by decide) ?_
      refine zz_rjgt (tgt := 25) hC d_Forge_isCostFor_18 (by decide) (fun h18 => ?_) (fun h18 => ?_)
      · rw [nI_toInt (by omega)] at h18
        refine lv_iconst (v := nI 0) hx_ hb_ d_Forge_isCostFor_25 (by decide) ?_
        exact zz_zret hC hK hZ rfl d_Forge_isCostFor_26 (by decide) ⟨rfl, by rw [if_neg (by omega)]⟩
      · rw [nI_toInt (by omega)] at h18
        refine lv_iconst (v := nI 1) hx_ hb_ d_Forge_isCostFor_21 (by decide) ?_
        refine lv_goto (tgt := 26) hx_ hb_ d_Forge_isCostFor_22 (by decide) ?_
        exact zz_zret hC hK hZ rfl d_Forge_isCostFor_26 (by decide) ⟨rfl, by rw [if_pos (by omega)]⟩
  · refine lv_iconst (v := nI 1) hx_ hb_ d_Forge_isCostFor_7 (by decide) ?_
    refine lv_goto (tgt := 12) hx_ hb_ d_Forge_isCostFor_8 (by decide) ?_
    refine zz_rjlt (tgt := 25) hC d_Forge_isCostFor_12 (by decide) (fun h12 => ?_) (fun h12 => ?_)
    · rw [nI_toInt (by omega)] at h12
      refine lv_iconst (v := nI 0) hx_ hb_ d_Forge_isCostFor_25 (by decide) ?_
      exact zz_zret hC hK hZ rfl d_Forge_isCostFor_26 (by decide) ⟨rfl, by rw [if_neg (by omega)]⟩
    · rw [nI_toInt (by omega)] at h12
      refine lv_iload_n hx_ hb_ d_Forge_isCostFor_15 rfl (lv_at hl 1 rfl) ?_
      refine lv_bipush (v := nI 9) hx_ hb_ d_Forge_isCostFor_16 (by decide) ?_
      refine zz_rjgt (tgt := 25) hC d_Forge_isCostFor_18 (by decide) (fun h18 => ?_) (fun h18 => ?_)
      · rw [nI_toInt (by omega)] at h18
        refine lv_iconst (v := nI 0) hx_ hb_ d_Forge_isCostFor_25 (by decide) ?_
        exact zz_zret hC hK hZ rfl d_Forge_isCostFor_26 (by decide) ⟨rfl, by rw [if_neg (by omega)]⟩
      · rw [nI_toInt (by omega)] at h18
        refine lv_iconst (v := nI 1) hx_ hb_ d_Forge_isCostFor_21 (by decide) ?_
        refine lv_goto (tgt := 26) hx_ hb_ d_Forge_isCostFor_22 (by decide) ?_
        exact zz_zret hC hK hZ rfl d_Forge_isCostFor_26 (by decide) ⟨rfl, by rw [if_pos (by omega)]⟩
set_option maxHeartbeats 4000000 in
set_option maxRecDepth 100000 in
theorem c_Forge_resultOf (l : Launch) (q : xg_T) (S : zz_S) (o : Nat) (v a b : Int32) (ho : o ≤ 8) (hv : o = 1 → v = nI v.toNatClampNeg ∧ v.toNatClampNeg < 8) : Met l y_Forge_resultOf (Cond.code y_Forge_resultOf b_Forge_resultOf 5 (some .int) :: zz_tbl) rm_Forge_resultOf (zz_Pc [.int (nI o), .int v, .int a, .int b, .ref (zz_ad (xg_G q) 41)] (xg_G q) S) (va_Qi (fun ans S1 => S = S1 ∧ ans = ex_cal (S.1 41) o v a b) (zz_P (xg_G q)) (zz_A (xg_G q))) 0 0 (zz_A (xg_G q)) := by
  refine zz_met (by decide) (Nat.le_of_ble_eq_true rfl) ?_
  intro p_ e_ s_ m_ bl_ mt_ c_ ls hC hK hZ hl
  have hC : zz_C p_ s_ m_ _ mt_ c_ b_Forge_resultOf 5 (some .int) "TreeCoverForge" := hC
  have hx_ := hC.1
  have hb_ := hC.2.1
  have hl : lv_has ls 5 [(0, .int (nI o)), (1, .int v), (2, .int a), (3, .int b), (4, .ref (zz_ad (xg_G q) 41))] := hl
  refine lv_iload_n hx_ hb_ d_Forge_resultOf_0 rfl (lv_at hl 0 rfl) ?_
  have hcs : o = 0 ∨ o = 1 ∨ o = 2 ∨ o = 3 ∨ o = 4 ∨ o = 5 ∨ o = 6 ∨ o = 7 ∨ 8 ≤ o := by omega
  rcases hcs with rfl | rfl | rfl | rfl | rfl | rfl | rfl | rfl | hcs
  · refine lv_tableIn (off := 47) (tgt := 48) hx_ hb_ d_Forge_resultOf_1 (by decide) (by decide) rfl (by decide) ?_
    refine lv_iload_n hx_ hb_ d_Forge_resultOf_48 rfl (lv_at hl 1 rfl) ?_
    exact zz_iret hC hK hZ rfl d_Forge_resultOf_49 ⟨rfl, rfl⟩
  · refine lv_tableIn (off := 49) (tgt := 50) hx_ hb_ d_Forge_resultOf_1 (by decide) (by decide) rfl (by decide) ?_
    refine lv_aload hx_ hb_ d_Forge_resultOf_50 (lv_at hl 4 rfl) ?_
    refine lv_iload_n hx_ hb_ d_Forge_resultOf_52 rfl (lv_at hl 1 rfl) ?_
    refine zz_iald hC hK hZ 41 0 v.toNatClampNeg (Nat.le_of_ble_eq_true rfl) (xc_41 q _ _) rfl (hv rfl).1 (hv rfl).2 (by decide) rfl d_Forge_resultOf_53 ?_
    exact zz_iret hC hK hZ rfl d_Forge_resultOf_54 ⟨rfl, rfl⟩
  · refine lv_tableIn (off := 54) (tgt := 55) hx_ hb_ d_Forge_resultOf_1 (by decide) (by decide) rfl (by decide) ?_
    refine lv_bipush (v := nI 100) hx_ hb_ d_Forge_resultOf_55 (by decide) ?_
    refine lv_iload_n hx_ hb_ d_Forge_resultOf_57 rfl (lv_at hl 1 rfl) ?_
    refine lv_iadd hx_ hb_ d_Forge_resultOf_58 ?_
    exact zz_iret hC hK hZ rfl d_Forge_resultOf_59 ⟨rfl, rfl⟩
  · refine lv_tableIn (off := 59) (tgt := 60) hx_ hb_ d_Forge_resultOf_1 (by decide) (by decide) rfl (by decide) ?_
    refine lv_iload_n hx_ hb_ d_Forge_resultOf_60 rfl (lv_at hl 2 rfl) ?_
    refine lv_ineg hx_ hb_ d_Forge_resultOf_61 ?_
    exact zz_iret hC hK hZ rfl d_Forge_resultOf_62 ⟨rfl, rfl⟩
  · refine lv_tableIn (off := 62) (tgt := 63) hx_ hb_ d_Forge_resultOf_1 (by decide) (by decide) rfl (by decide) ?_
    refine lv_iload_n hx_ hb_ d_Forge_resultOf_63 rfl (lv_at hl 2 rfl) ?_
    refine lv_iload_n hx_ hb_ d_Forge_resultOf_64 rfl (lv_at hl 2 rfl) ?_
    refine lv_iadd hx_ hb_ d_Forge_resultOf_65 ?_
    exact zz_iret hC hK hZ rfl d_Forge_resultOf_66 ⟨rfl, rfl⟩
  · refine lv_tableIn (off := 66) (tgt := 67) hx_ hb_ d_Forge_resultOf_1 (by decide) (by decide) rfl (by decide) ?_
    refine lv_iload_n hx_ hb_ d_Forge_resultOf_67 rfl (lv_at hl 2 rfl) ?_
    refine lv_iload_n hx_ hb_ d_Forge_resultOf_68 rfl (lv_at hl 3 rfl) ?_
    refine lv_iadd hx_ hb_ d_Forge_resultOf_69 ?_
    exact zz_iret hC hK hZ rfl d_Forge_resultOf_70 ⟨rfl, rfl⟩
  · refine lv_tableIn (off := 70) (tgt := 71) hx_ hb_ d_Forge_resultOf_1 (by decide) (by decide) rfl (by decide) ?_
    refine lv_iload_n hx_ hb_ d_Forge_resultOf_71 rfl (lv_at hl 2 rfl) ?_
    refine lv_iload_n hx_ hb_ d_Forge_resultOf_72 rfl (lv_at hl 3 rfl) ?_
    refine lv_isub hx_ hb_ d_Forge_resultOf_73 ?_
    exact zz_iret hC hK hZ rfl d_Forge_resultOf_74 ⟨rfl, rfl⟩
  · refine lv_tableIn (off := 74) (tgt := 75) hx_ hb_ d_Forge_resultOf_1 (by decide) (by decide) rfl (by decide) ?_
    refine lv_iload_n hx_ hb_ d_Forge_resultOf_75 rfl (lv_at hl 2 rfl) ?_
    refine lv_iload_n hx_ hb_ d_Forge_resultOf_76 rfl (lv_at hl 3 rfl) ?_
    refine lv_imul hx_ hb_ d_Forge_resultOf_77 ?_
    exact zz_iret hC hK hZ rfl d_Forge_resultOf_78 ⟨rfl, rfl⟩
  · refine lv_tableOut (tgt := 79) hx_ hb_ d_Forge_resultOf_1 (Or.inr (by rw [nI_toInt (by omega)]; omega)) (by decide) ?_
    refine lv_iload_n hx_ hb_ d_Forge_resultOf_79 rfl (lv_at hl 2 rfl) ?_
    exact zz_iret hC hK hZ rfl d_Forge_resultOf_80 ⟨rfl, by rw [ex_cal, if_neg (by omega), if_neg (by omega), if_neg (by omega), if_neg (by omega), if_neg (by omega), if_neg (by omega), if_neg (by omega), if_neg (by omega)]⟩
