/-! The reference: the rule. Laid by wip/whole/prog/p20.py. -/
set_option maxHeartbeats 4000000 in
set_option maxRecDepth 100000 in
theorem c_Model_rule (l : Launch) (q : xg_T) (S : zz_S) (k o a b c : Int32) (rl : mx_R) (R : Nat) (hB : mb_ok S rl R) : Met l y_Model_rule (Cond.code y_Model_rule b_Model_rule 6 (some .int) :: zz_tbl) rm_Model_rule (zz_Pc [.ref (zz_ad (mg_G q) 0), .int k, .int o, .int a, .int b, .int c] (mg_G q) S) (va_Qi (fun ans S1 => (¬ rv_ok k o a b c ∧ ans = -1 ∧ S = S1) ∨ (rv_ok k o a b c ∧ R = 24 ∧ ans = -2 ∧ S = S1) ∨ (rv_ok k o a b c ∧ R < 24 ∧ ans = nI R ∧ S1 = zz_u (zz_u (zz_u (zz_u (zz_u (zz_u S 1 R (nI k.toNatClampNeg)) 2 R (nI o.toNatClampNeg)) 3 R (nI a.toNatClampNeg)) 4 R (nI b.toNatClampNeg)) 5 R (nI c.toNatClampNeg)) 0 0 (nI (R + 1)))) (zz_P (mg_G q)) (zz_A (mg_G q))) 0 0 (zz_A (mg_G q)) := by
  refine zz_met (by decide) (Nat.le_of_ble_eq_true rfl) ?_
  intro p_ e_ s_ m_ bl_ mt_ c_ ls hC hK hZ hl
  have hC : zz_C p_ s_ m_ _ mt_ c_ b_Model_rule 6 (some .int) "TreeCoverForgeModel" := hC
  have hx_ := hC.1
  have hb_ := hC.2.1
  have hl : lv_has ls 6 [(0, .ref (zz_ad (mg_G q) 0)), (1, .int k), (2, .int o), (3, .int a), (4, .int b), (5, .int c)] := hl
  have hR24 := hB.2.1
  have J95 : ∀  (H : Heap) (locs : List Loc) (ls : Array Slot) (hrv : rv_ok k o a b c) (hZ : zz_Z (mg_G q) S s_.heap H locs) (hl : lv_has ls 6 [(0, .ref (zz_ad (mg_G q) 0)), (1, .int k), (2, .int o), (3, .int a), (4, .int b), (5, .int c)]), W p_ l e_ rm_Model_rule s_ m_ ([.ref (zz_ad (mg_G q) 0), .int k, .int o, .int a, .int b, .int c] : List Value).toArray bl_ mt_ c_ H locs 0 0 (MQ bl_ (va_Qi (fun ans S1 => (¬ rv_ok k o a b c ∧ ans = -1 ∧ S = S1) ∨ (rv_ok k o a b c ∧ R = 24 ∧ ans = -2 ∧ S = S1) ∨ (rv_ok k o a b c ∧ R < 24 ∧ ans = nI R ∧ S1 = zz_u (zz_u (zz_u (zz_u (zz_u (zz_u S 1 R (nI k.toNatClampNeg)) 2 R (nI o.toNatClampNeg)) 3 R (nI a.toNatClampNeg)) 4 R (nI b.toNatClampNeg)) 5 R (nI c.toNatClampNeg)) 0 0 (nI (R + 1)))) (zz_P (mg_G q)) (zz_A (mg_G q))) ([.ref (zz_ad (mg_G q) 0), .int k, .int o, .int a, .int b, .int c] : List Value).toArray s_ 0 0 (zz_A (mg_G q))) (F0 m_ 95 ls []) := by
    intro  H locs ls hrv hZ hl
    have hck := zz_clamp hrv.1.1
    have hco := zz_clamp hrv.2.1.1
    have hca := zz_clamp hrv.2.2.1.1
    have hcb := zz_clamp hrv.2.2.2.1.1
    have hcc := zz_clamp (rv_to hrv).2.2.2.2.2.2.2.1.1
    refine lv_aload_n hx_ hb_ d_Model_rule_95 rfl (lv_at hl 0 rfl) ?_
    refine zz_get hC hK hZ 0 0 (Nat.le_of_ble_eq_true rfl) (mc_0 q _ _) rfl hin_Model (by decide) wd_507 rfl rfl d_Model_rule_96 ?_
    refine zz_topi (y := nI R) hB.1 ?_
    refine lv_bipush (v := nI 24) hx_ hb_ d_Model_rule_99 (by decide) ?_
    refine zz_jne (tgt := 107) hC d_Model_rule_101 (by decide) (by omega) (by omega) (fun h101 => ?_) (fun h101 => ?_)
    · refine lv_aload_n hx_ hb_ d_Model_rule_107 rfl (lv_at hl 0 rfl) ?_
      refine zz_get hC hK hZ 0 1 (Nat.le_of_ble_eq_true rfl) (mc_0 q _ _) rfl hin_Model (by decide) wd_508 rfl rfl d_Model_rule_108 ?_
      refine lv_aload_n hx_ hb_ d_Model_rule_111 rfl (lv_at hl 0 rfl) ?_
      refine zz_get hC hK hZ 0 0 (Nat.le_of_ble_eq_true rfl) (mc_0 q _ _) rfl hin_Model (by decide) wd_507 rfl rfl d_Model_rule_112 ?_
      refine zz_topi (y := nI R) hB.1 ?_
      refine lv_iload_n hx_ hb_ d_Model_rule_115 rfl (lv_at hl 1 rfl) ?_
      refine zz_topi (y := nI k.toNatClampNeg) hck.1 ?_
      refine zz_iast hC hK hZ 1 0 R (Nat.le_of_ble_eq_true rfl) (fun _ => mc_1 q _ _) rfl rfl (by omega) (by decide) d_Model_rule_116 (fun H locs hZ => ?_)
      refine lv_aload_n hx_ hb_ d_Model_rule_117 rfl (lv_at hl 0 rfl) ?_
      refine zz_get hC hK hZ 0 2 (Nat.le_of_ble_eq_true rfl) (mc_0 q _ _) rfl hin_Model (by decide) wd_509 rfl rfl d_Model_rule_118 ?_
      refine lv_aload_n hx_ hb_ d_Model_rule_121 rfl (lv_at hl 0 rfl) ?_
      refine zz_get hC hK hZ 0 0 (Nat.le_of_ble_eq_true rfl) (mc_0 q _ _) rfl hin_Model (by decide) wd_507 rfl rfl d_Model_rule_122 ?_
      refine zz_topi (y := nI R) hB.1 ?_
      refine lv_iload_n hx_ hb_ d_Model_rule_125 rfl (lv_at hl 2 rfl) ?_
      refine zz_topi (y := nI o.toNatClampNeg) hco.1 ?_
      refine zz_iast hC hK hZ 2 0 R (Nat.le_of_ble_eq_true rfl) (fun _ => mc_2 q _ _) rfl rfl (by omega) (by decide) d_Model_rule_126 (fun H locs hZ => ?_)
      refine lv_aload_n hx_ hb_ d_Model_rule_127 rfl (lv_at hl 0 rfl) ?_
      refine zz_get hC hK hZ 0 3 (Nat.le_of_ble_eq_true rfl) (mc_0 q _ _) rfl hin_Model (by decide) wd_510 rfl rfl d_Model_rule_128 ?_
      refine lv_aload_n hx_ hb_ d_Model_rule_131 rfl (lv_at hl 0 rfl) ?_
      refine zz_get hC hK hZ 0 0 (Nat.le_of_ble_eq_true rfl) (mc_0 q _ _) rfl hin_Model (by decide) wd_507 rfl rfl d_Model_rule_132 ?_
      refine zz_topi (y := nI R) hB.1 ?_
      refine lv_iload_n hx_ hb_ d_Model_rule_135 rfl (lv_at hl 3 rfl) ?_
      refine zz_topi (y := nI a.toNatClampNeg) hca.1 ?_
      refine zz_iast hC hK hZ 3 0 R (Nat.le_of_ble_eq_true rfl) (fun _ => mc_3 q _ _) rfl rfl (by omega) (by decide) d_Model_rule_136 (fun H locs hZ => ?_)
      refine lv_aload_n hx_ hb_ d_Model_rule_137 rfl (lv_at hl 0 rfl) ?_
      refine zz_get hC hK hZ 0 4 (Nat.le_of_ble_eq_true rfl) (mc_0 q _ _) rfl hin_Model (by decide) wd_511 rfl rfl d_Model_rule_138 ?_
      refine lv_aload_n hx_ hb_ d_Model_rule_141 rfl (lv_at hl 0 rfl) ?_
      refine zz_get hC hK hZ 0 0 (Nat.le_of_ble_eq_true rfl) (mc_0 q _ _) rfl hin_Model (by decide) wd_507 rfl rfl d_Model_rule_142 ?_
      refine zz_topi (y := nI R) hB.1 ?_
      refine lv_iload hx_ hb_ d_Model_rule_145 (lv_at hl 4 rfl) ?_
      refine zz_topi (y := nI b.toNatClampNeg) hcb.1 ?_
      refine zz_iast hC hK hZ 4 0 R (Nat.le_of_ble_eq_true rfl) (fun _ => mc_4 q _ _) rfl rfl (by omega) (by decide) d_Model_rule_147 (fun H locs hZ => ?_)
      refine lv_aload_n hx_ hb_ d_Model_rule_148 rfl (lv_at hl 0 rfl) ?_
      refine zz_get hC hK hZ 0 5 (Nat.le_of_ble_eq_true rfl) (mc_0 q _ _) rfl hin_Model (by decide) wd_512 rfl rfl d_Model_rule_149 ?_
      refine lv_aload_n hx_ hb_ d_Model_rule_152 rfl (lv_at hl 0 rfl) ?_
      refine zz_get hC hK hZ 0 0 (Nat.le_of_ble_eq_true rfl) (mc_0 q _ _) rfl hin_Model (by decide) wd_507 rfl rfl d_Model_rule_153 ?_
      refine zz_topi (y := nI R) hB.1 ?_
      refine lv_iload hx_ hb_ d_Model_rule_156 (lv_at hl 5 rfl) ?_
      refine zz_topi (y := nI c.toNatClampNeg) hcc.1 ?_
      refine zz_iast hC hK hZ 5 0 R (Nat.le_of_ble_eq_true rfl) (fun _ => mc_5 q _ _) rfl rfl (by omega) (by decide) d_Model_rule_158 (fun H locs hZ => ?_)
      refine lv_aload_n hx_ hb_ d_Model_rule_159 rfl (lv_at hl 0 rfl) ?_
      refine lv_dup hx_ hb_ d_Model_rule_160 rfl ?_
      refine zz_get hC hK hZ 0 0 (Nat.le_of_ble_eq_true rfl) (mc_0 q _ _) rfl hin_Model (by decide) wd_507 rfl rfl d_Model_rule_161 ?_
      refine zz_topi (y := nI R) hB.1 ?_
      refine lv_iconst (v := nI 1) hx_ hb_ d_Model_rule_164 (by decide) ?_
      refine lv_iadd hx_ hb_ d_Model_rule_165 ?_
      refine zz_topi (y := nI (R + 1)) (nI_add _ _) ?_
      refine zz_put hC hK hZ 0 0 (Nat.le_of_ble_eq_true rfl) (mc_0 q _ _) rfl hin_Model t_Model t_Model_ok n_Model (by decide) wd_507 rfl rfl rfl (Nat.le_of_ble_eq_true rfl) (mput_0 q _ _ _ (mc_0 q _ _)) d_Model_rule_166 (fun H locs hZ => ?_)
      refine lv_aload_n hx_ hb_ d_Model_rule_169 rfl (lv_at hl 0 rfl) ?_
      refine zz_get hC hK hZ 0 0 (Nat.le_of_ble_eq_true rfl) (mc_0 q _ _) rfl hin_Model (by decide) wd_507 rfl rfl d_Model_rule_170 ?_
      refine zz_topi (y := nI (R + 1)) (by rw [zz_u1s, pk_us]) ?_
      refine lv_iconst (v := nI 1) hx_ hb_ d_Model_rule_173 (by decide) ?_
      refine lv_isub hx_ hb_ d_Model_rule_174 ?_
      refine zz_topi (y := nI (R + 1 - 1)) (pk_sub (by omega)) ?_
      exact zz_iret hC hK hZ rfl d_Model_rule_175 (Or.inr (Or.inr ⟨hrv, by omega, by rw [show R + 1 - 1 = R by omega], rfl⟩))
    · refine lv_bipush (v := (-2)) hx_ hb_ d_Model_rule_104 (by decide) ?_
      exact zz_iret hC hK hZ rfl d_Model_rule_106 (Or.inr (Or.inl ⟨hrv, h101, rfl, rfl⟩))
  have J72 : ∀  (H : Heap) (locs : List Loc) (ls : Array Slot) (hv1 : (0 ≤ k.toInt ∧ k.toInt < 4) ∧ (0 ≤ o.toInt ∧ o.toInt ≤ 8) ∧ (0 ≤ a.toInt ∧ a.toInt < 4) ∧ (0 ≤ b.toInt ∧ b.toInt < 4) ∧ (o.toInt < 3 → a.toInt = 0) ∧ (o.toInt < 5 ∨ o.toInt = 8 → b.toInt = 0) ∧ (o.toInt = 8 → a.toInt ≠ k.toInt)) (hZ : zz_Z (mg_G q) S s_.heap H locs) (hl : lv_has ls 6 [(0, .ref (zz_ad (mg_G q) 0)), (1, .int k), (2, .int o), (3, .int a), (4, .int b), (5, .int c)]), W p_ l e_ rm_Model_rule s_ m_ ([.ref (zz_ad (mg_G q) 0), .int k, .int o, .int a, .int b, .int c] : List Value).toArray bl_ mt_ c_ H locs 0 0 (MQ bl_ (va_Qi (fun ans S1 => (¬ rv_ok k o a b c ∧ ans = -1 ∧ S = S1) ∨ (rv_ok k o a b c ∧ R = 24 ∧ ans = -2 ∧ S = S1) ∨ (rv_ok k o a b c ∧ R < 24 ∧ ans = nI R ∧ S1 = zz_u (zz_u (zz_u (zz_u (zz_u (zz_u S 1 R (nI k.toNatClampNeg)) 2 R (nI o.toNatClampNeg)) 3 R (nI a.toNatClampNeg)) 4 R (nI b.toNatClampNeg)) 5 R (nI c.toNatClampNeg)) 0 0 (nI (R + 1)))) (zz_P (mg_G q)) (zz_A (mg_G q))) ([.ref (zz_ad (mg_G q) 0), .int k, .int o, .int a, .int b, .int c] : List Value).toArray s_ 0 0 (zz_A (mg_G q))) (F0 m_ 72 ls []) := by
    intro  H locs ls hv1 hZ hl
    refine lv_iload hx_ hb_ d_Model_rule_72 (lv_at hl 5 rfl) ?_
    refine lv_bipush (v := nI 9) hx_ hb_ d_Model_rule_74 (by decide) ?_
    refine zz_ci (zz_rS (As := [.int c, .int (nI 9)]) (rest := []) hC hK hZ (c_Model_outside l q S c 9 (by omega)) k_Model_outside wd_629 ⟨rfl, rfl, by decide, by decide⟩ rfl hl.1 rfl (Nat.le_of_ble_eq_true rfl) d_Model_rule_76 ⟨Nat.zero_le _, Nat.zero_le _⟩) hZ (fun r76 S76 H locs hp76 hZ => ?_)
    obtain ⟨rfl, rfl⟩ := hp76
    refine zz_bne (tgt := 93) hC d_Model_rule_79 (by decide) (fun h79 => ?_) (fun h79 => ?_)
    · refine lv_iconst (v := (-1)) hx_ hb_ d_Model_rule_93 (by decide) ?_
      exact zz_iret hC hK hZ rfl d_Model_rule_94 (Or.inl ⟨fun h => by have h := rv_to h; omega, rfl, rfl⟩)
    · refine lv_iload_n hx_ hb_ d_Model_rule_82 rfl (lv_at hl 2 rfl) ?_
      refine lv_bipush (v := nI 8) hx_ hb_ d_Model_rule_83 (by decide) ?_
      refine zz_rjne (tgt := 95) hC d_Model_rule_85 (by decide) (fun h85 => ?_) (fun h85 => ?_)
      · rw [nI_toInt (by omega)] at h85
        exact J95   _ _ _ (rv_of hv1.1 hv1.2.1 hv1.2.2.1 hv1.2.2.2.1 hv1.2.2.2.2.1 hv1.2.2.2.2.2.1 hv1.2.2.2.2.2.2 (by omega) (by omega)) hZ (lv_sub hl [0, 1, 2, 3, 4, 5] rfl)
      · rw [nI_toInt (by omega)] at h85
        refine lv_iload hx_ hb_ d_Model_rule_88 (lv_at hl 5 rfl) ?_
        refine zz_rine (tgt := 95) hC d_Model_rule_90 (by decide) (fun h90 => ?_) (fun h90 => ?_)
        · exact J95   _ _ _ (rv_of hv1.1 hv1.2.1 hv1.2.2.1 hv1.2.2.2.1 hv1.2.2.2.2.1 hv1.2.2.2.2.2.1 hv1.2.2.2.2.2.2 (by omega) (by omega)) hZ (lv_sub hl [0, 1, 2, 3, 4, 5] rfl)
        · refine lv_iconst (v := (-1)) hx_ hb_ d_Model_rule_93 (by decide) ?_
          exact zz_iret hC hK hZ rfl d_Model_rule_94 (Or.inl ⟨fun h => by have h := rv_to h; omega, rfl, rfl⟩)
  have J61 : ∀  (H : Heap) (locs : List Loc) (ls : Array Slot) (hv0 : (0 ≤ k.toInt ∧ k.toInt < 4) ∧ (0 ≤ o.toInt ∧ o.toInt ≤ 8) ∧ (0 ≤ a.toInt ∧ a.toInt < 4) ∧ (0 ≤ b.toInt ∧ b.toInt < 4) ∧ (o.toInt < 3 → a.toInt = 0) ∧ (o.toInt < 5 ∨ o.toInt = 8 → b.toInt = 0)) (hZ : zz_Z (mg_G q) S s_.heap H locs) (hl : lv_has ls 6 [(0, .ref (zz_ad (mg_G q) 0)), (1, .int k), (2, .int o), (3, .int a), (4, .int b), (5, .int c)]), W p_ l e_ rm_Model_rule s_ m_ ([.ref (zz_ad (mg_G q) 0), .int k, .int o, .int a, .int b, .int c] : List Value).toArray bl_ mt_ c_ H locs 0 0 (MQ bl_ (va_Qi (fun ans S1 => (¬ rv_ok k o a b c ∧ ans = -1 ∧ S = S1) ∨ (rv_ok k o a b c ∧ R = 24 ∧ ans = -2 ∧ S = S1) ∨ (rv_ok k o a b c ∧ R < 24 ∧ ans = nI R ∧ S1 = zz_u (zz_u (zz_u (zz_u (zz_u (zz_u S 1 R (nI k.toNatClampNeg)) 2 R (nI o.toNatClampNeg)) 3 R (nI a.toNatClampNeg)) 4 R (nI b.toNatClampNeg)) 5 R (nI c.toNatClampNeg)) 0 0 (nI (R + 1)))) (zz_P (mg_G q)) (zz_A (mg_G q))) ([.ref (zz_ad (mg_G q) 0), .int k, .int o, .int a, .int b, .int c] : List Value).toArray s_ 0 0 (zz_A (mg_G q))) (F0 m_ 61 ls []) := by
    intro  H locs ls hv0 hZ hl
    refine lv_iload_n hx_ hb_ d_Model_rule_61 rfl (lv_at hl 2 rfl) ?_
    refine lv_bipush (v := nI 8) hx_ hb_ d_Model_rule_62 (by decide) ?_
    refine zz_rjne (tgt := 72) hC d_Model_rule_64 (by decide) (fun h64 => ?_) (fun h64 => ?_)
    · rw [nI_toInt (by omega)] at h64
      exact J72   _ _ _ ⟨hv0.1, hv0.2.1, hv0.2.2.1, hv0.2.2.2.1, hv0.2.2.2.2.1, hv0.2.2.2.2.2, by omega⟩ hZ (lv_sub hl [0, 1, 2, 3, 4, 5] rfl)
    · rw [nI_toInt (by omega)] at h64
      refine lv_iload_n hx_ hb_ d_Model_rule_67 rfl (lv_at hl 3 rfl) ?_
      refine lv_iload_n hx_ hb_ d_Model_rule_68 rfl (lv_at hl 1 rfl) ?_
      refine zz_rjeq (tgt := 93) hC d_Model_rule_69 (by decide) (fun h69 => ?_) (fun h69 => ?_)
      · refine lv_iconst (v := (-1)) hx_ hb_ d_Model_rule_93 (by decide) ?_
        exact zz_iret hC hK hZ rfl d_Model_rule_94 (Or.inl ⟨fun h => by have h := rv_to h; omega, rfl, rfl⟩)
      · exact J72   _ _ _ ⟨hv0.1, hv0.2.1, hv0.2.2.1, hv0.2.2.2.1, hv0.2.2.2.2.1, hv0.2.2.2.2.2, by omega⟩ hZ (lv_sub hl [0, 1, 2, 3, 4, 5] rfl)
  refine lv_iload_n hx_ hb_ d_Model_rule_0 rfl (lv_at hl 1 rfl) ?_
  refine lv_iconst (v := nI 3) hx_ hb_ d_Model_rule_1 (by decide) ?_
  refine zz_ci (zz_rS (As := [.int k, .int (nI 3)]) (rest := []) hC hK hZ (c_Model_outside l q S k 3 (by omega)) k_Model_outside wd_629 ⟨rfl, rfl, by decide, by decide⟩ rfl hl.1 rfl (Nat.le_of_ble_eq_true rfl) d_Model_rule_2 ⟨Nat.zero_le _, Nat.zero_le _⟩) hZ (fun r2 S2 H locs hp2 hZ => ?_)
  obtain ⟨rfl, rfl⟩ := hp2
  refine zz_bne (tgt := 59) hC d_Model_rule_5 (by decide) (fun h5 => ?_) (fun h5 => ?_)
  · refine lv_iconst (v := (-1)) hx_ hb_ d_Model_rule_59 (by decide) ?_
    exact zz_iret hC hK hZ rfl d_Model_rule_60 (Or.inl ⟨fun h => by have h := rv_to h; omega, rfl, rfl⟩)
  · refine lv_iload_n hx_ hb_ d_Model_rule_8 rfl (lv_at hl 2 rfl) ?_
    refine lv_bipush (v := nI 8) hx_ hb_ d_Model_rule_9 (by decide) ?_
    refine zz_ci (zz_rS (As := [.int o, .int (nI 8)]) (rest := []) hC hK hZ (c_Model_outside l q S o 8 (by omega)) k_Model_outside wd_629 ⟨rfl, rfl, by decide, by decide⟩ rfl hl.1 rfl (Nat.le_of_ble_eq_true rfl) d_Model_rule_11 ⟨Nat.zero_le _, Nat.zero_le _⟩) hZ (fun r11 S11 H locs hp11 hZ => ?_)
    obtain ⟨rfl, rfl⟩ := hp11
    refine zz_bne (tgt := 59) hC d_Model_rule_14 (by decide) (fun h14 => ?_) (fun h14 => ?_)
    · refine lv_iconst (v := (-1)) hx_ hb_ d_Model_rule_59 (by decide) ?_
      exact zz_iret hC hK hZ rfl d_Model_rule_60 (Or.inl ⟨fun h => by have h := rv_to h; omega, rfl, rfl⟩)
    · refine lv_iload_n hx_ hb_ d_Model_rule_17 rfl (lv_at hl 3 rfl) ?_
      refine lv_iconst (v := nI 3) hx_ hb_ d_Model_rule_18 (by decide) ?_
      refine zz_ci (zz_rS (As := [.int a, .int (nI 3)]) (rest := []) hC hK hZ (c_Model_outside l q S a 3 (by omega)) k_Model_outside wd_629 ⟨rfl, rfl, by decide, by decide⟩ rfl hl.1 rfl (Nat.le_of_ble_eq_true rfl) d_Model_rule_19 ⟨Nat.zero_le _, Nat.zero_le _⟩) hZ (fun r19 S19 H locs hp19 hZ => ?_)
      obtain ⟨rfl, rfl⟩ := hp19
      refine zz_bne (tgt := 59) hC d_Model_rule_22 (by decide) (fun h22 => ?_) (fun h22 => ?_)
      · refine lv_iconst (v := (-1)) hx_ hb_ d_Model_rule_59 (by decide) ?_
        exact zz_iret hC hK hZ rfl d_Model_rule_60 (Or.inl ⟨fun h => by have h := rv_to h; omega, rfl, rfl⟩)
      · refine lv_iload hx_ hb_ d_Model_rule_25 (lv_at hl 4 rfl) ?_
        refine lv_iconst (v := nI 3) hx_ hb_ d_Model_rule_27 (by decide) ?_
        refine zz_ci (zz_rS (As := [.int b, .int (nI 3)]) (rest := []) hC hK hZ (c_Model_outside l q S b 3 (by omega)) k_Model_outside wd_629 ⟨rfl, rfl, by decide, by decide⟩ rfl hl.1 rfl (Nat.le_of_ble_eq_true rfl) d_Model_rule_28 ⟨Nat.zero_le _, Nat.zero_le _⟩) hZ (fun r28 S28 H locs hp28 hZ => ?_)
        obtain ⟨rfl, rfl⟩ := hp28
        refine zz_bne (tgt := 59) hC d_Model_rule_31 (by decide) (fun h31 => ?_) (fun h31 => ?_)
        · refine lv_iconst (v := (-1)) hx_ hb_ d_Model_rule_59 (by decide) ?_
          exact zz_iret hC hK hZ rfl d_Model_rule_60 (Or.inl ⟨fun h => by have h := rv_to h; omega, rfl, rfl⟩)
        · refine lv_iload_n hx_ hb_ d_Model_rule_34 rfl (lv_at hl 2 rfl) ?_
          refine lv_iconst (v := nI 3) hx_ hb_ d_Model_rule_35 (by decide) ?_
          refine zz_rjge (tgt := 43) hC d_Model_rule_36 (by decide) (fun h36 => ?_) (fun h36 => ?_)
          · rw [nI_toInt (by omega)] at h36
            refine lv_iload_n hx_ hb_ d_Model_rule_43 rfl (lv_at hl 2 rfl) ?_
            refine lv_iconst (v := nI 5) hx_ hb_ d_Model_rule_44 (by decide) ?_
            refine zz_rjlt (tgt := 54) hC d_Model_rule_45 (by decide) (fun h45 => ?_) (fun h45 => ?_)
            · rw [nI_toInt (by omega)] at h45
              refine lv_iload hx_ hb_ d_Model_rule_54 (lv_at hl 4 rfl) ?_
              refine zz_rieq (tgt := 61) hC d_Model_rule_56 (by decide) (fun h56 => ?_) (fun h56 => ?_)
              · exact J61   _ _ _ ⟨by omega, by omega, by omega, by omega, by omega, by omega⟩ hZ (lv_sub hl [0, 1, 2, 3, 4, 5] rfl)
              · refine lv_iconst (v := (-1)) hx_ hb_ d_Model_rule_59 (by decide) ?_
                exact zz_iret hC hK hZ rfl d_Model_rule_60 (Or.inl ⟨fun h => by have h := rv_to h; omega, rfl, rfl⟩)
            · rw [nI_toInt (by omega)] at h45
              refine lv_iload_n hx_ hb_ d_Model_rule_48 rfl (lv_at hl 2 rfl) ?_
              refine lv_bipush (v := nI 8) hx_ hb_ d_Model_rule_49 (by decide) ?_
              refine zz_rjne (tgt := 61) hC d_Model_rule_51 (by decide) (fun h51 => ?_) (fun h51 => ?_)
              · rw [nI_toInt (by omega)] at h51
                exact J61   _ _ _ ⟨by omega, by omega, by omega, by omega, by omega, by omega⟩ hZ (lv_sub hl [0, 1, 2, 3, 4, 5] rfl)
              · rw [nI_toInt (by omega)] at h51
                refine lv_iload hx_ hb_ d_Model_rule_54 (lv_at hl 4 rfl) ?_
                refine zz_rieq (tgt := 61) hC d_Model_rule_56 (by decide) (fun h56 => ?_) (fun h56 => ?_)
                · exact J61   _ _ _ ⟨by omega, by omega, by omega, by omega, by omega, by omega⟩ hZ (lv_sub hl [0, 1, 2, 3, 4, 5] rfl)
                · refine lv_iconst (v := (-1)) hx_ hb_ d_Model_rule_59 (by decide) ?_
                  exact zz_iret hC hK hZ rfl d_Model_rule_60 (Or.inl ⟨fun h => by have h := rv_to h; omega, rfl, rfl⟩)
          · rw [nI_toInt (by omega)] at h36
            refine lv_iload_n hx_ hb_ d_Model_rule_39 rfl (lv_at hl 3 rfl) ?_
            refine zz_rine (tgt := 59) hC d_Model_rule_40 (by decide) (fun h40 => ?_) (fun h40 => ?_)
            · refine lv_iconst (v := (-1)) hx_ hb_ d_Model_rule_59 (by decide) ?_
              exact zz_iret hC hK hZ rfl d_Model_rule_60 (Or.inl ⟨fun h => by have h := rv_to h; omega, rfl, rfl⟩)
            · refine lv_iload_n hx_ hb_ d_Model_rule_43 rfl (lv_at hl 2 rfl) ?_
              refine lv_iconst (v := nI 5) hx_ hb_ d_Model_rule_44 (by decide) ?_
              refine zz_rjlt (tgt := 54) hC d_Model_rule_45 (by decide) (fun h45 => ?_) (fun h45 => ?_)
              · rw [nI_toInt (by omega)] at h45
                refine lv_iload hx_ hb_ d_Model_rule_54 (lv_at hl 4 rfl) ?_
                refine zz_rieq (tgt := 61) hC d_Model_rule_56 (by decide) (fun h56 => ?_) (fun h56 => ?_)
                · exact J61   _ _ _ ⟨by omega, by omega, by omega, by omega, by omega, by omega⟩ hZ (lv_sub hl [0, 1, 2, 3, 4, 5] rfl)
                · refine lv_iconst (v := (-1)) hx_ hb_ d_Model_rule_59 (by decide) ?_
                  exact zz_iret hC hK hZ rfl d_Model_rule_60 (Or.inl ⟨fun h => by have h := rv_to h; omega, rfl, rfl⟩)
              · rw [nI_toInt (by omega)] at h45
                refine lv_iload_n hx_ hb_ d_Model_rule_48 rfl (lv_at hl 2 rfl) ?_
                refine lv_bipush (v := nI 8) hx_ hb_ d_Model_rule_49 (by decide) ?_
                refine zz_rjne (tgt := 61) hC d_Model_rule_51 (by decide) (fun h51 => ?_) (fun h51 => ?_)
                · rw [nI_toInt (by omega)] at h51
                  exact J61   _ _ _ ⟨by omega, by omega, by omega, by omega, by omega, by omega⟩ hZ (lv_sub hl [0, 1, 2, 3, 4, 5] rfl)
                · rw [nI_toInt (by omega)] at h51
                  refine lv_iload hx_ hb_ d_Model_rule_54 (lv_at hl 4 rfl) ?_
                  refine zz_rieq (tgt := 61) hC d_Model_rule_56 (by decide) (fun h56 => ?_) (fun h56 => ?_)
                  · exact J61   _ _ _ ⟨by omega, by omega, by omega, by omega, by omega, by omega⟩ hZ (lv_sub hl [0, 1, 2, 3, 4, 5] rfl)
                  · refine lv_iconst (v := (-1)) hx_ hb_ d_Model_rule_59 (by decide) ?_
                    exact zz_iret hC hK hZ rfl d_Model_rule_60 (Or.inl ⟨fun h => by have h := rv_to h; omega, rfl, rfl⟩)
