/-! The class's public calls, first part. Laid by wip/whole/prog/p15.py. -/
set_option maxHeartbeats 4000000 in
set_option maxRecDepth 100000 in
theorem c_Forge_rule (l : Launch) (q : xg_T) (S : zz_S) (k o a b c : Int32) (rl : mx_R) (R : Nat) (op : Nat → Nat) (nu : Nat → Int32) (sz ht : Nat → Nat) (m t reg : Nat) (vr : Nat → Int32) (cs : cd_T) (pl : Nat → Nat) (sc : Nat) (hX : xi_ok S rl R op nu sz ht m t reg vr cs pl sc) : Met l y_Forge_rule (Cond.code y_Forge_rule b_Forge_rule 6 (some .int) :: zz_tbl) rm_Forge_rule (zz_Pc [.ref (zz_ad (xg_G q) 0), .int k, .int o, .int a, .int b, .int c] (xg_G q) S) (va_Qi (fun ans S1 => (¬ rv_ok k o a b c ∧ ans = -1 ∧ S = S1) ∨ (rv_ok k o a b c ∧ R = 24 ∧ ans = -2 ∧ S = S1) ∨ (rv_ok k o a b c ∧ R < 24 ∧ ans = nI R ∧ xi_ok S1 (rv_new rl R k o a b c) (R + 1) op nu sz ht m t reg vr cs pl sc)) (zz_P (xg_G q)) (zz_A (xg_G q))) 0 0 (zz_A (xg_G q)) := by
  refine zz_met (by decide) (Nat.le_of_ble_eq_true rfl) ?_
  intro p_ e_ s_ m_ bl_ mt_ c_ ls hC hK hZ hl
  have hC : zz_C p_ s_ m_ _ mt_ c_ b_Forge_rule 6 (some .int) "TreeCoverForge" := hC
  have hx_ := hC.1
  have hb_ := hC.2.1
  have hl : lv_has ls 6 [(0, .ref (zz_ad (xg_G q) 0)), (1, .int k), (2, .int o), (3, .int a), (4, .int b), (5, .int c)] := hl
  have hX0 := hX
  obtain ⟨⟨sz1, nb, hB⟩, hP, ⟨n0, gs0, qs0, hn0, hnm0, hq0⟩, hN, hcnt, hreg, hvr, hcod⟩ := hX
  have hR24 := hB.2.1
  refine lv_iload_n hx_ hb_ d_Forge_rule_0 rfl (lv_at hl 1 rfl) ?_
  refine zz_ci (zz_rS (As := [.int k]) (rest := []) hC hK hZ (c_Forge_isKind l q S k) k_Forge_isKind wd_252 ⟨rfl, rfl, by decide, by decide⟩ rfl hl.1 rfl (Nat.le_of_ble_eq_true rfl) d_Forge_rule_1 ⟨Nat.zero_le _, Nat.zero_le _⟩) hZ (fun r1 S1 H locs hp1 hZ => ?_)
  obtain ⟨rfl, rfl⟩ := hp1
  refine zz_beq (tgt := 52) hC d_Forge_rule_4 (by decide) (fun h4 => ?_) (fun h4 => ?_)
  · refine lv_iconst (v := (-1)) hx_ hb_ d_Forge_rule_52 (by decide) ?_
    exact zz_iret hC hK hZ rfl d_Forge_rule_53 (Or.inl ⟨by unfold rv_ok; omega, rfl, rfl⟩)
  · refine lv_iload_n hx_ hb_ d_Forge_rule_7 rfl (lv_at hl 2 rfl) ?_
    refine zz_rilt (tgt := 52) hC d_Forge_rule_8 (by decide) (fun h8 => ?_) (fun h8 => ?_)
    · refine lv_iconst (v := (-1)) hx_ hb_ d_Forge_rule_52 (by decide) ?_
      exact zz_iret hC hK hZ rfl d_Forge_rule_53 (Or.inl ⟨by unfold rv_ok; omega, rfl, rfl⟩)
    · have hcl := (zz_clamp h8).2.1
      refine lv_iload_n hx_ hb_ d_Forge_rule_11 rfl (lv_at hl 2 rfl) ?_
      refine lv_bipush (v := nI 8) hx_ hb_ d_Forge_rule_12 (by decide) ?_
      refine zz_rjgt (tgt := 52) hC d_Forge_rule_14 (by decide) (fun h14 => ?_) (fun h14 => ?_)
      · rw [nI_toInt (by omega)] at h14
        refine lv_iconst (v := (-1)) hx_ hb_ d_Forge_rule_52 (by decide) ?_
        exact zz_iret hC hK hZ rfl d_Forge_rule_53 (Or.inl ⟨by unfold rv_ok; omega, rfl, rfl⟩)
      · rw [nI_toInt (by omega)] at h14
        refine lv_iload_n hx_ hb_ d_Forge_rule_17 rfl (lv_at hl 3 rfl) ?_
        refine zz_ci (zz_rS (As := [.int a]) (rest := []) hC hK hZ (c_Forge_isKind l q S a) k_Forge_isKind wd_252 ⟨rfl, rfl, by decide, by decide⟩ rfl hl.1 rfl (Nat.le_of_ble_eq_true rfl) d_Forge_rule_18 ⟨Nat.zero_le _, Nat.zero_le _⟩) hZ (fun r18 S18 H locs hp18 hZ => ?_)
        obtain ⟨rfl, rfl⟩ := hp18
        refine zz_beq (tgt := 52) hC d_Forge_rule_21 (by decide) (fun h21 => ?_) (fun h21 => ?_)
        · refine lv_iconst (v := (-1)) hx_ hb_ d_Forge_rule_52 (by decide) ?_
          exact zz_iret hC hK hZ rfl d_Forge_rule_53 (Or.inl ⟨by unfold rv_ok; omega, rfl, rfl⟩)
        · refine lv_iload hx_ hb_ d_Forge_rule_24 (lv_at hl 4 rfl) ?_
          refine zz_ci (zz_rS (As := [.int b]) (rest := []) hC hK hZ (c_Forge_isKind l q S b) k_Forge_isKind wd_252 ⟨rfl, rfl, by decide, by decide⟩ rfl hl.1 rfl (Nat.le_of_ble_eq_true rfl) d_Forge_rule_26 ⟨Nat.zero_le _, Nat.zero_le _⟩) hZ (fun r26 S26 H locs hp26 hZ => ?_)
          obtain ⟨rfl, rfl⟩ := hp26
          refine zz_beq (tgt := 52) hC d_Forge_rule_29 (by decide) (fun h29 => ?_) (fun h29 => ?_)
          · refine lv_iconst (v := (-1)) hx_ hb_ d_Forge_rule_52 (by decide) ?_
            exact zz_iret hC hK hZ rfl d_Forge_rule_53 (Or.inl ⟨by unfold rv_ok; omega, rfl, rfl⟩)
          · refine lv_iload_n hx_ hb_ d_Forge_rule_32 rfl (lv_at hl 1 rfl) ?_
            refine lv_iload_n hx_ hb_ d_Forge_rule_33 rfl (lv_at hl 2 rfl) ?_
            refine zz_topi (y := nI o.toNatClampNeg) (zz_clamp h8).1 ?_
            refine lv_iload_n hx_ hb_ d_Forge_rule_34 rfl (lv_at hl 3 rfl) ?_
            refine lv_iload hx_ hb_ d_Forge_rule_35 (lv_at hl 4 rfl) ?_
            refine zz_ci (zz_rS (As := [.int k, .int (nI o.toNatClampNeg), .int a, .int b]) (rest := []) hC hK hZ (c_Forge_fitsOperator l q S k o.toNatClampNeg a b (by omega)) k_Forge_fitsOperator wd_255 ⟨rfl, rfl, by decide, by decide⟩ rfl hl.1 rfl (Nat.le_of_ble_eq_true rfl) d_Forge_rule_37 ⟨Nat.zero_le _, Nat.zero_le _⟩) hZ (fun r37 S37 H locs hp37 hZ => ?_)
            obtain ⟨rfl, rfl⟩ := hp37
            refine zz_beq (tgt := 52) hC d_Forge_rule_40 (by decide) (fun h40 => ?_) (fun h40 => ?_)
            · refine lv_iconst (v := (-1)) hx_ hb_ d_Forge_rule_52 (by decide) ?_
              exact zz_iret hC hK hZ rfl d_Forge_rule_53 (Or.inl ⟨by unfold rv_ok; omega, rfl, rfl⟩)
            · refine lv_iload_n hx_ hb_ d_Forge_rule_43 rfl (lv_at hl 2 rfl) ?_
              refine zz_topi (y := nI o.toNatClampNeg) (zz_clamp h8).1 ?_
              refine lv_iload hx_ hb_ d_Forge_rule_44 (lv_at hl 5 rfl) ?_
              refine zz_ci (zz_rS (As := [.int (nI o.toNatClampNeg), .int c]) (rest := []) hC hK hZ (c_Forge_isCostFor l q S o.toNatClampNeg c (by omega)) k_Forge_isCostFor wd_260 ⟨rfl, rfl, by decide, by decide⟩ rfl hl.1 rfl (Nat.le_of_ble_eq_true rfl) d_Forge_rule_46 ⟨Nat.zero_le _, Nat.zero_le _⟩) hZ (fun r46 S46 H locs hp46 hZ => ?_)
              obtain ⟨rfl, rfl⟩ := hp46
              refine zz_bne (tgt := 54) hC d_Forge_rule_49 (by decide) (fun h49 => ?_) (fun h49 => ?_)
              · have hck := (zz_clamp h4.1).2.1
                have hca := (zz_clamp h21.1).2.1
                have hcb := (zz_clamp h29.1).2.1
                have hc0 : 0 ≤ c.toInt := by omega
                have hcc := (zz_clamp hc0).2.1
                have hrv : rv_ok k o a b c := by unfold rv_ok; omega
                refine lv_aload_n hx_ hb_ d_Forge_rule_54 rfl (lv_at hl 0 rfl) ?_
                refine zz_get hC hK hZ 0 0 (Nat.le_of_ble_eq_true rfl) (xc_0 q _ _) rfl hin_Forge (by decide) wd_229 rfl rfl d_Forge_rule_55 ?_
                refine zz_get hC hK hZ 1 7 (Nat.le_of_ble_eq_true rfl) (xc_1 q _ _) rfl hin_Book (by decide) wd_72 rfl rfl d_Forge_rule_58 ?_
                refine zz_topi (y := nI R) hB.1 ?_
                refine lv_bipush (v := nI 24) hx_ hb_ d_Forge_rule_61 (by decide) ?_
                refine zz_jne (tgt := 69) hC d_Forge_rule_63 (by decide) (by omega) (by omega) (fun h63 => ?_) (fun h63 => ?_)
                · refine lv_aload_n hx_ hb_ d_Forge_rule_69 rfl (lv_at hl 0 rfl) ?_
                  refine zz_cv (zz_rV (As := []) (rest := []) hC hK hZ 0 (c_Forge_forgetConclusions l q S) k_Forge_forgetConclusions (Nat.le_of_ble_eq_true rfl) (xc_0 q _ _) rfl wd_263 ⟨rfl, rfl, by decide, by decide⟩ rfl hl.1 rfl (Nat.le_of_ble_eq_true rfl) d_Forge_rule_70 ⟨Nat.zero_le _, Nat.zero_le _⟩) hZ (fun S70 H locs hp70 hZ => ?_)
                  subst hp70
                  refine lv_aload_n hx_ hb_ d_Forge_rule_73 rfl (lv_at hl 0 rfl) ?_
                  refine zz_get hC hK hZ 0 0 (Nat.le_of_ble_eq_true rfl) (xc_0 q _ _) rfl hin_Forge (by decide) wd_229 rfl rfl d_Forge_rule_74 ?_
                  refine lv_iload_n hx_ hb_ d_Forge_rule_77 rfl (lv_at hl 1 rfl) ?_
                  refine zz_topi (y := nI k.toNatClampNeg) (zz_clamp h4.1).1 ?_
                  refine lv_iload_n hx_ hb_ d_Forge_rule_78 rfl (lv_at hl 2 rfl) ?_
                  refine zz_topi (y := nI o.toNatClampNeg) (zz_clamp h8).1 ?_
                  refine lv_iload_n hx_ hb_ d_Forge_rule_79 rfl (lv_at hl 3 rfl) ?_
                  refine zz_topi (y := nI a.toNatClampNeg) (zz_clamp h21.1).1 ?_
                  refine lv_iload hx_ hb_ d_Forge_rule_80 (lv_at hl 4 rfl) ?_
                  refine zz_topi (y := nI b.toNatClampNeg) (zz_clamp h29.1).1 ?_
                  refine lv_iload hx_ hb_ d_Forge_rule_82 (lv_at hl 5 rfl) ?_
                  refine zz_topi (y := nI c.toNatClampNeg) (zz_clamp hc0).1 ?_
                  refine zz_ci (zz_rV (As := [.int (nI k.toNatClampNeg), .int (nI o.toNatClampNeg), .int (nI a.toNatClampNeg), .int (nI b.toNatClampNeg), .int (nI c.toNatClampNeg)]) (rest := []) hC hK hZ 1 (c_Book_add l q (zz_u (zz_u S 25 3 (nI 0)) 18 9 (nI 0)) k.toNatClampNeg o.toNatClampNeg a.toNatClampNeg b.toNatClampNeg c.toNatClampNeg rl R sz1 nb (xb_keep hB (fun x h1 h2 => by rw [zz_u1 _ 18 _ _ x (by omega), zz_u1 _ 25 _ _ x (by omega)])) (by omega) (by omega) (by omega) (by omega) (by omega) (by omega) (by omega)) k_Book_add (Nat.le_of_ble_eq_true rfl) (xc_1 q _ _) rfl wd_267 ⟨rfl, rfl, by decide, by decide⟩ rfl hl.1 rfl (Nat.le_of_ble_eq_true rfl) d_Forge_rule_84 ⟨Nat.zero_le _, Nat.zero_le _⟩) hZ (fun r84 S84 H locs hp84 hZ => ?_)
                  obtain ⟨rfl, hS84⟩ := hp84
                  exact zz_iret hC hK hZ rfl d_Forge_rule_87 (Or.inr (Or.inr ⟨hrv, by omega, rfl, xi_fresh hX0 (by rw [hS84]; exact xb_putO (by omega)) ⟨_, _, by
                    rw [hS84]
                    exact xb_putI (xb_keep hB (fun x h1 h2 => by rw [zz_u1 _ 18 _ _ x (by omega), zz_u1 _ 25 _ _ x (by omega)])) (by omega) (by omega) (by omega) (by omega) (by omega) (by omega) (by omega)⟩⟩))
                · refine lv_bipush (v := (-2)) hx_ hb_ d_Forge_rule_66 (by decide) ?_
                  exact zz_iret hC hK hZ rfl d_Forge_rule_68 (Or.inr (Or.inl ⟨hrv, h63, rfl, rfl⟩))
              · refine lv_iconst (v := (-1)) hx_ hb_ d_Forge_rule_52 (by decide) ?_
                exact zz_iret hC hK hZ rfl d_Forge_rule_53 (Or.inl ⟨by unfold rv_ok; omega, rfl, rfl⟩)
set_option maxHeartbeats 4000000 in
set_option maxRecDepth 100000 in
theorem c_Forge_clear (l : Launch) (q : xg_T) (S : zz_S) (rl : mx_R) (R : Nat) (op : Nat → Nat) (nu : Nat → Int32) (sz ht : Nat → Nat) (m t reg : Nat) (vr : Nat → Int32) (cs : cd_T) (pl : Nat → Nat) (sc : Nat) (hX : xi_ok S rl R op nu sz ht m t reg vr cs pl sc) : Met l y_Forge_clear (Cond.code y_Forge_clear b_Forge_clear 1 none :: zz_tbl) rm_Forge_clear (zz_Pc [.ref (zz_ad (xg_G q) 0)] (xg_G q) S) (va_Qv (fun S1 => xi_ok S1 rl 0 op nu sz ht m t reg vr cs pl sc) (zz_P (xg_G q)) (zz_A (xg_G q))) 0 0 (zz_A (xg_G q)) := by
  refine zz_met (by decide) (Nat.le_of_ble_eq_true rfl) ?_
  intro p_ e_ s_ m_ bl_ mt_ c_ ls hC hK hZ hl
  have hC : zz_C p_ s_ m_ _ mt_ c_ b_Forge_clear 1 none "TreeCoverForge" := hC
  have hx_ := hC.1
  have hb_ := hC.2.1
  have hl : lv_has ls 1 [(0, .ref (zz_ad (xg_G q) 0))] := hl
  refine lv_aload_n hx_ hb_ d_Forge_clear_0 rfl (lv_at hl 0 rfl) ?_
  refine zz_cv (zz_rV (As := []) (rest := []) hC hK hZ 0 (c_Forge_forgetConclusions l q S) k_Forge_forgetConclusions (Nat.le_of_ble_eq_true rfl) (xc_0 q _ _) rfl wd_263 ⟨rfl, rfl, by decide, by decide⟩ rfl hl.1 rfl (Nat.le_of_ble_eq_true rfl) d_Forge_clear_1 ⟨Nat.zero_le _, Nat.zero_le _⟩) hZ (fun S1 H locs hp1 hZ => ?_)
  subst hp1
  refine lv_aload_n hx_ hb_ d_Forge_clear_4 rfl (lv_at hl 0 rfl) ?_
  refine zz_get hC hK hZ 0 0 (Nat.le_of_ble_eq_true rfl) (xc_0 q _ _) rfl hin_Forge (by decide) wd_229 rfl rfl d_Forge_clear_5 ?_
  refine zz_cv (zz_rV (As := []) (rest := []) hC hK hZ 1 (c_Book_removeAll l q (zz_u (zz_u S 25 3 (nI 0)) 18 9 (nI 0))) k_Book_removeAll (Nat.le_of_ble_eq_true rfl) (xc_1 q _ _) rfl wd_275 ⟨rfl, rfl, by decide, by decide⟩ rfl hl.1 rfl (Nat.le_of_ble_eq_true rfl) d_Forge_clear_8 ⟨Nat.zero_le _, Nat.zero_le _⟩) hZ (fun S8 H locs hp8 hZ => ?_)
  exact zz_vret hC hK hZ rfl d_Forge_clear_11 (xi_fresh hX (zz_off_mono hp8.1 (fun c h => by rcases h with h | h <;> omega)) ⟨_, _, xb_none (S := S) hp8.2.1 hp8.2.2⟩)
set_option maxHeartbeats 4000000 in
set_option maxRecDepth 100000 in
theorem c_Forge_states (l : Launch) (q : xg_T) (S : zz_S) (rl : mx_R) (R : Nat) (op : Nat → Nat) (nu : Nat → Int32) (sz ht : Nat → Nat) (m t reg : Nat) (vr : Nat → Int32) (cs : cd_T) (pl : Nat → Nat) (sc : Nat) (hX : xi_ok S rl R op nu sz ht m t reg vr cs pl sc) : Met l y_Forge_states (Cond.code y_Forge_states b_Forge_states 1 (some .int) :: zz_tbl) rm_Forge_states (zz_Pc [.ref (zz_ad (xg_G q) 0)] (xg_G q) S) (va_Qi (fun ans S1 => ns_ans rl R ans ∧ xi_ok S1 rl R op nu sz ht m t reg vr cs pl sc) (zz_P (xg_G q)) (zz_A (xg_G q))) 0 0 (zz_A (xg_G q)) := by
  refine zz_met (by decide) (Nat.le_of_ble_eq_true rfl) ?_
  intro p_ e_ s_ m_ bl_ mt_ c_ ls hC hK hZ hl
  have hC : zz_C p_ s_ m_ _ mt_ c_ b_Forge_states 1 (some .int) "TreeCoverForge" := hC
  have hx_ := hC.1
  have hb_ := hC.2.1
  have hl : lv_has ls 1 [(0, .ref (zz_ad (xg_G q) 0))] := hl
  have hX0 := hX
  obtain ⟨⟨sz1, nb, hB⟩, hP, ⟨n0, gs0, qs0, hn0, hnm0, hq0⟩, hN, hcnt, hreg, hvr, hcod⟩ := hX
  refine lv_aload_n hx_ hb_ d_Forge_states_0 rfl (lv_at hl 0 rfl) ?_
  refine zz_get hC hK hZ 0 2 (Nat.le_of_ble_eq_true rfl) (xc_0 q _ _) rfl hin_Forge (by decide) wd_231 rfl rfl d_Forge_states_1 ?_
  refine zz_get hC hK hZ 25 3 (Nat.le_of_ble_eq_true rfl) (xc_25 q _ _) rfl hin_Table (by decide) wd_165 rfl rfl d_Forge_states_4 ?_
  refine zz_rine (tgt := 21) hC d_Forge_states_7 (by decide) (fun h7 => ?_) (fun h7 => ?_)
  · refine lv_aload_n hx_ hb_ d_Forge_states_21 rfl (lv_at hl 0 rfl) ?_
    refine zz_get hC hK hZ 0 2 (Nat.le_of_ble_eq_true rfl) (xc_0 q _ _) rfl hin_Forge (by decide) wd_231 rfl rfl d_Forge_states_22 ?_
    refine zz_get hC hK hZ 25 3 (Nat.le_of_ble_eq_true rfl) (xc_25 q _ _) rfl hin_Table (by decide) wd_165 rfl rfl d_Forge_states_25 ?_
    exact zz_iret hC hK hZ rfl d_Forge_states_28 ⟨hcnt.elim (fun h => absurd (by rw [h]; rfl) h7) id, hX0⟩
  · refine lv_aload_n hx_ hb_ d_Forge_states_10 rfl (lv_at hl 0 rfl) ?_
    refine zz_get hC hK hZ 0 2 (Nat.le_of_ble_eq_true rfl) (xc_0 q _ _) rfl hin_Forge (by decide) wd_231 rfl rfl d_Forge_states_11 ?_
    refine lv_aload_n hx_ hb_ d_Forge_states_14 rfl (lv_at hl 0 rfl) ?_
    refine zz_get hC hK hZ 0 0 (Nat.le_of_ble_eq_true rfl) (xc_0 q _ _) rfl hin_Forge (by decide) wd_229 rfl rfl d_Forge_states_15 ?_
    refine zz_cv (zz_rV (As := [.ref (zz_ad (xg_G q) 1)]) (rest := []) hC hK hZ 25 (c_Table_findAll l q S rl R sz1 nb hB (fun k hk => (hN k hk).2)) k_Table_findAll (Nat.le_of_ble_eq_true rfl) (xc_25 q _ _) rfl wd_286 ⟨rfl, rfl, by decide, by decide⟩ rfl hl.1 rfl (Nat.le_of_ble_eq_true rfl) d_Forge_states_18 ⟨Nat.zero_le _, Nat.zero_le _⟩) hZ (fun S18 H locs hp18 hZ => ?_)
    refine lv_aload_n hx_ hb_ d_Forge_states_21 rfl (lv_at hl 0 rfl) ?_
    refine zz_get hC hK hZ 0 2 (Nat.le_of_ble_eq_true rfl) (xc_0 q _ _) rfl hin_Forge (by decide) wd_231 rfl rfl d_Forge_states_22 ?_
    refine zz_get hC hK hZ 25 3 (Nat.le_of_ble_eq_true rfl) (xc_25 q _ _) rfl hin_Table (by decide) wd_165 rfl rfl d_Forge_states_25 ?_
    exact zz_iret hC hK hZ rfl d_Forge_states_28 ⟨hp18.2, xi_same hX0 (fun c h1 h2 h3 h4 h5 h6 h7 h8 => (hp18.1 c (by omega)).1) (fun c h1 h2 => hp18.1 c (by omega)) (Or.inr hp18.2) hP.2.2.1⟩
set_option maxHeartbeats 4000000 in
set_option maxRecDepth 100000 in
theorem c_Forge_push (l : Launch) (q : xg_T) (S : zz_S) (o v : Int32) (rl : mx_R) (R : Nat) (op : Nat → Nat) (nu : Nat → Int32) (sz ht : Nat → Nat) (m t reg : Nat) (vr : Nat → Int32) (cs : cd_T) (pl : Nat → Nat) (sc : Nat) (hX : xi_ok S rl R op nu sz ht m t reg vr cs pl sc) (ps : Nat → Nat) (hts : ts_ok sz m t ps) : Met l y_Forge_push (Cond.code y_Forge_push b_Forge_push 3 (some .int) :: zz_tbl) rm_Forge_push (zz_Pc [.ref (zz_ad (xg_G q) 0), .int o, .int v] (xg_G q) S) (va_Qi (fun ans S1 => (¬ pv_ok o v t ∧ ans = -1 ∧ S = S1) ∨ (pv_ok o v t ∧ (m = 40 ∨ 10 < xp_hi sz ht m o.toNatClampNeg) ∧ ans = -2 ∧ S = S1) ∨ (pv_ok o v t ∧ m < 40 ∧ xp_hi sz ht m o.toNatClampNeg ≤ 10 ∧ ans = nI (t + 1 - zz_kd o.toNatClampNeg) ∧ xi_ok S1 rl R (va_up op m o.toNatClampNeg) (upd nu m v) (va_up sz m (xp_sz sz m o.toNatClampNeg)) (va_up ht m (xp_hi sz ht m o.toNatClampNeg)) (m + 1) (t + 1 - zz_kd o.toNatClampNeg) reg vr cs pl sc)) (zz_P (xg_G q)) (zz_A (xg_G q))) 0 0 (zz_A (xg_G q)) := by
  refine zz_met (by decide) (Nat.le_of_ble_eq_true rfl) ?_
  intro p_ e_ s_ m_ bl_ mt_ c_ ls hC hK hZ hl
  have hC : zz_C p_ s_ m_ _ mt_ c_ b_Forge_push 3 (some .int) "TreeCoverForge" := hC
  have hx_ := hC.1
  have hb_ := hC.2.1
  have hl : lv_has ls 3 [(0, .ref (zz_ad (xg_G q) 0)), (1, .int o), (2, .int v)] := hl
  have hX0 := hX
  obtain ⟨⟨sz1, nb, hB⟩, hP, ⟨n0, gs0, qs0, hn0, hnm0, hq0⟩, hN, hcnt, hreg, hvr, hcod⟩ := hX
  have h40 := hP.2.2.1
  have htm := hP.2.2.2.1
  have htw := (ts_two hts).2
  have hkd := tr_kd o.toNatClampNeg
  refine lv_iload_n hx_ hb_ d_Forge_push_0 rfl (lv_at hl 1 rfl) ?_
  refine zz_rilt (tgt := 33) hC d_Forge_push_1 (by decide) (fun h1 => ?_) (fun h1 => ?_)
  · refine lv_iconst (v := (-1)) hx_ hb_ d_Forge_push_33 (by decide) ?_
    exact zz_iret hC hK hZ rfl d_Forge_push_34 (Or.inl ⟨by unfold pv_ok; omega, rfl, rfl⟩)
  · have hcl := (zz_clamp h1).2.1
    refine lv_iload_n hx_ hb_ d_Forge_push_4 rfl (lv_at hl 1 rfl) ?_
    refine lv_bipush (v := nI 8) hx_ hb_ d_Forge_push_5 (by decide) ?_
    refine zz_rjge (tgt := 33) hC d_Forge_push_7 (by decide) (fun h7 => ?_) (fun h7 => ?_)
    · rw [nI_toInt (by omega)] at h7
      refine lv_iconst (v := (-1)) hx_ hb_ d_Forge_push_33 (by decide) ?_
      exact zz_iret hC hK hZ rfl d_Forge_push_34 (Or.inl ⟨by unfold pv_ok; omega, rfl, rfl⟩)
    · rw [nI_toInt (by omega)] at h7
      refine lv_iload_n hx_ hb_ d_Forge_push_10 rfl (lv_at hl 1 rfl) ?_
      refine zz_topi (y := nI o.toNatClampNeg) (zz_clamp h1).1 ?_
      refine lv_iload_n hx_ hb_ d_Forge_push_11 rfl (lv_at hl 2 rfl) ?_
      refine zz_ci (zz_rS (As := [.int (nI o.toNatClampNeg), .int v]) (rest := []) hC hK hZ (c_Forge_isNumberFor l q S o.toNatClampNeg v (by omega)) k_Forge_isNumberFor wd_335 ⟨rfl, rfl, by decide, by decide⟩ rfl hl.1 rfl (Nat.le_of_ble_eq_true rfl) d_Forge_push_12 ⟨Nat.zero_le _, Nat.zero_le _⟩) hZ (fun r12 S12 H locs hp12 hZ => ?_)
      obtain ⟨rfl, rfl⟩ := hp12
      refine zz_beq (tgt := 33) hC d_Forge_push_15 (by decide) (fun h15 => ?_) (fun h15 => ?_)
      · refine lv_iconst (v := (-1)) hx_ hb_ d_Forge_push_33 (by decide) ?_
        exact zz_iret hC hK hZ rfl d_Forge_push_34 (Or.inl ⟨by unfold pv_ok; omega, rfl, rfl⟩)
      · refine lv_aload_n hx_ hb_ d_Forge_push_18 rfl (lv_at hl 0 rfl) ?_
        refine zz_get hC hK hZ 0 1 (Nat.le_of_ble_eq_true rfl) (xc_0 q _ _) rfl hin_Forge (by decide) wd_230 rfl rfl d_Forge_push_19 ?_
        refine zz_get hC hK hZ 18 8 (Nat.le_of_ble_eq_true rfl) (xc_18 q _ _) rfl hin_Pile (by decide) wd_129 rfl rfl d_Forge_push_22 ?_
        refine zz_topi (y := nI t) hP.2.1 ?_
        refine zz_gars (ref := "") hC hK hZ wd_258 d_Forge_push_25 ?_
        refine lv_iload_n hx_ hb_ d_Forge_push_28 rfl (lv_at hl 1 rfl) ?_
        refine zz_topi (y := nI o.toNatClampNeg) (zz_clamp h1).1 ?_
        refine zz_ari hC hK hZ o.toNatClampNeg rfl (by omega) d_Forge_push_29 ?_
        refine zz_jge (tgt := 35) hC d_Forge_push_30 (by decide) (by omega) (by omega) (fun h30 => ?_) (fun h30 => ?_)
        · refine lv_aload_n hx_ hb_ d_Forge_push_35 rfl (lv_at hl 0 rfl) ?_
          refine zz_get hC hK hZ 0 1 (Nat.le_of_ble_eq_true rfl) (xc_0 q _ _) rfl hin_Forge (by decide) wd_230 rfl rfl d_Forge_push_36 ?_
          refine zz_get hC hK hZ 18 7 (Nat.le_of_ble_eq_true rfl) (xc_18 q _ _) rfl hin_Pile (by decide) wd_127 rfl rfl d_Forge_push_39 ?_
          refine zz_topi (y := nI m) hP.1 ?_
          refine lv_bipush (v := nI 40) hx_ hb_ d_Forge_push_42 (by decide) ?_
          refine zz_jeq (tgt := 60) hC d_Forge_push_44 (by decide) (by omega) (by omega) (fun h44 => ?_) (fun h44 => ?_)
          · refine lv_bipush (v := (-2)) hx_ hb_ d_Forge_push_60 (by decide) ?_
            exact zz_iret hC hK hZ rfl d_Forge_push_62 (Or.inr (Or.inl ⟨by unfold pv_ok; omega, by omega, rfl, rfl⟩))
          · have hhi : xp_hi sz ht m o.toNatClampNeg ≤ 11 := by
              unfold xp_hi
              split
              · omega
              · rename_i h0
                have hfk : xp_fk sz m o.toNatClampNeg < m := by
                  unfold xp_fk
                  split <;> omega
                have a1 := (hP.2.2.2.2.1 _ hfk).2.2.2.2
                have a2 := (hP.2.2.2.2.1 (m - 1) (by omega)).2.2.2.2
                omega
            refine lv_aload_n hx_ hb_ d_Forge_push_47 rfl (lv_at hl 0 rfl) ?_
            refine zz_get hC hK hZ 0 1 (Nat.le_of_ble_eq_true rfl) (xc_0 q _ _) rfl hin_Forge (by decide) wd_230 rfl rfl d_Forge_push_48 ?_
            refine lv_iload_n hx_ hb_ d_Forge_push_51 rfl (lv_at hl 1 rfl) ?_
            refine zz_topi (y := nI o.toNatClampNeg) (zz_clamp h1).1 ?_
            refine zz_ci (zz_rV (As := [.int (nI o.toNatClampNeg)]) (rest := []) hC hK hZ 18 (c_Pile_heightOfNew l q S op nu sz ht m t hP o.toNatClampNeg (by omega) (fun _ => by omega) (fun h => htw (by omega))) k_Pile_heightOfNew (Nat.le_of_ble_eq_true rfl) (xc_18 q _ _) rfl wd_341 ⟨rfl, rfl, by decide, by decide⟩ rfl hl.1 rfl (Nat.le_of_ble_eq_true rfl) d_Forge_push_52 ⟨Nat.zero_le _, Nat.zero_le _⟩) hZ (fun r52 S52 H locs hp52 hZ => ?_)
            obtain ⟨rfl, rfl⟩ := hp52
            refine lv_bipush (v := nI 10) hx_ hb_ d_Forge_push_55 (by decide) ?_
            refine zz_jle (tgt := 63) hC d_Forge_push_57 (by decide) (by omega) (by omega) (fun h57 => ?_) (fun h57 => ?_)
            · refine lv_aload_n hx_ hb_ d_Forge_push_63 rfl (lv_at hl 0 rfl) ?_
              refine zz_get hC hK hZ 0 1 (Nat.le_of_ble_eq_true rfl) (xc_0 q _ _) rfl hin_Forge (by decide) wd_230 rfl rfl d_Forge_push_64 ?_
              refine lv_iload_n hx_ hb_ d_Forge_push_67 rfl (lv_at hl 1 rfl) ?_
              refine zz_topi (y := nI o.toNatClampNeg) (zz_clamp h1).1 ?_
              refine lv_iload_n hx_ hb_ d_Forge_push_68 rfl (lv_at hl 2 rfl) ?_
              refine zz_cv (zz_rV (As := [.int (nI o.toNatClampNeg), .int v]) (rest := []) hC hK hZ 18 (c_Pile_add l q S op nu sz ht m t hP o.toNatClampNeg (by omega) (fun _ => by omega) (fun h => htw (by omega)) v (by omega) (by omega)) k_Pile_add (Nat.le_of_ble_eq_true rfl) (xc_18 q _ _) rfl wd_353 ⟨rfl, rfl, by decide, by decide⟩ rfl hl.1 rfl (Nat.le_of_ble_eq_true rfl) d_Forge_push_69 ⟨Nat.zero_le _, Nat.zero_le _⟩) hZ (fun S69 H locs hp69 hZ => ?_)
              subst hp69
              refine lv_aload_n hx_ hb_ d_Forge_push_72 rfl (lv_at hl 0 rfl) ?_
              refine zz_get hC hK hZ 0 1 (Nat.le_of_ble_eq_true rfl) (xc_0 q _ _) rfl hin_Forge (by decide) wd_230 rfl rfl d_Forge_push_73 ?_
              refine zz_get hC hK hZ 18 8 (Nat.le_of_ble_eq_true rfl) (xc_18 q _ _) rfl hin_Pile (by decide) wd_129 rfl rfl d_Forge_push_76 ?_
              refine zz_topi (y := nI (t + 1 - zz_kd o.toNatClampNeg)) rfl ?_
              exact zz_iret hC hK hZ rfl d_Forge_push_79 (Or.inr (Or.inr ⟨by unfold pv_ok; omega, by omega, h57, rfl, xi_push hX0 (by omega) (by omega) (by omega) (fun h => htw (by omega)) h57⟩))
            · refine lv_bipush (v := (-2)) hx_ hb_ d_Forge_push_60 (by decide) ?_
              exact zz_iret hC hK hZ rfl d_Forge_push_62 (Or.inr (Or.inl ⟨by unfold pv_ok; omega, by omega, rfl, rfl⟩))
        · refine lv_iconst (v := (-1)) hx_ hb_ d_Forge_push_33 (by decide) ?_
          exact zz_iret hC hK hZ rfl d_Forge_push_34 (Or.inl ⟨by unfold pv_ok; omega, rfl, rfl⟩)
set_option maxHeartbeats 4000000 in
set_option maxRecDepth 100000 in
theorem c_Forge_pop (l : Launch) (q : xg_T) (S : zz_S) (rl : mx_R) (R : Nat) (op : Nat → Nat) (nu : Nat → Int32) (sz ht : Nat → Nat) (m t reg : Nat) (vr : Nat → Int32) (cs : cd_T) (pl : Nat → Nat) (sc : Nat) (hX : xi_ok S rl R op nu sz ht m t reg vr cs pl sc) (ps : Nat → Nat) (hts : ts_ok sz m t ps) : Met l y_Forge_pop (Cond.code y_Forge_pop b_Forge_pop 1 (some .boolean) :: zz_tbl) rm_Forge_pop (zz_Pc [.ref (zz_ad (xg_G q) 0)] (xg_G q) S) (va_Qi (fun ans S1 => (t = 0 ∧ ans = nI 0 ∧ S = S1) ∨ (t ≠ 0 ∧ ans = nI 1 ∧ xi_ok S1 rl R op nu sz ht (m - sz (m - 1)) (t - 1) reg vr cs pl sc)) (zz_P (xg_G q)) (zz_A (xg_G q))) 0 0 (zz_A (xg_G q)) := by
  refine zz_met (by decide) (Nat.le_of_ble_eq_true rfl) ?_
  intro p_ e_ s_ m_ bl_ mt_ c_ ls hC hK hZ hl
  have hC : zz_C p_ s_ m_ _ mt_ c_ b_Forge_pop 1 (some .boolean) "TreeCoverForge" := hC
  have hx_ := hC.1
  have hb_ := hC.2.1
  have hl : lv_has ls 1 [(0, .ref (zz_ad (xg_G q) 0))] := hl
  have hX0 := hX
  obtain ⟨⟨sz1, nb, hB⟩, hP, ⟨n0, gs0, qs0, hn0, hnm0, hq0⟩, hN, hcnt, hreg, hvr, hcod⟩ := hX
  have h40 := hP.2.2.1
  have htm := hP.2.2.2.1
  refine lv_aload_n hx_ hb_ d_Forge_pop_0 rfl (lv_at hl 0 rfl) ?_
  refine zz_get hC hK hZ 0 1 (Nat.le_of_ble_eq_true rfl) (xc_0 q _ _) rfl hin_Forge (by decide) wd_230 rfl rfl d_Forge_pop_1 ?_
  refine zz_get hC hK hZ 18 8 (Nat.le_of_ble_eq_true rfl) (xc_18 q _ _) rfl hin_Pile (by decide) wd_129 rfl rfl d_Forge_pop_4 ?_
  refine zz_topi (y := nI t) hP.2.1 ?_
  refine zz_ine (tgt := 12) hC d_Forge_pop_7 (by decide) (by omega) (fun h7 => ?_) (fun h7 => ?_)
  · refine lv_aload_n hx_ hb_ d_Forge_pop_12 rfl (lv_at hl 0 rfl) ?_
    refine zz_get hC hK hZ 0 1 (Nat.le_of_ble_eq_true rfl) (xc_0 q _ _) rfl hin_Forge (by decide) wd_230 rfl rfl d_Forge_pop_13 ?_
    refine zz_cv (zz_rV (As := []) (rest := []) hC hK hZ 18 (c_Pile_removeTop l q S op nu sz ht m t hP n0 hn0 hnm0 (by omega)) k_Pile_removeTop (Nat.le_of_ble_eq_true rfl) (xc_18 q _ _) rfl wd_362 ⟨rfl, rfl, by decide, by decide⟩ rfl hl.1 rfl (Nat.le_of_ble_eq_true rfl) d_Forge_pop_16 ⟨Nat.zero_le _, Nat.zero_le _⟩) hZ (fun S16 H locs hp16 hZ => ?_)
    subst hp16
    refine lv_iconst (v := nI 1) hx_ hb_ d_Forge_pop_19 (by decide) ?_
    exact zz_zret hC hK hZ rfl d_Forge_pop_20 (by decide) (Or.inr ⟨h7, rfl, xi_pop hX0 hn0 hnm0 (by omega) (fun h => by
      have h9 := (ts_two hts).1 (by omega)
      have h8 := hts.1
      rw [h, show 1 - 1 = 0 from rfl, h8] at h9
      omega) (by
      have h9 := (ts_two hts).1 (by omega)
      have h8 : ∀ j, j ≤ t → j ≤ ps j := fun j => by
        induction j with
        | zero => exact fun _ => Nat.zero_le _
        | succ j ih =>
          intro hj
          have h7 := ih (by omega)
          have h6 := (hts.2.2 j (by omega)).1
          omega
      have h7 := h8 (t - 1) (by omega)
      omega)⟩)
  · refine lv_iconst (v := nI 0) hx_ hb_ d_Forge_pop_10 (by decide) ?_
    exact zz_zret hC hK hZ rfl d_Forge_pop_11 (by decide) (Or.inl ⟨h7, rfl, rfl⟩)
set_option maxHeartbeats 4000000 in
set_option maxRecDepth 100000 in
theorem c_Forge_trees (l : Launch) (q : xg_T) (S : zz_S) (rl : mx_R) (R : Nat) (op : Nat → Nat) (nu : Nat → Int32) (sz ht : Nat → Nat) (m t reg : Nat) (vr : Nat → Int32) (cs : cd_T) (pl : Nat → Nat) (sc : Nat) (hX : xi_ok S rl R op nu sz ht m t reg vr cs pl sc) : Met l y_Forge_trees (Cond.code y_Forge_trees b_Forge_trees 1 (some .int) :: zz_tbl) rm_Forge_trees (zz_Pc [.ref (zz_ad (xg_G q) 0)] (xg_G q) S) (va_Qi (fun ans S1 => S = S1 ∧ ans = nI t) (zz_P (xg_G q)) (zz_A (xg_G q))) 0 0 (zz_A (xg_G q)) := by
  refine zz_met (by decide) (Nat.le_of_ble_eq_true rfl) ?_
  intro p_ e_ s_ m_ bl_ mt_ c_ ls hC hK hZ hl
  have hC : zz_C p_ s_ m_ _ mt_ c_ b_Forge_trees 1 (some .int) "TreeCoverForge" := hC
  have hx_ := hC.1
  have hb_ := hC.2.1
  have hl : lv_has ls 1 [(0, .ref (zz_ad (xg_G q) 0))] := hl
  refine lv_aload_n hx_ hb_ d_Forge_trees_0 rfl (lv_at hl 0 rfl) ?_
  refine zz_get hC hK hZ 0 1 (Nat.le_of_ble_eq_true rfl) (xc_0 q _ _) rfl hin_Forge (by decide) wd_230 rfl rfl d_Forge_trees_1 ?_
  refine zz_get hC hK hZ 18 8 (Nat.le_of_ble_eq_true rfl) (xc_18 q _ _) rfl hin_Pile (by decide) wd_129 rfl rfl d_Forge_trees_4 ?_
  refine zz_topi (y := nI t) hX.2.1.2.1 ?_
  exact zz_iret hC hK hZ rfl d_Forge_trees_7 ⟨rfl, rfl⟩
set_option maxHeartbeats 4000000 in
set_option maxRecDepth 100000 in
theorem c_Forge_nodes (l : Launch) (q : xg_T) (S : zz_S) (rl : mx_R) (R : Nat) (op : Nat → Nat) (nu : Nat → Int32) (sz ht : Nat → Nat) (m t reg : Nat) (vr : Nat → Int32) (cs : cd_T) (pl : Nat → Nat) (sc : Nat) (hX : xi_ok S rl R op nu sz ht m t reg vr cs pl sc) : Met l y_Forge_nodes (Cond.code y_Forge_nodes b_Forge_nodes 1 (some .int) :: zz_tbl) rm_Forge_nodes (zz_Pc [.ref (zz_ad (xg_G q) 0)] (xg_G q) S) (va_Qi (fun ans S1 => S = S1 ∧ ans = nI (if t = 0 then 0 else sz (m - 1))) (zz_P (xg_G q)) (zz_A (xg_G q))) 0 0 (zz_A (xg_G q)) := by
  refine zz_met (by decide) (Nat.le_of_ble_eq_true rfl) ?_
  intro p_ e_ s_ m_ bl_ mt_ c_ ls hC hK hZ hl
  have hC : zz_C p_ s_ m_ _ mt_ c_ b_Forge_nodes 1 (some .int) "TreeCoverForge" := hC
  have hx_ := hC.1
  have hb_ := hC.2.1
  have hl : lv_has ls 1 [(0, .ref (zz_ad (xg_G q) 0))] := hl
  refine lv_aload_n hx_ hb_ d_Forge_nodes_0 rfl (lv_at hl 0 rfl) ?_
  refine zz_get hC hK hZ 0 1 (Nat.le_of_ble_eq_true rfl) (xc_0 q _ _) rfl hin_Forge (by decide) wd_230 rfl rfl d_Forge_nodes_1 ?_
  refine zz_ci (zz_rV (As := []) (rest := []) hC hK hZ 18 (c_Pile_topSize l q S op nu sz ht m t hX.2.1) k_Pile_topSize (Nat.le_of_ble_eq_true rfl) (xc_18 q _ _) rfl wd_381 ⟨rfl, rfl, by decide, by decide⟩ rfl hl.1 rfl (Nat.le_of_ble_eq_true rfl) d_Forge_nodes_4 ⟨Nat.zero_le _, Nat.zero_le _⟩) hZ (fun r4 S4 H locs hp4 hZ => ?_)
  obtain ⟨rfl, rfl⟩ := hp4
  exact zz_iret hC hK hZ rfl d_Forge_nodes_7 ⟨rfl, rfl⟩
set_option maxHeartbeats 4000000 in
set_option maxRecDepth 100000 in
theorem c_Forge_relative (l : Launch) (q : xg_T) (S : zz_S) (nd k : Int32) (rl : mx_R) (R : Nat) (op : Nat → Nat) (nu : Nat → Int32) (sz ht : Nat → Nat) (m t reg : Nat) (vr : Nat → Int32) (cs : cd_T) (pl : Nat → Nat) (sc : Nat) (hX : xi_ok S rl R op nu sz ht m t reg vr cs pl sc) : Met l y_Forge_relative (Cond.code y_Forge_relative b_Forge_relative 4 (some .int) :: zz_tbl) rm_Forge_relative (zz_Pc [.ref (zz_ad (xg_G q) 0), .int nd, .int k] (xg_G q) S) (va_Qi (fun ans S1 => (¬ ((0 ≤ nd.toInt ∧ nd.toInt < (((if t = 0 then 0 else sz (m - 1)) : Nat) : Int)) ∧ (0 ≤ k.toInt ∧ k.toInt < 4)) ∧ ans = -1 ∧ S = S1) ∨ (((0 ≤ nd.toInt ∧ nd.toInt < (((if t = 0 then 0 else sz (m - 1)) : Nat) : Int)) ∧ (0 ≤ k.toInt ∧ k.toInt < 4)) ∧ xi_ok S1 rl R op nu sz ht m t reg vr cs pl sc ∧ ∃ gs qs, (∀ i, i < m → xq_lab rl R op sz gs qs i) ∧  ans = if gs (m - (if t = 0 then 0 else sz (m - 1)) + nd.toNatClampNeg) k.toNatClampNeg < mx_far then nI (gs (m - (if t = 0 then 0 else sz (m - 1)) + nd.toNatClampNeg) k.toNatClampNeg - ns_low (gs (m - (if t = 0 then 0 else sz (m - 1)) + nd.toNatClampNeg))) else -3)) (zz_P (xg_G q)) (zz_A (xg_G q))) 0 0 (zz_A (xg_G q)) := by
  refine zz_met (by decide) (Nat.le_of_ble_eq_true rfl) ?_
  intro p_ e_ s_ m_ bl_ mt_ c_ ls hC hK hZ hl
  have hC : zz_C p_ s_ m_ _ mt_ c_ b_Forge_relative 4 (some .int) "TreeCoverForge" := hC
  have hx_ := hC.1
  have hb_ := hC.2.1
  have hl : lv_has ls 4 [(0, .ref (zz_ad (xg_G q) 0)), (1, .int nd), (2, .int k)] := hl
  have hX0 := hX
  obtain ⟨⟨sz1, nb, hB⟩, hP, ⟨n0, gs0, qs0, hn0, hnm0, hq0⟩, hN, hcnt, hreg, hvr, hcod⟩ := hX
  have h40 := hP.2.2.1
  have htm := hP.2.2.2.1
  have hfar := vw_far
  have hts2 : (if t = 0 then 0 else sz (m - 1)) ≤ m := by
    split
    · omega
    · have := (hP.2.2.2.2.2.1 (m - 1) (by omega)).2.2.1
      omega
  refine lv_aload_n hx_ hb_ d_Forge_relative_0 rfl (lv_at hl 0 rfl) ?_
  refine lv_iload_n hx_ hb_ d_Forge_relative_1 rfl (lv_at hl 1 rfl) ?_
  refine zz_ci (zz_rV (As := [.int nd]) (rest := []) hC hK hZ 0 (c_Forge_isTopNode l q S nd op nu sz ht m t hP) k_Forge_isTopNode (Nat.le_of_ble_eq_true rfl) (xc_0 q _ _) rfl wd_386 ⟨rfl, rfl, by decide, by decide⟩ rfl hl.1 rfl (Nat.le_of_ble_eq_true rfl) d_Forge_relative_2 ⟨Nat.zero_le _, Nat.zero_le _⟩) hZ (fun r2 S2 H locs hp2 hZ => ?_)
  obtain ⟨rfl, rfl⟩ := hp2
  refine zz_beq (tgt := 15) hC d_Forge_relative_5 (by decide) (fun h5 => ?_) (fun h5 => ?_)
  · refine lv_iconst (v := (-1)) hx_ hb_ d_Forge_relative_15 (by decide) ?_
    exact zz_iret hC hK hZ rfl d_Forge_relative_16 (Or.inl ⟨by omega, rfl, rfl⟩)
  · refine lv_iload_n hx_ hb_ d_Forge_relative_8 rfl (lv_at hl 2 rfl) ?_
    refine zz_ci (zz_rS (As := [.int k]) (rest := []) hC hK hZ (c_Forge_isKind l q S k) k_Forge_isKind wd_252 ⟨rfl, rfl, by decide, by decide⟩ rfl hl.1 rfl (Nat.le_of_ble_eq_true rfl) d_Forge_relative_9 ⟨Nat.zero_le _, Nat.zero_le _⟩) hZ (fun r9 S9 H locs hp9 hZ => ?_)
    obtain ⟨rfl, rfl⟩ := hp9
    refine zz_bne (tgt := 17) hC d_Forge_relative_12 (by decide) (fun h12 => ?_) (fun h12 => ?_)
    · have hck := (zz_clamp h12.1).2.1
      have hcn := (zz_clamp h5.1).2.1
      refine lv_aload_n hx_ hb_ d_Forge_relative_17 rfl (lv_at hl 0 rfl) ?_
      refine zz_get hC hK hZ 0 1 (Nat.le_of_ble_eq_true rfl) (xc_0 q _ _) rfl hin_Forge (by decide) wd_230 rfl rfl d_Forge_relative_18 ?_
      refine lv_aload_n hx_ hb_ d_Forge_relative_21 rfl (lv_at hl 0 rfl) ?_
      refine zz_get hC hK hZ 0 0 (Nat.le_of_ble_eq_true rfl) (xc_0 q _ _) rfl hin_Forge (by decide) wd_229 rfl rfl d_Forge_relative_22 ?_
      refine lv_iload_n hx_ hb_ d_Forge_relative_25 rfl (lv_at hl 1 rfl) ?_
      refine zz_topi (y := nI nd.toNatClampNeg) (zz_clamp h5.1).1 ?_
      refine zz_crQ (zz_rV (As := [.ref (zz_ad (xg_G q) 1), .int (nI nd.toNatClampNeg)]) (rest := []) hC hK hZ 18 (c_Pile_labelOf l q S op nu sz ht m t hP rl R sz1 nb hB gs0 qs0 n0 (nd.toNatClampNeg) hn0 hnm0 hq0 (fun k hk => (hN k hk).1) (by omega)) k_Pile_labelOf (Nat.le_of_ble_eq_true rfl) (xc_18 q _ _) rfl wd_390 ⟨rfl, rfl, by decide, by decide⟩ rfl hl.1 rfl (Nat.le_of_ble_eq_true rfl) d_Forge_relative_26 ⟨Nat.zero_le _, Nat.zero_le _⟩) hZ (fun r26 S26 H locs hp26 hZ => ?_)
      obtain ⟨rfl, S0, gs, qs, ho, rfl, hq⟩ := hp26
      have hXl := xi_labd hX0 ho hq
      have hqi := hq (m - (if t = 0 then 0 else sz (m - 1)) + nd.toNatClampNeg) (by omega)
      have hqb := hqi.2.1.1.1
      refine lv_astore_n (i := 3) (lv' := [(3, .ref (zz_ad (xg_G q) (42 + 3 * ((m - (if t = 0 then 0 else sz (m - 1)) + nd.toNatClampNeg))))), (0, .ref (zz_ad (xg_G q) 0)), (1, .int nd), (2, .int k)]) hx_ hb_ d_Forge_relative_29 rfl hl (by decide) rfl (fun ls hl => ?_)
      refine lv_aload_n hx_ hb_ d_Forge_relative_30 rfl (lv_at hl 0 rfl) ?_
      refine lv_iload_n hx_ hb_ d_Forge_relative_31 rfl (lv_at hl 3 rfl) ?_
      refine zz_topi (y := nI k.toNatClampNeg) (zz_clamp h12.1).1 ?_
      refine zz_ci (zz_rV (As := [.int (nI k.toNatClampNeg)]) (rest := []) hC hK hZ (42 + 3 * ((m - (if t = 0 then 0 else sz (m - 1)) + nd.toNatClampNeg))) (c_Label_isCovered l q (zz_u S0 18 9 (nI m)) (m - (if t = 0 then 0 else sz (m - 1)) + nd.toNatClampNeg) k.toNatClampNeg (gs (m - (if t = 0 then 0 else sz (m - 1)) + nd.toNatClampNeg) k.toNatClampNeg) (by omega) (by omega) (hqi.1 _ (by omega)).1) k_Label_isCovered (by show _ < 291; omega) (xy_lab q ((m - (if t = 0 then 0 else sz (m - 1)) + nd.toNatClampNeg)) _ _) rfl wd_399 ⟨rfl, rfl, by decide, by decide⟩ rfl hl.1 rfl (Nat.le_of_ble_eq_true rfl) d_Forge_relative_32 ⟨Nat.zero_le _, Nat.zero_le _⟩) hZ (fun r32 S32 H locs hp32 hZ => ?_)
      obtain ⟨hS32, rfl⟩ := hp32
      subst hS32
      refine zz_beq (tgt := 53) hC d_Forge_relative_35 (by decide) (fun h35 => ?_) (fun h35 => ?_)
      · refine lv_bipush (v := (-3)) hx_ hb_ d_Forge_relative_53 (by decide) ?_
        exact zz_iret hC hK hZ rfl d_Forge_relative_55 (Or.inr ⟨by omega, hXl, gs, qs, fun i hi => (hq i hi).2, by rw [if_neg h35]⟩)
      · have hlow : ns_low (gs (m - (if t = 0 then 0 else sz (m - 1)) + nd.toNatClampNeg)) ≤ gs (m - (if t = 0 then 0 else sz (m - 1)) + nd.toNatClampNeg) k.toNatClampNeg := by
          have hc : k.toNatClampNeg = 0 ∨ k.toNatClampNeg = 1 ∨ k.toNatClampNeg = 2 ∨ k.toNatClampNeg = 3 := by omega
          unfold ns_low
          rcases hc with h | h | h | h <;> rw [h] <;> omega
        refine lv_aload_n hx_ hb_ d_Forge_relative_38 rfl (lv_at hl 0 rfl) ?_
        refine zz_get hC hK hZ (42 + 3 * ((m - (if t = 0 then 0 else sz (m - 1)) + nd.toNatClampNeg))) 0 (by show _ < 291; omega) (xy_lab q ((m - (if t = 0 then 0 else sz (m - 1)) + nd.toNatClampNeg)) _ _) rfl hin_Label (by decide) wd_105 rfl rfl d_Forge_relative_39 ?_
        refine lv_iload_n hx_ hb_ d_Forge_relative_42 rfl (lv_at hl 3 rfl) ?_
        refine zz_topi (y := nI k.toNatClampNeg) (zz_clamp h12.1).1 ?_
        refine zz_lald hC hK hZ (42 + 3 * ((m - (if t = 0 then 0 else sz (m - 1)) + nd.toNatClampNeg)) + 1) 1 k.toNatClampNeg (by show _ < 291; omega) (xy_cost q ((m - (if t = 0 then 0 else sz (m - 1)) + nd.toNatClampNeg)) _ _) rfl rfl (by omega) (by decide) rfl d_Forge_relative_43 ?_
        refine zz_topl (y := lN (gs (m - (if t = 0 then 0 else sz (m - 1)) + nd.toNatClampNeg) k.toNatClampNeg)) ((hqi.1 _ (by omega)).1.trans (vw_c_in h35)) ?_
        refine lv_aload_n hx_ hb_ d_Forge_relative_44 rfl (lv_at hl 0 rfl) ?_
        refine zz_clg (zz_rV (As := []) (rest := [.long (lN (gs (m - (if t = 0 then 0 else sz (m - 1)) + nd.toNatClampNeg) k.toNatClampNeg))]) hC hK hZ (42 + 3 * ((m - (if t = 0 then 0 else sz (m - 1)) + nd.toNatClampNeg))) (c_Label_leastCost l q (zz_u S0 18 9 (nI m)) (m - (if t = 0 then 0 else sz (m - 1)) + nd.toNatClampNeg) (gs (m - (if t = 0 then 0 else sz (m - 1)) + nd.toNatClampNeg)) (by omega) (fun k hk => ⟨(hqi.1 k hk).1, hqb k hk⟩)) k_Label_leastCost (by show _ < 291; omega) (xy_lab q ((m - (if t = 0 then 0 else sz (m - 1)) + nd.toNatClampNeg)) _ _) rfl wd_400 ⟨rfl, rfl, by decide, by decide⟩ rfl hl.1 rfl (Nat.le_of_ble_eq_true rfl) d_Forge_relative_45 ⟨Nat.zero_le _, Nat.zero_le _⟩) hZ (fun r45 S45 H locs hp45 hZ => ?_)
        obtain ⟨hS45, rfl⟩ := hp45
        subst hS45
        refine zz_topl (y := lN (ns_low (gs (m - (if t = 0 then 0 else sz (m - 1)) + nd.toNatClampNeg)))) (by rw [xl_lo4 hqb, vw_c_in (by omega)]) ?_
        refine lv_lsub hx_ hb_ d_Forge_relative_48 ?_
        refine zz_topl (y := lN (gs (m - (if t = 0 then 0 else sz (m - 1)) + nd.toNatClampNeg) k.toNatClampNeg - ns_low (gs (m - (if t = 0 then 0 else sz (m - 1)) + nd.toNatClampNeg)))) (lN_sub hlow) ?_
        refine lv_l2i hx_ hb_ d_Forge_relative_49 rfl ?_
        refine zz_topi (y := nI (gs (m - (if t = 0 then 0 else sz (m - 1)) + nd.toNatClampNeg) k.toNatClampNeg - ns_low (gs (m - (if t = 0 then 0 else sz (m - 1)) + nd.toNatClampNeg)))) (lN_i _) ?_
        refine lv_goto (tgt := 55) hx_ hb_ d_Forge_relative_50 (by decide) ?_
        exact zz_iret hC hK hZ rfl d_Forge_relative_55 (Or.inr ⟨by omega, hXl, gs, qs, fun i hi => (hq i hi).2, by rw [if_pos h35]⟩)
    · refine lv_iconst (v := (-1)) hx_ hb_ d_Forge_relative_15 (by decide) ?_
      exact zz_iret hC hK hZ rfl d_Forge_relative_16 (Or.inl ⟨by omega, rfl, rfl⟩)
set_option maxHeartbeats 4000000 in
set_option maxRecDepth 100000 in
theorem c_Forge_choice (l : Launch) (q : xg_T) (S : zz_S) (nd k : Int32) (rl : mx_R) (R : Nat) (op : Nat → Nat) (nu : Nat → Int32) (sz ht : Nat → Nat) (m t reg : Nat) (vr : Nat → Int32) (cs : cd_T) (pl : Nat → Nat) (sc : Nat) (hX : xi_ok S rl R op nu sz ht m t reg vr cs pl sc) : Met l y_Forge_choice (Cond.code y_Forge_choice b_Forge_choice 3 (some .int) :: zz_tbl) rm_Forge_choice (zz_Pc [.ref (zz_ad (xg_G q) 0), .int nd, .int k] (xg_G q) S) (va_Qi (fun ans S1 => (¬ ((0 ≤ nd.toInt ∧ nd.toInt < (((if t = 0 then 0 else sz (m - 1)) : Nat) : Int)) ∧ (0 ≤ k.toInt ∧ k.toInt < 4)) ∧ ans = -1 ∧ S = S1) ∨ (((0 ≤ nd.toInt ∧ nd.toInt < (((if t = 0 then 0 else sz (m - 1)) : Nat) : Int)) ∧ (0 ≤ k.toInt ∧ k.toInt < 4)) ∧ xi_ok S1 rl R op nu sz ht m t reg vr cs pl sc ∧ ∃ gs qs, (∀ i, i < m → xq_lab rl R op sz gs qs i) ∧  ans = vw_p (qs (m - (if t = 0 then 0 else sz (m - 1)) + nd.toNatClampNeg) k.toNatClampNeg))) (zz_P (xg_G q)) (zz_A (xg_G q))) 0 0 (zz_A (xg_G q)) := by
  refine zz_met (by decide) (Nat.le_of_ble_eq_true rfl) ?_
  intro p_ e_ s_ m_ bl_ mt_ c_ ls hC hK hZ hl
  have hC : zz_C p_ s_ m_ _ mt_ c_ b_Forge_choice 3 (some .int) "TreeCoverForge" := hC
  have hx_ := hC.1
  have hb_ := hC.2.1
  have hl : lv_has ls 3 [(0, .ref (zz_ad (xg_G q) 0)), (1, .int nd), (2, .int k)] := hl
  have hX0 := hX
  obtain ⟨⟨sz1, nb, hB⟩, hP, ⟨n0, gs0, qs0, hn0, hnm0, hq0⟩, hN, hcnt, hreg, hvr, hcod⟩ := hX
  have h40 := hP.2.2.1
  have htm := hP.2.2.2.1
  have hfar := vw_far
  have hts2 : (if t = 0 then 0 else sz (m - 1)) ≤ m := by
    split
    · omega
    · have := (hP.2.2.2.2.2.1 (m - 1) (by omega)).2.2.1
      omega
  refine lv_aload_n hx_ hb_ d_Forge_choice_0 rfl (lv_at hl 0 rfl) ?_
  refine lv_iload_n hx_ hb_ d_Forge_choice_1 rfl (lv_at hl 1 rfl) ?_
  refine zz_ci (zz_rV (As := [.int nd]) (rest := []) hC hK hZ 0 (c_Forge_isTopNode l q S nd op nu sz ht m t hP) k_Forge_isTopNode (Nat.le_of_ble_eq_true rfl) (xc_0 q _ _) rfl wd_386 ⟨rfl, rfl, by decide, by decide⟩ rfl hl.1 rfl (Nat.le_of_ble_eq_true rfl) d_Forge_choice_2 ⟨Nat.zero_le _, Nat.zero_le _⟩) hZ (fun r2 S2 H locs hp2 hZ => ?_)
  obtain ⟨rfl, rfl⟩ := hp2
  refine zz_beq (tgt := 15) hC d_Forge_choice_5 (by decide) (fun h5 => ?_) (fun h5 => ?_)
  · refine lv_iconst (v := (-1)) hx_ hb_ d_Forge_choice_15 (by decide) ?_
    exact zz_iret hC hK hZ rfl d_Forge_choice_16 (Or.inl ⟨by omega, rfl, rfl⟩)
  · refine lv_iload_n hx_ hb_ d_Forge_choice_8 rfl (lv_at hl 2 rfl) ?_
    refine zz_ci (zz_rS (As := [.int k]) (rest := []) hC hK hZ (c_Forge_isKind l q S k) k_Forge_isKind wd_252 ⟨rfl, rfl, by decide, by decide⟩ rfl hl.1 rfl (Nat.le_of_ble_eq_true rfl) d_Forge_choice_9 ⟨Nat.zero_le _, Nat.zero_le _⟩) hZ (fun r9 S9 H locs hp9 hZ => ?_)
    obtain ⟨rfl, rfl⟩ := hp9
    refine zz_bne (tgt := 17) hC d_Forge_choice_12 (by decide) (fun h12 => ?_) (fun h12 => ?_)
    · have hck := (zz_clamp h12.1).2.1
      have hcn := (zz_clamp h5.1).2.1
      refine lv_aload_n hx_ hb_ d_Forge_choice_17 rfl (lv_at hl 0 rfl) ?_
      refine zz_get hC hK hZ 0 1 (Nat.le_of_ble_eq_true rfl) (xc_0 q _ _) rfl hin_Forge (by decide) wd_230 rfl rfl d_Forge_choice_18 ?_
      refine lv_aload_n hx_ hb_ d_Forge_choice_21 rfl (lv_at hl 0 rfl) ?_
      refine zz_get hC hK hZ 0 0 (Nat.le_of_ble_eq_true rfl) (xc_0 q _ _) rfl hin_Forge (by decide) wd_229 rfl rfl d_Forge_choice_22 ?_
      refine lv_iload_n hx_ hb_ d_Forge_choice_25 rfl (lv_at hl 1 rfl) ?_
      refine zz_topi (y := nI nd.toNatClampNeg) (zz_clamp h5.1).1 ?_
      refine zz_crQ (zz_rV (As := [.ref (zz_ad (xg_G q) 1), .int (nI nd.toNatClampNeg)]) (rest := []) hC hK hZ 18 (c_Pile_labelOf l q S op nu sz ht m t hP rl R sz1 nb hB gs0 qs0 n0 (nd.toNatClampNeg) hn0 hnm0 hq0 (fun k hk => (hN k hk).1) (by omega)) k_Pile_labelOf (Nat.le_of_ble_eq_true rfl) (xc_18 q _ _) rfl wd_390 ⟨rfl, rfl, by decide, by decide⟩ rfl hl.1 rfl (Nat.le_of_ble_eq_true rfl) d_Forge_choice_26 ⟨Nat.zero_le _, Nat.zero_le _⟩) hZ (fun r26 S26 H locs hp26 hZ => ?_)
      obtain ⟨rfl, S0, gs, qs, ho, rfl, hq⟩ := hp26
      have hXl := xi_labd hX0 ho hq
      have hqi := hq (m - (if t = 0 then 0 else sz (m - 1)) + nd.toNatClampNeg) (by omega)
      have hqb := hqi.2.1.1.1
      refine zz_get hC hK hZ (42 + 3 * ((m - (if t = 0 then 0 else sz (m - 1)) + nd.toNatClampNeg))) 1 (by show _ < 291; omega) (xy_lab q ((m - (if t = 0 then 0 else sz (m - 1)) + nd.toNatClampNeg)) _ _) rfl hin_Label (by decide) wd_108 rfl rfl d_Forge_choice_29 ?_
      refine lv_iload_n hx_ hb_ d_Forge_choice_32 rfl (lv_at hl 2 rfl) ?_
      refine zz_topi (y := nI k.toNatClampNeg) (zz_clamp h12.1).1 ?_
      refine zz_iald hC hK hZ (42 + 3 * ((m - (if t = 0 then 0 else sz (m - 1)) + nd.toNatClampNeg)) + 2) 0 k.toNatClampNeg (by show _ < 291; omega) (xy_choi q ((m - (if t = 0 then 0 else sz (m - 1)) + nd.toNatClampNeg)) _ _) rfl rfl (by omega) (by decide) rfl d_Forge_choice_33 ?_
      refine zz_topi (y := vw_p (qs (m - (if t = 0 then 0 else sz (m - 1)) + nd.toNatClampNeg) k.toNatClampNeg)) (hqi.1 _ (by omega)).2 ?_
      exact zz_iret hC hK hZ rfl d_Forge_choice_34 (Or.inr ⟨by omega, hXl, gs, qs, fun i hi => (hq i hi).2, rfl⟩)
    · refine lv_iconst (v := (-1)) hx_ hb_ d_Forge_choice_15 (by decide) ?_
      exact zz_iret hC hK hZ rfl d_Forge_choice_16 (Or.inl ⟨by omega, rfl, rfl⟩)
set_option maxHeartbeats 4000000 in
set_option maxRecDepth 100000 in
theorem c_Forge_cost (l : Launch) (q : xg_T) (S : zz_S) (k : Int32) (rl : mx_R) (R : Nat) (op : Nat → Nat) (nu : Nat → Int32) (sz ht : Nat → Nat) (m t reg : Nat) (vr : Nat → Int32) (cs : cd_T) (pl : Nat → Nat) (sc : Nat) (hX : xi_ok S rl R op nu sz ht m t reg vr cs pl sc) : Met l y_Forge_cost (Cond.code y_Forge_cost b_Forge_cost 3 (some .int) :: zz_tbl) rm_Forge_cost (zz_Pc [.ref (zz_ad (xg_G q) 0), .int k] (xg_G q) S) (va_Qi (fun ans S1 => (¬ (t ≠ 0 ∧ (0 ≤ k.toInt ∧ k.toInt < 4)) ∧ ans = -1 ∧ S = S1) ∨ ((t ≠ 0 ∧ (0 ≤ k.toInt ∧ k.toInt < 4)) ∧ xi_ok S1 rl R op nu sz ht m t reg vr cs pl sc ∧ ∃ gs qs, (∀ i, i < m → xq_lab rl R op sz gs qs i) ∧  ans = if gs (m - 1) k.toNatClampNeg < mx_far then nI (gs (m - 1) k.toNatClampNeg) else -3)) (zz_P (xg_G q)) (zz_A (xg_G q))) 0 0 (zz_A (xg_G q)) := by
  refine zz_met (by decide) (Nat.le_of_ble_eq_true rfl) ?_
  intro p_ e_ s_ m_ bl_ mt_ c_ ls hC hK hZ hl
  have hC : zz_C p_ s_ m_ _ mt_ c_ b_Forge_cost 3 (some .int) "TreeCoverForge" := hC
  have hx_ := hC.1
  have hb_ := hC.2.1
  have hl : lv_has ls 3 [(0, .ref (zz_ad (xg_G q) 0)), (1, .int k)] := hl
  have hX0 := hX
  obtain ⟨⟨sz1, nb, hB⟩, hP, ⟨n0, gs0, qs0, hn0, hnm0, hq0⟩, hN, hcnt, hreg, hvr, hcod⟩ := hX
  have h40 := hP.2.2.1
  have htm := hP.2.2.2.1
  have hfar := vw_far
  have hts2 : (if t = 0 then 0 else sz (m - 1)) ≤ m := by
    split
    · omega
    · have := (hP.2.2.2.2.2.1 (m - 1) (by omega)).2.2.1
      omega
  refine lv_aload_n hx_ hb_ d_Forge_cost_0 rfl (lv_at hl 0 rfl) ?_
  refine zz_get hC hK hZ 0 1 (Nat.le_of_ble_eq_true rfl) (xc_0 q _ _) rfl hin_Forge (by decide) wd_230 rfl rfl d_Forge_cost_1 ?_
  refine zz_get hC hK hZ 18 8 (Nat.le_of_ble_eq_true rfl) (xc_18 q _ _) rfl hin_Pile (by decide) wd_129 rfl rfl d_Forge_cost_4 ?_
  refine zz_topi (y := nI t) hP.2.1 ?_
  refine zz_ieq (tgt := 17) hC d_Forge_cost_7 (by decide) (by omega) (fun h7 => ?_) (fun h7 => ?_)
  · refine lv_iconst (v := (-1)) hx_ hb_ d_Forge_cost_17 (by decide) ?_
    exact zz_iret hC hK hZ rfl d_Forge_cost_18 (Or.inl ⟨by omega, rfl, rfl⟩)
  · have hts3 : 1 ≤ (if t = 0 then 0 else sz (m - 1)) := by
      rw [if_neg h7]
      exact (hP.2.2.2.2.2.1 (m - 1) (by omega)).2.1
    refine lv_iload_n hx_ hb_ d_Forge_cost_10 rfl (lv_at hl 1 rfl) ?_
    refine zz_ci (zz_rS (As := [.int k]) (rest := []) hC hK hZ (c_Forge_isKind l q S k) k_Forge_isKind wd_252 ⟨rfl, rfl, by decide, by decide⟩ rfl hl.1 rfl (Nat.le_of_ble_eq_true rfl) d_Forge_cost_11 ⟨Nat.zero_le _, Nat.zero_le _⟩) hZ (fun r11 S11 H locs hp11 hZ => ?_)
    obtain ⟨rfl, rfl⟩ := hp11
    refine zz_bne (tgt := 19) hC d_Forge_cost_14 (by decide) (fun h14 => ?_) (fun h14 => ?_)
    · have hck := (zz_clamp h14.1).2.1
      have eix : (m - (if t = 0 then 0 else sz (m - 1)) + ((if t = 0 then 0 else sz (m - 1)) - 1)) = m - 1 := by omega
      refine lv_aload_n hx_ hb_ d_Forge_cost_19 rfl (lv_at hl 0 rfl) ?_
      refine zz_get hC hK hZ 0 1 (Nat.le_of_ble_eq_true rfl) (xc_0 q _ _) rfl hin_Forge (by decide) wd_230 rfl rfl d_Forge_cost_20 ?_
      refine lv_aload_n hx_ hb_ d_Forge_cost_23 rfl (lv_at hl 0 rfl) ?_
      refine zz_get hC hK hZ 0 0 (Nat.le_of_ble_eq_true rfl) (xc_0 q _ _) rfl hin_Forge (by decide) wd_229 rfl rfl d_Forge_cost_24 ?_
      refine lv_aload_n hx_ hb_ d_Forge_cost_27 rfl (lv_at hl 0 rfl) ?_
      refine zz_get hC hK hZ 0 1 (Nat.le_of_ble_eq_true rfl) (xc_0 q _ _) rfl hin_Forge (by decide) wd_230 rfl rfl d_Forge_cost_28 ?_
      refine zz_ci (zz_rV (As := []) (rest := [.ref (zz_ad (xg_G q) 1), .ref (zz_ad (xg_G q) 18)]) hC hK hZ 18 (c_Pile_topSize l q S op nu sz ht m t hP) k_Pile_topSize (Nat.le_of_ble_eq_true rfl) (xc_18 q _ _) rfl wd_381 ⟨rfl, rfl, by decide, by decide⟩ rfl hl.1 rfl (Nat.le_of_ble_eq_true rfl) d_Forge_cost_31 ⟨Nat.zero_le _, Nat.zero_le _⟩) hZ (fun r31 S31 H locs hp31 hZ => ?_)
      obtain ⟨rfl, rfl⟩ := hp31
      refine lv_iconst (v := nI 1) hx_ hb_ d_Forge_cost_34 (by decide) ?_
      refine lv_isub hx_ hb_ d_Forge_cost_35 ?_
      refine zz_topi (y := nI ((if t = 0 then 0 else sz (m - 1)) - 1)) (pk_sub (by omega)) ?_
      refine zz_crQ (zz_rV (As := [.ref (zz_ad (xg_G q) 1), .int (nI ((if t = 0 then 0 else sz (m - 1)) - 1))]) (rest := []) hC hK hZ 18 (c_Pile_labelOf l q S op nu sz ht m t hP rl R sz1 nb hB gs0 qs0 n0 (((if t = 0 then 0 else sz (m - 1)) - 1)) hn0 hnm0 hq0 (fun k hk => (hN k hk).1) (by omega)) k_Pile_labelOf (Nat.le_of_ble_eq_true rfl) (xc_18 q _ _) rfl wd_390 ⟨rfl, rfl, by decide, by decide⟩ rfl hl.1 rfl (Nat.le_of_ble_eq_true rfl) d_Forge_cost_36 ⟨Nat.zero_le _, Nat.zero_le _⟩) hZ (fun r36 S36 H locs hp36 hZ => ?_)
      obtain ⟨rfl, S0, gs, qs, ho, rfl, hq⟩ := hp36
      have hXl := xi_labd hX0 ho hq
      have hqi := hq (m - (if t = 0 then 0 else sz (m - 1)) + ((if t = 0 then 0 else sz (m - 1)) - 1)) (by omega)
      have hqb := hqi.2.1.1.1
      refine lv_astore_n (i := 2) (lv' := [(2, .ref (zz_ad (xg_G q) (42 + 3 * ((m - (if t = 0 then 0 else sz (m - 1)) + ((if t = 0 then 0 else sz (m - 1)) - 1)))))), (0, .ref (zz_ad (xg_G q) 0)), (1, .int k)]) hx_ hb_ d_Forge_cost_39 rfl hl (by decide) rfl (fun ls hl => ?_)
      refine lv_aload_n hx_ hb_ d_Forge_cost_40 rfl (lv_at hl 0 rfl) ?_
      refine lv_iload_n hx_ hb_ d_Forge_cost_41 rfl (lv_at hl 2 rfl) ?_
      refine zz_topi (y := nI k.toNatClampNeg) (zz_clamp h14.1).1 ?_
      refine zz_ci (zz_rV (As := [.int (nI k.toNatClampNeg)]) (rest := []) hC hK hZ (42 + 3 * ((m - (if t = 0 then 0 else sz (m - 1)) + ((if t = 0 then 0 else sz (m - 1)) - 1)))) (c_Label_isCovered l q (zz_u S0 18 9 (nI m)) (m - (if t = 0 then 0 else sz (m - 1)) + ((if t = 0 then 0 else sz (m - 1)) - 1)) k.toNatClampNeg (gs (m - (if t = 0 then 0 else sz (m - 1)) + ((if t = 0 then 0 else sz (m - 1)) - 1)) k.toNatClampNeg) (by omega) (by omega) (hqi.1 _ (by omega)).1) k_Label_isCovered (by show _ < 291; omega) (xy_lab q ((m - (if t = 0 then 0 else sz (m - 1)) + ((if t = 0 then 0 else sz (m - 1)) - 1))) _ _) rfl wd_399 ⟨rfl, rfl, by decide, by decide⟩ rfl hl.1 rfl (Nat.le_of_ble_eq_true rfl) d_Forge_cost_42 ⟨Nat.zero_le _, Nat.zero_le _⟩) hZ (fun r42 S42 H locs hp42 hZ => ?_)
      obtain ⟨hS42, rfl⟩ := hp42
      subst hS42
      refine zz_beq (tgt := 58) hC d_Forge_cost_45 (by decide) (fun h45 => ?_) (fun h45 => ?_)
      · refine lv_bipush (v := (-3)) hx_ hb_ d_Forge_cost_58 (by decide) ?_
        exact zz_iret hC hK hZ rfl d_Forge_cost_60 (Or.inr ⟨by omega, hXl, gs, qs, fun i hi => (hq i hi).2, by rw [eix] at h45; rw [if_neg h45]⟩)
      · refine lv_aload_n hx_ hb_ d_Forge_cost_48 rfl (lv_at hl 0 rfl) ?_
        refine zz_get hC hK hZ (42 + 3 * ((m - (if t = 0 then 0 else sz (m - 1)) + ((if t = 0 then 0 else sz (m - 1)) - 1)))) 0 (by show _ < 291; omega) (xy_lab q ((m - (if t = 0 then 0 else sz (m - 1)) + ((if t = 0 then 0 else sz (m - 1)) - 1))) _ _) rfl hin_Label (by decide) wd_105 rfl rfl d_Forge_cost_49 ?_
        refine lv_iload_n hx_ hb_ d_Forge_cost_52 rfl (lv_at hl 2 rfl) ?_
        refine zz_topi (y := nI k.toNatClampNeg) (zz_clamp h14.1).1 ?_
        refine zz_lald hC hK hZ (42 + 3 * ((m - (if t = 0 then 0 else sz (m - 1)) + ((if t = 0 then 0 else sz (m - 1)) - 1))) + 1) 1 k.toNatClampNeg (by show _ < 291; omega) (xy_cost q ((m - (if t = 0 then 0 else sz (m - 1)) + ((if t = 0 then 0 else sz (m - 1)) - 1))) _ _) rfl rfl (by omega) (by decide) rfl d_Forge_cost_53 ?_
        refine zz_topl (y := lN (gs (m - (if t = 0 then 0 else sz (m - 1)) + ((if t = 0 then 0 else sz (m - 1)) - 1)) k.toNatClampNeg)) ((hqi.1 _ (by omega)).1.trans (vw_c_in h45)) ?_
        refine lv_l2i hx_ hb_ d_Forge_cost_54 rfl ?_
        refine zz_topi (y := nI (gs (m - (if t = 0 then 0 else sz (m - 1)) + ((if t = 0 then 0 else sz (m - 1)) - 1)) k.toNatClampNeg)) (lN_i _) ?_
        refine lv_goto (tgt := 60) hx_ hb_ d_Forge_cost_55 (by decide) ?_
        exact zz_iret hC hK hZ rfl d_Forge_cost_60 (Or.inr ⟨by omega, hXl, gs, qs, fun i hi => (hq i hi).2, by rw [eix] at h45; rw [if_pos h45]; rw [eix]⟩)
    · refine lv_iconst (v := (-1)) hx_ hb_ d_Forge_cost_17 (by decide) ?_
      exact zz_iret hC hK hZ rfl d_Forge_cost_18 (Or.inl ⟨by omega, rfl, rfl⟩)
set_option maxHeartbeats 4000000 in
set_option maxRecDepth 100000 in
theorem c_Forge_registers (l : Launch) (q : xg_T) (S : zz_S) (x : Int32) (rl : mx_R) (R : Nat) (op : Nat → Nat) (nu : Nat → Int32) (sz ht : Nat → Nat) (m t reg : Nat) (vr : Nat → Int32) (cs : cd_T) (pl : Nat → Nat) (sc : Nat) (hX : xi_ok S rl R op nu sz ht m t reg vr cs pl sc) : Met l y_Forge_registers (Cond.code y_Forge_registers b_Forge_registers 2 (some .boolean) :: zz_tbl) rm_Forge_registers (zz_Pc [.ref (zz_ad (xg_G q) 0), .int x] (xg_G q) S) (va_Qi (fun ans S1 => (¬ (1 ≤ x.toInt ∧ x.toInt ≤ 4) ∧ ans = nI 0 ∧ S = S1) ∨ ((1 ≤ x.toInt ∧ x.toInt ≤ 4) ∧ ans = nI 1 ∧ xi_ok S1 rl R op nu sz ht m t x.toNatClampNeg vr cs pl sc)) (zz_P (xg_G q)) (zz_A (xg_G q))) 0 0 (zz_A (xg_G q)) := by
  refine zz_met (by decide) (Nat.le_of_ble_eq_true rfl) ?_
  intro p_ e_ s_ m_ bl_ mt_ c_ ls hC hK hZ hl
  have hC : zz_C p_ s_ m_ _ mt_ c_ b_Forge_registers 2 (some .boolean) "TreeCoverForge" := hC
  have hx_ := hC.1
  have hb_ := hC.2.1
  have hl : lv_has ls 2 [(0, .ref (zz_ad (xg_G q) 0)), (1, .int x)] := hl
  refine lv_iload_n hx_ hb_ d_Forge_registers_0 rfl (lv_at hl 1 rfl) ?_
  refine lv_iconst (v := nI 1) hx_ hb_ d_Forge_registers_1 (by decide) ?_
  refine zz_rjlt (tgt := 10) hC d_Forge_registers_2 (by decide) (fun h2 => ?_) (fun h2 => ?_)
  · rw [nI_toInt (by omega)] at h2
    refine lv_iconst (v := nI 0) hx_ hb_ d_Forge_registers_10 (by decide) ?_
    exact zz_zret hC hK hZ rfl d_Forge_registers_11 (by decide) (Or.inl ⟨by omega, rfl, rfl⟩)
  · rw [nI_toInt (by omega)] at h2
    refine lv_iload_n hx_ hb_ d_Forge_registers_5 rfl (lv_at hl 1 rfl) ?_
    refine lv_iconst (v := nI 4) hx_ hb_ d_Forge_registers_6 (by decide) ?_
    refine zz_rjle (tgt := 12) hC d_Forge_registers_7 (by decide) (fun h7 => ?_) (fun h7 => ?_)
    · rw [nI_toInt (by omega)] at h7
      have hcx := zz_clamp (show 0 ≤ x.toInt by omega)
      refine lv_aload_n hx_ hb_ d_Forge_registers_12 rfl (lv_at hl 0 rfl) ?_
      refine lv_iload_n hx_ hb_ d_Forge_registers_13 rfl (lv_at hl 1 rfl) ?_
      refine zz_topi (y := nI x.toNatClampNeg) hcx.1 ?_
      refine zz_put hC hK hZ 0 5 (Nat.le_of_ble_eq_true rfl) (xc_0 q _ _) rfl hin_Forge t_Forge t_Forge_ok n_Forge (by decide) wd_234 rfl rfl rfl (Nat.le_of_ble_eq_true rfl) rfl d_Forge_registers_14 (fun H locs hZ => ?_)
      refine lv_iconst (v := nI 1) hx_ hb_ d_Forge_registers_17 (by decide) ?_
      exact zz_zret hC hK hZ rfl d_Forge_registers_18 (by decide) (Or.inr ⟨by omega, rfl, xi_reg hX⟩)
    · rw [nI_toInt (by omega)] at h7
      refine lv_iconst (v := nI 0) hx_ hb_ d_Forge_registers_10 (by decide) ?_
      exact zz_zret hC hK hZ rfl d_Forge_registers_11 (by decide) (Or.inl ⟨by omega, rfl, rfl⟩)
set_option maxHeartbeats 4000000 in
set_option maxRecDepth 100000 in
theorem c_Forge_slots (l : Launch) (q : xg_T) (S : zz_S) (rl : mx_R) (R : Nat) (op : Nat → Nat) (nu : Nat → Int32) (sz ht : Nat → Nat) (m t reg : Nat) (vr : Nat → Int32) (cs : cd_T) (pl : Nat → Nat) (sc : Nat) (hX : xi_ok S rl R op nu sz ht m t reg vr cs pl sc) : Met l y_Forge_slots (Cond.code y_Forge_slots b_Forge_slots 1 (some .int) :: zz_tbl) rm_Forge_slots (zz_Pc [.ref (zz_ad (xg_G q) 0)] (xg_G q) S) (va_Qi (fun ans S1 => S = S1 ∧ ans = nI sc) (zz_P (xg_G q)) (zz_A (xg_G q))) 0 0 (zz_A (xg_G q)) := by
  refine zz_met (by decide) (Nat.le_of_ble_eq_true rfl) ?_
  intro p_ e_ s_ m_ bl_ mt_ c_ ls hC hK hZ hl
  have hC : zz_C p_ s_ m_ _ mt_ c_ b_Forge_slots 1 (some .int) "TreeCoverForge" := hC
  have hx_ := hC.1
  have hb_ := hC.2.1
  have hl : lv_has ls 1 [(0, .ref (zz_ad (xg_G q) 0))] := hl
  refine lv_aload_n hx_ hb_ d_Forge_slots_0 rfl (lv_at hl 0 rfl) ?_
  refine zz_get hC hK hZ 0 3 (Nat.le_of_ble_eq_true rfl) (xc_0 q _ _) rfl hin_Forge (by decide) wd_232 rfl rfl d_Forge_slots_1 ?_
  refine zz_get hC hK hZ 27 14 (Nat.le_of_ble_eq_true rfl) (xc_27 q _ _) rfl hin_Code (by decide) wd_197 rfl rfl d_Forge_slots_4 ?_
  refine zz_topi (y := nI sc) hX.2.2.2.2.2.2.2.2.1 ?_
  exact zz_iret hC hK hZ rfl d_Forge_slots_7 ⟨rfl, rfl⟩
set_option maxHeartbeats 4000000 in
set_option maxRecDepth 100000 in
theorem c_Forge_set (l : Launch) (q : xg_T) (S : zz_S) (v x : Int32) (rl : mx_R) (R : Nat) (op : Nat → Nat) (nu : Nat → Int32) (sz ht : Nat → Nat) (m t reg : Nat) (vr : Nat → Int32) (cs : cd_T) (pl : Nat → Nat) (sc : Nat) (hX : xi_ok S rl R op nu sz ht m t reg vr cs pl sc) : Met l y_Forge_set (Cond.code y_Forge_set b_Forge_set 3 (some .boolean) :: zz_tbl) rm_Forge_set (zz_Pc [.ref (zz_ad (xg_G q) 0), .int v, .int x] (xg_G q) S) (va_Qi (fun ans S1 => (¬ (0 ≤ v.toInt ∧ v.toInt < 8) ∧ ans = nI 0 ∧ S = S1) ∨ ((0 ≤ v.toInt ∧ v.toInt < 8) ∧ ans = nI 1 ∧ xi_ok S1 rl R op nu sz ht m t reg (upd vr v.toNatClampNeg x) cs pl sc)) (zz_P (xg_G q)) (zz_A (xg_G q))) 0 0 (zz_A (xg_G q)) := by
  refine zz_met (by decide) (Nat.le_of_ble_eq_true rfl) ?_
  intro p_ e_ s_ m_ bl_ mt_ c_ ls hC hK hZ hl
  have hC : zz_C p_ s_ m_ _ mt_ c_ b_Forge_set 3 (some .boolean) "TreeCoverForge" := hC
  have hx_ := hC.1
  have hb_ := hC.2.1
  have hl : lv_has ls 3 [(0, .ref (zz_ad (xg_G q) 0)), (1, .int v), (2, .int x)] := hl
  refine lv_iload_n hx_ hb_ d_Forge_set_0 rfl (lv_at hl 1 rfl) ?_
  refine zz_ci (zz_rS (As := [.int v]) (rest := []) hC hK hZ (c_Forge_isVariable l q S v) k_Forge_isVariable wd_338 ⟨rfl, rfl, by decide, by decide⟩ rfl hl.1 rfl (Nat.le_of_ble_eq_true rfl) d_Forge_set_1 ⟨Nat.zero_le _, Nat.zero_le _⟩) hZ (fun r1 S1 H locs hp1 hZ => ?_)
  obtain ⟨rfl, rfl⟩ := hp1
  refine zz_bne (tgt := 9) hC d_Forge_set_4 (by decide) (fun h4 => ?_) (fun h4 => ?_)
  · have hcv := zz_clamp h4.1
    refine lv_aload_n hx_ hb_ d_Forge_set_9 rfl (lv_at hl 0 rfl) ?_
    refine zz_get hC hK hZ 0 4 (Nat.le_of_ble_eq_true rfl) (xc_0 q _ _) rfl hin_Forge (by decide) wd_233 rfl rfl d_Forge_set_10 ?_
    refine lv_iload_n hx_ hb_ d_Forge_set_13 rfl (lv_at hl 1 rfl) ?_
    refine zz_topi (y := nI v.toNatClampNeg) hcv.1 ?_
    refine lv_iload_n hx_ hb_ d_Forge_set_14 rfl (lv_at hl 2 rfl) ?_
    refine zz_iast hC hK hZ 41 0 v.toNatClampNeg (Nat.le_of_ble_eq_true rfl) (fun _ => xc_41 q _ _) rfl rfl (by omega) (by decide) d_Forge_set_15 (fun H locs hZ => ?_)
    refine lv_iconst (v := nI 1) hx_ hb_ d_Forge_set_16 (by decide) ?_
    exact zz_zret hC hK hZ rfl d_Forge_set_17 (by decide) (Or.inr ⟨h4, rfl, xi_var hX⟩)
  · refine lv_iconst (v := nI 0) hx_ hb_ d_Forge_set_7 (by decide) ?_
    exact zz_zret hC hK hZ rfl d_Forge_set_8 (by decide) (Or.inl ⟨h4, rfl, rfl⟩)
set_option maxHeartbeats 4000000 in
set_option maxRecDepth 100000 in
theorem c_Forge_value (l : Launch) (q : xg_T) (S : zz_S) (rl : mx_R) (R : Nat) (op : Nat → Nat) (nu : Nat → Int32) (sz ht : Nat → Nat) (m t reg : Nat) (vr : Nat → Int32) (cs : cd_T) (pl : Nat → Nat) (sc : Nat) (hX : xi_ok S rl R op nu sz ht m t reg vr cs pl sc) (hnu : xn_ok op nu m) : Met l y_Forge_value (Cond.code y_Forge_value b_Forge_value 1 (some .int) :: zz_tbl) rm_Forge_value (zz_Pc [.ref (zz_ad (xg_G q) 0)] (xg_G q) S) (va_Qi (fun ans S1 => xi_ok S1 rl R op nu sz ht m t reg vr cs pl sc ∧ ((t = 0 ∧ ans = nI 0) ∨ (t ≠ 0 ∧ ∃ vl, xe_ok vr op nu sz vl (m - sz (m - 1)) m ∧ ans = vl (m - 1)))) (zz_P (xg_G q)) (zz_A (xg_G q))) 0 0 (zz_A (xg_G q)) := by
  refine zz_met (by decide) (Nat.le_of_ble_eq_true rfl) ?_
  intro p_ e_ s_ m_ bl_ mt_ c_ ls hC hK hZ hl
  have hC : zz_C p_ s_ m_ _ mt_ c_ b_Forge_value 1 (some .int) "TreeCoverForge" := hC
  have hx_ := hC.1
  have hb_ := hC.2.1
  have hl : lv_has ls 1 [(0, .ref (zz_ad (xg_G q) 0))] := hl
  have hX0 := hX
  obtain ⟨⟨sz1, nb, hB⟩, hP, ⟨n0, gs0, qs0, hn0, hnm0, hq0⟩, hN, hcnt, hreg, hvr, hcod⟩ := hX
  refine lv_aload_n hx_ hb_ d_Forge_value_0 rfl (lv_at hl 0 rfl) ?_
  refine zz_get hC hK hZ 0 1 (Nat.le_of_ble_eq_true rfl) (xc_0 q _ _) rfl hin_Forge (by decide) wd_230 rfl rfl d_Forge_value_1 ?_
  refine lv_aload_n hx_ hb_ d_Forge_value_4 rfl (lv_at hl 0 rfl) ?_
  refine zz_get hC hK hZ 0 4 (Nat.le_of_ble_eq_true rfl) (xc_0 q _ _) rfl hin_Forge (by decide) wd_233 rfl rfl d_Forge_value_5 ?_
  refine zz_ci (zz_rV (As := [.ref (zz_ad (xg_G q) 41)]) (rest := []) hC hK hZ 18 (c_Pile_evaluateTop l q S op nu sz ht m t hP vr hvr hnu) k_Pile_evaluateTop (Nat.le_of_ble_eq_true rfl) (xc_18 q _ _) rfl wd_496 ⟨rfl, rfl, by decide, by decide⟩ rfl hl.1 rfl (Nat.le_of_ble_eq_true rfl) d_Forge_value_8 ⟨Nat.zero_le _, Nat.zero_le _⟩) hZ (fun r8 S8 H locs hp8 hZ => ?_)
  exact zz_iret hC hK hZ rfl d_Forge_value_11 ⟨xi_same hX0 (fun c h1 h2 h3 h4 h5 h6 h7 h8 => (hp8.1 c (by omega)).1) (fun c h1 h2 => hp8.1 c (by omega)) (by rw [(hp8.1 25 (by omega)).1]; exact hcnt) hP.2.2.1, hp8.2⟩
set_option maxHeartbeats 4000000 in
set_option maxRecDepth 100000 in
theorem c_Forge_run (l : Launch) (q : xg_T) (S : zz_S) (rl : mx_R) (R : Nat) (op : Nat → Nat) (nu : Nat → Int32) (sz ht : Nat → Nat) (m t reg : Nat) (vr : Nat → Int32) (cs : cd_T) (pl : Nat → Nat) (sc : Nat) (hX : xi_ok S rl R op nu sz ht m t reg vr cs pl sc) (hmu : mu_ok cs pl sc) : Met l y_Forge_run (Cond.code y_Forge_run b_Forge_run 1 (some .int) :: zz_tbl) rm_Forge_run (zz_Pc [.ref (zz_ad (xg_G q) 0)] (xg_G q) S) (va_Qi (fun ans S1 => xi_ok S1 rl R op nu sz ht m t reg vr cs pl sc ∧ ((cs.1 = 0 ∧ ans = nI 0) ∨ (cs.1 ≠ 0 ∧ ∃ res, ex_ok vr cs res ∧ ans = res (cs.1 - 1)))) (zz_P (xg_G q)) (zz_A (xg_G q))) 0 0 (zz_A (xg_G q)) := by
  refine zz_met (by decide) (Nat.le_of_ble_eq_true rfl) ?_
  intro p_ e_ s_ m_ bl_ mt_ c_ ls hC hK hZ hl
  have hC : zz_C p_ s_ m_ _ mt_ c_ b_Forge_run 1 (some .int) "TreeCoverForge" := hC
  have hx_ := hC.1
  have hb_ := hC.2.1
  have hl : lv_has ls 1 [(0, .ref (zz_ad (xg_G q) 0))] := hl
  have hX0 := hX
  obtain ⟨⟨sz1, nb, hB⟩, hP, ⟨n0, gs0, qs0, hn0, hnm0, hq0⟩, hN, hcnt, hreg, hvr, hcod⟩ := hX
  obtain ⟨u1, u2, ⟨r0, v1, v2, v3⟩, u4⟩ := hmu
  refine lv_aload_n hx_ hb_ d_Forge_run_0 rfl (lv_at hl 0 rfl) ?_
  refine zz_get hC hK hZ 0 3 (Nat.le_of_ble_eq_true rfl) (xc_0 q _ _) rfl hin_Forge (by decide) wd_232 rfl rfl d_Forge_run_1 ?_
  refine lv_aload_n hx_ hb_ d_Forge_run_4 rfl (lv_at hl 0 rfl) ?_
  refine zz_get hC hK hZ 0 4 (Nat.le_of_ble_eq_true rfl) (xc_0 q _ _) rfl hin_Forge (by decide) wd_233 rfl rfl d_Forge_run_5 ?_
  refine zz_ci (zz_rV (As := [.ref (zz_ad (xg_G q) 41)]) (rest := []) hC hK hZ 27 (c_Code_execute l q S cs pl r0 sc vr hcod.1 u1 hcod.2.2 v3 (fun i hi => by have := v3.2.1 i hi; have := v3.2.2.2; omega) hvr u4) k_Code_execute (Nat.le_of_ble_eq_true rfl) (xc_27 q _ _) rfl wd_485 ⟨rfl, rfl, by decide, by decide⟩ rfl hl.1 rfl (Nat.le_of_ble_eq_true rfl) d_Forge_run_8 ⟨Nat.zero_le _, Nat.zero_le _⟩) hZ (fun r8 S8 H locs hp8 hZ => ?_)
  exact zz_iret hC hK hZ rfl d_Forge_run_11 ⟨xi_same hX0 (fun c h1 h2 h3 h4 h5 h6 h7 h8 => (hp8.1 c (by omega)).1) (fun c h1 h2 => hp8.1 c (by omega)) (by rw [(hp8.1 25 (by omega)).1]; exact hcnt) hP.2.2.1, hp8.2⟩
set_option maxHeartbeats 4000000 in
set_option maxRecDepth 100000 in
theorem c_Forge_instruction (l : Launch) (q : xg_T) (S : zz_S) (i w : Int32) (rl : mx_R) (R : Nat) (op : Nat → Nat) (nu : Nat → Int32) (sz ht : Nat → Nat) (m t reg : Nat) (vr : Nat → Int32) (cs : cd_T) (pl : Nat → Nat) (sc : Nat) (hX : xi_ok S rl R op nu sz ht m t reg vr cs pl sc) (hmu : mu_ok cs pl sc) : Met l y_Forge_instruction (Cond.code y_Forge_instruction b_Forge_instruction 3 (some .int) :: zz_tbl) rm_Forge_instruction (zz_Pc [.ref (zz_ad (xg_G q) 0), .int i, .int w] (xg_G q) S) (va_Qi (fun ans S1 => S = S1 ∧ ((¬ ((0 ≤ i.toInt ∧ i.toInt < (cs.1 : Int)) ∧ 0 ≤ w.toInt ∧ w.toInt < 5) ∧ ans = -1) ∨ (((0 ≤ i.toInt ∧ i.toInt < (cs.1 : Int)) ∧ 0 ≤ w.toInt ∧ w.toInt < 5) ∧ ans = xk_tell cs pl i.toNatClampNeg w.toNatClampNeg))) (zz_P (xg_G q)) (zz_A (xg_G q))) 0 0 (zz_A (xg_G q)) := by
  refine zz_met (by decide) (Nat.le_of_ble_eq_true rfl) ?_
  intro p_ e_ s_ m_ bl_ mt_ c_ ls hC hK hZ hl
  have hC : zz_C p_ s_ m_ _ mt_ c_ b_Forge_instruction 3 (some .int) "TreeCoverForge" := hC
  have hx_ := hC.1
  have hb_ := hC.2.1
  have hl : lv_has ls 3 [(0, .ref (zz_ad (xg_G q) 0)), (1, .int i), (2, .int w)] := hl
  have hX0 := hX
  obtain ⟨⟨sz1, nb, hB⟩, hP, ⟨n0, gs0, qs0, hn0, hnm0, hq0⟩, hN, hcnt, hreg, hvr, hcod⟩ := hX
  have hc160 := hcod.1.2.1
  refine lv_iload_n hx_ hb_ d_Forge_instruction_0 rfl (lv_at hl 1 rfl) ?_
  refine zz_rilt (tgt := 24) hC d_Forge_instruction_1 (by decide) (fun h1 => ?_) (fun h1 => ?_)
  · refine lv_iconst (v := (-1)) hx_ hb_ d_Forge_instruction_24 (by decide) ?_
    exact zz_iret hC hK hZ rfl d_Forge_instruction_25 ⟨rfl, Or.inl ⟨by omega, rfl⟩⟩
  · refine lv_iload_n hx_ hb_ d_Forge_instruction_4 rfl (lv_at hl 1 rfl) ?_
    refine lv_aload_n hx_ hb_ d_Forge_instruction_5 rfl (lv_at hl 0 rfl) ?_
    refine zz_get hC hK hZ 0 3 (Nat.le_of_ble_eq_true rfl) (xc_0 q _ _) rfl hin_Forge (by decide) wd_232 rfl rfl d_Forge_instruction_6 ?_
    refine zz_get hC hK hZ 27 13 (Nat.le_of_ble_eq_true rfl) (xc_27 q _ _) rfl hin_Code (by decide) wd_195 rfl rfl d_Forge_instruction_9 ?_
    refine zz_topi (y := nI cs.1) hcod.1.1 ?_
    refine zz_rjge (tgt := 24) hC d_Forge_instruction_12 (by decide) (fun h12 => ?_) (fun h12 => ?_)
    · rw [nI_toInt (by omega)] at h12
      refine lv_iconst (v := (-1)) hx_ hb_ d_Forge_instruction_24 (by decide) ?_
      exact zz_iret hC hK hZ rfl d_Forge_instruction_25 ⟨rfl, Or.inl ⟨by omega, rfl⟩⟩
    · rw [nI_toInt (by omega)] at h12
      refine lv_iload_n hx_ hb_ d_Forge_instruction_15 rfl (lv_at hl 2 rfl) ?_
      refine zz_rilt (tgt := 24) hC d_Forge_instruction_16 (by decide) (fun h16 => ?_) (fun h16 => ?_)
      · refine lv_iconst (v := (-1)) hx_ hb_ d_Forge_instruction_24 (by decide) ?_
        exact zz_iret hC hK hZ rfl d_Forge_instruction_25 ⟨rfl, Or.inl ⟨by omega, rfl⟩⟩
      · refine lv_iload_n hx_ hb_ d_Forge_instruction_19 rfl (lv_at hl 2 rfl) ?_
        refine lv_iconst (v := nI 5) hx_ hb_ d_Forge_instruction_20 (by decide) ?_
        refine zz_rjlt (tgt := 26) hC d_Forge_instruction_21 (by decide) (fun h21 => ?_) (fun h21 => ?_)
        · rw [nI_toInt (by omega)] at h21
          have hci := (zz_clamp h1).2.1
          have hcw := (zz_clamp h16).2.1
          refine lv_aload_n hx_ hb_ d_Forge_instruction_26 rfl (lv_at hl 0 rfl) ?_
          refine zz_get hC hK hZ 0 3 (Nat.le_of_ble_eq_true rfl) (xc_0 q _ _) rfl hin_Forge (by decide) wd_232 rfl rfl d_Forge_instruction_27 ?_
          refine lv_iload_n hx_ hb_ d_Forge_instruction_30 rfl (lv_at hl 1 rfl) ?_
          refine zz_topi (y := nI i.toNatClampNeg) (zz_clamp h1).1 ?_
          refine lv_iload_n hx_ hb_ d_Forge_instruction_31 rfl (lv_at hl 2 rfl) ?_
          refine zz_topi (y := nI w.toNatClampNeg) (zz_clamp h16).1 ?_
          refine zz_ci (zz_rV (As := [.int (nI i.toNatClampNeg), .int (nI w.toNatClampNeg)]) (rest := []) hC hK hZ 27 (c_Code_tell l q S cs pl i.toNatClampNeg w.toNatClampNeg hcod.1 (by omega) (by omega) (fun i hi => ⟨fun h => ((hmu.1 i hi).2.2.1 h).1, fun h => ((hmu.1 i hi).2.2.2 h).1⟩) hcod.2.2) k_Code_tell (Nat.le_of_ble_eq_true rfl) (xc_27 q _ _) rfl wd_465 ⟨rfl, rfl, by decide, by decide⟩ rfl hl.1 rfl (Nat.le_of_ble_eq_true rfl) d_Forge_instruction_32 ⟨Nat.zero_le _, Nat.zero_le _⟩) hZ (fun r32 S32 H locs hp32 hZ => ?_)
          obtain ⟨rfl, rfl⟩ := hp32
          exact zz_iret hC hK hZ rfl d_Forge_instruction_35 ⟨rfl, Or.inr ⟨by omega, rfl⟩⟩
        · rw [nI_toInt (by omega)] at h21
          refine lv_iconst (v := (-1)) hx_ hb_ d_Forge_instruction_24 (by decide) ?_
          exact zz_iret hC hK hZ rfl d_Forge_instruction_25 ⟨rfl, Or.inl ⟨by omega, rfl⟩⟩
