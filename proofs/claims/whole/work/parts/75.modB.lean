/-! The reference: settle. Laid by wip/whole/prog/p29.py. -/
set_option maxHeartbeats 4000000 in
set_option maxRecDepth 100000 in
theorem c_Model_settle (l : Launch) (q : xg_T) (S : zz_S) (i n reg sc : Nat) (un pl : Nat → Nat) (hrg : S.1 0 24 = nI reg) (hr4 : reg ≤ 4) (hi : i < n) (hn : n ≤ 160) (hun : ∀ j, j < n → S.1 25 j = nI (un j) ∧ un j < 160) (hpl : ∀ j, j < i → S.1 26 j = nI (pl j)) (hpb : ∀ j, j < i → pl j < 1000) (hsc : S.1 0 23 = nI sc) (hsb : sc ≤ 160) : Met l y_Model_settle (Cond.code y_Model_settle b_Model_settle 5 none :: zz_tbl) rm_Model_settle (zz_Pc [.ref (zz_ad (mg_G q) 0), .int (nI i)] (mg_G q) S) (va_Qv (fun S1 => zz_off (fun c => c = 0 ∨ c = 26) S S1 ∧ (∀ j, j ≠ 23 → S1.1 0 j = S.1 0 j) ∧ ∃ pl2 sc2, pl_step reg un i pl sc pl2 sc2 ∧ S1.1 0 23 = nI sc2 ∧ ∀ j, j < i + 1 → S1.1 26 j = nI (pl2 j)) (zz_P (mg_G q)) (zz_A (mg_G q))) 0 0 (zz_A (mg_G q)) := by
  refine zz_met (by decide) (Nat.le_of_ble_eq_true rfl) ?_
  intro p_ e_ s_ m_ bl_ mt_ c_ ls hC hK hZ hl
  have hC : zz_C p_ s_ m_ _ mt_ c_ b_Model_settle 5 none "TreeCoverForgeModel" := hC
  have hx_ := hC.1
  have hb_ := hC.2.1
  have hl : lv_has ls 5 [(0, .ref (zz_ad (mg_G q) 0)), (1, .int (nI i))] := hl
  have L82_ : ∀ (n_ : Nat) (x : Nat) (y : Nat) (H : Heap) (locs : List Loc) (ls : Array Slot) (hy : y ≤ i) (hno : ∀ r, r < reg → ¬ pl_fr reg un pl i r) (hx : x = i ∨ (y ≤ x ∧ x < i ∧ (pl x < reg ∧ i < un x))) (hle : un i < un x ∨ un i = un x ∧ i ≤ x) (hmax : ∀ j, y ≤ j → pl_held reg un pl i j → un j < un x ∨ un j = un x ∧ j ≤ x) (hZ : zz_Z (mg_G q) S s_.heap H locs) (hl : lv_has ls 5 [(0, .ref (zz_ad (mg_G q) 0)), (1, .int (nI i)), (2, .int (nI x)), (3, .int (nI y - 1))]) (hn_ : y = n_), W p_ l e_ rm_Model_settle s_ m_ ([.ref (zz_ad (mg_G q) 0), .int (nI i)] : List Value).toArray bl_ mt_ c_ H locs 0 0 (MQ bl_ (va_Qv (fun S1 => zz_off (fun c => c = 0 ∨ c = 26) S S1 ∧ (∀ j, j ≠ 23 → S1.1 0 j = S.1 0 j) ∧ ∃ pl2 sc2, pl_step reg un i pl sc pl2 sc2 ∧ S1.1 0 23 = nI sc2 ∧ ∀ j, j < i + 1 → S1.1 26 j = nI (pl2 j)) (zz_P (mg_G q)) (zz_A (mg_G q))) ([.ref (zz_ad (mg_G q) 0), .int (nI i)] : List Value).toArray s_ 0 0 (zz_A (mg_G q))) (F0 m_ 82 ls []) := by
    intro n_
    induction n_ using Nat.strongRecOn with
    | ind n_ ih_ =>
      intro x y H locs ls hy hno hx hle hmax hZ hl hn_
      refine lv_iload_n hx_ hb_ d_Model_settle_82 rfl (lv_at hl 3 rfl) ?_
      refine zz_plt (tgt := 122) hC d_Model_settle_83 (by decide) (by omega) (fun h83 => ?_) (fun h83 => ?_)
      · have hxi : x ≤ i := hx.elim (fun h => by omega) (fun h => by omega)
        refine lv_iload_n hx_ hb_ d_Model_settle_122 rfl (lv_at hl 2 rfl) ?_
        refine lv_iload_n hx_ hb_ d_Model_settle_123 rfl (lv_at hl 1 rfl) ?_
        refine zz_jne (tgt := 131) hC d_Model_settle_124 (by decide) (by omega) (by omega) (fun h124 => ?_) (fun h124 => ?_)
        · have hxl : x < i := by omega
          have hpx := hpb x hxl
          refine lv_aload_n hx_ hb_ d_Model_settle_131 rfl (lv_at hl 0 rfl) ?_
          refine zz_get hC hK hZ 0 32 (Nat.le_of_ble_eq_true rfl) (mc_0 q _ _) rfl hin_Model (by decide) wd_539 rfl rfl d_Model_settle_132 ?_
          refine lv_iload_n hx_ hb_ d_Model_settle_135 rfl (lv_at hl 2 rfl) ?_
          refine zz_iald hC hK hZ 26 0 x (Nat.le_of_ble_eq_true rfl) (mc_26 q _ _) rfl rfl (by omega) (by decide) rfl d_Model_settle_136 ?_
          refine zz_topi (y := nI (pl x)) (hpl x (by omega)) ?_
          refine lv_istore_n (i := 3) (lv' := [(3, .int (nI (pl x))), (0, .ref (zz_ad (mg_G q) 0)), (1, .int (nI i)), (2, .int (nI x))]) hx_ hb_ d_Model_settle_137 rfl hl (by decide) rfl (fun ls hl => ?_)
          refine lv_aload_n hx_ hb_ d_Model_settle_138 rfl (lv_at hl 1 rfl) ?_
          refine zz_get hC hK hZ 0 32 (Nat.le_of_ble_eq_true rfl) (mc_0 q _ _) rfl hin_Model (by decide) wd_539 rfl rfl d_Model_settle_139 ?_
          refine lv_iload_n hx_ hb_ d_Model_settle_142 rfl (lv_at hl 3 rfl) ?_
          refine lv_aload_n hx_ hb_ d_Model_settle_143 rfl (lv_at hl 1 rfl) ?_
          refine zz_get hC hK hZ 0 24 (Nat.le_of_ble_eq_true rfl) (mc_0 q _ _) rfl hin_Model (by decide) wd_531 rfl rfl d_Model_settle_144 ?_
          refine zz_topi (y := nI reg) hrg ?_
          refine lv_aload_n hx_ hb_ d_Model_settle_147 rfl (lv_at hl 1 rfl) ?_
          refine zz_get hC hK hZ 0 23 (Nat.le_of_ble_eq_true rfl) (mc_0 q _ _) rfl hin_Model (by decide) wd_530 rfl rfl d_Model_settle_148 ?_
          refine zz_topi (y := nI sc) hsc ?_
          refine lv_iadd hx_ hb_ d_Model_settle_151 ?_
          refine zz_topi (y := nI (reg + sc)) (nI_add _ _) ?_
          refine zz_iast hC hK hZ 26 0 x (Nat.le_of_ble_eq_true rfl) (fun _ => mc_26 q _ _) rfl rfl (by omega) (by decide) d_Model_settle_152 (fun H locs hZ => ?_)
          refine lv_aload_n hx_ hb_ d_Model_settle_153 rfl (lv_at hl 1 rfl) ?_
          refine lv_dup hx_ hb_ d_Model_settle_154 rfl ?_
          refine zz_get hC hK hZ 0 23 (Nat.le_of_ble_eq_true rfl) (mc_0 q _ _) rfl hin_Model (by decide) wd_530 rfl rfl d_Model_settle_155 ?_
          refine zz_topi (y := nI sc) hsc ?_
          refine lv_iconst (v := nI 1) hx_ hb_ d_Model_settle_158 (by decide) ?_
          refine lv_iadd hx_ hb_ d_Model_settle_159 ?_
          refine zz_topi (y := nI (sc + 1)) (nI_add _ _) ?_
          refine zz_put hC hK hZ 0 23 (Nat.le_of_ble_eq_true rfl) (mc_0 q _ _) rfl hin_Model t_Model t_Model_ok n_Model (by decide) wd_530 rfl rfl rfl (Nat.le_of_ble_eq_true rfl) (mput_23 q _ _ _ (mc_0 q _ _)) d_Model_settle_160 (fun H locs hZ => ?_)
          refine lv_aload_n hx_ hb_ d_Model_settle_163 rfl (lv_at hl 1 rfl) ?_
          refine zz_get hC hK hZ 0 32 (Nat.le_of_ble_eq_true rfl) (mc_0 q _ _) rfl hin_Model (by decide) wd_539 rfl rfl d_Model_settle_164 ?_
          refine lv_iload_n hx_ hb_ d_Model_settle_167 rfl (lv_at hl 2 rfl) ?_
          refine lv_iload_n hx_ hb_ d_Model_settle_168 rfl (lv_at hl 3 rfl) ?_
          refine lv_iload_n hx_ hb_ d_Model_settle_169 rfl (lv_at hl 2 rfl) ?_
          refine zz_jne (tgt := 182) hC d_Model_settle_170 (by decide) (by omega) (by omega) (fun h170 => ?_) (fun h170 => ?_)
          · refine lv_iload_n hx_ hb_ d_Model_settle_182 rfl (lv_at hl 0 rfl) ?_
            refine zz_iast hC hK hZ 26 0 i (Nat.le_of_ble_eq_true rfl) (fun _ => mc_26 q _ _) rfl rfl (by omega) (by decide) d_Model_settle_183 (fun H locs hZ => ?_)
            exact zz_vret hC hK hZ rfl d_Model_settle_184 ⟨(fun d hd => ⟨by rw [zz_u1 _ 26 _ _ d (fun h => hd (Or.inr h)), zz_u1 _ 0 _ _ d (fun h => hd (Or.inl h)), zz_u1 _ 26 _ _ d (fun h => hd (Or.inr h))], rfl⟩), (fun j hj => by rw [zz_u1 _ 26 _ _ 0 (by omega), zz_u1s, pk_un hj, zz_u1 _ 26 _ _ 0 (by omega)]), va_up (va_up pl x (reg + sc)) i (pl x), sc + 1, Or.inr ⟨hno, ⟨x, ⟨hx.imp_right (fun h => ⟨h.2.1, h.2.2⟩), hle, fun j h => hmax j (by omega) h⟩, rfl, (Or.inr ⟨h124, rfl⟩)⟩⟩, (by rw [zz_u1 _ 26 _ _ 0 (by omega), zz_u1s, pk_us]), fun j hj => by
              rw [zz_u1s]
              by_cases e : j = i
              · rw [e, pk_us, mp_up_s]
              · rw [pk_un e, mp_up_n e, zz_u1 _ 0 _ _ 26 (by omega), zz_u1s]
                by_cases e2 : j = x
                · rw [e2, pk_us, mp_up_s]
                · rw [pk_un e2, mp_up_n e2]
                  exact hpl j (by omega)⟩
          · exact absurd h170 h124
        · refine lv_iconst (v := nI 0) hx_ hb_ d_Model_settle_127 (by decide) ?_
          refine lv_goto (tgt := 137) hx_ hb_ d_Model_settle_128 (by decide) ?_
          refine lv_istore_n (i := 3) (lv' := [(3, .int (nI 0)), (0, .ref (zz_ad (mg_G q) 0)), (1, .int (nI i)), (2, .int (nI x))]) hx_ hb_ d_Model_settle_137 rfl hl (by decide) rfl (fun ls hl => ?_)
          refine lv_aload_n hx_ hb_ d_Model_settle_138 rfl (lv_at hl 1 rfl) ?_
          refine zz_get hC hK hZ 0 32 (Nat.le_of_ble_eq_true rfl) (mc_0 q _ _) rfl hin_Model (by decide) wd_539 rfl rfl d_Model_settle_139 ?_
          refine lv_iload_n hx_ hb_ d_Model_settle_142 rfl (lv_at hl 3 rfl) ?_
          refine lv_aload_n hx_ hb_ d_Model_settle_143 rfl (lv_at hl 1 rfl) ?_
          refine zz_get hC hK hZ 0 24 (Nat.le_of_ble_eq_true rfl) (mc_0 q _ _) rfl hin_Model (by decide) wd_531 rfl rfl d_Model_settle_144 ?_
          refine zz_topi (y := nI reg) hrg ?_
          refine lv_aload_n hx_ hb_ d_Model_settle_147 rfl (lv_at hl 1 rfl) ?_
          refine zz_get hC hK hZ 0 23 (Nat.le_of_ble_eq_true rfl) (mc_0 q _ _) rfl hin_Model (by decide) wd_530 rfl rfl d_Model_settle_148 ?_
          refine zz_topi (y := nI sc) hsc ?_
          refine lv_iadd hx_ hb_ d_Model_settle_151 ?_
          refine zz_topi (y := nI (reg + sc)) (nI_add _ _) ?_
          refine zz_iast hC hK hZ 26 0 x (Nat.le_of_ble_eq_true rfl) (fun _ => mc_26 q _ _) rfl rfl (by omega) (by decide) d_Model_settle_152 (fun H locs hZ => ?_)
          refine lv_aload_n hx_ hb_ d_Model_settle_153 rfl (lv_at hl 1 rfl) ?_
          refine lv_dup hx_ hb_ d_Model_settle_154 rfl ?_
          refine zz_get hC hK hZ 0 23 (Nat.le_of_ble_eq_true rfl) (mc_0 q _ _) rfl hin_Model (by decide) wd_530 rfl rfl d_Model_settle_155 ?_
          refine zz_topi (y := nI sc) hsc ?_
          refine lv_iconst (v := nI 1) hx_ hb_ d_Model_settle_158 (by decide) ?_
          refine lv_iadd hx_ hb_ d_Model_settle_159 ?_
          refine zz_topi (y := nI (sc + 1)) (nI_add _ _) ?_
          refine zz_put hC hK hZ 0 23 (Nat.le_of_ble_eq_true rfl) (mc_0 q _ _) rfl hin_Model t_Model t_Model_ok n_Model (by decide) wd_530 rfl rfl rfl (Nat.le_of_ble_eq_true rfl) (mput_23 q _ _ _ (mc_0 q _ _)) d_Model_settle_160 (fun H locs hZ => ?_)
          refine lv_aload_n hx_ hb_ d_Model_settle_163 rfl (lv_at hl 1 rfl) ?_
          refine zz_get hC hK hZ 0 32 (Nat.le_of_ble_eq_true rfl) (mc_0 q _ _) rfl hin_Model (by decide) wd_539 rfl rfl d_Model_settle_164 ?_
          refine lv_iload_n hx_ hb_ d_Model_settle_167 rfl (lv_at hl 2 rfl) ?_
          refine lv_iload_n hx_ hb_ d_Model_settle_168 rfl (lv_at hl 3 rfl) ?_
          refine lv_iload_n hx_ hb_ d_Model_settle_169 rfl (lv_at hl 2 rfl) ?_
          refine zz_jne (tgt := 182) hC d_Model_settle_170 (by decide) (by omega) (by omega) (fun h170 => ?_) (fun h170 => ?_)
          · exact absurd h124 h170
          · refine lv_aload_n hx_ hb_ d_Model_settle_173 rfl (lv_at hl 1 rfl) ?_
            refine zz_get hC hK hZ 0 32 (Nat.le_of_ble_eq_true rfl) (mc_0 q _ _) rfl hin_Model (by decide) wd_539 rfl rfl d_Model_settle_174 ?_
            refine lv_iload_n hx_ hb_ d_Model_settle_177 rfl (lv_at hl 2 rfl) ?_
            refine zz_iald hC hK hZ 26 0 i (Nat.le_of_ble_eq_true rfl) (mc_26 q _ _) rfl rfl (by omega) (by decide) rfl d_Model_settle_178 ?_
            refine zz_topi (y := nI (reg + sc)) (by rw [zz_u1 _ 0 _ _ 26 (by omega), zz_u1s, h124, pk_us]) ?_
            refine lv_goto (tgt := 183) hx_ hb_ d_Model_settle_179 (by decide) ?_
            refine zz_iast hC hK hZ 26 0 i (Nat.le_of_ble_eq_true rfl) (fun _ => mc_26 q _ _) rfl rfl (by omega) (by decide) d_Model_settle_183 (fun H locs hZ => ?_)
            exact zz_vret hC hK hZ rfl d_Model_settle_184 ⟨(fun d hd => ⟨by rw [zz_u1 _ 26 _ _ d (fun h => hd (Or.inr h)), zz_u1 _ 0 _ _ d (fun h => hd (Or.inl h)), zz_u1 _ 26 _ _ d (fun h => hd (Or.inr h))], rfl⟩), (fun j hj => by rw [zz_u1 _ 26 _ _ 0 (by omega), zz_u1s, pk_un hj, zz_u1 _ 26 _ _ 0 (by omega)]), va_up pl i (reg + sc), sc + 1, Or.inr ⟨hno, ⟨x, ⟨hx.imp_right (fun h => ⟨h.2.1, h.2.2⟩), hle, fun j h => hmax j (by omega) h⟩, rfl, (Or.inl ⟨h124, rfl⟩)⟩⟩, (by rw [zz_u1 _ 26 _ _ 0 (by omega), zz_u1s, pk_us]), fun j hj => by
              rw [zz_u1s]
              by_cases e : j = i
              · rw [e, pk_us, mp_up_s]
              · rw [pk_un e, mp_up_n e, zz_u1 _ 0 _ _ 26 (by omega), zz_u1s, pk_un (by omega)]
                exact hpl j (by omega)⟩
      · have hxi : x ≤ i := hx.elim (fun h => by omega) (fun h => by omega)
        have hux := (hun x (by omega)).2
        have huy := (hun (y - 1) (by omega)).2
        refine lv_aload_n hx_ hb_ d_Model_settle_86 rfl (lv_at hl 0 rfl) ?_
        refine lv_iload_n hx_ hb_ d_Model_settle_87 rfl (lv_at hl 3 rfl) ?_
        refine zz_topi (y := nI (y - 1)) (zz_prd (by omega)) ?_
        refine lv_iload_n hx_ hb_ d_Model_settle_88 rfl (lv_at hl 1 rfl) ?_
        refine zz_ci (zz_rV (As := [.int (nI (y - 1)), .int (nI i)]) (rest := []) hC hK hZ 0 (c_Model_holds l q S (y - 1) i reg un pl hrg hr4 (by omega) (by omega) (hun _ (by omega)).1 (hun _ (by omega)).2 (hpl _ (by omega)) (hpb _ (by omega))) k_Model_holds (Nat.le_of_ble_eq_true rfl) (mc_0 q _ _) rfl wd_729 ⟨rfl, rfl, by decide, by decide⟩ rfl hl.1 rfl (Nat.le_of_ble_eq_true rfl) d_Model_settle_89 ⟨Nat.zero_le _, Nat.zero_le _⟩) hZ (fun r89 S89 H locs hp89 hZ => ?_)
        obtain ⟨rfl, rfl⟩ := hp89
        refine zz_beq (tgt := 114) hC d_Model_settle_92 (by decide) (fun h92 => ?_) (fun h92 => ?_)
        · refine lv_iload_n hx_ hb_ d_Model_settle_114 rfl (lv_at hl 2 rfl) ?_
          refine lv_istore_n (i := 2) (lv' := [(2, .int (nI x)), (0, .ref (zz_ad (mg_G q) 0)), (1, .int (nI i)), (3, .int (nI y - 1))]) hx_ hb_ d_Model_settle_115 rfl hl (by decide) rfl (fun ls hl => ?_)
          refine lv_iinc (k := 3) (v := nI (y - 1) - 1) (lv' := [(3, .int (nI (y - 1) - 1)), (2, .int (nI x)), (0, .ref (zz_ad (mg_G q) 0)), (1, .int (nI i))]) hx_ hb_ d_Model_settle_116 hl rfl (zz_prd1 (by omega)) (by decide) rfl (fun ls hl => ?_)
          refine lv_goto (tgt := 82) hx_ hb_ d_Model_settle_119 (by decide) ?_
          exact ih_ _ (by omega) x (y - 1)  _ _ _ (by omega) hno (hx.imp_right (fun h => ⟨by omega, h.2⟩)) hle (fun j h1 h2 => by
            by_cases e : j = y - 1
            · have hy2 : y ≤ x := hx.elim (fun h => by omega) (fun h => h.1)
              rw [e] at h2
              have hb1 := h2.2.1
              have hb2 := h2.2.2
              rw [e]
              omega
            · exact hmax j (by omega) h2) hZ (lv_sub hl [2, 3, 1, 0] rfl) rfl
        · refine lv_aload_n hx_ hb_ d_Model_settle_95 rfl (lv_at hl 0 rfl) ?_
          refine zz_get hC hK hZ 0 31 (Nat.le_of_ble_eq_true rfl) (mc_0 q _ _) rfl hin_Model (by decide) wd_538 rfl rfl d_Model_settle_96 ?_
          refine lv_iload_n hx_ hb_ d_Model_settle_99 rfl (lv_at hl 3 rfl) ?_
          refine zz_topi (y := nI (y - 1)) (zz_prd (by omega)) ?_
          refine zz_iald hC hK hZ 25 0 (y - 1) (Nat.le_of_ble_eq_true rfl) (mc_25 q _ _) rfl rfl (by omega) (by decide) rfl d_Model_settle_100 ?_
          refine zz_topi (y := nI (un (y - 1))) (hun (y - 1) (by omega)).1 ?_
          refine lv_aload_n hx_ hb_ d_Model_settle_101 rfl (lv_at hl 0 rfl) ?_
          refine zz_get hC hK hZ 0 31 (Nat.le_of_ble_eq_true rfl) (mc_0 q _ _) rfl hin_Model (by decide) wd_538 rfl rfl d_Model_settle_102 ?_
          refine lv_iload_n hx_ hb_ d_Model_settle_105 rfl (lv_at hl 2 rfl) ?_
          refine zz_iald hC hK hZ 25 0 x (Nat.le_of_ble_eq_true rfl) (mc_25 q _ _) rfl rfl (by omega) (by decide) rfl d_Model_settle_106 ?_
          refine zz_topi (y := nI (un x)) (hun x (by omega)).1 ?_
          refine zz_jle (tgt := 114) hC d_Model_settle_107 (by decide) (by omega) (by omega) (fun h107 => ?_) (fun h107 => ?_)
          · refine lv_iload_n hx_ hb_ d_Model_settle_114 rfl (lv_at hl 2 rfl) ?_
            refine lv_istore_n (i := 2) (lv' := [(2, .int (nI x)), (0, .ref (zz_ad (mg_G q) 0)), (1, .int (nI i)), (3, .int (nI y - 1))]) hx_ hb_ d_Model_settle_115 rfl hl (by decide) rfl (fun ls hl => ?_)
            refine lv_iinc (k := 3) (v := nI (y - 1) - 1) (lv' := [(3, .int (nI (y - 1) - 1)), (2, .int (nI x)), (0, .ref (zz_ad (mg_G q) 0)), (1, .int (nI i))]) hx_ hb_ d_Model_settle_116 hl rfl (zz_prd1 (by omega)) (by decide) rfl (fun ls hl => ?_)
            refine lv_goto (tgt := 82) hx_ hb_ d_Model_settle_119 (by decide) ?_
            exact ih_ _ (by omega) x (y - 1)  _ _ _ (by omega) hno (hx.imp_right (fun h => ⟨by omega, h.2⟩)) hle (fun j h1 h2 => by
              by_cases e : j = y - 1
              · have hy2 : y ≤ x := hx.elim (fun h => by omega) (fun h => h.1)
                rw [e] at h2
                have hb1 := h2.2.1
                have hb2 := h2.2.2
                rw [e]
                omega
              · exact hmax j (by omega) h2) hZ (lv_sub hl [2, 3, 1, 0] rfl) rfl
          · refine lv_iload_n hx_ hb_ d_Model_settle_110 rfl (lv_at hl 3 rfl) ?_
            refine zz_topi (y := nI (y - 1)) (zz_prd (by omega)) ?_
            refine lv_goto (tgt := 115) hx_ hb_ d_Model_settle_111 (by decide) ?_
            refine lv_istore_n (i := 2) (lv' := [(2, .int (nI (y - 1))), (0, .ref (zz_ad (mg_G q) 0)), (1, .int (nI i)), (3, .int (nI y - 1))]) hx_ hb_ d_Model_settle_115 rfl hl (by decide) rfl (fun ls hl => ?_)
            refine lv_iinc (k := 3) (v := nI (y - 1) - 1) (lv' := [(3, .int (nI (y - 1) - 1)), (2, .int (nI (y - 1))), (0, .ref (zz_ad (mg_G q) 0)), (1, .int (nI i))]) hx_ hb_ d_Model_settle_116 hl rfl (zz_prd1 (by omega)) (by decide) rfl (fun ls hl => ?_)
            refine lv_goto (tgt := 82) hx_ hb_ d_Model_settle_119 (by decide) ?_
            exact ih_ _ (by omega) (y - 1) (y - 1)  _ _ _ (by omega) hno (Or.inr ⟨Nat.le_refl _, by omega, h92⟩) (by omega) (fun j h1 h2 => by
              by_cases e : j = y - 1
              · rw [e]
                exact Or.inr ⟨rfl, Nat.le_refl _⟩
              · have := hmax j (by omega) h2
                omega) hZ (lv_sub hl [2, 3, 1, 0] rfl) rfl
  have L82 : ∀ (x : Nat) (y : Nat) (H : Heap) (locs : List Loc) (ls : Array Slot) (hy : y ≤ i) (hno : ∀ r, r < reg → ¬ pl_fr reg un pl i r) (hx : x = i ∨ (y ≤ x ∧ x < i ∧ (pl x < reg ∧ i < un x))) (hle : un i < un x ∨ un i = un x ∧ i ≤ x) (hmax : ∀ j, y ≤ j → pl_held reg un pl i j → un j < un x ∨ un j = un x ∧ j ≤ x) (hZ : zz_Z (mg_G q) S s_.heap H locs) (hl : lv_has ls 5 [(0, .ref (zz_ad (mg_G q) 0)), (1, .int (nI i)), (2, .int (nI x)), (3, .int (nI y - 1))]), W p_ l e_ rm_Model_settle s_ m_ ([.ref (zz_ad (mg_G q) 0), .int (nI i)] : List Value).toArray bl_ mt_ c_ H locs 0 0 (MQ bl_ (va_Qv (fun S1 => zz_off (fun c => c = 0 ∨ c = 26) S S1 ∧ (∀ j, j ≠ 23 → S1.1 0 j = S.1 0 j) ∧ ∃ pl2 sc2, pl_step reg un i pl sc pl2 sc2 ∧ S1.1 0 23 = nI sc2 ∧ ∀ j, j < i + 1 → S1.1 26 j = nI (pl2 j)) (zz_P (mg_G q)) (zz_A (mg_G q))) ([.ref (zz_ad (mg_G q) 0), .int (nI i)] : List Value).toArray s_ 0 0 (zz_A (mg_G q))) (F0 m_ 82 ls []) := fun x y H locs ls hy hno hx hle hmax hZ hl => L82_ _ x y H locs ls hy hno hx hle hmax hZ hl rfl
  have L15_ : ∀ (n_ : Nat) (r : Nat) (f : Nat) (j : Nat) (hk58 : ∀ (f : Nat) (H : Heap) (locs : List Loc) (ls : Array Slot) (hf1 : f ≤ 1) (hf : f = 1 ↔ ∀ j2, j2 < i → ¬ (pl j2 < reg ∧ i < un j2 ∧ pl j2 = r)) (hZ : zz_Z (mg_G q) S s_.heap H locs) (hl : lv_has ls 5 [(0, .ref (zz_ad (mg_G q) 0)), (1, .int (nI i)), (2, .int (nI r)), (3, .int (nI f))]), W p_ l e_ rm_Model_settle s_ m_ ([.ref (zz_ad (mg_G q) 0), .int (nI i)] : List Value).toArray bl_ mt_ c_ H locs 0 0 (MQ bl_ (va_Qv (fun S1 => zz_off (fun c => c = 0 ∨ c = 26) S S1 ∧ (∀ j, j ≠ 23 → S1.1 0 j = S.1 0 j) ∧ ∃ pl2 sc2, pl_step reg un i pl sc pl2 sc2 ∧ S1.1 0 23 = nI sc2 ∧ ∀ j, j < i + 1 → S1.1 26 j = nI (pl2 j)) (zz_P (mg_G q)) (zz_A (mg_G q))) ([.ref (zz_ad (mg_G q) 0), .int (nI i)] : List Value).toArray s_ 0 0 (zz_A (mg_G q))) (F0 m_ 58 ls [])) (H : Heap) (locs : List Loc) (ls : Array Slot) (hno : ∀ r2, r2 < r → ¬ pl_fr reg un pl i r2) (hrr : r < reg) (hj : j ≤ i) (hf1 : f ≤ 1) (hf : f = 1 ↔ ∀ j2, j2 < j → ¬ (pl j2 < reg ∧ i < un j2 ∧ pl j2 = r)) (hZ : zz_Z (mg_G q) S s_.heap H locs) (hl : lv_has ls 5 [(0, .ref (zz_ad (mg_G q) 0)), (1, .int (nI i)), (2, .int (nI r)), (3, .int (nI f)), (4, .int (nI j))]) (hn_ : i - j = n_), W p_ l e_ rm_Model_settle s_ m_ ([.ref (zz_ad (mg_G q) 0), .int (nI i)] : List Value).toArray bl_ mt_ c_ H locs 0 0 (MQ bl_ (va_Qv (fun S1 => zz_off (fun c => c = 0 ∨ c = 26) S S1 ∧ (∀ j, j ≠ 23 → S1.1 0 j = S.1 0 j) ∧ ∃ pl2 sc2, pl_step reg un i pl sc pl2 sc2 ∧ S1.1 0 23 = nI sc2 ∧ ∀ j, j < i + 1 → S1.1 26 j = nI (pl2 j)) (zz_P (mg_G q)) (zz_A (mg_G q))) ([.ref (zz_ad (mg_G q) 0), .int (nI i)] : List Value).toArray s_ 0 0 (zz_A (mg_G q))) (F0 m_ 15 ls []) := by
    intro n_
    induction n_ using Nat.strongRecOn with
    | ind n_ ih_ =>
      intro r f j hk58 H locs ls hno hrr hj hf1 hf hZ hl hn_
      refine lv_iload hx_ hb_ d_Model_settle_15 (lv_at hl 4 rfl) ?_
      refine lv_iload_n hx_ hb_ d_Model_settle_17 rfl (lv_at hl 1 rfl) ?_
      refine zz_jge (tgt := 58) hC d_Model_settle_18 (by decide) (by omega) (by omega) (fun h18 => ?_) (fun h18 => ?_)
      · exact hk58 f  _ _ _ hf1 (by rw [show j = i by omega] at hf; exact hf) hZ (lv_sub hl [0, 1, 2, 3] rfl)
      · refine lv_iload_n hx_ hb_ d_Model_settle_21 rfl (lv_at hl 3 rfl) ?_
        refine zz_ieq (tgt := 50) hC d_Model_settle_22 (by decide) (by omega) (fun h22 => ?_) (fun h22 => ?_)
        · refine lv_iconst (v := nI 0) hx_ hb_ d_Model_settle_50 (by decide) ?_
          refine lv_istore_n (i := 3) (lv' := [(3, .int (nI 0)), (0, .ref (zz_ad (mg_G q) 0)), (1, .int (nI i)), (2, .int (nI r)), (4, .int (nI j))]) hx_ hb_ d_Model_settle_51 rfl hl (by decide) rfl (fun ls hl => ?_)
          refine lv_iinc (k := 4) (v := nI (j + 1)) (lv' := [(4, .int (nI (j + 1))), (3, .int (nI 0)), (0, .ref (zz_ad (mg_G q) 0)), (1, .int (nI i)), (2, .int (nI r))]) hx_ hb_ d_Model_settle_52 hl rfl (nI_add _ 1) (by decide) rfl (fun ls hl => ?_)
          refine lv_goto (tgt := 15) hx_ hb_ d_Model_settle_55 (by decide) ?_
          exact ih_ _ (by omega) r 0 (j + 1) hk58 _ _ _ hno hrr (by omega) (Nat.zero_le _) ⟨fun h => absurd h (by omega), fun h => by
            have hjj := h j (by omega)
            first
              | exact absurd (hf.2 (fun j2 h2 => h j2 (by omega))) (by omega)
              | (exfalso; omega)⟩ hZ (lv_sub hl [2, 3, 4, 1, 0] rfl) rfl
        · refine lv_aload_n hx_ hb_ d_Model_settle_25 rfl (lv_at hl 0 rfl) ?_
          refine lv_iload hx_ hb_ d_Model_settle_26 (lv_at hl 4 rfl) ?_
          refine lv_iload_n hx_ hb_ d_Model_settle_28 rfl (lv_at hl 1 rfl) ?_
          refine zz_ci (zz_rV (As := [.int (nI j), .int (nI i)]) (rest := []) hC hK hZ 0 (c_Model_holds l q S j i reg un pl hrg hr4 (by omega) (by omega) (hun _ (by omega)).1 (hun _ (by omega)).2 (hpl _ (by omega)) (hpb _ (by omega))) k_Model_holds (Nat.le_of_ble_eq_true rfl) (mc_0 q _ _) rfl wd_729 ⟨rfl, rfl, by decide, by decide⟩ rfl hl.1 rfl (Nat.le_of_ble_eq_true rfl) d_Model_settle_29 ⟨Nat.zero_le _, Nat.zero_le _⟩) hZ (fun r29 S29 H locs hp29 hZ => ?_)
          obtain ⟨rfl, rfl⟩ := hp29
          refine zz_beq (tgt := 46) hC d_Model_settle_32 (by decide) (fun h32 => ?_) (fun h32 => ?_)
          · refine lv_iconst (v := nI 1) hx_ hb_ d_Model_settle_46 (by decide) ?_
            refine lv_goto (tgt := 51) hx_ hb_ d_Model_settle_47 (by decide) ?_
            refine lv_istore_n (i := 3) (lv' := [(3, .int (nI 1)), (0, .ref (zz_ad (mg_G q) 0)), (1, .int (nI i)), (2, .int (nI r)), (4, .int (nI j))]) hx_ hb_ d_Model_settle_51 rfl hl (by decide) rfl (fun ls hl => ?_)
            refine lv_iinc (k := 4) (v := nI (j + 1)) (lv' := [(4, .int (nI (j + 1))), (3, .int (nI 1)), (0, .ref (zz_ad (mg_G q) 0)), (1, .int (nI i)), (2, .int (nI r))]) hx_ hb_ d_Model_settle_52 hl rfl (nI_add _ 1) (by decide) rfl (fun ls hl => ?_)
            refine lv_goto (tgt := 15) hx_ hb_ d_Model_settle_55 (by decide) ?_
            exact ih_ _ (by omega) r 1 (j + 1) hk58 _ _ _ hno hrr (by omega) (Nat.le_refl _) ⟨fun _ j2 h2 => by
              by_cases e : j2 = j
              · rw [e]
                omega
              · exact hf.1 (by omega) j2 (by omega), fun _ => rfl⟩ hZ (lv_sub hl [2, 3, 4, 1, 0] rfl) rfl
          · have hpj := hpb j (by omega)
            refine lv_aload_n hx_ hb_ d_Model_settle_35 rfl (lv_at hl 0 rfl) ?_
            refine zz_get hC hK hZ 0 32 (Nat.le_of_ble_eq_true rfl) (mc_0 q _ _) rfl hin_Model (by decide) wd_539 rfl rfl d_Model_settle_36 ?_
            refine lv_iload hx_ hb_ d_Model_settle_39 (lv_at hl 4 rfl) ?_
            refine zz_iald hC hK hZ 26 0 j (Nat.le_of_ble_eq_true rfl) (mc_26 q _ _) rfl rfl (by omega) (by decide) rfl d_Model_settle_41 ?_
            refine zz_topi (y := nI (pl j)) (hpl j (by omega)) ?_
            refine lv_iload_n hx_ hb_ d_Model_settle_42 rfl (lv_at hl 2 rfl) ?_
            refine zz_jeq (tgt := 50) hC d_Model_settle_43 (by decide) (by omega) (by omega) (fun h43 => ?_) (fun h43 => ?_)
            · refine lv_iconst (v := nI 0) hx_ hb_ d_Model_settle_50 (by decide) ?_
              refine lv_istore_n (i := 3) (lv' := [(3, .int (nI 0)), (0, .ref (zz_ad (mg_G q) 0)), (1, .int (nI i)), (2, .int (nI r)), (4, .int (nI j))]) hx_ hb_ d_Model_settle_51 rfl hl (by decide) rfl (fun ls hl => ?_)
              refine lv_iinc (k := 4) (v := nI (j + 1)) (lv' := [(4, .int (nI (j + 1))), (3, .int (nI 0)), (0, .ref (zz_ad (mg_G q) 0)), (1, .int (nI i)), (2, .int (nI r))]) hx_ hb_ d_Model_settle_52 hl rfl (nI_add _ 1) (by decide) rfl (fun ls hl => ?_)
              refine lv_goto (tgt := 15) hx_ hb_ d_Model_settle_55 (by decide) ?_
              exact ih_ _ (by omega) r 0 (j + 1) hk58 _ _ _ hno hrr (by omega) (Nat.zero_le _) ⟨fun h => absurd h (by omega), fun h => by
                have hjj := h j (by omega)
                first
                  | exact absurd (hf.2 (fun j2 h2 => h j2 (by omega))) (by omega)
                  | (exfalso; omega)⟩ hZ (lv_sub hl [2, 3, 4, 1, 0] rfl) rfl
            · refine lv_iconst (v := nI 1) hx_ hb_ d_Model_settle_46 (by decide) ?_
              refine lv_goto (tgt := 51) hx_ hb_ d_Model_settle_47 (by decide) ?_
              refine lv_istore_n (i := 3) (lv' := [(3, .int (nI 1)), (0, .ref (zz_ad (mg_G q) 0)), (1, .int (nI i)), (2, .int (nI r)), (4, .int (nI j))]) hx_ hb_ d_Model_settle_51 rfl hl (by decide) rfl (fun ls hl => ?_)
              refine lv_iinc (k := 4) (v := nI (j + 1)) (lv' := [(4, .int (nI (j + 1))), (3, .int (nI 1)), (0, .ref (zz_ad (mg_G q) 0)), (1, .int (nI i)), (2, .int (nI r))]) hx_ hb_ d_Model_settle_52 hl rfl (nI_add _ 1) (by decide) rfl (fun ls hl => ?_)
              refine lv_goto (tgt := 15) hx_ hb_ d_Model_settle_55 (by decide) ?_
              exact ih_ _ (by omega) r 1 (j + 1) hk58 _ _ _ hno hrr (by omega) (Nat.le_refl _) ⟨fun _ j2 h2 => by
                by_cases e : j2 = j
                · rw [e]
                  omega
                · exact hf.1 (by omega) j2 (by omega), fun _ => rfl⟩ hZ (lv_sub hl [2, 3, 4, 1, 0] rfl) rfl
  have L15 : ∀ (r : Nat) (f : Nat) (j : Nat) (hk58 : ∀ (f : Nat) (H : Heap) (locs : List Loc) (ls : Array Slot) (hf1 : f ≤ 1) (hf : f = 1 ↔ ∀ j2, j2 < i → ¬ (pl j2 < reg ∧ i < un j2 ∧ pl j2 = r)) (hZ : zz_Z (mg_G q) S s_.heap H locs) (hl : lv_has ls 5 [(0, .ref (zz_ad (mg_G q) 0)), (1, .int (nI i)), (2, .int (nI r)), (3, .int (nI f))]), W p_ l e_ rm_Model_settle s_ m_ ([.ref (zz_ad (mg_G q) 0), .int (nI i)] : List Value).toArray bl_ mt_ c_ H locs 0 0 (MQ bl_ (va_Qv (fun S1 => zz_off (fun c => c = 0 ∨ c = 26) S S1 ∧ (∀ j, j ≠ 23 → S1.1 0 j = S.1 0 j) ∧ ∃ pl2 sc2, pl_step reg un i pl sc pl2 sc2 ∧ S1.1 0 23 = nI sc2 ∧ ∀ j, j < i + 1 → S1.1 26 j = nI (pl2 j)) (zz_P (mg_G q)) (zz_A (mg_G q))) ([.ref (zz_ad (mg_G q) 0), .int (nI i)] : List Value).toArray s_ 0 0 (zz_A (mg_G q))) (F0 m_ 58 ls [])) (H : Heap) (locs : List Loc) (ls : Array Slot) (hno : ∀ r2, r2 < r → ¬ pl_fr reg un pl i r2) (hrr : r < reg) (hj : j ≤ i) (hf1 : f ≤ 1) (hf : f = 1 ↔ ∀ j2, j2 < j → ¬ (pl j2 < reg ∧ i < un j2 ∧ pl j2 = r)) (hZ : zz_Z (mg_G q) S s_.heap H locs) (hl : lv_has ls 5 [(0, .ref (zz_ad (mg_G q) 0)), (1, .int (nI i)), (2, .int (nI r)), (3, .int (nI f)), (4, .int (nI j))]), W p_ l e_ rm_Model_settle s_ m_ ([.ref (zz_ad (mg_G q) 0), .int (nI i)] : List Value).toArray bl_ mt_ c_ H locs 0 0 (MQ bl_ (va_Qv (fun S1 => zz_off (fun c => c = 0 ∨ c = 26) S S1 ∧ (∀ j, j ≠ 23 → S1.1 0 j = S.1 0 j) ∧ ∃ pl2 sc2, pl_step reg un i pl sc pl2 sc2 ∧ S1.1 0 23 = nI sc2 ∧ ∀ j, j < i + 1 → S1.1 26 j = nI (pl2 j)) (zz_P (mg_G q)) (zz_A (mg_G q))) ([.ref (zz_ad (mg_G q) 0), .int (nI i)] : List Value).toArray s_ 0 0 (zz_A (mg_G q))) (F0 m_ 15 ls []) := fun r f j hk58 H locs ls hno hrr hj hf1 hf hZ hl => L15_ _ r f j hk58 H locs ls hno hrr hj hf1 hf hZ hl rfl
  have L2_ : ∀ (n_ : Nat) (r : Nat) (H : Heap) (locs : List Loc) (ls : Array Slot) (hrr : r ≤ reg) (hno : ∀ r2, r2 < r → ¬ pl_fr reg un pl i r2) (hZ : zz_Z (mg_G q) S s_.heap H locs) (hl : lv_has ls 5 [(0, .ref (zz_ad (mg_G q) 0)), (1, .int (nI i)), (2, .int (nI r))]) (hn_ : reg - r = n_), W p_ l e_ rm_Model_settle s_ m_ ([.ref (zz_ad (mg_G q) 0), .int (nI i)] : List Value).toArray bl_ mt_ c_ H locs 0 0 (MQ bl_ (va_Qv (fun S1 => zz_off (fun c => c = 0 ∨ c = 26) S S1 ∧ (∀ j, j ≠ 23 → S1.1 0 j = S.1 0 j) ∧ ∃ pl2 sc2, pl_step reg un i pl sc pl2 sc2 ∧ S1.1 0 23 = nI sc2 ∧ ∀ j, j < i + 1 → S1.1 26 j = nI (pl2 j)) (zz_P (mg_G q)) (zz_A (mg_G q))) ([.ref (zz_ad (mg_G q) 0), .int (nI i)] : List Value).toArray s_ 0 0 (zz_A (mg_G q))) (F0 m_ 2 ls []) := by
    intro n_
    induction n_ using Nat.strongRecOn with
    | ind n_ ih_ =>
      intro r H locs ls hrr hno hZ hl hn_
      refine lv_iload_n hx_ hb_ d_Model_settle_2 rfl (lv_at hl 2 rfl) ?_
      refine lv_aload_n hx_ hb_ d_Model_settle_3 rfl (lv_at hl 0 rfl) ?_
      refine zz_get hC hK hZ 0 24 (Nat.le_of_ble_eq_true rfl) (mc_0 q _ _) rfl hin_Model (by decide) wd_531 rfl rfl d_Model_settle_4 ?_
      refine zz_topi (y := nI reg) hrg ?_
      refine zz_jge (tgt := 76) hC d_Model_settle_7 (by decide) (by omega) (by omega) (fun h7 => ?_) (fun h7 => ?_)
      · refine lv_iload_n hx_ hb_ d_Model_settle_76 rfl (lv_at hl 1 rfl) ?_
        refine lv_istore_n (i := 2) (lv' := [(2, .int (nI i)), (0, .ref (zz_ad (mg_G q) 0)), (1, .int (nI i))]) hx_ hb_ d_Model_settle_77 rfl hl (by decide) rfl (fun ls hl => ?_)
        refine lv_iload_n hx_ hb_ d_Model_settle_78 rfl (lv_at hl 2 rfl) ?_
        refine lv_iconst (v := nI 1) hx_ hb_ d_Model_settle_79 (by decide) ?_
        refine lv_isub hx_ hb_ d_Model_settle_80 ?_
        refine zz_topi (y := nI i - 1) rfl ?_
        refine lv_istore_n (i := 3) (lv' := [(3, .int (nI i - 1)), (2, .int (nI i)), (0, .ref (zz_ad (mg_G q) 0)), (1, .int (nI i))]) hx_ hb_ d_Model_settle_81 rfl hl (by decide) rfl (fun ls hl => ?_)
        exact L82 i i  _ _ _ (Nat.le_refl _) (by rw [show r = reg by omega] at hno; exact hno) (Or.inl rfl) (Or.inr ⟨rfl, Nat.le_refl _⟩) (fun j h1 h2 => absurd h2.1 (by omega)) hZ (lv_sub hl [2, 3, 1, 0] rfl)
      · refine lv_iconst (v := nI 1) hx_ hb_ d_Model_settle_10 (by decide) ?_
        refine lv_istore_n (i := 3) (lv' := [(3, .int (nI 1)), (0, .ref (zz_ad (mg_G q) 0)), (1, .int (nI i)), (2, .int (nI r))]) hx_ hb_ d_Model_settle_11 rfl hl (by decide) rfl (fun ls hl => ?_)
        refine lv_iconst (v := nI 0) hx_ hb_ d_Model_settle_12 (by decide) ?_
        refine lv_istore (i := 4) (lv' := [(4, .int (nI 0)), (3, .int (nI 1)), (0, .ref (zz_ad (mg_G q) 0)), (1, .int (nI i)), (2, .int (nI r))]) hx_ hb_ d_Model_settle_13 hl (by decide) rfl (fun ls hl => ?_)
        refine L15 r 1 0 ?_ _ _ _ hno (by omega) (Nat.zero_le _) (Nat.le_refl _) ⟨fun _ j hj => absurd hj (Nat.not_lt_zero j), fun _ => rfl⟩ hZ (lv_sub hl [2, 3, 4, 1, 0] rfl)
        · intro f H locs ls hf1 hf hZ hl
          refine lv_iload_n hx_ hb_ d_Model_settle_58 rfl (lv_at hl 3 rfl) ?_
          refine zz_ieq (tgt := 70) hC d_Model_settle_59 (by decide) (by omega) (fun h59 => ?_) (fun h59 => ?_)
          · refine lv_iinc (k := 2) (v := nI (r + 1)) (lv' := [(2, .int (nI (r + 1))), (0, .ref (zz_ad (mg_G q) 0)), (1, .int (nI i)), (3, .int (nI f))]) hx_ hb_ d_Model_settle_70 hl rfl (nI_add _ 1) (by decide) rfl (fun ls hl => ?_)
            refine lv_goto (tgt := 2) hx_ hb_ d_Model_settle_73 (by decide) ?_
            exact ih_ _ (by omega) (r + 1)  _ _ _ (by omega) (fun r2 h2 => by
              by_cases e : r2 = r
              · rw [e]
                exact fun h => absurd (hf.2 (fun j hj hc => h j ⟨hj, hc.1, hc.2.1⟩ hc.2.2)) (by omega)
              · exact hno r2 (by omega)) hZ (lv_sub hl [1, 2, 0] rfl) rfl
          · refine lv_aload_n hx_ hb_ d_Model_settle_62 rfl (lv_at hl 0 rfl) ?_
            refine zz_get hC hK hZ 0 32 (Nat.le_of_ble_eq_true rfl) (mc_0 q _ _) rfl hin_Model (by decide) wd_539 rfl rfl d_Model_settle_63 ?_
            refine lv_iload_n hx_ hb_ d_Model_settle_66 rfl (lv_at hl 1 rfl) ?_
            refine lv_iload_n hx_ hb_ d_Model_settle_67 rfl (lv_at hl 2 rfl) ?_
            refine zz_iast hC hK hZ 26 0 i (Nat.le_of_ble_eq_true rfl) (fun _ => mc_26 q _ _) rfl rfl (by omega) (by decide) d_Model_settle_68 (fun H locs hZ => ?_)
            exact zz_vret hC hK hZ rfl d_Model_settle_69 ⟨fun d hd => ⟨zz_u1 _ 26 _ _ d (fun h => hd (Or.inr h)), rfl⟩, fun j _ => rfl, va_up pl i r, sc, Or.inl ⟨r, by omega, fun j hj e => (hf.1 (by omega)) j hj.1 ⟨hj.2.1, hj.2.2, e⟩, hno, rfl, rfl⟩, hsc, fun j hj => by
              rw [zz_u1s]
              by_cases e : j = i
              · rw [e, pk_us, mp_up_s]
              · rw [pk_un e, mp_up_n e]
                exact hpl j (by omega)⟩
  have L2 : ∀ (r : Nat) (H : Heap) (locs : List Loc) (ls : Array Slot) (hrr : r ≤ reg) (hno : ∀ r2, r2 < r → ¬ pl_fr reg un pl i r2) (hZ : zz_Z (mg_G q) S s_.heap H locs) (hl : lv_has ls 5 [(0, .ref (zz_ad (mg_G q) 0)), (1, .int (nI i)), (2, .int (nI r))]), W p_ l e_ rm_Model_settle s_ m_ ([.ref (zz_ad (mg_G q) 0), .int (nI i)] : List Value).toArray bl_ mt_ c_ H locs 0 0 (MQ bl_ (va_Qv (fun S1 => zz_off (fun c => c = 0 ∨ c = 26) S S1 ∧ (∀ j, j ≠ 23 → S1.1 0 j = S.1 0 j) ∧ ∃ pl2 sc2, pl_step reg un i pl sc pl2 sc2 ∧ S1.1 0 23 = nI sc2 ∧ ∀ j, j < i + 1 → S1.1 26 j = nI (pl2 j)) (zz_P (mg_G q)) (zz_A (mg_G q))) ([.ref (zz_ad (mg_G q) 0), .int (nI i)] : List Value).toArray s_ 0 0 (zz_A (mg_G q))) (F0 m_ 2 ls []) := fun r H locs ls hrr hno hZ hl => L2_ _ r H locs ls hrr hno hZ hl rfl
  refine lv_iconst (v := nI 0) hx_ hb_ d_Model_settle_0 (by decide) ?_
  refine lv_istore_n (i := 2) (lv' := [(2, .int (nI 0)), (0, .ref (zz_ad (mg_G q) 0)), (1, .int (nI i))]) hx_ hb_ d_Model_settle_1 rfl hl (by decide) rfl (fun ls hl => ?_)
  exact L2 0  _ _ _ (Nat.zero_le _) (fun r2 h => absurd h (Nat.not_lt_zero r2)) hZ (lv_sub hl [1, 2, 0] rfl)
