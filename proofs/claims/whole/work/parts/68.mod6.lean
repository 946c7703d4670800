/-! The reference: states. Laid by wip/whole/prog/p24.py. -/
set_option maxHeartbeats 4000000 in
set_option maxRecDepth 100000 in
theorem c_Model_known (l : Launch) (q : xg_T) (S : zz_S) (A : Nat → ns_St) (n : Nat) (g y : Nat → Nat) (hM : mk_st S A n) (hn : n ≤ 40) (hg : mg_ok S 15 g) (hy : ∀ k, k < 4 → S.1 16 k = vw_p (y k)) (hgb : ∀ k, k < 4 → g k ≤ mx_far) (hy24 : ∀ k, k < 4 → y k ≤ 24) (hA24 : ∀ i, i < n → ∀ k, k < 4 → ns_at (A i).2 k ≤ 24) (hAb : ∀ i, i < n → ∀ k, k < 4 → ns_at (A i).1 k ≤ mx_far) : Met l y_Model_known (Cond.code y_Model_known b_Model_known 8 (some .boolean) :: zz_tbl) rm_Model_known (zz_Pc [.ref (zz_ad (mg_G q) 0)] (mg_G q) S) (va_Qi (fun ans S1 => ((∃ i, i < n ∧ A i = (ns_tup (ns_nrm g), ns_tup y)) ∧ ans = nI 1 ∧ S = S1) ∨ ((∀ i, i < n → A i ≠ (ns_tup (ns_nrm g), ns_tup y)) ∧ ans = nI 0 ∧ zz_off ms_K S S1 ∧ (∀ j, j ≠ 19 → S1.1 0 j = S.1 0 j) ∧ mk_st S1 (va_up A n (ns_tup (ns_nrm g), ns_tup y)) (n + 1))) (zz_P (mg_G q)) (zz_A (mg_G q))) 0 0 (zz_A (mg_G q)) := by
  refine zz_met (by decide) (Nat.le_of_ble_eq_true rfl) ?_
  intro p_ e_ s_ m_ bl_ mt_ c_ ls hC hK hZ hl
  have hC : zz_C p_ s_ m_ _ mt_ c_ b_Model_known 8 (some .boolean) "TreeCoverForgeModel" := hC
  have hx_ := hC.1
  have hb_ := hC.2.1
  have hl : lv_has ls 8 [(0, .ref (zz_ad (mg_G q) 0))] := hl
  have hfar := vw_far
  have hnb : ∀ k, k < 4 → ns_nrm g k ≤ mx_far := fun k hk => by unfold ns_nrm; have := hgb k hk; split <;> omega
  have L129_ : ∀ (n_ : Nat) (k : Nat) (Si : zz_S) (H : Heap) (locs : List Loc) (ls : Array Slot) (hno : ∀ j, j < n → A j ≠ (ns_tup (ns_nrm g), ns_tup y)) (hk : k ≤ 4) (ho1 : zz_off (fun c => c = 17 ∨ c = 18) S Si) (hold : ∀ i, i < 4 * n → Si.2 17 i = S.2 17 i ∧ Si.1 18 i = S.1 18 i) (hnew : ∀ j, j < k → Si.2 17 (4 * n + j) = lN (ns_nrm g j) ∧ Si.1 18 (4 * n + j) = vw_p (y j)) (hZ : zz_Z (mg_G q) Si s_.heap H locs) (hl : lv_has ls 8 [(0, .ref (zz_ad (mg_G q) 0)), (1, .long (lN (ns_low g))), (3, .int (nI k))]) (hn_ : 4 - k = n_), W p_ l e_ rm_Model_known s_ m_ ([.ref (zz_ad (mg_G q) 0)] : List Value).toArray bl_ mt_ c_ H locs 0 0 (MQ bl_ (va_Qi (fun ans S1 => ((∃ i, i < n ∧ A i = (ns_tup (ns_nrm g), ns_tup y)) ∧ ans = nI 1 ∧ S = S1) ∨ ((∀ i, i < n → A i ≠ (ns_tup (ns_nrm g), ns_tup y)) ∧ ans = nI 0 ∧ zz_off ms_K S S1 ∧ (∀ j, j ≠ 19 → S1.1 0 j = S.1 0 j) ∧ mk_st S1 (va_up A n (ns_tup (ns_nrm g), ns_tup y)) (n + 1))) (zz_P (mg_G q)) (zz_A (mg_G q))) ([.ref (zz_ad (mg_G q) 0)] : List Value).toArray s_ 0 0 (zz_A (mg_G q))) (F0 m_ 129 ls []) := by
    intro n_
    induction n_ using Nat.strongRecOn with
    | ind n_ ih_ =>
      intro k Si H locs ls hno hk ho1 hold hnew hZ hl hn_
      refine lv_iload_n hx_ hb_ d_Model_known_129 rfl (lv_at hl 2 rfl) ?_
      refine lv_iconst (v := nI 4) hx_ hb_ d_Model_known_130 (by decide) ?_
      refine zz_jge (tgt := 199) hC d_Model_known_131 (by decide) (by omega) (by omega) (fun h131 => ?_) (fun h131 => ?_)
      · refine lv_aload_n hx_ hb_ d_Model_known_199 rfl (lv_at hl 0 rfl) ?_
        refine lv_dup hx_ hb_ d_Model_known_200 rfl ?_
        refine zz_get hC hK hZ 0 19 (Nat.le_of_ble_eq_true rfl) (mc_0 q _ _) rfl hin_Model (by decide) wd_526 rfl rfl d_Model_known_201 ?_
        refine zz_topi (y := nI n) (by rw [(ho1 0 (by omega)).1]; exact hM.1) ?_
        refine lv_iconst (v := nI 1) hx_ hb_ d_Model_known_204 (by decide) ?_
        refine lv_iadd hx_ hb_ d_Model_known_205 ?_
        refine zz_topi (y := nI (n + 1)) (nI_add _ _) ?_
        refine zz_put hC hK hZ 0 19 (Nat.le_of_ble_eq_true rfl) (mc_0 q _ _) rfl hin_Model t_Model t_Model_ok n_Model (by decide) wd_526 rfl rfl rfl (Nat.le_of_ble_eq_true rfl) (mput_19 q _ _ _ (mc_0 q _ _)) d_Model_known_206 (fun H locs hZ => ?_)
        refine lv_iconst (v := nI 0) hx_ hb_ d_Model_known_209 (by decide) ?_
        exact zz_zret hC hK hZ rfl d_Model_known_210 (by decide) (Or.inr ⟨hno, rfl, fun d hd => ⟨by rw [zz_u1 _ 0 _ _ d (fun h => hd (Or.inl h))]; exact (ho1 d (fun h => hd (Or.inr h))).1, (ho1 d (fun h => hd (Or.inr h))).2⟩, fun j hj => by rw [zz_u1s, pk_un hj, (ho1 0 (by omega)).1], mk_new hM hn hold (fun j hj => hnew j (by omega))⟩)
      · have hgk := hgb k (by omega)
        refine lv_aload_n hx_ hb_ d_Model_known_134 rfl (lv_at hl 0 rfl) ?_
        refine zz_get hC hK hZ 0 20 (Nat.le_of_ble_eq_true rfl) (mc_0 q _ _) rfl hin_Model (by decide) wd_527 rfl rfl d_Model_known_135 ?_
        refine lv_iconst (v := nI 4) hx_ hb_ d_Model_known_138 (by decide) ?_
        refine lv_aload_n hx_ hb_ d_Model_known_139 rfl (lv_at hl 0 rfl) ?_
        refine zz_get hC hK hZ 0 19 (Nat.le_of_ble_eq_true rfl) (mc_0 q _ _) rfl hin_Model (by decide) wd_526 rfl rfl d_Model_known_140 ?_
        refine zz_topi (y := nI n) (by rw [(ho1 0 (by omega)).1]; exact hM.1) ?_
        refine lv_imul hx_ hb_ d_Model_known_143 ?_
        refine zz_topi (y := nI (4 * n)) (pk_mul _ _) ?_
        refine lv_iload_n hx_ hb_ d_Model_known_144 rfl (lv_at hl 2 rfl) ?_
        refine lv_iadd hx_ hb_ d_Model_known_145 ?_
        refine zz_topi (y := nI (4 * n + k)) (nI_add _ _) ?_
        refine lv_aload_n hx_ hb_ d_Model_known_146 rfl (lv_at hl 0 rfl) ?_
        refine zz_get hC hK hZ 0 17 (Nat.le_of_ble_eq_true rfl) (mc_0 q _ _) rfl hin_Model (by decide) wd_524 rfl rfl d_Model_known_147 ?_
        refine lv_iload_n hx_ hb_ d_Model_known_150 rfl (lv_at hl 2 rfl) ?_
        refine zz_lald hC hK hZ 15 1 k (Nat.le_of_ble_eq_true rfl) (mc_15 q _ _) rfl rfl (by omega) (by decide) rfl d_Model_known_151 ?_
        refine zz_topl (y := lN (g k)) (by rw [(ho1 15 (by omega)).2]; exact hg k (by omega)) ?_
        refine lv_ldc2 (v := lN 1125899906842624) hx_ hb_ hC.2.2.2.1 (hC.2.2.2.2.1 _ wd_644) d_Model_known_152 ?_
        refine W.lcmp hx_ hb_ d_Model_known_155 ?_
        refine lv_if_ne (tgt := 165) hx_ hb_ d_Model_known_156 (by decide) (fun h156 => ?_) (fun h156 => ?_)
        · have h156 : ¬ ((lN (g k)) = (lN 1125899906842624)) := fun x => h156 ((lg_cmp_eq _ _).mpr x)
          rw [pk_lEQ (by omega) (by omega)] at h156
          refine lv_aload_n hx_ hb_ d_Model_known_165 rfl (lv_at hl 0 rfl) ?_
          refine zz_get hC hK hZ 0 17 (Nat.le_of_ble_eq_true rfl) (mc_0 q _ _) rfl hin_Model (by decide) wd_524 rfl rfl d_Model_known_166 ?_
          refine lv_iload_n hx_ hb_ d_Model_known_169 rfl (lv_at hl 2 rfl) ?_
          refine zz_lald hC hK hZ 15 1 k (Nat.le_of_ble_eq_true rfl) (mc_15 q _ _) rfl rfl (by omega) (by decide) rfl d_Model_known_170 ?_
          refine zz_topl (y := lN (g k)) (by rw [(ho1 15 (by omega)).2]; exact hg k (by omega)) ?_
          refine lv_lload_n hx_ hb_ d_Model_known_171 rfl (lv_at hl 1 rfl) ?_
          refine lv_lsub hx_ hb_ d_Model_known_172 ?_
          refine zz_topl (y := lN (ns_nrm g k)) (by rw [lN_sub (ns_low_le (by omega)), ns_nrm, if_pos (by omega)]) ?_
          refine zz_last hC hK hZ 17 1 (4 * n + k) (Nat.le_of_ble_eq_true rfl) (fun _ => mc_17 q _ _) rfl rfl (by omega) (by decide) d_Model_known_173 (fun H locs hZ => ?_)
          refine lv_aload_n hx_ hb_ d_Model_known_174 rfl (lv_at hl 0 rfl) ?_
          refine zz_get hC hK hZ 0 21 (Nat.le_of_ble_eq_true rfl) (mc_0 q _ _) rfl hin_Model (by decide) wd_528 rfl rfl d_Model_known_175 ?_
          refine lv_iconst (v := nI 4) hx_ hb_ d_Model_known_178 (by decide) ?_
          refine lv_aload_n hx_ hb_ d_Model_known_179 rfl (lv_at hl 0 rfl) ?_
          refine zz_get hC hK hZ 0 19 (Nat.le_of_ble_eq_true rfl) (mc_0 q _ _) rfl hin_Model (by decide) wd_526 rfl rfl d_Model_known_180 ?_
          refine zz_topi (y := nI n) (by show Si.1 0 19 = _; rw [(ho1 0 (by omega)).1]; exact hM.1) ?_
          refine lv_imul hx_ hb_ d_Model_known_183 ?_
          refine zz_topi (y := nI (4 * n)) (pk_mul _ _) ?_
          refine lv_iload_n hx_ hb_ d_Model_known_184 rfl (lv_at hl 2 rfl) ?_
          refine lv_iadd hx_ hb_ d_Model_known_185 ?_
          refine zz_topi (y := nI (4 * n + k)) (nI_add _ _) ?_
          refine lv_aload_n hx_ hb_ d_Model_known_186 rfl (lv_at hl 0 rfl) ?_
          refine zz_get hC hK hZ 0 18 (Nat.le_of_ble_eq_true rfl) (mc_0 q _ _) rfl hin_Model (by decide) wd_525 rfl rfl d_Model_known_187 ?_
          refine lv_iload_n hx_ hb_ d_Model_known_190 rfl (lv_at hl 2 rfl) ?_
          refine zz_iald hC hK hZ 16 0 k (Nat.le_of_ble_eq_true rfl) (mc_16 q _ _) rfl rfl (by omega) (by decide) rfl d_Model_known_191 ?_
          refine zz_topi (y := vw_p (y k)) (by show Si.1 16 k = _; rw [(ho1 16 (by omega)).1]; exact hy k (by omega)) ?_
          refine zz_iast hC hK hZ 18 0 (4 * n + k) (Nat.le_of_ble_eq_true rfl) (fun _ => mc_18 q _ _) rfl rfl (by omega) (by decide) d_Model_known_192 (fun H locs hZ => ?_)
          refine lv_iinc (k := 2) (v := nI (k + 1)) (lv' := [(3, .int (nI (k + 1))), (0, .ref (zz_ad (mg_G q) 0)), (1, .long (lN (ns_low g)))]) hx_ hb_ d_Model_known_193 hl rfl (nI_add _ 1) (by decide) rfl (fun ls hl => ?_)
          refine lv_goto (tgt := 129) hx_ hb_ d_Model_known_196 (by decide) ?_
          exact ih_ _ (by omega) (k + 1) (zz_u (zz_v Si 17 (4 * n + k) (lN (ns_nrm g k))) 18 (4 * n + k) (vw_p (y k)))  _ _ _ hno (by omega) (zz_off_tr ho1 (fun d hd => ⟨zz_u1 _ 18 _ _ d (fun h => hd (Or.inr h)), zz_v2 Si 17 _ _ d (fun h => hd (Or.inl h))⟩)) (fun x hx => ⟨by
            show (zz_v Si 17 (4 * n + k) (lN (ns_nrm g k))).2 17 x = _
            rw [zz_v2s, pk_uLn (by omega)]
            exact (hold x hx).1, by
            rw [zz_u1s, pk_un (by omega)]
            exact (hold x hx).2⟩) (fun j hj => by
            by_cases e : j = k
            · rw [e]
              refine ⟨?_, ?_⟩
              · show (zz_v Si 17 (4 * n + k) (lN (ns_nrm g k))).2 17 (4 * n + k) = _
                rw [zz_v2s, pk_uLs]
              · rw [zz_u1s, pk_us]
            · refine ⟨?_, ?_⟩
              · show (zz_v Si 17 (4 * n + k) (lN (ns_nrm g k))).2 17 (4 * n + j) = _
                rw [zz_v2s, pk_uLn (by omega)]
                exact (hnew j (by omega)).1
              · rw [zz_u1s, pk_un (by omega)]
                exact (hnew j (by omega)).2) hZ (lv_sub hl [1, 2, 0] rfl) rfl
        · have h156 : (lN (g k)) = (lN 1125899906842624) := (lg_cmp_eq _ _).mp h156
          rw [pk_lEQ (by omega) (by omega)] at h156
          refine lv_ldc2 (v := lN 1125899906842624) hx_ hb_ hC.2.2.2.1 (hC.2.2.2.2.1 _ wd_644) d_Model_known_159 ?_
          refine zz_topl (y := lN (ns_nrm g k)) (by rw [ns_nrm, if_neg (by omega)]; rfl) ?_
          refine lv_goto (tgt := 173) hx_ hb_ d_Model_known_162 (by decide) ?_
          refine zz_last hC hK hZ 17 1 (4 * n + k) (Nat.le_of_ble_eq_true rfl) (fun _ => mc_17 q _ _) rfl rfl (by omega) (by decide) d_Model_known_173 (fun H locs hZ => ?_)
          refine lv_aload_n hx_ hb_ d_Model_known_174 rfl (lv_at hl 0 rfl) ?_
          refine zz_get hC hK hZ 0 21 (Nat.le_of_ble_eq_true rfl) (mc_0 q _ _) rfl hin_Model (by decide) wd_528 rfl rfl d_Model_known_175 ?_
          refine lv_iconst (v := nI 4) hx_ hb_ d_Model_known_178 (by decide) ?_
          refine lv_aload_n hx_ hb_ d_Model_known_179 rfl (lv_at hl 0 rfl) ?_
          refine zz_get hC hK hZ 0 19 (Nat.le_of_ble_eq_true rfl) (mc_0 q _ _) rfl hin_Model (by decide) wd_526 rfl rfl d_Model_known_180 ?_
          refine zz_topi (y := nI n) (by show Si.1 0 19 = _; rw [(ho1 0 (by omega)).1]; exact hM.1) ?_
          refine lv_imul hx_ hb_ d_Model_known_183 ?_
          refine zz_topi (y := nI (4 * n)) (pk_mul _ _) ?_
          refine lv_iload_n hx_ hb_ d_Model_known_184 rfl (lv_at hl 2 rfl) ?_
          refine lv_iadd hx_ hb_ d_Model_known_185 ?_
          refine zz_topi (y := nI (4 * n + k)) (nI_add _ _) ?_
          refine lv_aload_n hx_ hb_ d_Model_known_186 rfl (lv_at hl 0 rfl) ?_
          refine zz_get hC hK hZ 0 18 (Nat.le_of_ble_eq_true rfl) (mc_0 q _ _) rfl hin_Model (by decide) wd_525 rfl rfl d_Model_known_187 ?_
          refine lv_iload_n hx_ hb_ d_Model_known_190 rfl (lv_at hl 2 rfl) ?_
          refine zz_iald hC hK hZ 16 0 k (Nat.le_of_ble_eq_true rfl) (mc_16 q _ _) rfl rfl (by omega) (by decide) rfl d_Model_known_191 ?_
          refine zz_topi (y := vw_p (y k)) (by show Si.1 16 k = _; rw [(ho1 16 (by omega)).1]; exact hy k (by omega)) ?_
          refine zz_iast hC hK hZ 18 0 (4 * n + k) (Nat.le_of_ble_eq_true rfl) (fun _ => mc_18 q _ _) rfl rfl (by omega) (by decide) d_Model_known_192 (fun H locs hZ => ?_)
          refine lv_iinc (k := 2) (v := nI (k + 1)) (lv' := [(3, .int (nI (k + 1))), (0, .ref (zz_ad (mg_G q) 0)), (1, .long (lN (ns_low g)))]) hx_ hb_ d_Model_known_193 hl rfl (nI_add _ 1) (by decide) rfl (fun ls hl => ?_)
          refine lv_goto (tgt := 129) hx_ hb_ d_Model_known_196 (by decide) ?_
          exact ih_ _ (by omega) (k + 1) (zz_u (zz_v Si 17 (4 * n + k) (lN (ns_nrm g k))) 18 (4 * n + k) (vw_p (y k)))  _ _ _ hno (by omega) (zz_off_tr ho1 (fun d hd => ⟨zz_u1 _ 18 _ _ d (fun h => hd (Or.inr h)), zz_v2 Si 17 _ _ d (fun h => hd (Or.inl h))⟩)) (fun x hx => ⟨by
            show (zz_v Si 17 (4 * n + k) (lN (ns_nrm g k))).2 17 x = _
            rw [zz_v2s, pk_uLn (by omega)]
            exact (hold x hx).1, by
            rw [zz_u1s, pk_un (by omega)]
            exact (hold x hx).2⟩) (fun j hj => by
            by_cases e : j = k
            · rw [e]
              refine ⟨?_, ?_⟩
              · show (zz_v Si 17 (4 * n + k) (lN (ns_nrm g k))).2 17 (4 * n + k) = _
                rw [zz_v2s, pk_uLs]
              · rw [zz_u1s, pk_us]
            · refine ⟨?_, ?_⟩
              · show (zz_v Si 17 (4 * n + k) (lN (ns_nrm g k))).2 17 (4 * n + j) = _
                rw [zz_v2s, pk_uLn (by omega)]
                exact (hnew j (by omega)).1
              · rw [zz_u1s, pk_un (by omega)]
                exact (hnew j (by omega)).2) hZ (lv_sub hl [1, 2, 0] rfl) rfl
  have L129 : ∀ (k : Nat) (Si : zz_S) (H : Heap) (locs : List Loc) (ls : Array Slot) (hno : ∀ j, j < n → A j ≠ (ns_tup (ns_nrm g), ns_tup y)) (hk : k ≤ 4) (ho1 : zz_off (fun c => c = 17 ∨ c = 18) S Si) (hold : ∀ i, i < 4 * n → Si.2 17 i = S.2 17 i ∧ Si.1 18 i = S.1 18 i) (hnew : ∀ j, j < k → Si.2 17 (4 * n + j) = lN (ns_nrm g j) ∧ Si.1 18 (4 * n + j) = vw_p (y j)) (hZ : zz_Z (mg_G q) Si s_.heap H locs) (hl : lv_has ls 8 [(0, .ref (zz_ad (mg_G q) 0)), (1, .long (lN (ns_low g))), (3, .int (nI k))]), W p_ l e_ rm_Model_known s_ m_ ([.ref (zz_ad (mg_G q) 0)] : List Value).toArray bl_ mt_ c_ H locs 0 0 (MQ bl_ (va_Qi (fun ans S1 => ((∃ i, i < n ∧ A i = (ns_tup (ns_nrm g), ns_tup y)) ∧ ans = nI 1 ∧ S = S1) ∨ ((∀ i, i < n → A i ≠ (ns_tup (ns_nrm g), ns_tup y)) ∧ ans = nI 0 ∧ zz_off ms_K S S1 ∧ (∀ j, j ≠ 19 → S1.1 0 j = S.1 0 j) ∧ mk_st S1 (va_up A n (ns_tup (ns_nrm g), ns_tup y)) (n + 1))) (zz_P (mg_G q)) (zz_A (mg_G q))) ([.ref (zz_ad (mg_G q) 0)] : List Value).toArray s_ 0 0 (zz_A (mg_G q))) (F0 m_ 129 ls []) := fun k Si H locs ls hno hk ho1 hold hnew hZ hl => L129_ _ k Si H locs ls hno hk ho1 hold hnew hZ hl rfl
  have L21_ : ∀ (n_ : Nat) (i : Nat) (k : Nat) (f : Nat) (hk114 : ∀ (f : Nat) (H : Heap) (locs : List Loc) (ls : Array Slot) (hf1 : f ≤ 1) (hf : f = 1 ↔ ∀ j, j < 4 → (ns_at (A i).1 j = ns_nrm g j ∧ ns_at (A i).2 j = y j)) (hZ : zz_Z (mg_G q) S s_.heap H locs) (hl : lv_has ls 8 [(0, .ref (zz_ad (mg_G q) 0)), (1, .long (lN (ns_low g))), (3, .int (nI i)), (4, .int (nI f))]), W p_ l e_ rm_Model_known s_ m_ ([.ref (zz_ad (mg_G q) 0)] : List Value).toArray bl_ mt_ c_ H locs 0 0 (MQ bl_ (va_Qi (fun ans S1 => ((∃ i, i < n ∧ A i = (ns_tup (ns_nrm g), ns_tup y)) ∧ ans = nI 1 ∧ S = S1) ∨ ((∀ i, i < n → A i ≠ (ns_tup (ns_nrm g), ns_tup y)) ∧ ans = nI 0 ∧ zz_off ms_K S S1 ∧ (∀ j, j ≠ 19 → S1.1 0 j = S.1 0 j) ∧ mk_st S1 (va_up A n (ns_tup (ns_nrm g), ns_tup y)) (n + 1))) (zz_P (mg_G q)) (zz_A (mg_G q))) ([.ref (zz_ad (mg_G q) 0)] : List Value).toArray s_ 0 0 (zz_A (mg_G q))) (F0 m_ 114 ls [])) (H : Heap) (locs : List Loc) (ls : Array Slot) (hi : i < n) (hno : ∀ j, j < i → A j ≠ (ns_tup (ns_nrm g), ns_tup y)) (hk : k ≤ 4) (hf1 : f ≤ 1) (hf : f = 1 ↔ ∀ j, j < k → (ns_at (A i).1 j = ns_nrm g j ∧ ns_at (A i).2 j = y j)) (hZ : zz_Z (mg_G q) S s_.heap H locs) (hl : lv_has ls 8 [(0, .ref (zz_ad (mg_G q) 0)), (1, .long (lN (ns_low g))), (3, .int (nI i)), (4, .int (nI f)), (5, .int (nI k))]) (hn_ : 4 - k = n_), W p_ l e_ rm_Model_known s_ m_ ([.ref (zz_ad (mg_G q) 0)] : List Value).toArray bl_ mt_ c_ H locs 0 0 (MQ bl_ (va_Qi (fun ans S1 => ((∃ i, i < n ∧ A i = (ns_tup (ns_nrm g), ns_tup y)) ∧ ans = nI 1 ∧ S = S1) ∨ ((∀ i, i < n → A i ≠ (ns_tup (ns_nrm g), ns_tup y)) ∧ ans = nI 0 ∧ zz_off ms_K S S1 ∧ (∀ j, j ≠ 19 → S1.1 0 j = S.1 0 j) ∧ mk_st S1 (va_up A n (ns_tup (ns_nrm g), ns_tup y)) (n + 1))) (zz_P (mg_G q)) (zz_A (mg_G q))) ([.ref (zz_ad (mg_G q) 0)] : List Value).toArray s_ 0 0 (zz_A (mg_G q))) (F0 m_ 21 ls []) := by
    intro n_
    induction n_ using Nat.strongRecOn with
    | ind n_ ih_ =>
      intro i k f hk114 H locs ls hi hno hk hf1 hf hZ hl hn_
      refine lv_iload hx_ hb_ d_Model_known_21 (lv_at hl 4 rfl) ?_
      refine lv_iconst (v := nI 4) hx_ hb_ d_Model_known_23 (by decide) ?_
      refine zz_jge (tgt := 114) hC d_Model_known_24 (by decide) (by omega) (by omega) (fun h24 => ?_) (fun h24 => ?_)
      · exact hk114 f  _ _ _ hf1 (by rw [show k = 4 by omega] at hf; exact hf) hZ (lv_sub hl [0, 1, 2, 3] rfl)
      · have hgk := hgb k (by omega)
        have hnk := hnb k (by omega)
        have hak := hAb i hi k (by omega)
        refine lv_aload_n hx_ hb_ d_Model_known_27 rfl (lv_at hl 0 rfl) ?_
        refine zz_get hC hK hZ 0 17 (Nat.le_of_ble_eq_true rfl) (mc_0 q _ _) rfl hin_Model (by decide) wd_524 rfl rfl d_Model_known_28 ?_
        refine lv_iload hx_ hb_ d_Model_known_31 (lv_at hl 4 rfl) ?_
        refine zz_lald hC hK hZ 15 1 k (Nat.le_of_ble_eq_true rfl) (mc_15 q _ _) rfl rfl (by omega) (by decide) rfl d_Model_known_33 ?_
        refine zz_topl (y := lN (g k)) (hg k (by omega)) ?_
        refine lv_ldc2 (v := lN 1125899906842624) hx_ hb_ hC.2.2.2.1 (hC.2.2.2.2.1 _ wd_644) d_Model_known_34 ?_
        refine W.lcmp hx_ hb_ d_Model_known_37 ?_
        refine lv_if_ne (tgt := 47) hx_ hb_ d_Model_known_38 (by decide) (fun h38 => ?_) (fun h38 => ?_)
        · have h38 : ¬ ((lN (g k)) = (lN 1125899906842624)) := fun x => h38 ((lg_cmp_eq _ _).mpr x)
          rw [pk_lEQ (by omega) (by omega)] at h38
          refine lv_aload_n hx_ hb_ d_Model_known_47 rfl (lv_at hl 0 rfl) ?_
          refine zz_get hC hK hZ 0 17 (Nat.le_of_ble_eq_true rfl) (mc_0 q _ _) rfl hin_Model (by decide) wd_524 rfl rfl d_Model_known_48 ?_
          refine lv_iload hx_ hb_ d_Model_known_51 (lv_at hl 4 rfl) ?_
          refine zz_lald hC hK hZ 15 1 k (Nat.le_of_ble_eq_true rfl) (mc_15 q _ _) rfl rfl (by omega) (by decide) rfl d_Model_known_53 ?_
          refine zz_topl (y := lN (g k)) (hg k (by omega)) ?_
          refine lv_lload_n hx_ hb_ d_Model_known_54 rfl (lv_at hl 1 rfl) ?_
          refine lv_lsub hx_ hb_ d_Model_known_55 ?_
          refine zz_topl (y := lN (ns_nrm g k)) (by rw [lN_sub (ns_low_le (by omega)), ns_nrm, if_pos (by omega)]) ?_
          refine lv_lstore (i := 6) (lv' := [(6, .long (lN (ns_nrm g k))), (0, .ref (zz_ad (mg_G q) 0)), (1, .long (lN (ns_low g))), (3, .int (nI i)), (4, .int (nI f)), (5, .int (nI k))]) hx_ hb_ d_Model_known_56 hl (by decide) rfl (fun ls hl => ?_)
          refine lv_iload hx_ hb_ d_Model_known_58 (lv_at hl 4 rfl) ?_
          refine zz_ieq (tgt := 105) hC d_Model_known_60 (by decide) (by omega) (fun h60 => ?_) (fun h60 => ?_)
          · refine lv_iconst (v := nI 0) hx_ hb_ d_Model_known_105 (by decide) ?_
            refine lv_istore (i := 4) (lv' := [(4, .int (nI 0)), (6, .long (lN (ns_nrm g k))), (0, .ref (zz_ad (mg_G q) 0)), (1, .long (lN (ns_low g))), (3, .int (nI i)), (5, .int (nI k))]) hx_ hb_ d_Model_known_106 hl (by decide) rfl (fun ls hl => ?_)
            refine lv_iinc (k := 5) (v := nI (k + 1)) (lv' := [(5, .int (nI (k + 1))), (4, .int (nI 0)), (6, .long (lN (ns_nrm g k))), (0, .ref (zz_ad (mg_G q) 0)), (1, .long (lN (ns_low g))), (3, .int (nI i))]) hx_ hb_ d_Model_known_108 hl rfl (nI_add _ 1) (by decide) rfl (fun ls hl => ?_)
            refine lv_goto (tgt := 21) hx_ hb_ d_Model_known_111 (by decide) ?_
            exact ih_ _ (by omega) i (k + 1) 0 hk114 _ _ _ hi hno (by omega) (Nat.zero_le _) ⟨fun h => absurd h (by omega), fun h => by
              have hkk := h k (by omega)
              first
                | exact absurd hkk.1 (by omega)
                | exact absurd (by rw [hkk.2]) h98
                | exact absurd (hf.2 (fun j hj => h j (by omega))) (by omega)⟩ hZ (lv_sub hl [3, 4, 5, 1, 0] rfl) rfl
          · refine lv_aload_n hx_ hb_ d_Model_known_63 rfl (lv_at hl 1 rfl) ?_
            refine zz_get hC hK hZ 0 20 (Nat.le_of_ble_eq_true rfl) (mc_0 q _ _) rfl hin_Model (by decide) wd_527 rfl rfl d_Model_known_64 ?_
            refine lv_iconst (v := nI 4) hx_ hb_ d_Model_known_67 (by decide) ?_
            refine lv_iload_n hx_ hb_ d_Model_known_68 rfl (lv_at hl 3 rfl) ?_
            refine lv_imul hx_ hb_ d_Model_known_69 ?_
            refine zz_topi (y := nI (4 * i)) (pk_mul _ _) ?_
            refine lv_iload hx_ hb_ d_Model_known_70 (lv_at hl 5 rfl) ?_
            refine lv_iadd hx_ hb_ d_Model_known_72 ?_
            refine zz_topi (y := nI (4 * i + k)) (nI_add _ _) ?_
            refine zz_lald hC hK hZ 17 1 (4 * i + k) (Nat.le_of_ble_eq_true rfl) (mc_17 q _ _) rfl rfl (by omega) (by decide) rfl d_Model_known_73 ?_
            refine zz_topl (y := lN (ns_at (A i).1 k)) (hM.2.2 i hi k (by omega)).1 ?_
            refine lv_lload hx_ hb_ d_Model_known_74 (lv_at hl 0 rfl) ?_
            refine W.lcmp hx_ hb_ d_Model_known_76 ?_
            refine lv_if_ne (tgt := 105) hx_ hb_ d_Model_known_77 (by decide) (fun h77 => ?_) (fun h77 => ?_)
            · have h77 : ¬ ((lN (ns_at (A i).1 k)) = (lN (ns_nrm g k))) := fun x => h77 ((lg_cmp_eq _ _).mpr x)
              rw [pk_lEQ (by omega) (by omega)] at h77
              refine lv_iconst (v := nI 0) hx_ hb_ d_Model_known_105 (by decide) ?_
              refine lv_istore (i := 4) (lv' := [(4, .int (nI 0)), (6, .long (lN (ns_nrm g k))), (0, .ref (zz_ad (mg_G q) 0)), (1, .long (lN (ns_low g))), (3, .int (nI i)), (5, .int (nI k))]) hx_ hb_ d_Model_known_106 hl (by decide) rfl (fun ls hl => ?_)
              refine lv_iinc (k := 5) (v := nI (k + 1)) (lv' := [(5, .int (nI (k + 1))), (4, .int (nI 0)), (6, .long (lN (ns_nrm g k))), (0, .ref (zz_ad (mg_G q) 0)), (1, .long (lN (ns_low g))), (3, .int (nI i))]) hx_ hb_ d_Model_known_108 hl rfl (nI_add _ 1) (by decide) rfl (fun ls hl => ?_)
              refine lv_goto (tgt := 21) hx_ hb_ d_Model_known_111 (by decide) ?_
              exact ih_ _ (by omega) i (k + 1) 0 hk114 _ _ _ hi hno (by omega) (Nat.zero_le _) ⟨fun h => absurd h (by omega), fun h => by
                have hkk := h k (by omega)
                first
                  | exact absurd hkk.1 (by omega)
                  | exact absurd (by rw [hkk.2]) h98
                  | exact absurd (hf.2 (fun j hj => h j (by omega))) (by omega)⟩ hZ (lv_sub hl [3, 4, 5, 1, 0] rfl) rfl
            · have h77 : (lN (ns_at (A i).1 k)) = (lN (ns_nrm g k)) := (lg_cmp_eq _ _).mp h77
              rw [pk_lEQ (by omega) (by omega)] at h77
              refine lv_aload_n hx_ hb_ d_Model_known_80 rfl (lv_at hl 1 rfl) ?_
              refine zz_get hC hK hZ 0 21 (Nat.le_of_ble_eq_true rfl) (mc_0 q _ _) rfl hin_Model (by decide) wd_528 rfl rfl d_Model_known_81 ?_
              refine lv_iconst (v := nI 4) hx_ hb_ d_Model_known_84 (by decide) ?_
              refine lv_iload_n hx_ hb_ d_Model_known_85 rfl (lv_at hl 3 rfl) ?_
              refine lv_imul hx_ hb_ d_Model_known_86 ?_
              refine zz_topi (y := nI (4 * i)) (pk_mul _ _) ?_
              refine lv_iload hx_ hb_ d_Model_known_87 (lv_at hl 5 rfl) ?_
              refine lv_iadd hx_ hb_ d_Model_known_89 ?_
              refine zz_topi (y := nI (4 * i + k)) (nI_add _ _) ?_
              refine zz_iald hC hK hZ 18 0 (4 * i + k) (Nat.le_of_ble_eq_true rfl) (mc_18 q _ _) rfl rfl (by omega) (by decide) rfl d_Model_known_90 ?_
              refine zz_topi (y := vw_p (ns_at (A i).2 k)) (hM.2.2 i hi k (by omega)).2 ?_
              refine lv_aload_n hx_ hb_ d_Model_known_91 rfl (lv_at hl 1 rfl) ?_
              refine zz_get hC hK hZ 0 18 (Nat.le_of_ble_eq_true rfl) (mc_0 q _ _) rfl hin_Model (by decide) wd_525 rfl rfl d_Model_known_92 ?_
              refine lv_iload hx_ hb_ d_Model_known_95 (lv_at hl 5 rfl) ?_
              refine zz_iald hC hK hZ 16 0 k (Nat.le_of_ble_eq_true rfl) (mc_16 q _ _) rfl rfl (by omega) (by decide) rfl d_Model_known_97 ?_
              refine zz_topi (y := vw_p (y k)) (hy k (by omega)) ?_
              refine zz_rjne (tgt := 105) hC d_Model_known_98 (by decide) (fun h98 => ?_) (fun h98 => ?_)
              · refine lv_iconst (v := nI 0) hx_ hb_ d_Model_known_105 (by decide) ?_
                refine lv_istore (i := 4) (lv' := [(4, .int (nI 0)), (6, .long (lN (ns_nrm g k))), (0, .ref (zz_ad (mg_G q) 0)), (1, .long (lN (ns_low g))), (3, .int (nI i)), (5, .int (nI k))]) hx_ hb_ d_Model_known_106 hl (by decide) rfl (fun ls hl => ?_)
                refine lv_iinc (k := 5) (v := nI (k + 1)) (lv' := [(5, .int (nI (k + 1))), (4, .int (nI 0)), (6, .long (lN (ns_nrm g k))), (0, .ref (zz_ad (mg_G q) 0)), (1, .long (lN (ns_low g))), (3, .int (nI i))]) hx_ hb_ d_Model_known_108 hl rfl (nI_add _ 1) (by decide) rfl (fun ls hl => ?_)
                refine lv_goto (tgt := 21) hx_ hb_ d_Model_known_111 (by decide) ?_
                exact ih_ _ (by omega) i (k + 1) 0 hk114 _ _ _ hi hno (by omega) (Nat.zero_le _) ⟨fun h => absurd h (by omega), fun h => by
                  have hkk := h k (by omega)
                  first
                    | exact absurd hkk.1 (by omega)
                    | exact absurd (by rw [hkk.2]) h98
                    | exact absurd (hf.2 (fun j hj => h j (by omega))) (by omega)⟩ hZ (lv_sub hl [3, 4, 5, 1, 0] rfl) rfl
              · refine lv_iconst (v := nI 1) hx_ hb_ d_Model_known_101 (by decide) ?_
                refine lv_goto (tgt := 106) hx_ hb_ d_Model_known_102 (by decide) ?_
                refine lv_istore (i := 4) (lv' := [(4, .int (nI 1)), (6, .long (lN (ns_nrm g k))), (0, .ref (zz_ad (mg_G q) 0)), (1, .long (lN (ns_low g))), (3, .int (nI i)), (5, .int (nI k))]) hx_ hb_ d_Model_known_106 hl (by decide) rfl (fun ls hl => ?_)
                refine lv_iinc (k := 5) (v := nI (k + 1)) (lv' := [(5, .int (nI (k + 1))), (4, .int (nI 1)), (6, .long (lN (ns_nrm g k))), (0, .ref (zz_ad (mg_G q) 0)), (1, .long (lN (ns_low g))), (3, .int (nI i))]) hx_ hb_ d_Model_known_108 hl rfl (nI_add _ 1) (by decide) rfl (fun ls hl => ?_)
                refine lv_goto (tgt := 21) hx_ hb_ d_Model_known_111 (by decide) ?_
                exact ih_ _ (by omega) i (k + 1) 1 hk114 _ _ _ hi hno (by omega) (Nat.le_refl _) ⟨fun _ j hj => by
                  by_cases e : j = k
                  · rw [e]
                    exact ⟨by omega, vw_pinj (hA24 i hi k (by omega)) (hy24 k (by omega)) (by omega)⟩
                  · exact hf.1 (by omega) j (by omega), fun _ => rfl⟩ hZ (lv_sub hl [3, 4, 5, 1, 0] rfl) rfl
        · have h38 : (lN (g k)) = (lN 1125899906842624) := (lg_cmp_eq _ _).mp h38
          rw [pk_lEQ (by omega) (by omega)] at h38
          refine lv_ldc2 (v := lN 1125899906842624) hx_ hb_ hC.2.2.2.1 (hC.2.2.2.2.1 _ wd_644) d_Model_known_41 ?_
          refine zz_topl (y := lN (ns_nrm g k)) (by rw [ns_nrm, if_neg (by omega)]; rfl) ?_
          refine lv_goto (tgt := 56) hx_ hb_ d_Model_known_44 (by decide) ?_
          refine lv_lstore (i := 6) (lv' := [(6, .long (lN (ns_nrm g k))), (0, .ref (zz_ad (mg_G q) 0)), (1, .long (lN (ns_low g))), (3, .int (nI i)), (4, .int (nI f)), (5, .int (nI k))]) hx_ hb_ d_Model_known_56 hl (by decide) rfl (fun ls hl => ?_)
          refine lv_iload hx_ hb_ d_Model_known_58 (lv_at hl 4 rfl) ?_
          refine zz_ieq (tgt := 105) hC d_Model_known_60 (by decide) (by omega) (fun h60 => ?_) (fun h60 => ?_)
          · refine lv_iconst (v := nI 0) hx_ hb_ d_Model_known_105 (by decide) ?_
            refine lv_istore (i := 4) (lv' := [(4, .int (nI 0)), (6, .long (lN (ns_nrm g k))), (0, .ref (zz_ad (mg_G q) 0)), (1, .long (lN (ns_low g))), (3, .int (nI i)), (5, .int (nI k))]) hx_ hb_ d_Model_known_106 hl (by decide) rfl (fun ls hl => ?_)
            refine lv_iinc (k := 5) (v := nI (k + 1)) (lv' := [(5, .int (nI (k + 1))), (4, .int (nI 0)), (6, .long (lN (ns_nrm g k))), (0, .ref (zz_ad (mg_G q) 0)), (1, .long (lN (ns_low g))), (3, .int (nI i))]) hx_ hb_ d_Model_known_108 hl rfl (nI_add _ 1) (by decide) rfl (fun ls hl => ?_)
            refine lv_goto (tgt := 21) hx_ hb_ d_Model_known_111 (by decide) ?_
            exact ih_ _ (by omega) i (k + 1) 0 hk114 _ _ _ hi hno (by omega) (Nat.zero_le _) ⟨fun h => absurd h (by omega), fun h => by
              have hkk := h k (by omega)
              first
                | exact absurd hkk.1 (by omega)
                | exact absurd (by rw [hkk.2]) h98
                | exact absurd (hf.2 (fun j hj => h j (by omega))) (by omega)⟩ hZ (lv_sub hl [3, 4, 5, 1, 0] rfl) rfl
          · refine lv_aload_n hx_ hb_ d_Model_known_63 rfl (lv_at hl 1 rfl) ?_
            refine zz_get hC hK hZ 0 20 (Nat.le_of_ble_eq_true rfl) (mc_0 q _ _) rfl hin_Model (by decide) wd_527 rfl rfl d_Model_known_64 ?_
            refine lv_iconst (v := nI 4) hx_ hb_ d_Model_known_67 (by decide) ?_
            refine lv_iload_n hx_ hb_ d_Model_known_68 rfl (lv_at hl 3 rfl) ?_
            refine lv_imul hx_ hb_ d_Model_known_69 ?_
            refine zz_topi (y := nI (4 * i)) (pk_mul _ _) ?_
            refine lv_iload hx_ hb_ d_Model_known_70 (lv_at hl 5 rfl) ?_
            refine lv_iadd hx_ hb_ d_Model_known_72 ?_
            refine zz_topi (y := nI (4 * i + k)) (nI_add _ _) ?_
            refine zz_lald hC hK hZ 17 1 (4 * i + k) (Nat.le_of_ble_eq_true rfl) (mc_17 q _ _) rfl rfl (by omega) (by decide) rfl d_Model_known_73 ?_
            refine zz_topl (y := lN (ns_at (A i).1 k)) (hM.2.2 i hi k (by omega)).1 ?_
            refine lv_lload hx_ hb_ d_Model_known_74 (lv_at hl 0 rfl) ?_
            refine W.lcmp hx_ hb_ d_Model_known_76 ?_
            refine lv_if_ne (tgt := 105) hx_ hb_ d_Model_known_77 (by decide) (fun h77 => ?_) (fun h77 => ?_)
            · have h77 : ¬ ((lN (ns_at (A i).1 k)) = (lN (ns_nrm g k))) := fun x => h77 ((lg_cmp_eq _ _).mpr x)
              rw [pk_lEQ (by omega) (by omega)] at h77
              refine lv_iconst (v := nI 0) hx_ hb_ d_Model_known_105 (by decide) ?_
              refine lv_istore (i := 4) (lv' := [(4, .int (nI 0)), (6, .long (lN (ns_nrm g k))), (0, .ref (zz_ad (mg_G q) 0)), (1, .long (lN (ns_low g))), (3, .int (nI i)), (5, .int (nI k))]) hx_ hb_ d_Model_known_106 hl (by decide) rfl (fun ls hl => ?_)
              refine lv_iinc (k := 5) (v := nI (k + 1)) (lv' := [(5, .int (nI (k + 1))), (4, .int (nI 0)), (6, .long (lN (ns_nrm g k))), (0, .ref (zz_ad (mg_G q) 0)), (1, .long (lN (ns_low g))), (3, .int (nI i))]) hx_ hb_ d_Model_known_108 hl rfl (nI_add _ 1) (by decide) rfl (fun ls hl => ?_)
              refine lv_goto (tgt := 21) hx_ hb_ d_Model_known_111 (by decide) ?_
              exact ih_ _ (by omega) i (k + 1) 0 hk114 _ _ _ hi hno (by omega) (Nat.zero_le _) ⟨fun h => absurd h (by omega), fun h => by
                have hkk := h k (by omega)
                first
                  | exact absurd hkk.1 (by omega)
                  | exact absurd (by rw [hkk.2]) h98
                  | exact absurd (hf.2 (fun j hj => h j (by omega))) (by omega)⟩ hZ (lv_sub hl [3, 4, 5, 1, 0] rfl) rfl
            · have h77 : (lN (ns_at (A i).1 k)) = (lN (ns_nrm g k)) := (lg_cmp_eq _ _).mp h77
              rw [pk_lEQ (by omega) (by omega)] at h77
              refine lv_aload_n hx_ hb_ d_Model_known_80 rfl (lv_at hl 1 rfl) ?_
              refine zz_get hC hK hZ 0 21 (Nat.le_of_ble_eq_true rfl) (mc_0 q _ _) rfl hin_Model (by decide) wd_528 rfl rfl d_Model_known_81 ?_
              refine lv_iconst (v := nI 4) hx_ hb_ d_Model_known_84 (by decide) ?_
              refine lv_iload_n hx_ hb_ d_Model_known_85 rfl (lv_at hl 3 rfl) ?_
              refine lv_imul hx_ hb_ d_Model_known_86 ?_
              refine zz_topi (y := nI (4 * i)) (pk_mul _ _) ?_
              refine lv_iload hx_ hb_ d_Model_known_87 (lv_at hl 5 rfl) ?_
              refine lv_iadd hx_ hb_ d_Model_known_89 ?_
              refine zz_topi (y := nI (4 * i + k)) (nI_add _ _) ?_
              refine zz_iald hC hK hZ 18 0 (4 * i + k) (Nat.le_of_ble_eq_true rfl) (mc_18 q _ _) rfl rfl (by omega) (by decide) rfl d_Model_known_90 ?_
              refine zz_topi (y := vw_p (ns_at (A i).2 k)) (hM.2.2 i hi k (by omega)).2 ?_
              refine lv_aload_n hx_ hb_ d_Model_known_91 rfl (lv_at hl 1 rfl) ?_
              refine zz_get hC hK hZ 0 18 (Nat.le_of_ble_eq_true rfl) (mc_0 q _ _) rfl hin_Model (by decide) wd_525 rfl rfl d_Model_known_92 ?_
              refine lv_iload hx_ hb_ d_Model_known_95 (lv_at hl 5 rfl) ?_
              refine zz_iald hC hK hZ 16 0 k (Nat.le_of_ble_eq_true rfl) (mc_16 q _ _) rfl rfl (by omega) (by decide) rfl d_Model_known_97 ?_
              refine zz_topi (y := vw_p (y k)) (hy k (by omega)) ?_
              refine zz_rjne (tgt := 105) hC d_Model_known_98 (by decide) (fun h98 => ?_) (fun h98 => ?_)
              · refine lv_iconst (v := nI 0) hx_ hb_ d_Model_known_105 (by decide) ?_
                refine lv_istore (i := 4) (lv' := [(4, .int (nI 0)), (6, .long (lN (ns_nrm g k))), (0, .ref (zz_ad (mg_G q) 0)), (1, .long (lN (ns_low g))), (3, .int (nI i)), (5, .int (nI k))]) hx_ hb_ d_Model_known_106 hl (by decide) rfl (fun ls hl => ?_)
                refine lv_iinc (k := 5) (v := nI (k + 1)) (lv' := [(5, .int (nI (k + 1))), (4, .int (nI 0)), (6, .long (lN (ns_nrm g k))), (0, .ref (zz_ad (mg_G q) 0)), (1, .long (lN (ns_low g))), (3, .int (nI i))]) hx_ hb_ d_Model_known_108 hl rfl (nI_add _ 1) (by decide) rfl (fun ls hl => ?_)
                refine lv_goto (tgt := 21) hx_ hb_ d_Model_known_111 (by decide) ?_
                exact ih_ _ (by omega) i (k + 1) 0 hk114 _ _ _ hi hno (by omega) (Nat.zero_le _) ⟨fun h => absurd h (by omega), fun h => by
                  have hkk := h k (by omega)
                  first
                    | exact absurd hkk.1 (by omega)
                    | exact absurd (by rw [hkk.2]) h98
                    | exact absurd (hf.2 (fun j hj => h j (by omega))) (by omega)⟩ hZ (lv_sub hl [3, 4, 5, 1, 0] rfl) rfl
              · refine lv_iconst (v := nI 1) hx_ hb_ d_Model_known_101 (by decide) ?_
                refine lv_goto (tgt := 106) hx_ hb_ d_Model_known_102 (by decide) ?_
                refine lv_istore (i := 4) (lv' := [(4, .int (nI 1)), (6, .long (lN (ns_nrm g k))), (0, .ref (zz_ad (mg_G q) 0)), (1, .long (lN (ns_low g))), (3, .int (nI i)), (5, .int (nI k))]) hx_ hb_ d_Model_known_106 hl (by decide) rfl (fun ls hl => ?_)
                refine lv_iinc (k := 5) (v := nI (k + 1)) (lv' := [(5, .int (nI (k + 1))), (4, .int (nI 1)), (6, .long (lN (ns_nrm g k))), (0, .ref (zz_ad (mg_G q) 0)), (1, .long (lN (ns_low g))), (3, .int (nI i))]) hx_ hb_ d_Model_known_108 hl rfl (nI_add _ 1) (by decide) rfl (fun ls hl => ?_)
                refine lv_goto (tgt := 21) hx_ hb_ d_Model_known_111 (by decide) ?_
                exact ih_ _ (by omega) i (k + 1) 1 hk114 _ _ _ hi hno (by omega) (Nat.le_refl _) ⟨fun _ j hj => by
                  by_cases e : j = k
                  · rw [e]
                    exact ⟨by omega, vw_pinj (hA24 i hi k (by omega)) (hy24 k (by omega)) (by omega)⟩
                  · exact hf.1 (by omega) j (by omega), fun _ => rfl⟩ hZ (lv_sub hl [3, 4, 5, 1, 0] rfl) rfl
  have L21 : ∀ (i : Nat) (k : Nat) (f : Nat) (hk114 : ∀ (f : Nat) (H : Heap) (locs : List Loc) (ls : Array Slot) (hf1 : f ≤ 1) (hf : f = 1 ↔ ∀ j, j < 4 → (ns_at (A i).1 j = ns_nrm g j ∧ ns_at (A i).2 j = y j)) (hZ : zz_Z (mg_G q) S s_.heap H locs) (hl : lv_has ls 8 [(0, .ref (zz_ad (mg_G q) 0)), (1, .long (lN (ns_low g))), (3, .int (nI i)), (4, .int (nI f))]), W p_ l e_ rm_Model_known s_ m_ ([.ref (zz_ad (mg_G q) 0)] : List Value).toArray bl_ mt_ c_ H locs 0 0 (MQ bl_ (va_Qi (fun ans S1 => ((∃ i, i < n ∧ A i = (ns_tup (ns_nrm g), ns_tup y)) ∧ ans = nI 1 ∧ S = S1) ∨ ((∀ i, i < n → A i ≠ (ns_tup (ns_nrm g), ns_tup y)) ∧ ans = nI 0 ∧ zz_off ms_K S S1 ∧ (∀ j, j ≠ 19 → S1.1 0 j = S.1 0 j) ∧ mk_st S1 (va_up A n (ns_tup (ns_nrm g), ns_tup y)) (n + 1))) (zz_P (mg_G q)) (zz_A (mg_G q))) ([.ref (zz_ad (mg_G q) 0)] : List Value).toArray s_ 0 0 (zz_A (mg_G q))) (F0 m_ 114 ls [])) (H : Heap) (locs : List Loc) (ls : Array Slot) (hi : i < n) (hno : ∀ j, j < i → A j ≠ (ns_tup (ns_nrm g), ns_tup y)) (hk : k ≤ 4) (hf1 : f ≤ 1) (hf : f = 1 ↔ ∀ j, j < k → (ns_at (A i).1 j = ns_nrm g j ∧ ns_at (A i).2 j = y j)) (hZ : zz_Z (mg_G q) S s_.heap H locs) (hl : lv_has ls 8 [(0, .ref (zz_ad (mg_G q) 0)), (1, .long (lN (ns_low g))), (3, .int (nI i)), (4, .int (nI f)), (5, .int (nI k))]), W p_ l e_ rm_Model_known s_ m_ ([.ref (zz_ad (mg_G q) 0)] : List Value).toArray bl_ mt_ c_ H locs 0 0 (MQ bl_ (va_Qi (fun ans S1 => ((∃ i, i < n ∧ A i = (ns_tup (ns_nrm g), ns_tup y)) ∧ ans = nI 1 ∧ S = S1) ∨ ((∀ i, i < n → A i ≠ (ns_tup (ns_nrm g), ns_tup y)) ∧ ans = nI 0 ∧ zz_off ms_K S S1 ∧ (∀ j, j ≠ 19 → S1.1 0 j = S.1 0 j) ∧ mk_st S1 (va_up A n (ns_tup (ns_nrm g), ns_tup y)) (n + 1))) (zz_P (mg_G q)) (zz_A (mg_G q))) ([.ref (zz_ad (mg_G q) 0)] : List Value).toArray s_ 0 0 (zz_A (mg_G q))) (F0 m_ 21 ls []) := fun i k f hk114 H locs ls hi hno hk hf1 hf hZ hl => L21_ _ i k f hk114 H locs ls hi hno hk hf1 hf hZ hl rfl
  have L7_ : ∀ (n_ : Nat) (i : Nat) (H : Heap) (locs : List Loc) (ls : Array Slot) (hi : i ≤ n) (hno : ∀ j, j < i → A j ≠ (ns_tup (ns_nrm g), ns_tup y)) (hZ : zz_Z (mg_G q) S s_.heap H locs) (hl : lv_has ls 8 [(0, .ref (zz_ad (mg_G q) 0)), (1, .long (lN (ns_low g))), (3, .int (nI i))]) (hn_ : n - i = n_), W p_ l e_ rm_Model_known s_ m_ ([.ref (zz_ad (mg_G q) 0)] : List Value).toArray bl_ mt_ c_ H locs 0 0 (MQ bl_ (va_Qi (fun ans S1 => ((∃ i, i < n ∧ A i = (ns_tup (ns_nrm g), ns_tup y)) ∧ ans = nI 1 ∧ S = S1) ∨ ((∀ i, i < n → A i ≠ (ns_tup (ns_nrm g), ns_tup y)) ∧ ans = nI 0 ∧ zz_off ms_K S S1 ∧ (∀ j, j ≠ 19 → S1.1 0 j = S.1 0 j) ∧ mk_st S1 (va_up A n (ns_tup (ns_nrm g), ns_tup y)) (n + 1))) (zz_P (mg_G q)) (zz_A (mg_G q))) ([.ref (zz_ad (mg_G q) 0)] : List Value).toArray s_ 0 0 (zz_A (mg_G q))) (F0 m_ 7 ls []) := by
    intro n_
    induction n_ using Nat.strongRecOn with
    | ind n_ ih_ =>
      intro i H locs ls hi hno hZ hl hn_
      refine lv_iload_n hx_ hb_ d_Model_known_7 rfl (lv_at hl 2 rfl) ?_
      refine lv_aload_n hx_ hb_ d_Model_known_8 rfl (lv_at hl 0 rfl) ?_
      refine zz_get hC hK hZ 0 19 (Nat.le_of_ble_eq_true rfl) (mc_0 q _ _) rfl hin_Model (by decide) wd_526 rfl rfl d_Model_known_9 ?_
      refine zz_topi (y := nI n) hM.1 ?_
      refine zz_jge (tgt := 127) hC d_Model_known_12 (by decide) (by omega) (by omega) (fun h12 => ?_) (fun h12 => ?_)
      · refine lv_iconst (v := nI 0) hx_ hb_ d_Model_known_127 (by decide) ?_
        refine lv_istore_n (i := 3) (lv' := [(3, .int (nI 0)), (0, .ref (zz_ad (mg_G q) 0)), (1, .long (lN (ns_low g)))]) hx_ hb_ d_Model_known_128 rfl hl (by decide) rfl (fun ls hl => ?_)
        exact L129 0 S  _ _ _ (by intro j hj; exact hno j (by omega)) (Nat.zero_le _) zz_off_rf (fun _ _ => ⟨rfl, rfl⟩) (fun j hj => absurd hj (Nat.not_lt_zero j)) hZ (lv_sub hl [1, 2, 0] rfl)
      · refine lv_iconst (v := nI 1) hx_ hb_ d_Model_known_15 (by decide) ?_
        refine lv_istore (i := 4) (lv' := [(4, .int (nI 1)), (0, .ref (zz_ad (mg_G q) 0)), (1, .long (lN (ns_low g))), (3, .int (nI i))]) hx_ hb_ d_Model_known_16 hl (by decide) rfl (fun ls hl => ?_)
        refine lv_iconst (v := nI 0) hx_ hb_ d_Model_known_18 (by decide) ?_
        refine lv_istore (i := 5) (lv' := [(5, .int (nI 0)), (4, .int (nI 1)), (0, .ref (zz_ad (mg_G q) 0)), (1, .long (lN (ns_low g))), (3, .int (nI i))]) hx_ hb_ d_Model_known_19 hl (by decide) rfl (fun ls hl => ?_)
        refine L21 i 0 1 ?_ _ _ _ h12 hno (Nat.zero_le _) (Nat.le_refl _) ⟨fun _ j hj => absurd hj (Nat.not_lt_zero j), fun _ => rfl⟩ hZ (lv_sub hl [2, 3, 4, 1, 0] rfl)
        · intro f H locs ls hf1 hf hZ hl
          refine lv_iload hx_ hb_ d_Model_known_114 (lv_at hl 3 rfl) ?_
          refine zz_ieq (tgt := 121) hC d_Model_known_116 (by decide) (by omega) (fun h116 => ?_) (fun h116 => ?_)
          · refine lv_iinc (k := 2) (v := nI (i + 1)) (lv' := [(3, .int (nI (i + 1))), (0, .ref (zz_ad (mg_G q) 0)), (1, .long (lN (ns_low g))), (4, .int (nI f))]) hx_ hb_ d_Model_known_121 hl rfl (nI_add _ 1) (by decide) rfl (fun ls hl => ?_)
            refine lv_goto (tgt := 7) hx_ hb_ d_Model_known_124 (by decide) ?_
            exact ih_ _ (by omega) (i + 1)  _ _ _ (by omega) (fun j hj => by
              by_cases e : j = i
              · rw [e]
                exact fun hc => absurd (hf.2 (st_eq.2 hc)) (by omega)
              · exact hno j (by omega)) hZ (lv_sub hl [1, 2, 0] rfl) rfl
          · refine lv_iconst (v := nI 1) hx_ hb_ d_Model_known_119 (by decide) ?_
            exact zz_zret hC hK hZ rfl d_Model_known_120 (by decide) (Or.inl ⟨⟨i, by omega, st_eq.1 (hf.1 (by omega))⟩, rfl, rfl⟩)
  have L7 : ∀ (i : Nat) (H : Heap) (locs : List Loc) (ls : Array Slot) (hi : i ≤ n) (hno : ∀ j, j < i → A j ≠ (ns_tup (ns_nrm g), ns_tup y)) (hZ : zz_Z (mg_G q) S s_.heap H locs) (hl : lv_has ls 8 [(0, .ref (zz_ad (mg_G q) 0)), (1, .long (lN (ns_low g))), (3, .int (nI i))]), W p_ l e_ rm_Model_known s_ m_ ([.ref (zz_ad (mg_G q) 0)] : List Value).toArray bl_ mt_ c_ H locs 0 0 (MQ bl_ (va_Qi (fun ans S1 => ((∃ i, i < n ∧ A i = (ns_tup (ns_nrm g), ns_tup y)) ∧ ans = nI 1 ∧ S = S1) ∨ ((∀ i, i < n → A i ≠ (ns_tup (ns_nrm g), ns_tup y)) ∧ ans = nI 0 ∧ zz_off ms_K S S1 ∧ (∀ j, j ≠ 19 → S1.1 0 j = S.1 0 j) ∧ mk_st S1 (va_up A n (ns_tup (ns_nrm g), ns_tup y)) (n + 1))) (zz_P (mg_G q)) (zz_A (mg_G q))) ([.ref (zz_ad (mg_G q) 0)] : List Value).toArray s_ 0 0 (zz_A (mg_G q))) (F0 m_ 7 ls []) := fun i H locs ls hi hno hZ hl => L7_ _ i H locs ls hi hno hZ hl rfl
  refine lv_aload_n hx_ hb_ d_Model_known_0 rfl (lv_at hl 0 rfl) ?_
  refine zz_clg (zz_rV (As := []) (rest := []) hC hK hZ 0 (c_Model_lowest l q S g hg hgb) k_Model_lowest (Nat.le_of_ble_eq_true rfl) (mc_0 q _ _) rfl wd_656 ⟨rfl, rfl, by decide, by decide⟩ rfl hl.1 rfl (Nat.le_of_ble_eq_true rfl) d_Model_known_1 ⟨Nat.zero_le _, Nat.zero_le _⟩) hZ (fun r1 S1 H locs hp1 hZ => ?_)
  obtain ⟨rfl, rfl⟩ := hp1
  rw [xl_lo4 hgb]
  refine lv_lstore_n (i := 1) (lv' := [(1, .long (lN (ns_low g))), (0, .ref (zz_ad (mg_G q) 0))]) hx_ hb_ d_Model_known_4 rfl hl (by decide) rfl (fun ls hl => ?_)
  refine lv_iconst (v := nI 0) hx_ hb_ d_Model_known_5 (by decide) ?_
  refine lv_istore_n (i := 3) (lv' := [(3, .int (nI 0)), (1, .long (lN (ns_low g))), (0, .ref (zz_ad (mg_G q) 0))]) hx_ hb_ d_Model_known_6 rfl hl (by decide) rfl (fun ls hl => ?_)
  exact L7 0  _ _ _ (Nat.zero_le _) (fun j hj => absurd hj (Nat.not_lt_zero j)) hZ (lv_sub hl [2, 1, 0] rfl)
