/-! The search for states. Laid by wip/whole/prog/p6.py. -/
set_option maxHeartbeats 4000000 in
set_option maxRecDepth 100000 in
theorem c_Table_look (l : Launch) (q : xg_T) (S : zz_S) (o jl jr n : Nat) (A : Nat → ns_St) (a b : ns_St) (ho8 : o < 8) (hjl : jl < 42 + n) (hjr : jr < 42 + n) (rl : mx_R) (R : Nat) (sz : Nat → Nat) (nb : Nat → Nat → Nat) (hB : xb_ok S rl R sz nb) (hT : xt_ok S A n) (hG : xt_gd rl R A n) (lf rt : Nat → Nat) (hlf : ∀ k, k < 4 → S.2 (42 + 3 * jl + 1) k = vw_c (lf k)) (hrt : ∀ k, k < 4 → S.2 (42 + 3 * jr + 1) k = vw_c (rt k)) (hz0 : zz_kd o = 0 → ∀ k, k < 4 → lf k = 0) (hz1 : zz_kd o < 2 → ∀ k, k < 4 → rt k = 0) (hla : 0 < zz_kd o → ∀ k, k < 4 → lf k = ns_at a.1 k) (hrb : 1 < zz_kd o → ∀ k, k < 4 → rt k = ns_at b.1 k) (hab : o < 3 ∨ (3 ≤ o ∧ o < 8 ∧ ∃ x y, x < n ∧ y < n ∧ a = A x ∧ b = A y)) (hlM : ∀ k, k < 4 → lf k < mx_far → lf k + 36 ≤ 36 * 2 ^ n) (hrM : ∀ k, k < 4 → rt k < mx_far → rt k + 36 ≤ 36 * 2 ^ n) : Met l y_Table_look (Cond.code y_Table_look b_Table_look 7 none :: zz_tbl) rm_Table_look (zz_Pc [.ref (zz_ad (xg_G q) 25), .ref (zz_ad (xg_G q) 1), .int (nI o), .ref (zz_ad (xg_G q) (42 + 3 * jl)), .ref (zz_ad (xg_G q) (42 + 3 * jr))] (xg_G q) S) (va_Qv (fun S1 => zz_off xt_X S S1 ∧ S1.1 25 3 = S.1 25 3 ∧ ∃ (A1 : Nat → ns_St) (n1 : Nat), xt_ex A n A1 n1 ∧ xt_ok S1 A1 n1 ∧ xt_gd rl R A1 n1 ∧ (n1 < 41 → ∀ c, ns_nx rl R o a b c → ∃ i, i < n1 ∧ A1 i = c)) (zz_P (xg_G q)) (zz_A (xg_G q))) 0 0 (zz_A (xg_G q)) := by
  refine zz_met (by decide) (Nat.le_of_ble_eq_true rfl) ?_
  intro p_ e_ s_ m_ bl_ mt_ c_ ls hC hK hZ hl
  have hC : zz_C p_ s_ m_ _ mt_ c_ b_Table_look 7 none "TreeCoverForge$StateTable" := hC
  have hx_ := hC.1
  have hb_ := hC.2.1
  have hl : lv_has ls 7 [(0, .ref (zz_ad (xg_G q) 25)), (1, .ref (zz_ad (xg_G q) 1)), (2, .int (nI o)), (3, .ref (zz_ad (xg_G q) (42 + 3 * jl))), (4, .ref (zz_ad (xg_G q) (42 + 3 * jr)))] := hl
  have hn41 := hT.2.1
  have hok := hB.2.2.1
  have L39_ : ∀ (n_ : Nat) (i : Nat) (Sw : zz_S) (gy : (Nat → Nat) × (Nat → Nat)) (H : Heap) (locs : List Loc) (ls : Array Slot) (hn40 : n ≤ 40) (hi : i ≤ n) (ho : zz_off (xl_X (42 + n)) S Sw) (hx : xl_ok Sw (42 + n) (ns_nrm gy.1) gy.2) (hLab : mx_Lab rl R o lf rt gy.1 gy.2) (hne : ∀ i2, i2 < i → A i2 ≠ (ns_tup (ns_nrm gy.1), ns_tup gy.2)) (hZ : zz_Z (xg_G q) Sw s_.heap H locs) (hl : lv_has ls 7 [(0, .ref (zz_ad (xg_G q) 25)), (1, .ref (zz_ad (xg_G q) 1)), (2, .int (nI o)), (3, .ref (zz_ad (xg_G q) (42 + 3 * jl))), (4, .ref (zz_ad (xg_G q) (42 + 3 * jr))), (5, .ref (zz_ad (xg_G q) (42 + 3 * (42 + n)))), (6, .int (nI i))]) (hn_ : n - i = n_), W p_ l e_ rm_Table_look s_ m_ ([.ref (zz_ad (xg_G q) 25), .ref (zz_ad (xg_G q) 1), .int (nI o), .ref (zz_ad (xg_G q) (42 + 3 * jl)), .ref (zz_ad (xg_G q) (42 + 3 * jr))] : List Value).toArray bl_ mt_ c_ H locs 0 0 (MQ bl_ (va_Qv (fun S1 => zz_off xt_X S S1 ∧ S1.1 25 3 = S.1 25 3 ∧ ∃ (A1 : Nat → ns_St) (n1 : Nat), xt_ex A n A1 n1 ∧ xt_ok S1 A1 n1 ∧ xt_gd rl R A1 n1 ∧ (n1 < 41 → ∀ c, ns_nx rl R o a b c → ∃ i, i < n1 ∧ A1 i = c)) (zz_P (xg_G q)) (zz_A (xg_G q))) ([.ref (zz_ad (xg_G q) 25), .ref (zz_ad (xg_G q) 1), .int (nI o), .ref (zz_ad (xg_G q) (42 + 3 * jl)), .ref (zz_ad (xg_G q) (42 + 3 * jr))] : List Value).toArray s_ 0 0 (zz_A (xg_G q))) (F0 m_ 39 ls []) := by
    intro n_
    induction n_ using Nat.strongRecOn with
    | ind n_ ih_ =>
      intro i Sw gy H locs ls hn40 hi ho hx hLab hne hZ hl hn_
      have hfc : Sw.1 25 2 = nI n := (xt_fc ho (by omega)).trans hT.1
      have hfd : Sw.1 25 3 = S.1 25 3 := xt_fc ho (by omega)
      have hLb := sk_lab hok hla hrb hLab
      have hpw := xt_pow hn40
      refine lv_iload hx_ hb_ d_Table_look_39 (lv_at hl 6 rfl) ?_
      refine lv_aload_n hx_ hb_ d_Table_look_41 rfl (lv_at hl 0 rfl) ?_
      refine zz_get hC hK hZ 25 2 (Nat.le_of_ble_eq_true rfl) (xc_25 q _ _) rfl hin_Table (by decide) wd_163 rfl rfl d_Table_look_42 ?_
      refine zz_topi (y := nI n) hfc ?_
      refine zz_jge (tgt := 70) hC d_Table_look_45 (by decide) (by omega) (by omega) (fun h45 => ?_) (fun h45 => ?_)
      · refine lv_aload_n hx_ hb_ d_Table_look_70 rfl (lv_at hl 0 rfl) ?_
        refine lv_dup hx_ hb_ d_Table_look_71 rfl ?_
        refine zz_get hC hK hZ 25 2 (Nat.le_of_ble_eq_true rfl) (xc_25 q _ _) rfl hin_Table (by decide) wd_163 rfl rfl d_Table_look_72 ?_
        refine zz_topi (y := nI n) hfc ?_
        refine lv_iconst (v := nI 1) hx_ hb_ d_Table_look_75 (by decide) ?_
        refine lv_iadd hx_ hb_ d_Table_look_76 ?_
        refine zz_topi (y := nI (n + 1)) (nI_add _ _) ?_
        refine zz_put hC hK hZ 25 2 (Nat.le_of_ble_eq_true rfl) (xc_25 q _ _) rfl hin_Table t_Table t_Table_ok n_Table (by decide) wd_163 rfl rfl rfl (Nat.le_of_ble_eq_true rfl) rfl d_Table_look_77 (fun H locs hZ => ?_)
        exact zz_vret hC hK hZ rfl d_Table_look_80 ⟨zz_off_tr (xt_offX ho) (fun d hd => ⟨zz_u1 Sw 25 2 _ d (fun h => hd (Or.inl h)), rfl⟩), hfd, va_up A n (ns_tup (ns_nrm gy.1), ns_tup gy.2), n + 1, xt_exN, xt_new hT hn40 ho hx, xt_gd_new hok hB.2.1 hG hLb (fun k hk hf => by
            have := ns_bound hok hLab.1 (M := 36 * 2 ^ n - 36) (fun k hk hf => by have := hlM k hk hf; omega) (fun k hk hf => by have := hrM k hk hf; omega) k hk hf
            have h2 : 1 ≤ 2 ^ n := Nat.one_le_two_pow
            rw [Nat.pow_succ]
            omega) hab (fun i2 h2 => hne i2 (by omega)), fun _ c hc => ⟨n, Nat.lt_succ_self n, by rw [va_up, if_pos rfl]; exact ns_nx_uniq hok ⟨gy.1, gy.2, hLb, rfl⟩ hc⟩⟩
      · refine lv_aload_n hx_ hb_ d_Table_look_48 rfl (lv_at hl 0 rfl) ?_
        refine zz_get hC hK hZ 25 0 (Nat.le_of_ble_eq_true rfl) (xc_25 q _ _) rfl hin_Table (by decide) wd_161 rfl rfl d_Table_look_49 ?_
        refine lv_iload hx_ hb_ d_Table_look_52 (lv_at hl 6 rfl) ?_
        refine zz_aald (q := (42 + 3 * (42 + i))) hC hK hZ 26 2 i (Nat.le_of_ble_eq_true rfl) (xc_26 q _ _) rfl rfl rfl (by omega) (by decide) rfl d_Table_look_54 ?_
        refine lv_aload hx_ hb_ d_Table_look_55 (lv_at hl 5 rfl) ?_
        refine zz_ci (zz_rV (As := [.ref (zz_ad (xg_G q) (42 + 3 * (42 + n)))]) (rest := []) hC hK hZ (42 + 3 * (42 + i)) (c_Label_agreesWith l q Sw (42 + i) (42 + n) (ns_at (A i).1) (ns_at (A i).2) (ns_nrm gy.1) gy.2 (by omega) (by omega) (xt_old hT ho i (by omega)) hx (fun k hk => ⟨(hG.2.2 i (by omega) k hk).1, by rw [ns_nrm]; have := hLab.1.1 k hk; split <;> omega, (hG.2.2 i (by omega) k hk).2.2, sk_q24 hLab hB.2.1 k hk⟩)) k_Label_agreesWith (by show _ < 291; omega) (xy_lab q (42 + i) _ _) rfl wd_323 ⟨rfl, rfl, by decide, by decide⟩ rfl hl.1 rfl (Nat.le_of_ble_eq_true rfl) d_Table_look_57 ⟨Nat.zero_le _, Nat.zero_le _⟩) hZ (fun r57 S57 H locs hp57 hZ => ?_)
        obtain ⟨rfl, rfl⟩ := hp57
        refine zz_beq (tgt := 64) hC d_Table_look_60 (by decide) (fun h60 => ?_) (fun h60 => ?_)
        · refine lv_iinc (k := 6) (v := nI (i + 1)) (lv' := [(6, .int (nI (i + 1))), (0, .ref (zz_ad (xg_G q) 25)), (1, .ref (zz_ad (xg_G q) 1)), (2, .int (nI o)), (3, .ref (zz_ad (xg_G q) (42 + 3 * jl))), (4, .ref (zz_ad (xg_G q) (42 + 3 * jr))), (5, .ref (zz_ad (xg_G q) (42 + 3 * (42 + n))))]) hx_ hb_ d_Table_look_64 hl rfl (nI_add _ 1) (by decide) rfl (fun ls hl => ?_)
          refine lv_goto (tgt := 39) hx_ hb_ d_Table_look_67 (by decide) ?_
          exact ih_ _ (by omega) (i + 1) Sw _  _ _ _ hn40 (by omega) ho hx hLab (fun i2 h2 => by
            by_cases e : i2 = i
            · subst e
              intro e0
              exact h60 ⟨by rw [ns_tup_at, e0], by rw [ns_tup_at, e0]⟩
            · exact hne i2 (by omega)) hZ (lv_sub hl [1, 2, 3, 4, 5, 6, 0] rfl) rfl
        · exact zz_vret hC hK hZ rfl d_Table_look_63 ⟨xt_offX ho, hfd, A, n, xt_ex_rf, ⟨hfc, hn41, xt_old hT ho⟩, hG, fun _ c hc => ⟨i, by omega, (Prod.ext h60.1 h60.2 : A i = (ns_tup (ns_nrm gy.1), ns_tup gy.2)).trans (ns_nx_uniq hok ⟨gy.1, gy.2, hLb, rfl⟩ hc)⟩⟩
  have L39 : ∀ (i : Nat) (Sw : zz_S) (gy : (Nat → Nat) × (Nat → Nat)) (H : Heap) (locs : List Loc) (ls : Array Slot) (hn40 : n ≤ 40) (hi : i ≤ n) (ho : zz_off (xl_X (42 + n)) S Sw) (hx : xl_ok Sw (42 + n) (ns_nrm gy.1) gy.2) (hLab : mx_Lab rl R o lf rt gy.1 gy.2) (hne : ∀ i2, i2 < i → A i2 ≠ (ns_tup (ns_nrm gy.1), ns_tup gy.2)) (hZ : zz_Z (xg_G q) Sw s_.heap H locs) (hl : lv_has ls 7 [(0, .ref (zz_ad (xg_G q) 25)), (1, .ref (zz_ad (xg_G q) 1)), (2, .int (nI o)), (3, .ref (zz_ad (xg_G q) (42 + 3 * jl))), (4, .ref (zz_ad (xg_G q) (42 + 3 * jr))), (5, .ref (zz_ad (xg_G q) (42 + 3 * (42 + n)))), (6, .int (nI i))]), W p_ l e_ rm_Table_look s_ m_ ([.ref (zz_ad (xg_G q) 25), .ref (zz_ad (xg_G q) 1), .int (nI o), .ref (zz_ad (xg_G q) (42 + 3 * jl)), .ref (zz_ad (xg_G q) (42 + 3 * jr))] : List Value).toArray bl_ mt_ c_ H locs 0 0 (MQ bl_ (va_Qv (fun S1 => zz_off xt_X S S1 ∧ S1.1 25 3 = S.1 25 3 ∧ ∃ (A1 : Nat → ns_St) (n1 : Nat), xt_ex A n A1 n1 ∧ xt_ok S1 A1 n1 ∧ xt_gd rl R A1 n1 ∧ (n1 < 41 → ∀ c, ns_nx rl R o a b c → ∃ i, i < n1 ∧ A1 i = c)) (zz_P (xg_G q)) (zz_A (xg_G q))) ([.ref (zz_ad (xg_G q) 25), .ref (zz_ad (xg_G q) 1), .int (nI o), .ref (zz_ad (xg_G q) (42 + 3 * jl)), .ref (zz_ad (xg_G q) (42 + 3 * jr))] : List Value).toArray s_ 0 0 (zz_A (xg_G q))) (F0 m_ 39 ls []) := fun i Sw gy H locs ls hn40 hi ho hx hLab hne hZ hl => L39_ _ i Sw gy H locs ls hn40 hi ho hx hLab hne hZ hl rfl
  refine lv_aload_n hx_ hb_ d_Table_look_0 rfl (lv_at hl 0 rfl) ?_
  refine zz_get hC hK hZ 25 2 (Nat.le_of_ble_eq_true rfl) (xc_25 q _ _) rfl hin_Table (by decide) wd_163 rfl rfl d_Table_look_1 ?_
  refine zz_topi (y := nI n) hT.1 ?_
  refine lv_bipush (v := nI 40) hx_ hb_ d_Table_look_4 (by decide) ?_
  refine zz_jle (tgt := 10) hC d_Table_look_6 (by decide) (by omega) (by omega) (fun h6 => ?_) (fun h6 => ?_)
  · have hpw := xt_pow h6
    refine lv_aload_n hx_ hb_ d_Table_look_10 rfl (lv_at hl 0 rfl) ?_
    refine zz_get hC hK hZ 25 0 (Nat.le_of_ble_eq_true rfl) (xc_25 q _ _) rfl hin_Table (by decide) wd_161 rfl rfl d_Table_look_11 ?_
    refine lv_aload_n hx_ hb_ d_Table_look_14 rfl (lv_at hl 0 rfl) ?_
    refine zz_get hC hK hZ 25 2 (Nat.le_of_ble_eq_true rfl) (xc_25 q _ _) rfl hin_Table (by decide) wd_163 rfl rfl d_Table_look_15 ?_
    refine zz_topi (y := nI n) hT.1 ?_
    refine zz_aald (q := (42 + 3 * (42 + n))) hC hK hZ 26 2 n (Nat.le_of_ble_eq_true rfl) (xc_26 q _ _) rfl rfl rfl (by omega) (by decide) rfl d_Table_look_18 ?_
    refine lv_astore (i := 5) (lv' := [(5, .ref (zz_ad (xg_G q) (42 + 3 * (42 + n)))), (0, .ref (zz_ad (xg_G q) 25)), (1, .ref (zz_ad (xg_G q) 1)), (2, .int (nI o)), (3, .ref (zz_ad (xg_G q) (42 + 3 * jl))), (4, .ref (zz_ad (xg_G q) (42 + 3 * jr)))]) hx_ hb_ d_Table_look_19 hl (by decide) rfl (fun ls hl => ?_)
    refine lv_aload hx_ hb_ d_Table_look_21 (lv_at hl 0 rfl) ?_
    refine lv_aload_n hx_ hb_ d_Table_look_23 rfl (lv_at hl 2 rfl) ?_
    refine lv_iload_n hx_ hb_ d_Table_look_24 rfl (lv_at hl 3 rfl) ?_
    refine lv_aload_n hx_ hb_ d_Table_look_25 rfl (lv_at hl 4 rfl) ?_
    refine lv_aload hx_ hb_ d_Table_look_26 (lv_at hl 5 rfl) ?_
    refine zz_cv (zz_rV (As := [.ref (zz_ad (xg_G q) 1), .int (nI o), .ref (zz_ad (xg_G q) (42 + 3 * jl)), .ref (zz_ad (xg_G q) (42 + 3 * jr))]) (rest := []) hC hK hZ (42 + 3 * (42 + n)) (c_Label_derive l q S (42 + n) o jl jr (by omega) ho8 (by omega) (by omega) (by omega) (by omega) rl R sz nb hB lf rt (36 * 2 ^ n - 36) (by omega) (fun k hk hf => by have := hlM k hk hf; omega) (fun k hk hf => by have := hrM k hk hf; omega) hlf hrt hz0 hz1) k_Label_derive (by show _ < 291; omega) (xy_lab q (42 + n) _ _) rfl wd_294 ⟨rfl, rfl, by decide, by decide⟩ rfl hl.1 rfl (Nat.le_of_ble_eq_true rfl) d_Table_look_28 ⟨Nat.zero_le _, Nat.zero_le _⟩) hZ (fun S28 H locs hp28 hZ => ?_)
    have hLab := mp_cls (lf := lf) (rt := rt) hok ho8
    refine lv_aload hx_ hb_ d_Table_look_31 (lv_at hl 0 rfl) ?_
    refine zz_cv (zz_rV (As := []) (rest := []) hC hK hZ (42 + 3 * (42 + n)) (c_Label_makeRelative l q S28 (42 + n) (mp_C rl R o lf rt 3).1 (by omega) (fun k hk => ⟨(hp28.2 k hk).1, hLab.1.1 k hk⟩)) k_Label_makeRelative (by show _ < 291; omega) (xy_lab q (42 + n) _ _) rfl wd_315 ⟨rfl, rfl, by decide, by decide⟩ rfl hl.1 rfl (Nat.le_of_ble_eq_true rfl) d_Table_look_33 ⟨Nat.zero_le _, Nat.zero_le _⟩) hZ (fun S33 H locs hp33 hZ => ?_)
    refine lv_iconst (v := nI 0) hx_ hb_ d_Table_look_36 (by decide) ?_
    refine lv_istore (i := 6) (lv' := [(6, .int (nI 0)), (5, .ref (zz_ad (xg_G q) (42 + 3 * (42 + n)))), (0, .ref (zz_ad (xg_G q) 25)), (1, .ref (zz_ad (xg_G q) 1)), (2, .int (nI o)), (3, .ref (zz_ad (xg_G q) (42 + 3 * jl))), (4, .ref (zz_ad (xg_G q) (42 + 3 * jr)))]) hx_ hb_ d_Table_look_37 hl (by decide) rfl (fun ls hl => ?_)
    exact L39 0 S33 _  _ _ _ (by omega) (Nat.zero_le _) (zz_off_tr hp28.1 (zz_off_mono hp33.1 (fun c h => Or.inl h))) (fun k hk => ⟨hp33.2 k hk, by rw [(hp33.1 (42 + 3 * (42 + n) + 2) (by omega)).1]; exact (hp28.2 k hk).2⟩) hLab (fun i2 h2 => absurd h2 (Nat.not_lt_zero i2)) hZ (lv_sub hl [2, 3, 4, 5, 6, 1, 0] rfl)
  · exact zz_vret hC hK hZ rfl d_Table_look_9 ⟨zz_off_rf, rfl, A, n, xt_ex_rf, hT, hG, fun h => absurd h (by omega)⟩
