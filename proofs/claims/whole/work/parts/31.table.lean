/-! The search for states. Laid by wip/whole/prog/p6.py. -/
set_option maxHeartbeats 4000000 in
set_option maxRecDepth 100000 in
theorem c_Table_look (l : Launch) (q : xg_T) (S : zz_S) (o jl jr n : Nat) (A : Nat → ns_St) (a b : ns_St) (ho8 : o < 8) (hjl : jl < 42 + n) (hjr : jr < 42 + n) (rl : mx_R) (R : Nat) (sz : Nat → Nat) (nb : Nat → Nat → Nat) (hB : xb_ok S rl R sz nb) (hT : xt_ok S A n) (hG : xt_gd rl R A n) (lf rt : Nat → Nat) (hlf : ∀ k, k < 4 → S.2 (42 + 3 * jl + 1) k = vw_c (lf k)) (hrt : ∀ k, k < 4 → S.2 (42 + 3 * jr + 1) k = vw_c (rt k)) (hz0 : zz_kd o = 0 → ∀ k, k < 4 → lf k = 0) (hz1 : zz_kd o < 2 → ∀ k, k < 4 → rt k = 0) (hla : 0 < zz_kd o → ∀ k, k < 4 → lf k = ns_at a.1 k) (hrb : 1 < zz_kd o → ∀ k, k < 4 → rt k = ns_at b.1 k) (hab : o < 3 ∨ (3 ≤ o ∧ o < 8 ∧ ∃ x y, x < n ∧ y < n ∧ a = A x ∧ b = A y)) (hlM : ∀ k, k < 4 → lf k < mx_far → lf k + 36 ≤ 36 * 2 ^ n) (hrM : ∀ k, k < 4 → rt k < mx_far → rt k + 36 ≤ 36 * 2 ^ n) : Met l y_Table_look (Cond.code y_Table_look b_Table_look 7 none :: zz_tbl) rm_Table_look (zz_Pc [.ref (zz_ad (xg_G q) 25), .ref (zz_ad (xg_G q) 1), .int (nI o), .ref (zz_ad (xg_G q) (42 + 3 * jl)), .ref (zz_ad (xg_G q) (42 + 3 * jr))] (xg_G q) S) (va_Qv (fun S1 => zz_off xt_X S S1 ∧ S1.1 25 3 = S.1 25 3 ∧ ∃ (A1 : Nat → ns_St) (n1 : Nat), xt_ex A n A1 n1 ∧ xt_ok S1 A1 n1 ∧ xt_gd rl R A1 n1 ∧ (n1 < 41 → ∀ c, ns_nx rl R o a b c → ∃ i, i < n1 ∧ A1 i = c)) (zz_P (xg_G q)) (zz_A (xg_G q))) 0 0 (zz_A (xg_G q)) := by
  refine zz_met (by decide) (Nat.le_of_ble_eq_true rfl) ?_
  intro p_ e_ s_ m_ bl_ mt_ c_ ls hC hK hZ hl
  have hC : zz_C p_ s_ m_ _ mt_ c_ b_Table_look 7 none "TreeCoverForge$StateTable" := hC
  have hx_ := hC.1
  have hb_ := hC.2.1
  have hl : lv_has ls 7 [(0, .ref (zz_ad (xg_G q) 25)), (1, .ref (zz_ad (xg_G q) 1)), (2, .int (nI o)), (3, .ref (zz_ad (xg_G q) (42 + 3 * jl))), (4, .ref (zz_ad (xg_G q) (42 + 3 * jr)))] := hl
  have hn41 := hT.2.1
  have hok := hB.2.2.1
  have L39_ : ∀ (n_ : Nat) (i : Nat) (Sw : zz_S) (gy : (Nat → Nat) × (Nat → Nat)) (H : Heap) (locs : List Loc) (ls : Array Slot) (hn40 : n ≤ 40) (hi : i ≤ n) (ho : zz_off (xl_X (42 + n)) S Sw) (hx : xl_ok Sw (42 + n) (ns_nrm gy.1) gy.2) (hLab : mx_Lab rl R o lf rt gy.1 gy.2) (hne : ∀ i2, i2 < i → A i2 ≠ (ns_tup (ns_nrm gy.1), ns_tup gy.2)) (hZ : zz_Z (xg_G q) Sw s_.heap H locs) (hl : lv_has ls 7 [(0, .ref (zz_ad (xg_G q) 25)), (1, .ref (zz_ad (xg_G q) 1)), (2, .int (nI o)), (3, .ref (zz_ad (xg_G q) (42 + 3 * jl))), (4, .ref (zz_ad (xg_G q) (42 + 3 * jr))), (5, .ref (zz_ad (xg_G q) (42 + 3 * (42 + n)))), (6, .int (nI i))]) (hn_ : n - i = n_), W p_ l e_ rm_Table_look s_ m_ ([.ref (zz_ad (xg_G q) 25), .ref (zz_ad (xg_G q) 1), .int (nI o), .ref (zz_ad (xg_G q) (42 + 3 * jl)), .ref (zz_ad (xg_G q) (42 + 3 * jr))] : List Value).toArray bl_ mt_ c_ H locs 0 0 (MQ bl_ (va_Qv (fun S1 => zz_off xt_X S S1 ∧ S1.1 25 3 = S.1 25 3 ∧ ∃ (A1 : Nat → ns_St) (n1 : Nat), xt_ex A n A1 n1 ∧ xt_ok S1 A1 n1 ∧ xt_gd rl R A1 n1 ∧ (n1 < 41 → ∀ c, ns_nx rl R o a b c → ∃ i, i < n1 ∧ A1 i = c)) (zz_P (xg_G q)) (zz_A (xg_G q))) ([.ref (zz_ad (xg_G q) 25), .ref (zz_ad (xg_G q) 1), .int (nI o), .ref (zz_ad (xg_G q) (42 + 3 * jl)), .ref (zz_ad (xg_G q) (42 + 3 * jr))] : List Value).toArray s_ 0 0 (zz_A (xg_G q))) (F0 m_ 39 ls []) := by
    intro n_
    induction n_ using Nat.strongRecOn with
    | ind n_ ih_ =>
      intro i Sw gy H locs ls hn40 hi ho hx hLab hne hZ hl hn_
      have hfc : Sw.1 25 2 = nI n := (xt_fc ho (by omega)).trans hT.1
      have hfd : Sw.1 25 3 = S.1 25 3 := xt_fc ho (by omega)
      have hLb := sk_lab hok hla hrb hLab
      have hpw := xt_pow hn40
      refine lv_iload hx_ hb_ d_Table_look_39 (lv_at hl 6 rfl) ?_
      refine lv_aload_n hx_ hb_ d_Table_look_41 rfl (lv_at hl 0 rfl) ?_
      refine zz_get hC hK hZ 25 2 (Nat.le_of_ble_eq_true rfl) (xc_25 q _ _) rfl hin_Table (by decide) wd_163 rfl rfl d_Table_look_42 ?_
      refine zz_topi (y := nI n) hfc ?_
      refine zz_jge (tgt := 70) hC d_Table_look_45 (by decide) (by omega) (by omega) (fun h45 => ?_) (fun h45 => ?_)
      · refine lv_aload_n hx_ hb_ d_Table_look_70 rfl (lv_at hl 0 rfl) ?_
        refine lv_dup hx_ hb_ d_Table_look_71 rfl ?_
        refine zz_get hC hK hZ 25 2 (Nat.le_of_ble_eq_true rfl) (xc_25 q _ _) rfl hin_Table (by decide) wd_163 rfl rfl d_Table_look_72 ?_
        refine zz_topi (y := nI n) hfc ?_
        refine lv_iconst (v := nI 1) hx_ hb_ d_Table_look_75 (by decide) ?_
        refine lv_iadd hx_ hb_ d_Table_look_76 ?_
        refine zz_topi (y := nI (n + 1)) (nI_add _ _) ?_
        refine zz_put hC hK hZ 25 2 (Nat.le_of_ble_eq_true rfl) (xc_25 q _ _) rfl hin_Table t_Table t_Table_ok n_Table (by decide) wd_163 rfl rfl rfl (Nat.le_of_ble_eq_true rfl) rfl d_Table_look_77 (fun H locs hZ => ?_)
        exact zz_vret hC hK hZ rfl d_Table_look_80 ⟨zz_off_tr (xt_offX ho) (fun d hd => ⟨zz_u1 Sw 25 2 _ d (fun h => hd (Or.inl h)), rfl⟩), hfd, va_up A n (ns_tup (ns_nrm gy.1), ns_tup gy.2), n + 1, xt_exN, xt_new hT hn40 ho hx, xt_gd_new hok hB.2.1 hG hLb (fun k hk hf => by
            have := ns_bound hok hLab.1 (M := 36 * 2 ^ n - 36) (fun k hk hf => by have := hlM k hk hf; omega) (fun k hk hf => by have := hrM k hk hf; omega) k hk hf
            have h2 : 1 ≤ 2 ^ n := Nat.one_le_two_pow
            rw [Nat.pow_succ]
            omega) hab (fun i2 h2 => hne i2 (by omega)), fun _ c hc => ⟨n, Nat.lt_succ_self n, by rw [va_up, if_pos rfl]; exact ns_nx_uniq hok ⟨gy.1, gy.2, hLb, rfl⟩ hc⟩⟩
      · refine lv_aload_n hx_ hb_ d_Table_look_48 rfl (lv_at hl 0 rfl) ?_
        refine zz_get hC hK hZ 25 0 (Nat.le_of_ble_eq_true rfl) (xc_25 q _ _) rfl hin_Table (by decide) wd_161 rfl rfl d_Table_look_49 ?_
        refine lv_iload hx_ hb_ d_Table_look_52 (lv_at hl 6 rfl) ?_
        refine zz_aald (q := (42 + 3 * (42 + i))) hC hK hZ 26 2 i (Nat.le_of_ble_eq_true rfl) (xc_26 q _ _) rfl rfl rfl (by omega) (by decide) rfl d_Table_look_54 ?_
        refine lv_aload hx_ hb_ d_Table_look_55 (lv_at hl 5 rfl) ?_
        refine zz_ci (zz_rV (As := [.ref (zz_ad (xg_G q) (42 + 3 * (42 + n)))]) (rest := []) hC hK hZ (42 + 3 * (42 + i)) (c_Label_agreesWith l q Sw (42 + i) (42 + n) (ns_at (A i).1) (ns_at (A i).2) (ns_nrm gy.1) gy.2 (by omega) (by omega) (xt_old hT ho i (by omega)) hx (fun k hk => ⟨(hG.2.2 i (by omega) k hk).1, by rw [ns_nrm]; have := hLab.1.1 k hk; split <;> omega, (hG.2.2 i (by omega) k hk).2.2, sk_q24 hLab hB.2.1 k hk⟩)) k_Label_agreesWith (by show _ < 291; omega) (xy_lab q (42 + i) _ _) rfl wd_323 ⟨rfl, rfl, by decide, by decide⟩ rfl hl.1 rfl (Nat.le_of_ble_eq_true rfl) d_Table_look_57 ⟨Nat.zero_le _, Nat.zero_le _⟩) hZ (fun r57 S57 H locs hp57 hZ => ?_)
        obtain ⟨rfl, rfl⟩ := hp57
        refine zz_beq (tgt := 64) hC d_Table_look_60 (by decide) (fun h60 => ?_) (fun h60 => ?_)
        · refine lv_iinc (k := 6) (v := nI (i + 1)) (lv' := [(6, .int (nI (i + 1))), (0, .ref (zz_ad (xg_G q) 25)), (1, .ref (zz_ad (xg_G q) 1)), (2, .int (nI o)), (3, .ref (zz_ad (xg_G q) (42 + 3 * jl))), (4, .ref (zz_ad (xg_G q) (42 + 3 * jr))), (5, .ref (zz_ad (xg_G q) (42 + 3 * (42 + n))))]) hx_ hb_ d_Table_look_64 hl rfl (nI_add _ 1) (by decide) rfl (fun ls hl => ?_)
          refine lv_goto (tgt := 39) hx_ hb_ d_Table_look_67 (by decide) ?_
          exact ih_ _ (by omega) (i + 1) Sw _  _ _ _ hn40 (by omega) ho hx hLab (fun i2 h2 => by
            by_cases e : i2 = i
            · subst e
              intro e0
              exact h60 ⟨by rw [ns_tup_at, e0], by rw [ns_tup_at, e0]⟩
            · exact hne i2 (by omega)) hZ (lv_sub hl [1, 2, 3, 4, 5, 6, 0] rfl) rfl
        · exact zz_vret hC hK hZ rfl d_Table_look_63 ⟨xt_offX ho, hfd, A, n, xt_ex_rf, ⟨hfc, hn41, xt_old hT ho⟩, hG, fun _ c hc => ⟨i, by omega, (Prod.ext h60.1 h60.2 : A i = (ns_tup (ns_nrm gy.1), ns_tup gy.2)).trans (ns_nx_uniq hok ⟨gy.1, gy.2, hLb, rfl⟩ hc)⟩⟩
  have L39 : ∀ (i : Nat) (Sw : zz_S) (gy : (Nat → Nat) × (Nat → Nat)) (H : Heap) (locs : List Loc) (ls : Array Slot) (hn40 : n ≤ 40) (hi : i ≤ n) (ho : zz_off (xl_X (42 + n)) S Sw) (hx : xl_ok Sw (42 + n) (ns_nrm gy.1) gy.2) (hLab : mx_Lab rl R o lf rt gy.1 gy.2) (hne : ∀ i2, i2 < i → A i2 ≠ (ns_tup (ns_nrm gy.1), ns_tup gy.2)) (hZ : zz_Z (xg_G q) Sw s_.heap H locs) (hl : lv_has ls 7 [(0, .ref (zz_ad (xg_G q) 25)), (1, .ref (zz_ad (xg_G q) 1)), (2, .int (nI o)), (3, .ref (zz_ad (xg_G q) (42 + 3 * jl))), (4, .ref (zz_ad (xg_G q) (42 + 3 * jr))), (5, .ref (zz_ad (xg_G q) (42 + 3 * (42 + n)))), (6, .int (nI i))]), W p_ l e_ rm_Table_look s_ m_ ([.ref (zz_ad (xg_G q) 25), .ref (zz_ad (xg_G q) 1), .int (nI o), .ref (zz_ad (xg_G q) (42 + 3 * jl)), .ref (zz_ad (xg_G q) (42 + 3 * jr))] : List Value).toArray bl_ mt_ c_ H locs 0 0 (MQ bl_ (va_Qv (fun S1 => zz_off xt_X S S1 ∧ S1.1 25 3 = S.1 25 3 ∧ ∃ (A1 : Nat → ns_St) (n1 : Nat), xt_ex A n A1 n1 ∧ xt_ok S1 A1 n1 ∧ xt_gd rl R A1 n1 ∧ (n1 < 41 → ∀ c, ns_nx rl R o a b c → ∃ i, i < n1 ∧ A1 i = c)) (zz_P (xg_G q)) (zz_A (xg_G q))) ([.ref (zz_ad (xg_G q) 25), .ref (zz_ad (xg_G q) 1), .int (nI o), .ref (zz_ad (xg_G q) (42 + 3 * jl)), .ref (zz_ad (xg_G q) (42 + 3 * jr))] : List Value).toArray s_ 0 0 (zz_A (xg_G q))) (F0 m_ 39 ls []) := fun i Sw gy H locs ls hn40 hi ho hx hLab hne hZ hl => L39_ _ i Sw gy H locs ls hn40 hi ho hx hLab hne hZ hl rfl
  refine lv_aload_n hx_ hb_ d_Table_look_0 rfl (lv_at hl 0 rfl) ?_
  refine zz_get hC hK hZ 25 2 (Nat.le_of_ble_eq_true rfl) (xc_25 q _ _) rfl hin_Table (by decide) wd_163 rfl rfl d_Table_look_1 ?_
  refine zz_topi (y := nI n) hT.1 ?_
  refine lv_bipush (v := nI 40) hx_ hb_ d_Table_look_4 (by decide) ?_
  refine zz_jle (tgt := 10) hC d_Table_look_6 (by decide) (by omega) (by omega) (fun h6 => ?_) (fun h6 => ?_)
  · have hpw := xt_pow h6
    refine lv_aload_n hx_ hb_ d_Table_look_10 rfl (lv_at hl 0 rfl) ?_
    refine zz_get hC hK hZ 25 0 (Nat.le_of_ble_eq_true rfl) (xc_25 q _ _) rfl hin_Table (by decide) wd_161 rfl rfl d_Table_look_11 ?_
    refine lv_aload_n hx_ hb_ d_Table_look_14 rfl (lv_at hl 0 rfl) ?_
    refine zz_get hC hK hZ 25 2 (Nat.le_of_ble_eq_true rfl) (xc_25 q _ _) rfl hin_Table (by decide) wd_163 rfl rfl d_Table_look_15 ?_
    refine zz_topi (y := nI n) hT.1 ?_
    refine zz_aald (q := (42 + 3 * (42 + n))) hC hK hZ 26 2 n (Nat.le_of_ble_eq_true rfl) (xc_26 q _ _) rfl rfl rfl (by omega) (by decide) rfl d_Table_look_18 ?_
    refine lv_astore (i := 5) (lv' := [(5, .ref (zz_ad (xg_G q) (42 + 3 * (42 + n)))), (0, .ref (zz_ad (xg_G q) 25)), (1, .ref (zz_ad (xg_G q) 1)), (2, .int (nI o)), (3, .ref (zz_ad (xg_G q) (42 + 3 * jl))), (4, .ref (zz_ad (xg_G q) (42 + 3 * jr)))]) hx_ hb_ d_Table_look_19 hl (by decide) rfl (fun ls hl => ?_)
    refine lv_aload hx_ hb_ d_Table_look_21 (lv_at hl 0 rfl) ?_
    refine lv_aload_n hx_ hb_ d_Table_look_23 rfl (lv_at hl 2 rfl) ?_
    refine lv_iload_n hx_ hb_ d_Table_look_24 rfl (lv_at hl 3 rfl) ?_
    refine lv_aload_n hx_ hb_ d_Table_look_25 rfl (lv_at hl 4 rfl) ?_
    refine lv_aload hx_ hb_ d_Table_look_26 (lv_at hl 5 rfl) ?_
    refine zz_cv (zz_rV (As := [.ref (zz_ad (xg_G q) 1), .int (nI o), .ref (zz_ad (xg_G q) (42 + 3 * jl)), .ref (zz_ad (xg_G q) (42 + 3 * jr))]) (rest := []) hC hK hZ (42 + 3 * (42 + n)) (c_Label_derive l q S (42 + n) o jl jr (by omega) ho8 (by omega) (by omega) (by omega) (by omega) rl R sz nb hB lf rt (36 * 2 ^ n - 36) (by omega) (fun k hk hf => by have := hlM k hk hf; omega) (fun k hk hf => by have := hrM k hk hf; omega) hlf hrt hz0 hz1) k_Label_derive (by show _ < 291; omega) (xy_lab q (42 + n) _ _) rfl wd_294 ⟨rfl, rfl, by decide, by decide⟩ rfl hl.1 rfl (Nat.le_of_ble_eq_true rfl) d_Table_look_28 ⟨Nat.zero_le _, Nat.zero_le _⟩) hZ (fun S28 H locs hp28 hZ => ?_)
    have hLab := mp_cls (lf := lf) (rt := rt) hok ho8
    refine lv_aload hx_ hb_ d_Table_look_31 (lv_at hl 0 rfl) ?_
    refine zz_cv (zz_rV (As := []) (rest := []) hC hK hZ (42 + 3 * (42 + n)) (c_Label_makeRelative l q S28 (42 + n) (mp_C rl R o lf rt 3).1 (by omega) (fun k hk => ⟨(hp28.2 k hk).1, hLab.1.1 k hk⟩)) k_Label_makeRelative (by show _ < 291; omega) (xy_lab q (42 + n) _ _) rfl wd_315 ⟨rfl, rfl, by decide, by decide⟩ rfl hl.1 rfl (Nat.le_of_ble_eq_true rfl) d_Table_look_33 ⟨Nat.zero_le _, Nat.zero_le _⟩) hZ (fun S33 H locs hp33 hZ => ?_)
    refine lv_iconst (v := nI 0) hx_ hb_ d_Table_look_36 (by decide) ?_
    refine lv_istore (i := 6) (lv' := [(6, .int (nI 0)), (5, .ref (zz_ad (xg_G q) (42 + 3 * (42 + n)))), (0, .ref (zz_ad (xg_G q) 25)), (1, .ref (zz_ad (xg_G q) 1)), (2, .int (nI o)), (3, .ref (zz_ad (xg_G q) (42 + 3 * jl))), (4, .ref (zz_ad (xg_G q) (42 + 3 * jr)))]) hx_ hb_ d_Table_look_37 hl (by decide) rfl (fun ls hl => ?_)
    exact L39 0 S33 _  _ _ _ (by omega) (Nat.zero_le _) (zz_off_tr hp28.1 (zz_off_mono hp33.1 (fun c h => Or.inl h))) (fun k hk => ⟨hp33.2 k hk, by rw [(hp33.1 (42 + 3 * (42 + n) + 2) (by omega)).1]; exact (hp28.2 k hk).2⟩) hLab (fun i2 h2 => absurd h2 (Nat.not_lt_zero i2)) hZ (lv_sub hl [2, 3, 4, 5, 6, 1, 0] rfl)
  · exact zz_vret hC hK hZ rfl d_Table_look_9 ⟨zz_off_rf, rfl, A, n, xt_ex_rf, hT, hG, fun h => absurd h (by omega)⟩
set_option maxHeartbeats 4000000 in
set_option maxRecDepth 100000 in
theorem c_Table_lookAtPair (l : Launch) (q : xg_T) (S : zz_S) (x y : Nat) (rl : mx_R) (R : Nat) (sz : Nat → Nat) (nb : Nat → Nat → Nat) (hB : xb_ok S rl R sz nb) (n : Nat) (A : Nat → ns_St) (hT : xt_ok S A n) (hG : xt_gd rl R A n) (hyx : y ≤ x) (hxn : x < n) : Met l y_Table_lookAtPair (Cond.code y_Table_lookAtPair b_Table_lookAtPair 5 none :: zz_tbl) rm_Table_lookAtPair (zz_Pc [.ref (zz_ad (xg_G q) 25), .ref (zz_ad (xg_G q) 1), .int (nI x), .int (nI y)] (xg_G q) S) (va_Qv (fun S1 => zz_off xt_X S S1 ∧ S1.1 25 3 = S.1 25 3 ∧ ∃ (A1 : Nat → ns_St) (n1 : Nat), xt_ex A n A1 n1 ∧ xt_ok S1 A1 n1 ∧ xt_gd rl R A1 n1 ∧ (n1 < 41 → ∀ o2, 5 ≤ o2 → o2 < 8 → ∀ c, (ns_nx rl R o2 (A x) (A y) c ∨ ns_nx rl R o2 (A y) (A x) c) → sk_has A1 n1 c)) (zz_P (xg_G q)) (zz_A (xg_G q))) 0 0 (zz_A (xg_G q)) := by
  refine zz_met (by decide) (Nat.le_of_ble_eq_true rfl) ?_
  intro p_ e_ s_ m_ bl_ mt_ c_ ls hC hK hZ hl
  have hC : zz_C p_ s_ m_ _ mt_ c_ b_Table_lookAtPair 5 none "TreeCoverForge$StateTable" := hC
  have hx_ := hC.1
  have hb_ := hC.2.1
  have hl : lv_has ls 5 [(0, .ref (zz_ad (xg_G q) 25)), (1, .ref (zz_ad (xg_G q) 1)), (2, .int (nI x)), (3, .int (nI y))] := hl
  have hn41 := hT.2.1
  have L3_ : ∀ (n_ : Nat) (o : Nat) (So : zz_S) (A0 : Nat → ns_St) (n0 : Nat) (H : Heap) (locs : List Loc) (ls : Array Slot) (ho5 : 5 ≤ o ∧ o ≤ 8) (ho : zz_off xt_X S So) (hf : So.1 25 3 = S.1 25 3) (he : xt_ex A n A0 n0) (hT0 : xt_ok So A0 n0) (hG0 : xt_gd rl R A0 n0) (hcl : n0 < 41 → ∀ o2, 5 ≤ o2 → o2 < o → ∀ c, (ns_nx rl R o2 (A x) (A y) c ∨ ns_nx rl R o2 (A y) (A x) c) → sk_has A0 n0 c) (hZ : zz_Z (xg_G q) So s_.heap H locs) (hl : lv_has ls 5 [(0, .ref (zz_ad (xg_G q) 25)), (1, .ref (zz_ad (xg_G q) 1)), (2, .int (nI x)), (3, .int (nI y)), (4, .int (nI o))]) (hn_ : 8 - o = n_), W p_ l e_ rm_Table_lookAtPair s_ m_ ([.ref (zz_ad (xg_G q) 25), .ref (zz_ad (xg_G q) 1), .int (nI x), .int (nI y)] : List Value).toArray bl_ mt_ c_ H locs 0 0 (MQ bl_ (va_Qv (fun S1 => zz_off xt_X S S1 ∧ S1.1 25 3 = S.1 25 3 ∧ ∃ (A1 : Nat → ns_St) (n1 : Nat), xt_ex A n A1 n1 ∧ xt_ok S1 A1 n1 ∧ xt_gd rl R A1 n1 ∧ (n1 < 41 → ∀ o2, 5 ≤ o2 → o2 < 8 → ∀ c, (ns_nx rl R o2 (A x) (A y) c ∨ ns_nx rl R o2 (A y) (A x) c) → sk_has A1 n1 c)) (zz_P (xg_G q)) (zz_A (xg_G q))) ([.ref (zz_ad (xg_G q) 25), .ref (zz_ad (xg_G q) 1), .int (nI x), .int (nI y)] : List Value).toArray s_ 0 0 (zz_A (xg_G q))) (F0 m_ 3 ls []) := by
    intro n_
    induction n_ using Nat.strongRecOn with
    | ind n_ ih_ =>
      intro o So A0 n0 H locs ls ho5 ho hf he hT0 hG0 hcl hZ hl hn_
      have hn0 := he.1
      have hn1 := hT0.2.1
      have hkd := sk_kd2 ho5.1
      refine lv_iload hx_ hb_ d_Table_lookAtPair_3 (lv_at hl 4 rfl) ?_
      refine lv_bipush (v := nI 7) hx_ hb_ d_Table_lookAtPair_5 (by decide) ?_
      refine zz_jgt (tgt := 59) hC d_Table_lookAtPair_7 (by decide) (by omega) (by omega) (fun h7 => ?_) (fun h7 => ?_)
      · exact zz_vret hC hK hZ rfl d_Table_lookAtPair_59 ⟨ho, hf, A0, n0, he, hT0, hG0, fun hn o2 h5 h8 c hh => hcl hn o2 h5 (by omega) c hh⟩
      · refine lv_aload_n hx_ hb_ d_Table_lookAtPair_10 rfl (lv_at hl 0 rfl) ?_
        refine lv_aload_n hx_ hb_ d_Table_lookAtPair_11 rfl (lv_at hl 1 rfl) ?_
        refine lv_iload hx_ hb_ d_Table_lookAtPair_12 (lv_at hl 4 rfl) ?_
        refine lv_aload_n hx_ hb_ d_Table_lookAtPair_14 rfl (lv_at hl 0 rfl) ?_
        refine zz_get hC hK hZ 25 0 (Nat.le_of_ble_eq_true rfl) (xc_25 q _ _) rfl hin_Table (by decide) wd_161 rfl rfl d_Table_lookAtPair_15 ?_
        refine lv_iload_n hx_ hb_ d_Table_lookAtPair_18 rfl (lv_at hl 2 rfl) ?_
        refine zz_aald (q := (42 + 3 * (42 + x))) hC hK hZ 26 2 x (Nat.le_of_ble_eq_true rfl) (xc_26 q _ _) rfl rfl rfl (by omega) (by decide) rfl d_Table_lookAtPair_19 ?_
        refine lv_aload_n hx_ hb_ d_Table_lookAtPair_20 rfl (lv_at hl 0 rfl) ?_
        refine zz_get hC hK hZ 25 0 (Nat.le_of_ble_eq_true rfl) (xc_25 q _ _) rfl hin_Table (by decide) wd_161 rfl rfl d_Table_lookAtPair_21 ?_
        refine lv_iload_n hx_ hb_ d_Table_lookAtPair_24 rfl (lv_at hl 3 rfl) ?_
        refine zz_aald (q := (42 + 3 * (42 + y))) hC hK hZ 26 2 y (Nat.le_of_ble_eq_true rfl) (xc_26 q _ _) rfl rfl rfl (by omega) (by decide) rfl d_Table_lookAtPair_25 ?_
        refine zz_cv (zz_rV (As := [.ref (zz_ad (xg_G q) 1), .int (nI o), .ref (zz_ad (xg_G q) (42 + 3 * (42 + x))), .ref (zz_ad (xg_G q) (42 + 3 * (42 + y)))]) (rest := []) hC hK hZ 25 (c_Table_look l q So o (42 + x) (42 + y) n0 A0 (A0 x) (A0 y) (by omega) (by omega) (by omega) rl R sz nb (sk_bk hB ho) hT0 hG0 (ns_at (A0 x).1) (ns_at (A0 y).1) (sk_xat hT0 (by omega)) (sk_xat hT0 (by omega)) (fun h => absurd h (by omega)) (fun h => absurd h (by omega)) (fun _ _ _ => rfl) (fun _ _ _ => rfl) (Or.inr ⟨by omega, by omega, x, y, by omega, by omega, rfl, rfl⟩) (sk_gdM hG0 (by omega)) (sk_gdM hG0 (by omega))) k_Table_look (Nat.le_of_ble_eq_true rfl) (xc_25 q _ _) rfl wd_290 ⟨rfl, rfl, by decide, by decide⟩ rfl hl.1 rfl (Nat.le_of_ble_eq_true rfl) d_Table_lookAtPair_26 ⟨Nat.zero_le _, Nat.zero_le _⟩) hZ (fun S26 H locs hp26 hZ => ?_)
        obtain ⟨hoa, hfa, Aa, na, hea, hTa, hGa, hca⟩ := hp26
        have hn2 := hea.1
        have hn3 := hTa.2.1
        refine lv_iload_n hx_ hb_ d_Table_lookAtPair_29 rfl (lv_at hl 2 rfl) ?_
        refine lv_iload_n hx_ hb_ d_Table_lookAtPair_30 rfl (lv_at hl 3 rfl) ?_
        refine zz_jeq (tgt := 53) hC d_Table_lookAtPair_31 (by decide) (by omega) (by omega) (fun h31 => ?_) (fun h31 => ?_)
        · refine lv_iinc (k := 4) (v := nI (o + 1)) (lv' := [(4, .int (nI (o + 1))), (0, .ref (zz_ad (xg_G q) 25)), (1, .ref (zz_ad (xg_G q) 1)), (2, .int (nI x)), (3, .int (nI y))]) hx_ hb_ d_Table_lookAtPair_53 hl rfl (nI_add _ 1) (by decide) rfl (fun ls hl => ?_)
          refine lv_goto (tgt := 3) hx_ hb_ d_Table_lookAtPair_56 (by decide) ?_
          exact ih_ _ (by omega) (o + 1) S26 _ _  _ _ _ (by omega) (zz_off_tr ho hoa) (hfa.trans hf) (xt_ex_tr he hea) hTa hGa (fun hn o2 h5 h6 c hh => by
            have hn0 := hea.1
            by_cases e : o2 = o
            · subst e
              subst h31
              have hh : ns_nx rl R o2 (A x) (A x) c := hh.elim id id
              rw [← he.2 x (by omega)] at hh
              exact hca hn c hh
            · exact sk_has_ex hea (hcl (by omega) o2 h5 (by omega) c hh)) hZ (lv_sub hl [1, 2, 3, 4, 0] rfl) rfl
        · refine lv_aload_n hx_ hb_ d_Table_lookAtPair_34 rfl (lv_at hl 0 rfl) ?_
          refine lv_aload_n hx_ hb_ d_Table_lookAtPair_35 rfl (lv_at hl 1 rfl) ?_
          refine lv_iload hx_ hb_ d_Table_lookAtPair_36 (lv_at hl 4 rfl) ?_
          refine lv_aload_n hx_ hb_ d_Table_lookAtPair_38 rfl (lv_at hl 0 rfl) ?_
          refine zz_get hC hK hZ 25 0 (Nat.le_of_ble_eq_true rfl) (xc_25 q _ _) rfl hin_Table (by decide) wd_161 rfl rfl d_Table_lookAtPair_39 ?_
          refine lv_iload_n hx_ hb_ d_Table_lookAtPair_42 rfl (lv_at hl 3 rfl) ?_
          refine zz_aald (q := (42 + 3 * (42 + y))) hC hK hZ 26 2 y (Nat.le_of_ble_eq_true rfl) (xc_26 q _ _) rfl rfl rfl (by omega) (by decide) rfl d_Table_lookAtPair_43 ?_
          refine lv_aload_n hx_ hb_ d_Table_lookAtPair_44 rfl (lv_at hl 0 rfl) ?_
          refine zz_get hC hK hZ 25 0 (Nat.le_of_ble_eq_true rfl) (xc_25 q _ _) rfl hin_Table (by decide) wd_161 rfl rfl d_Table_lookAtPair_45 ?_
          refine lv_iload_n hx_ hb_ d_Table_lookAtPair_48 rfl (lv_at hl 2 rfl) ?_
          refine zz_aald (q := (42 + 3 * (42 + x))) hC hK hZ 26 2 x (Nat.le_of_ble_eq_true rfl) (xc_26 q _ _) rfl rfl rfl (by omega) (by decide) rfl d_Table_lookAtPair_49 ?_
          refine zz_cv (zz_rV (As := [.ref (zz_ad (xg_G q) 1), .int (nI o), .ref (zz_ad (xg_G q) (42 + 3 * (42 + y))), .ref (zz_ad (xg_G q) (42 + 3 * (42 + x)))]) (rest := []) hC hK hZ 25 (c_Table_look l q S26 o (42 + y) (42 + x) na Aa (Aa y) (Aa x) (by omega) (by omega) (by omega) rl R sz nb (sk_bk hB (zz_off_tr ho hoa)) hTa hGa (ns_at (Aa y).1) (ns_at (Aa x).1) (sk_xat hTa (by omega)) (sk_xat hTa (by omega)) (fun h => absurd h (by omega)) (fun h => absurd h (by omega)) (fun _ _ _ => rfl) (fun _ _ _ => rfl) (Or.inr ⟨by omega, by omega, y, x, by omega, by omega, rfl, rfl⟩) (sk_gdM hGa (by omega)) (sk_gdM hGa (by omega))) k_Table_look (Nat.le_of_ble_eq_true rfl) (xc_25 q _ _) rfl wd_290 ⟨rfl, rfl, by decide, by decide⟩ rfl hl.1 rfl (Nat.le_of_ble_eq_true rfl) d_Table_lookAtPair_50 ⟨Nat.zero_le _, Nat.zero_le _⟩) hZ (fun S50 H locs hp50 hZ => ?_)
          obtain ⟨hob, hfb, Ab, nb, heb, hTb, hGb, hcb⟩ := hp50
          refine lv_iinc (k := 4) (v := nI (o + 1)) (lv' := [(4, .int (nI (o + 1))), (0, .ref (zz_ad (xg_G q) 25)), (1, .ref (zz_ad (xg_G q) 1)), (2, .int (nI x)), (3, .int (nI y))]) hx_ hb_ d_Table_lookAtPair_53 hl rfl (nI_add _ 1) (by decide) rfl (fun ls hl => ?_)
          refine lv_goto (tgt := 3) hx_ hb_ d_Table_lookAtPair_56 (by decide) ?_
          exact ih_ _ (by omega) (o + 1) S50 _ _  _ _ _ (by omega) (zz_off_tr (zz_off_tr ho hoa) hob) (hfb.trans (hfa.trans hf)) (xt_ex_tr (xt_ex_tr he hea) heb) hTb hGb (fun hn o2 h5 h6 c hh => by
            have hn0 := hea.1
            have hn1 := heb.1
            by_cases e : o2 = o
            · subst e
              rcases hh with hh | hh
              · rw [← he.2 x (by omega), ← he.2 y (by omega)] at hh
                exact sk_has_ex heb (hca (by omega) c hh)
              · rw [← he.2 x (by omega), ← he.2 y (by omega), ← hea.2 x (by omega), ← hea.2 y (by omega)] at hh
                exact hcb hn c hh
            · exact sk_has_ex heb (sk_has_ex hea (hcl (by omega) o2 h5 (by omega) c hh))) hZ (lv_sub hl [1, 2, 3, 4, 0] rfl) rfl
  have L3 : ∀ (o : Nat) (So : zz_S) (A0 : Nat → ns_St) (n0 : Nat) (H : Heap) (locs : List Loc) (ls : Array Slot) (ho5 : 5 ≤ o ∧ o ≤ 8) (ho : zz_off xt_X S So) (hf : So.1 25 3 = S.1 25 3) (he : xt_ex A n A0 n0) (hT0 : xt_ok So A0 n0) (hG0 : xt_gd rl R A0 n0) (hcl : n0 < 41 → ∀ o2, 5 ≤ o2 → o2 < o → ∀ c, (ns_nx rl R o2 (A x) (A y) c ∨ ns_nx rl R o2 (A y) (A x) c) → sk_has A0 n0 c) (hZ : zz_Z (xg_G q) So s_.heap H locs) (hl : lv_has ls 5 [(0, .ref (zz_ad (xg_G q) 25)), (1, .ref (zz_ad (xg_G q) 1)), (2, .int (nI x)), (3, .int (nI y)), (4, .int (nI o))]), W p_ l e_ rm_Table_lookAtPair s_ m_ ([.ref (zz_ad (xg_G q) 25), .ref (zz_ad (xg_G q) 1), .int (nI x), .int (nI y)] : List Value).toArray bl_ mt_ c_ H locs 0 0 (MQ bl_ (va_Qv (fun S1 => zz_off xt_X S S1 ∧ S1.1 25 3 = S.1 25 3 ∧ ∃ (A1 : Nat → ns_St) (n1 : Nat), xt_ex A n A1 n1 ∧ xt_ok S1 A1 n1 ∧ xt_gd rl R A1 n1 ∧ (n1 < 41 → ∀ o2, 5 ≤ o2 → o2 < 8 → ∀ c, (ns_nx rl R o2 (A x) (A y) c ∨ ns_nx rl R o2 (A y) (A x) c) → sk_has A1 n1 c)) (zz_P (xg_G q)) (zz_A (xg_G q))) ([.ref (zz_ad (xg_G q) 25), .ref (zz_ad (xg_G q) 1), .int (nI x), .int (nI y)] : List Value).toArray s_ 0 0 (zz_A (xg_G q))) (F0 m_ 3 ls []) := fun o So A0 n0 H locs ls ho5 ho hf he hT0 hG0 hcl hZ hl => L3_ _ o So A0 n0 H locs ls ho5 ho hf he hT0 hG0 hcl hZ hl rfl
  refine lv_iconst (v := nI 5) hx_ hb_ d_Table_lookAtPair_0 (by decide) ?_
  refine lv_istore (i := 4) (lv' := [(4, .int (nI 5)), (0, .ref (zz_ad (xg_G q) 25)), (1, .ref (zz_ad (xg_G q) 1)), (2, .int (nI x)), (3, .int (nI y))]) hx_ hb_ d_Table_lookAtPair_1 hl (by decide) rfl (fun ls hl => ?_)
  exact L3 5 S _ _  _ _ _ (by omega) zz_off_rf rfl xt_ex_rf hT hG (fun _ o2 h5 h6 => absurd h6 (by omega)) hZ (lv_sub hl [1, 2, 3, 4, 0] rfl)
set_option maxHeartbeats 4000000 in
set_option maxRecDepth 100000 in
theorem c_Table_findAll (l : Launch) (q : xg_T) (S : zz_S) (rl : mx_R) (R : Nat) (sz : Nat → Nat) (nb : Nat → Nat → Nat) (hB : xb_ok S rl R sz nb) (hN : ∀ k, k < 4 → S.2 (42 + 3 * 41 + 1) k = vw_c 0) : Met l y_Table_findAll (Cond.code y_Table_findAll b_Table_findAll 4 none :: zz_tbl) rm_Table_findAll (zz_Pc [.ref (zz_ad (xg_G q) 25), .ref (zz_ad (xg_G q) 1)] (xg_G q) S) (va_Qv (fun S1 => zz_off xt_X S S1 ∧ ns_ans rl R (S1.1 25 3)) (zz_P (xg_G q)) (zz_A (xg_G q))) 0 0 (zz_A (xg_G q)) := by
  refine zz_met (by decide) (Nat.le_of_ble_eq_true rfl) ?_
  intro p_ e_ s_ m_ bl_ mt_ c_ ls hC hK hZ hl
  have hC : zz_C p_ s_ m_ _ mt_ c_ b_Table_findAll 4 none "TreeCoverForge$StateTable" := hC
  have hx_ := hC.1
  have hb_ := hC.2.1
  have hl : lv_has ls 4 [(0, .ref (zz_ad (xg_G q) 25)), (1, .ref (zz_ad (xg_G q) 1))] := hl
  have hok := hB.2.2.1
  have J106 : ∀ (So : zz_S) (A0 : Nat → ns_St) (n0 : Nat) (H : Heap) (locs : List Loc) (ls : Array Slot) (ho : zz_off xt_X S So) (hT0 : xt_ok So A0 n0) (hG0 : xt_gd rl R A0 n0) (hfin : n0 ≤ 40 → ns_cl rl R A0 n0) (hZ : zz_Z (xg_G q) So s_.heap H locs) (hl : lv_has ls 4 [(0, .ref (zz_ad (xg_G q) 25)), (1, .ref (zz_ad (xg_G q) 1))]), W p_ l e_ rm_Table_findAll s_ m_ ([.ref (zz_ad (xg_G q) 25), .ref (zz_ad (xg_G q) 1)] : List Value).toArray bl_ mt_ c_ H locs 0 0 (MQ bl_ (va_Qv (fun S1 => zz_off xt_X S S1 ∧ ns_ans rl R (S1.1 25 3)) (zz_P (xg_G q)) (zz_A (xg_G q))) ([.ref (zz_ad (xg_G q) 25), .ref (zz_ad (xg_G q) 1)] : List Value).toArray s_ 0 0 (zz_A (xg_G q))) (F0 m_ 106 ls []) := by
    intro So A0 n0 H locs ls ho hT0 hG0 hfin hZ hl
    have hn1 := hT0.2.1
    refine lv_aload_n hx_ hb_ d_Table_findAll_106 rfl (lv_at hl 0 rfl) ?_
    refine lv_aload_n hx_ hb_ d_Table_findAll_107 rfl (lv_at hl 0 rfl) ?_
    refine zz_get hC hK hZ 25 2 (Nat.le_of_ble_eq_true rfl) (xc_25 q _ _) rfl hin_Table (by decide) wd_163 rfl rfl d_Table_findAll_108 ?_
    refine zz_topi (y := nI n0) hT0.1 ?_
    refine lv_bipush (v := nI 40) hx_ hb_ d_Table_findAll_111 (by decide) ?_
    refine zz_jle (tgt := 121) hC d_Table_findAll_113 (by decide) (by omega) (by omega) (fun h113 => ?_) (fun h113 => ?_)
    · refine lv_aload_n hx_ hb_ d_Table_findAll_121 rfl (lv_at hl 0 rfl) ?_
      refine zz_get hC hK hZ 25 2 (Nat.le_of_ble_eq_true rfl) (xc_25 q _ _) rfl hin_Table (by decide) wd_163 rfl rfl d_Table_findAll_122 ?_
      refine zz_topi (y := nI n0) hT0.1 ?_
      refine zz_put hC hK hZ 25 3 (Nat.le_of_ble_eq_true rfl) (xc_25 q _ _) rfl hin_Table t_Table t_Table_ok n_Table (by decide) wd_164 rfl rfl rfl (Nat.le_of_ble_eq_true rfl) rfl d_Table_findAll_125 (fun H locs hZ => ?_)
      exact zz_vret hC hK hZ rfl d_Table_findAll_128 ⟨zz_off_tr ho (fun d hd => ⟨zz_u1 So 25 3 _ d (fun h => hd (Or.inl h)), rfl⟩), Or.inl ⟨A0, n0, by omega, rfl, hG0.1, hG0.2.1, hfin (by omega)⟩⟩
    · refine lv_bipush (v := (-4)) hx_ hb_ d_Table_findAll_116 (by decide) ?_
      refine lv_goto (tgt := 125) hx_ hb_ d_Table_findAll_118 (by decide) ?_
      refine zz_put hC hK hZ 25 3 (Nat.le_of_ble_eq_true rfl) (xc_25 q _ _) rfl hin_Table t_Table t_Table_ok n_Table (by decide) wd_164 rfl rfl rfl (Nat.le_of_ble_eq_true rfl) rfl d_Table_findAll_125 (fun H locs hZ => ?_)
      exact zz_vret hC hK hZ rfl d_Table_findAll_128 ⟨zz_off_tr ho (fun d hd => ⟨zz_u1 So 25 3 _ d (fun h => hd (Or.inl h)), rfl⟩), Or.inr ⟨rfl, A0, by rw [show 41 = n0 by omega]; exact ⟨hG0.1, hG0.2.1⟩⟩⟩
  have L53_ : ∀ (n_ : Nat) (i : Nat) (o : Nat) (So : zz_S) (A0 : Nat → ns_St) (n0 : Nat) (hk80 : ∀ (So : zz_S) (A0 : Nat → ns_St) (n0 : Nat) (H : Heap) (locs : List Loc) (ls : Array Slot) (hin : i < n0) (ho : zz_off xt_X S So) (hT0 : xt_ok So A0 n0) (hG0 : xt_gd rl R A0 n0) (hcl : n0 < 41 → sk_c0 rl R A0 n0 3 ∧ sk_al rl R A0 n0 i) (hc1 : n0 < 41 → sk_c1 rl R A0 n0 i 5) (hZ : zz_Z (xg_G q) So s_.heap H locs) (hl : lv_has ls 4 [(0, .ref (zz_ad (xg_G q) 25)), (1, .ref (zz_ad (xg_G q) 1)), (2, .int (nI i))]), W p_ l e_ rm_Table_findAll s_ m_ ([.ref (zz_ad (xg_G q) 25), .ref (zz_ad (xg_G q) 1)] : List Value).toArray bl_ mt_ c_ H locs 0 0 (MQ bl_ (va_Qv (fun S1 => zz_off xt_X S S1 ∧ ns_ans rl R (S1.1 25 3)) (zz_P (xg_G q)) (zz_A (xg_G q))) ([.ref (zz_ad (xg_G q) 25), .ref (zz_ad (xg_G q) 1)] : List Value).toArray s_ 0 0 (zz_A (xg_G q))) (F0 m_ 80 ls [])) (H : Heap) (locs : List Loc) (ls : Array Slot) (hin : i < n0) (ho3 : 3 ≤ o ∧ o ≤ 5) (ho : zz_off xt_X S So) (hT0 : xt_ok So A0 n0) (hG0 : xt_gd rl R A0 n0) (hcl : n0 < 41 → sk_c0 rl R A0 n0 3 ∧ sk_al rl R A0 n0 i) (hc1 : n0 < 41 → sk_c1 rl R A0 n0 i o) (hZ : zz_Z (xg_G q) So s_.heap H locs) (hl : lv_has ls 4 [(0, .ref (zz_ad (xg_G q) 25)), (1, .ref (zz_ad (xg_G q) 1)), (2, .int (nI i)), (3, .int (nI o))]) (hn_ : 5 - o = n_), W p_ l e_ rm_Table_findAll s_ m_ ([.ref (zz_ad (xg_G q) 25), .ref (zz_ad (xg_G q) 1)] : List Value).toArray bl_ mt_ c_ H locs 0 0 (MQ bl_ (va_Qv (fun S1 => zz_off xt_X S S1 ∧ ns_ans rl R (S1.1 25 3)) (zz_P (xg_G q)) (zz_A (xg_G q))) ([.ref (zz_ad (xg_G q) 25), .ref (zz_ad (xg_G q) 1)] : List Value).toArray s_ 0 0 (zz_A (xg_G q))) (F0 m_ 53 ls []) := by
    intro n_
    induction n_ using Nat.strongRecOn with
    | ind n_ ih_ =>
      intro i o So A0 n0 hk80 H locs ls hin ho3 ho hT0 hG0 hcl hc1 hZ hl hn_
      have hn1 := hT0.2.1
      have hN0 : ∀ k, k < 4 → So.2 (42 + 3 * 41 + 1) k = vw_c 0 := fun k hk => by
        rw [(ho (42 + 3 * 41 + 1) (by omega)).2]
        exact hN k hk
      refine lv_iload_n hx_ hb_ d_Table_findAll_53 rfl (lv_at hl 3 rfl) ?_
      refine lv_iconst (v := nI 4) hx_ hb_ d_Table_findAll_54 (by decide) ?_
      refine zz_jgt (tgt := 80) hC d_Table_findAll_55 (by decide) (by omega) (by omega) (fun h55 => ?_) (fun h55 => ?_)
      · exact hk80 So _ _  _ _ _ hin ho hT0 hG0 hcl (by rw [show o = 5 by omega] at hc1; exact hc1) hZ (lv_sub hl [0, 1, 2] rfl)
      · have hkd := sk_kd1 ho3.1 (show o < 5 by omega)
        refine lv_aload_n hx_ hb_ d_Table_findAll_58 rfl (lv_at hl 0 rfl) ?_
        refine lv_aload_n hx_ hb_ d_Table_findAll_59 rfl (lv_at hl 1 rfl) ?_
        refine lv_iload_n hx_ hb_ d_Table_findAll_60 rfl (lv_at hl 3 rfl) ?_
        refine lv_aload_n hx_ hb_ d_Table_findAll_61 rfl (lv_at hl 0 rfl) ?_
        refine zz_get hC hK hZ 25 0 (Nat.le_of_ble_eq_true rfl) (xc_25 q _ _) rfl hin_Table (by decide) wd_161 rfl rfl d_Table_findAll_62 ?_
        refine lv_iload_n hx_ hb_ d_Table_findAll_65 rfl (lv_at hl 2 rfl) ?_
        refine zz_aald (q := (42 + 3 * (42 + i))) hC hK hZ 26 2 i (Nat.le_of_ble_eq_true rfl) (xc_26 q _ _) rfl rfl rfl (by omega) (by decide) rfl d_Table_findAll_66 ?_
        refine lv_aload_n hx_ hb_ d_Table_findAll_67 rfl (lv_at hl 0 rfl) ?_
        refine zz_get hC hK hZ 25 1 (Nat.le_of_ble_eq_true rfl) (xc_25 q _ _) rfl hin_Table (by decide) wd_162 rfl rfl d_Table_findAll_68 ?_
        refine zz_cv (zz_rV (As := [.ref (zz_ad (xg_G q) 1), .int (nI o), .ref (zz_ad (xg_G q) (42 + 3 * (42 + i))), .ref (zz_ad (xg_G q) (42 + 3 * 41))]) (rest := []) hC hK hZ 25 (c_Table_look l q So o (42 + i) 41 n0 A0 (A0 i) (A0 i) (by omega) (by omega) (by omega) rl R sz nb (sk_bk hB ho) hT0 hG0 (ns_at (A0 i).1) (fun _ => 0) (sk_xat hT0 (by omega)) hN0 (fun h => absurd h (by omega)) (fun _ _ _ => rfl) (fun _ _ _ => rfl) (fun h => absurd h (by omega)) (Or.inr ⟨by omega, by omega, i, i, by omega, by omega, rfl, rfl⟩) (sk_gdM hG0 (by omega)) sk_zM) k_Table_look (Nat.le_of_ble_eq_true rfl) (xc_25 q _ _) rfl wd_290 ⟨rfl, rfl, by decide, by decide⟩ rfl hl.1 rfl (Nat.le_of_ble_eq_true rfl) d_Table_findAll_71 ⟨Nat.zero_le _, Nat.zero_le _⟩) hZ (fun S71 H locs hp71 hZ => ?_)
        obtain ⟨hoa, hfa, Aa, na, hea, hTa, hGa, hca⟩ := hp71
        refine lv_iinc (k := 3) (v := nI (o + 1)) (lv' := [(3, .int (nI (o + 1))), (0, .ref (zz_ad (xg_G q) 25)), (1, .ref (zz_ad (xg_G q) 1)), (2, .int (nI i))]) hx_ hb_ d_Table_findAll_74 hl rfl (nI_add _ 1) (by decide) rfl (fun ls hl => ?_)
        refine lv_goto (tgt := 53) hx_ hb_ d_Table_findAll_77 (by decide) ?_
        exact ih_ _ (by omega) i (o + 1) S71 _ _ hk80 _ _ _ (by have := hea.1; omega) (by omega) (zz_off_tr ho hoa) hTa hGa (fun hn => by
          have hn0 := hea.1
          exact ⟨sk_c0_ex hea (hcl (by omega)).1, sk_al_ex hea (by omega) (hcl (by omega)).2⟩) (fun hn o2 h3 h4 h5 b c hx => by
          have hn0 := hea.1
          by_cases e : o2 = o
          · subst e
            rw [hea.2 i (by omega)] at hx
            exact hca hn c (sk_irr hok (fun _ => rfl) (fun h => absurd h (by omega)) hx)
          · exact sk_c1_ex hea (by omega) (hc1 (by omega)) o2 h3 (by omega) h5 b c hx) hZ (lv_sub hl [1, 2, 3, 0] rfl) rfl
  have L53 : ∀ (i : Nat) (o : Nat) (So : zz_S) (A0 : Nat → ns_St) (n0 : Nat) (hk80 : ∀ (So : zz_S) (A0 : Nat → ns_St) (n0 : Nat) (H : Heap) (locs : List Loc) (ls : Array Slot) (hin : i < n0) (ho : zz_off xt_X S So) (hT0 : xt_ok So A0 n0) (hG0 : xt_gd rl R A0 n0) (hcl : n0 < 41 → sk_c0 rl R A0 n0 3 ∧ sk_al rl R A0 n0 i) (hc1 : n0 < 41 → sk_c1 rl R A0 n0 i 5) (hZ : zz_Z (xg_G q) So s_.heap H locs) (hl : lv_has ls 4 [(0, .ref (zz_ad (xg_G q) 25)), (1, .ref (zz_ad (xg_G q) 1)), (2, .int (nI i))]), W p_ l e_ rm_Table_findAll s_ m_ ([.ref (zz_ad (xg_G q) 25), .ref (zz_ad (xg_G q) 1)] : List Value).toArray bl_ mt_ c_ H locs 0 0 (MQ bl_ (va_Qv (fun S1 => zz_off xt_X S S1 ∧ ns_ans rl R (S1.1 25 3)) (zz_P (xg_G q)) (zz_A (xg_G q))) ([.ref (zz_ad (xg_G q) 25), .ref (zz_ad (xg_G q) 1)] : List Value).toArray s_ 0 0 (zz_A (xg_G q))) (F0 m_ 80 ls [])) (H : Heap) (locs : List Loc) (ls : Array Slot) (hin : i < n0) (ho3 : 3 ≤ o ∧ o ≤ 5) (ho : zz_off xt_X S So) (hT0 : xt_ok So A0 n0) (hG0 : xt_gd rl R A0 n0) (hcl : n0 < 41 → sk_c0 rl R A0 n0 3 ∧ sk_al rl R A0 n0 i) (hc1 : n0 < 41 → sk_c1 rl R A0 n0 i o) (hZ : zz_Z (xg_G q) So s_.heap H locs) (hl : lv_has ls 4 [(0, .ref (zz_ad (xg_G q) 25)), (1, .ref (zz_ad (xg_G q) 1)), (2, .int (nI i)), (3, .int (nI o))]), W p_ l e_ rm_Table_findAll s_ m_ ([.ref (zz_ad (xg_G q) 25), .ref (zz_ad (xg_G q) 1)] : List Value).toArray bl_ mt_ c_ H locs 0 0 (MQ bl_ (va_Qv (fun S1 => zz_off xt_X S S1 ∧ ns_ans rl R (S1.1 25 3)) (zz_P (xg_G q)) (zz_A (xg_G q))) ([.ref (zz_ad (xg_G q) 25), .ref (zz_ad (xg_G q) 1)] : List Value).toArray s_ 0 0 (zz_A (xg_G q))) (F0 m_ 53 ls []) := fun i o So A0 n0 hk80 H locs ls hin ho3 ho hT0 hG0 hcl hc1 hZ hl => L53_ _ i o So A0 n0 hk80 H locs ls hin ho3 ho hT0 hG0 hcl hc1 hZ hl rfl
  have L82_ : ∀ (n_ : Nat) (i : Nat) (jj : Nat) (So : zz_S) (A0 : Nat → ns_St) (n0 : Nat) (hk100 : ∀ (So : zz_S) (A0 : Nat → ns_St) (n0 : Nat) (H : Heap) (locs : List Loc) (ls : Array Slot) (hin : i < n0) (ho : zz_off xt_X S So) (hT0 : xt_ok So A0 n0) (hG0 : xt_gd rl R A0 n0) (hcl : n0 < 41 → sk_c0 rl R A0 n0 3 ∧ sk_al rl R A0 n0 i) (hc1 : n0 < 41 → sk_c1 rl R A0 n0 i 5 ∧ sk_c2 rl R A0 n0 i (i + 1)) (hZ : zz_Z (xg_G q) So s_.heap H locs) (hl : lv_has ls 4 [(0, .ref (zz_ad (xg_G q) 25)), (1, .ref (zz_ad (xg_G q) 1)), (2, .int (nI i))]), W p_ l e_ rm_Table_findAll s_ m_ ([.ref (zz_ad (xg_G q) 25), .ref (zz_ad (xg_G q) 1)] : List Value).toArray bl_ mt_ c_ H locs 0 0 (MQ bl_ (va_Qv (fun S1 => zz_off xt_X S S1 ∧ ns_ans rl R (S1.1 25 3)) (zz_P (xg_G q)) (zz_A (xg_G q))) ([.ref (zz_ad (xg_G q) 25), .ref (zz_ad (xg_G q) 1)] : List Value).toArray s_ 0 0 (zz_A (xg_G q))) (F0 m_ 100 ls [])) (H : Heap) (locs : List Loc) (ls : Array Slot) (hin : i < n0) (hjj : jj ≤ i + 1) (ho : zz_off xt_X S So) (hT0 : xt_ok So A0 n0) (hG0 : xt_gd rl R A0 n0) (hcl : n0 < 41 → sk_c0 rl R A0 n0 3 ∧ sk_al rl R A0 n0 i) (hc1 : n0 < 41 → sk_c1 rl R A0 n0 i 5 ∧ sk_c2 rl R A0 n0 i jj) (hZ : zz_Z (xg_G q) So s_.heap H locs) (hl : lv_has ls 4 [(0, .ref (zz_ad (xg_G q) 25)), (1, .ref (zz_ad (xg_G q) 1)), (2, .int (nI i)), (3, .int (nI jj))]) (hn_ : i + 1 - jj = n_), W p_ l e_ rm_Table_findAll s_ m_ ([.ref (zz_ad (xg_G q) 25), .ref (zz_ad (xg_G q) 1)] : List Value).toArray bl_ mt_ c_ H locs 0 0 (MQ bl_ (va_Qv (fun S1 => zz_off xt_X S S1 ∧ ns_ans rl R (S1.1 25 3)) (zz_P (xg_G q)) (zz_A (xg_G q))) ([.ref (zz_ad (xg_G q) 25), .ref (zz_ad (xg_G q) 1)] : List Value).toArray s_ 0 0 (zz_A (xg_G q))) (F0 m_ 82 ls []) := by
    intro n_
    induction n_ using Nat.strongRecOn with
    | ind n_ ih_ =>
      intro i jj So A0 n0 hk100 H locs ls hin hjj ho hT0 hG0 hcl hc1 hZ hl hn_
      have hn1 := hT0.2.1
      have hN0 : ∀ k, k < 4 → So.2 (42 + 3 * 41 + 1) k = vw_c 0 := fun k hk => by
        rw [(ho (42 + 3 * 41 + 1) (by omega)).2]
        exact hN k hk
      refine lv_iload_n hx_ hb_ d_Table_findAll_82 rfl (lv_at hl 3 rfl) ?_
      refine lv_iload_n hx_ hb_ d_Table_findAll_83 rfl (lv_at hl 2 rfl) ?_
      refine zz_jgt (tgt := 100) hC d_Table_findAll_84 (by decide) (by omega) (by omega) (fun h84 => ?_) (fun h84 => ?_)
      · exact hk100 So _ _  _ _ _ hin ho hT0 hG0 hcl (by rw [show jj = i + 1 by omega] at hc1; exact hc1) hZ (lv_sub hl [0, 1, 2] rfl)
      · refine lv_aload_n hx_ hb_ d_Table_findAll_87 rfl (lv_at hl 0 rfl) ?_
        refine lv_aload_n hx_ hb_ d_Table_findAll_88 rfl (lv_at hl 1 rfl) ?_
        refine lv_iload_n hx_ hb_ d_Table_findAll_89 rfl (lv_at hl 2 rfl) ?_
        refine lv_iload_n hx_ hb_ d_Table_findAll_90 rfl (lv_at hl 3 rfl) ?_
        refine zz_cv (zz_rV (As := [.ref (zz_ad (xg_G q) 1), .int (nI i), .int (nI jj)]) (rest := []) hC hK hZ 25 (c_Table_lookAtPair l q So i jj rl R sz nb (sk_bk hB ho) n0 A0 hT0 hG0 (by omega) (by omega)) k_Table_lookAtPair (Nat.le_of_ble_eq_true rfl) (xc_25 q _ _) rfl wd_327 ⟨rfl, rfl, by decide, by decide⟩ rfl hl.1 rfl (Nat.le_of_ble_eq_true rfl) d_Table_findAll_91 ⟨Nat.zero_le _, Nat.zero_le _⟩) hZ (fun S91 H locs hp91 hZ => ?_)
        obtain ⟨hoa, hfa, Aa, na, hea, hTa, hGa, hca⟩ := hp91
        refine lv_iinc (k := 3) (v := nI (jj + 1)) (lv' := [(3, .int (nI (jj + 1))), (0, .ref (zz_ad (xg_G q) 25)), (1, .ref (zz_ad (xg_G q) 1)), (2, .int (nI i))]) hx_ hb_ d_Table_findAll_94 hl rfl (nI_add _ 1) (by decide) rfl (fun ls hl => ?_)
        refine lv_goto (tgt := 82) hx_ hb_ d_Table_findAll_97 (by decide) ?_
        exact ih_ _ (by omega) i (jj + 1) S91 _ _ hk100 _ _ _ (by have := hea.1; omega) (by omega) (zz_off_tr ho hoa) hTa hGa (fun hn => by
          have hn0 := hea.1
          exact ⟨sk_c0_ex hea (hcl (by omega)).1, sk_al_ex hea (by omega) (hcl (by omega)).2⟩) (fun hn => by
          have hn0 := hea.1
          refine ⟨sk_c1_ex hea (by omega) (hc1 (by omega)).1, fun o2 h5 h8 y hy c hh => ?_⟩
          by_cases e : y = jj
          · subst e
            rw [hea.2 i (by omega), hea.2 y (by omega)] at hh
            exact hca hn o2 h5 h8 c hh
          · exact sk_c2_ex hea (by omega) (by omega) (hc1 (by omega)).2 o2 h5 h8 y (by omega) c hh) hZ (lv_sub hl [1, 2, 3, 0] rfl) rfl
  have L82 : ∀ (i : Nat) (jj : Nat) (So : zz_S) (A0 : Nat → ns_St) (n0 : Nat) (hk100 : ∀ (So : zz_S) (A0 : Nat → ns_St) (n0 : Nat) (H : Heap) (locs : List Loc) (ls : Array Slot) (hin : i < n0) (ho : zz_off xt_X S So) (hT0 : xt_ok So A0 n0) (hG0 : xt_gd rl R A0 n0) (hcl : n0 < 41 → sk_c0 rl R A0 n0 3 ∧ sk_al rl R A0 n0 i) (hc1 : n0 < 41 → sk_c1 rl R A0 n0 i 5 ∧ sk_c2 rl R A0 n0 i (i + 1)) (hZ : zz_Z (xg_G q) So s_.heap H locs) (hl : lv_has ls 4 [(0, .ref (zz_ad (xg_G q) 25)), (1, .ref (zz_ad (xg_G q) 1)), (2, .int (nI i))]), W p_ l e_ rm_Table_findAll s_ m_ ([.ref (zz_ad (xg_G q) 25), .ref (zz_ad (xg_G q) 1)] : List Value).toArray bl_ mt_ c_ H locs 0 0 (MQ bl_ (va_Qv (fun S1 => zz_off xt_X S S1 ∧ ns_ans rl R (S1.1 25 3)) (zz_P (xg_G q)) (zz_A (xg_G q))) ([.ref (zz_ad (xg_G q) 25), .ref (zz_ad (xg_G q) 1)] : List Value).toArray s_ 0 0 (zz_A (xg_G q))) (F0 m_ 100 ls [])) (H : Heap) (locs : List Loc) (ls : Array Slot) (hin : i < n0) (hjj : jj ≤ i + 1) (ho : zz_off xt_X S So) (hT0 : xt_ok So A0 n0) (hG0 : xt_gd rl R A0 n0) (hcl : n0 < 41 → sk_c0 rl R A0 n0 3 ∧ sk_al rl R A0 n0 i) (hc1 : n0 < 41 → sk_c1 rl R A0 n0 i 5 ∧ sk_c2 rl R A0 n0 i jj) (hZ : zz_Z (xg_G q) So s_.heap H locs) (hl : lv_has ls 4 [(0, .ref (zz_ad (xg_G q) 25)), (1, .ref (zz_ad (xg_G q) 1)), (2, .int (nI i)), (3, .int (nI jj))]), W p_ l e_ rm_Table_findAll s_ m_ ([.ref (zz_ad (xg_G q) 25), .ref (zz_ad (xg_G q) 1)] : List Value).toArray bl_ mt_ c_ H locs 0 0 (MQ bl_ (va_Qv (fun S1 => zz_off xt_X S S1 ∧ ns_ans rl R (S1.1 25 3)) (zz_P (xg_G q)) (zz_A (xg_G q))) ([.ref (zz_ad (xg_G q) 25), .ref (zz_ad (xg_G q) 1)] : List Value).toArray s_ 0 0 (zz_A (xg_G q))) (F0 m_ 82 ls []) := fun i jj So A0 n0 hk100 H locs ls hin hjj ho hT0 hG0 hcl hc1 hZ hl => L82_ _ i jj So A0 n0 hk100 H locs ls hin hjj ho hT0 hG0 hcl hc1 hZ hl rfl
  have L34_ : ∀ (n_ : Nat) (i : Nat) (So : zz_S) (A0 : Nat → ns_St) (n0 : Nat) (H : Heap) (locs : List Loc) (ls : Array Slot) (hi : i ≤ n0) (ho : zz_off xt_X S So) (hT0 : xt_ok So A0 n0) (hG0 : xt_gd rl R A0 n0) (hcl : n0 < 41 → sk_c0 rl R A0 n0 3 ∧ sk_al rl R A0 n0 i) (hZ : zz_Z (xg_G q) So s_.heap H locs) (hl : lv_has ls 4 [(0, .ref (zz_ad (xg_G q) 25)), (1, .ref (zz_ad (xg_G q) 1)), (2, .int (nI i))]) (hn_ : 42 - i = n_), W p_ l e_ rm_Table_findAll s_ m_ ([.ref (zz_ad (xg_G q) 25), .ref (zz_ad (xg_G q) 1)] : List Value).toArray bl_ mt_ c_ H locs 0 0 (MQ bl_ (va_Qv (fun S1 => zz_off xt_X S S1 ∧ ns_ans rl R (S1.1 25 3)) (zz_P (xg_G q)) (zz_A (xg_G q))) ([.ref (zz_ad (xg_G q) 25), .ref (zz_ad (xg_G q) 1)] : List Value).toArray s_ 0 0 (zz_A (xg_G q))) (F0 m_ 34 ls []) := by
    intro n_
    induction n_ using Nat.strongRecOn with
    | ind n_ ih_ =>
      intro i So A0 n0 H locs ls hi ho hT0 hG0 hcl hZ hl hn_
      have hn1 := hT0.2.1
      have hN0 : ∀ k, k < 4 → So.2 (42 + 3 * 41 + 1) k = vw_c 0 := fun k hk => by
        rw [(ho (42 + 3 * 41 + 1) (by omega)).2]
        exact hN k hk
      refine lv_iload_n hx_ hb_ d_Table_findAll_34 rfl (lv_at hl 2 rfl) ?_
      refine lv_aload_n hx_ hb_ d_Table_findAll_35 rfl (lv_at hl 0 rfl) ?_
      refine zz_get hC hK hZ 25 2 (Nat.le_of_ble_eq_true rfl) (xc_25 q _ _) rfl hin_Table (by decide) wd_163 rfl rfl d_Table_findAll_36 ?_
      refine zz_topi (y := nI n0) hT0.1 ?_
      refine zz_jge (tgt := 106) hC d_Table_findAll_39 (by decide) (by omega) (by omega) (fun h39 => ?_) (fun h39 => ?_)
      · exact J106 So _ _  _ _ _ ho hT0 hG0 (fun hn => by
          have h9 := hcl (by omega)
          have h8 : sk_al rl R A0 n0 n0 := fun x hx => h9.2 x (by omega)
          exact sk_end hok h9.1 h8) hZ (lv_sub hl [0, 1] rfl)
      · refine lv_aload_n hx_ hb_ d_Table_findAll_42 rfl (lv_at hl 0 rfl) ?_
        refine zz_get hC hK hZ 25 2 (Nat.le_of_ble_eq_true rfl) (xc_25 q _ _) rfl hin_Table (by decide) wd_163 rfl rfl d_Table_findAll_43 ?_
        refine zz_topi (y := nI n0) hT0.1 ?_
        refine lv_bipush (v := nI 40) hx_ hb_ d_Table_findAll_46 (by decide) ?_
        refine zz_jgt (tgt := 106) hC d_Table_findAll_48 (by decide) (by omega) (by omega) (fun h48 => ?_) (fun h48 => ?_)
        · exact J106 So _ _  _ _ _ ho hT0 hG0 (fun hn => by
            have h9 := hcl (by omega)
            have h8 : sk_al rl R A0 n0 n0 := fun x hx => h9.2 x (by omega)
            exact sk_end hok h9.1 h8) hZ (lv_sub hl [0, 1] rfl)
        · refine lv_iconst (v := nI 3) hx_ hb_ d_Table_findAll_51 (by decide) ?_
          refine lv_istore_n (i := 3) (lv' := [(3, .int (nI 3)), (0, .ref (zz_ad (xg_G q) 25)), (1, .ref (zz_ad (xg_G q) 1)), (2, .int (nI i))]) hx_ hb_ d_Table_findAll_52 rfl hl (by decide) rfl (fun ls hl => ?_)
          refine L53 i 3 So _ _ ?_ _ _ _ (by omega) (by omega) ho hT0 hG0 hcl (fun _ o2 h3 h4 => absurd h4 (by omega)) hZ (lv_sub hl [1, 2, 3, 0] rfl)
          · intro So A0 n0 H locs ls hin ho hT0 hG0 hcl hc1 hZ hl
            refine lv_iconst (v := nI 0) hx_ hb_ d_Table_findAll_80 (by decide) ?_
            refine lv_istore_n (i := 3) (lv' := [(3, .int (nI 0)), (0, .ref (zz_ad (xg_G q) 25)), (1, .ref (zz_ad (xg_G q) 1)), (2, .int (nI i))]) hx_ hb_ d_Table_findAll_81 rfl hl (by decide) rfl (fun ls hl => ?_)
            refine L82 i 0 So _ _ ?_ _ _ _ hin (Nat.zero_le _) ho hT0 hG0 hcl (fun hn => ⟨hc1 hn, fun o2 h5 h8 y hy => absurd hy (Nat.not_lt_zero y)⟩) hZ (lv_sub hl [1, 2, 3, 0] rfl)
            · intro So A0 n0 H locs ls hin ho hT0 hG0 hcl hc1 hZ hl
              refine lv_iinc (k := 2) (v := nI (i + 1)) (lv' := [(2, .int (nI (i + 1))), (0, .ref (zz_ad (xg_G q) 25)), (1, .ref (zz_ad (xg_G q) 1))]) hx_ hb_ d_Table_findAll_100 hl rfl (nI_add _ 1) (by decide) rfl (fun ls hl => ?_)
              refine lv_goto (tgt := 34) hx_ hb_ d_Table_findAll_103 (by decide) ?_
              exact ih_ _ (by omega) (i + 1) So _ _  _ _ _ (by omega) ho hT0 hG0 (fun hn => ⟨(hcl hn).1, fun x hx => by
                by_cases e : x = i
                · subst e
                  exact ⟨(hc1 hn).1, (hc1 hn).2⟩
                · exact (hcl hn).2 x (by omega)⟩) hZ (lv_sub hl [1, 2, 0] rfl) rfl
  have L34 : ∀ (i : Nat) (So : zz_S) (A0 : Nat → ns_St) (n0 : Nat) (H : Heap) (locs : List Loc) (ls : Array Slot) (hi : i ≤ n0) (ho : zz_off xt_X S So) (hT0 : xt_ok So A0 n0) (hG0 : xt_gd rl R A0 n0) (hcl : n0 < 41 → sk_c0 rl R A0 n0 3 ∧ sk_al rl R A0 n0 i) (hZ : zz_Z (xg_G q) So s_.heap H locs) (hl : lv_has ls 4 [(0, .ref (zz_ad (xg_G q) 25)), (1, .ref (zz_ad (xg_G q) 1)), (2, .int (nI i))]), W p_ l e_ rm_Table_findAll s_ m_ ([.ref (zz_ad (xg_G q) 25), .ref (zz_ad (xg_G q) 1)] : List Value).toArray bl_ mt_ c_ H locs 0 0 (MQ bl_ (va_Qv (fun S1 => zz_off xt_X S S1 ∧ ns_ans rl R (S1.1 25 3)) (zz_P (xg_G q)) (zz_A (xg_G q))) ([.ref (zz_ad (xg_G q) 25), .ref (zz_ad (xg_G q) 1)] : List Value).toArray s_ 0 0 (zz_A (xg_G q))) (F0 m_ 34 ls []) := fun i So A0 n0 H locs ls hi ho hT0 hG0 hcl hZ hl => L34_ _ i So A0 n0 H locs ls hi ho hT0 hG0 hcl hZ hl rfl
  have L7_ : ∀ (n_ : Nat) (o : Nat) (So : zz_S) (A0 : Nat → ns_St) (n0 : Nat) (H : Heap) (locs : List Loc) (ls : Array Slot) (ho3 : o ≤ 3) (ho : zz_off xt_X S So) (hT0 : xt_ok So A0 n0) (hG0 : xt_gd rl R A0 n0) (hcl : n0 < 41 → sk_c0 rl R A0 n0 o) (hZ : zz_Z (xg_G q) So s_.heap H locs) (hl : lv_has ls 4 [(0, .ref (zz_ad (xg_G q) 25)), (1, .ref (zz_ad (xg_G q) 1)), (2, .int (nI o))]) (hn_ : 3 - o = n_), W p_ l e_ rm_Table_findAll s_ m_ ([.ref (zz_ad (xg_G q) 25), .ref (zz_ad (xg_G q) 1)] : List Value).toArray bl_ mt_ c_ H locs 0 0 (MQ bl_ (va_Qv (fun S1 => zz_off xt_X S S1 ∧ ns_ans rl R (S1.1 25 3)) (zz_P (xg_G q)) (zz_A (xg_G q))) ([.ref (zz_ad (xg_G q) 25), .ref (zz_ad (xg_G q) 1)] : List Value).toArray s_ 0 0 (zz_A (xg_G q))) (F0 m_ 7 ls []) := by
    intro n_
    induction n_ using Nat.strongRecOn with
    | ind n_ ih_ =>
      intro o So A0 n0 H locs ls ho3 ho hT0 hG0 hcl hZ hl hn_
      have hn1 := hT0.2.1
      have hN0 : ∀ k, k < 4 → So.2 (42 + 3 * 41 + 1) k = vw_c 0 := fun k hk => by
        rw [(ho (42 + 3 * 41 + 1) (by omega)).2]
        exact hN k hk
      refine lv_iload_n hx_ hb_ d_Table_findAll_7 rfl (lv_at hl 2 rfl) ?_
      refine lv_iconst (v := nI 2) hx_ hb_ d_Table_findAll_8 (by decide) ?_
      refine zz_jgt (tgt := 32) hC d_Table_findAll_9 (by decide) (by omega) (by omega) (fun h9 => ?_) (fun h9 => ?_)
      · refine lv_iconst (v := nI 0) hx_ hb_ d_Table_findAll_32 (by decide) ?_
        refine lv_istore_n (i := 2) (lv' := [(2, .int (nI 0)), (0, .ref (zz_ad (xg_G q) 25)), (1, .ref (zz_ad (xg_G q) 1))]) hx_ hb_ d_Table_findAll_33 rfl hl (by decide) rfl (fun ls hl => ?_)
        exact L34 0 So _ _  _ _ _ (Nat.zero_le _) ho hT0 hG0 (fun hn => ⟨by rw [show o = 3 by omega] at hcl; exact hcl hn, fun x hx => absurd hx (Nat.not_lt_zero x)⟩) hZ (lv_sub hl [1, 2, 0] rfl)
      · have hkd := sk_kd0 (show o < 3 by omega)
        refine lv_aload_n hx_ hb_ d_Table_findAll_12 rfl (lv_at hl 0 rfl) ?_
        refine lv_aload_n hx_ hb_ d_Table_findAll_13 rfl (lv_at hl 1 rfl) ?_
        refine lv_iload_n hx_ hb_ d_Table_findAll_14 rfl (lv_at hl 2 rfl) ?_
        refine lv_aload_n hx_ hb_ d_Table_findAll_15 rfl (lv_at hl 0 rfl) ?_
        refine zz_get hC hK hZ 25 1 (Nat.le_of_ble_eq_true rfl) (xc_25 q _ _) rfl hin_Table (by decide) wd_162 rfl rfl d_Table_findAll_16 ?_
        refine lv_aload_n hx_ hb_ d_Table_findAll_19 rfl (lv_at hl 0 rfl) ?_
        refine zz_get hC hK hZ 25 1 (Nat.le_of_ble_eq_true rfl) (xc_25 q _ _) rfl hin_Table (by decide) wd_162 rfl rfl d_Table_findAll_20 ?_
        refine zz_cv (zz_rV (As := [.ref (zz_ad (xg_G q) 1), .int (nI o), .ref (zz_ad (xg_G q) (42 + 3 * 41)), .ref (zz_ad (xg_G q) (42 + 3 * 41))]) (rest := []) hC hK hZ 25 (c_Table_look l q So o 41 41 n0 A0 ((0, 0, 0, 0), (0, 0, 0, 0)) ((0, 0, 0, 0), (0, 0, 0, 0)) (by omega) (by omega) (by omega) rl R sz nb (sk_bk hB ho) hT0 hG0 (fun _ => 0) (fun _ => 0) hN0 hN0 (fun _ _ _ => rfl) (fun _ _ _ => rfl) (fun h => absurd h (by omega)) (fun h => absurd h (by omega)) (Or.inl (by omega)) sk_zM sk_zM) k_Table_look (Nat.le_of_ble_eq_true rfl) (xc_25 q _ _) rfl wd_290 ⟨rfl, rfl, by decide, by decide⟩ rfl hl.1 rfl (Nat.le_of_ble_eq_true rfl) d_Table_findAll_23 ⟨Nat.zero_le _, Nat.zero_le _⟩) hZ (fun S23 H locs hp23 hZ => ?_)
        obtain ⟨hoa, hfa, Aa, na, hea, hTa, hGa, hca⟩ := hp23
        refine lv_iinc (k := 2) (v := nI (o + 1)) (lv' := [(2, .int (nI (o + 1))), (0, .ref (zz_ad (xg_G q) 25)), (1, .ref (zz_ad (xg_G q) 1))]) hx_ hb_ d_Table_findAll_26 hl rfl (nI_add _ 1) (by decide) rfl (fun ls hl => ?_)
        refine lv_goto (tgt := 7) hx_ hb_ d_Table_findAll_29 (by decide) ?_
        exact ih_ _ (by omega) (o + 1) S23 _ _  _ _ _ (by omega) (zz_off_tr ho hoa) hTa hGa (fun hn o2 h1 h2 a b c hx => by
          have hn0 := hea.1
          by_cases e : o2 = o
          · subst e
            exact hca hn c (sk_irr hok (fun h => absurd h (by omega)) (fun h => absurd h (by omega)) hx)
          · exact sk_has_ex hea (hcl (by omega) o2 (by omega) h2 a b c hx)) hZ (lv_sub hl [1, 2, 0] rfl) rfl
  have L7 : ∀ (o : Nat) (So : zz_S) (A0 : Nat → ns_St) (n0 : Nat) (H : Heap) (locs : List Loc) (ls : Array Slot) (ho3 : o ≤ 3) (ho : zz_off xt_X S So) (hT0 : xt_ok So A0 n0) (hG0 : xt_gd rl R A0 n0) (hcl : n0 < 41 → sk_c0 rl R A0 n0 o) (hZ : zz_Z (xg_G q) So s_.heap H locs) (hl : lv_has ls 4 [(0, .ref (zz_ad (xg_G q) 25)), (1, .ref (zz_ad (xg_G q) 1)), (2, .int (nI o))]), W p_ l e_ rm_Table_findAll s_ m_ ([.ref (zz_ad (xg_G q) 25), .ref (zz_ad (xg_G q) 1)] : List Value).toArray bl_ mt_ c_ H locs 0 0 (MQ bl_ (va_Qv (fun S1 => zz_off xt_X S S1 ∧ ns_ans rl R (S1.1 25 3)) (zz_P (xg_G q)) (zz_A (xg_G q))) ([.ref (zz_ad (xg_G q) 25), .ref (zz_ad (xg_G q) 1)] : List Value).toArray s_ 0 0 (zz_A (xg_G q))) (F0 m_ 7 ls []) := fun o So A0 n0 H locs ls ho3 ho hT0 hG0 hcl hZ hl => L7_ _ o So A0 n0 H locs ls ho3 ho hT0 hG0 hcl hZ hl rfl
  refine lv_aload_n hx_ hb_ d_Table_findAll_0 rfl (lv_at hl 0 rfl) ?_
  refine lv_iconst (v := nI 0) hx_ hb_ d_Table_findAll_1 (by decide) ?_
  refine zz_put hC hK hZ 25 2 (Nat.le_of_ble_eq_true rfl) (xc_25 q _ _) rfl hin_Table t_Table t_Table_ok n_Table (by decide) wd_163 rfl rfl rfl (Nat.le_of_ble_eq_true rfl) rfl d_Table_findAll_2 (fun H locs hZ => ?_)
  refine lv_iconst (v := nI 0) hx_ hb_ d_Table_findAll_5 (by decide) ?_
  refine lv_istore_n (i := 2) (lv' := [(2, .int (nI 0)), (0, .ref (zz_ad (xg_G q) 25)), (1, .ref (zz_ad (xg_G q) 1))]) hx_ hb_ d_Table_findAll_6 rfl hl (by decide) rfl (fun ls hl => ?_)
  exact L7 0 (zz_u S 25 2 (nI 0)) _ _  _ _ _ (by omega) (fun d hd => ⟨zz_u1 S 25 2 _ d (fun h => hd (Or.inl h)), rfl⟩) (⟨rfl, by omega, fun i hi => absurd hi (Nat.not_lt_zero i)⟩ : xt_ok _ (fun _ => ((0, 0, 0, 0), (0, 0, 0, 0))) 0) ⟨fun i hi => absurd hi (Nat.not_lt_zero i), fun i j hi => absurd hi (Nat.not_lt_zero i), fun i hi => absurd hi (Nat.not_lt_zero i)⟩ (fun _ o2 h => absurd h (Nat.not_lt_zero o2)) hZ (lv_sub hl [1, 2, 0] rfl)
