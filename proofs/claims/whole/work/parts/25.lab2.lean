/-! Labels: least costs, relative costs, comparisons, the turns. Laid by wip/whole/prog/p4.py. -/
set_option maxHeartbeats 4000000 in
set_option maxRecDepth 100000 in
theorem c_Label_leastCost (l : Launch) (q : xg_T) (S : zz_S) (j : Nat) (g : Nat → Nat) (hj : j ≤ 82) (hg : ∀ k, k < 4 → S.2 (42 + 3 * j + 1) k = vw_c (g k) ∧ g k ≤ mx_far) : Met l y_Label_leastCost (Cond.code y_Label_leastCost b_Label_leastCost 4 (some .long) :: zz_tbl) rm_Label_leastCost (zz_Pc [.ref (zz_ad (xg_G q) (42 + 3 * j))] (xg_G q) S) (va_Ql (fun ans S1 => S = S1 ∧ ans = vw_c (xl_lo g 4)) (zz_P (xg_G q)) (zz_A (xg_G q))) 0 0 (zz_A (xg_G q)) := by
  refine zz_met (by decide) (Nat.le_of_ble_eq_true rfl) ?_
  intro p_ e_ s_ m_ bl_ mt_ c_ ls hC hK hZ hl
  have hC : zz_C p_ s_ m_ _ mt_ c_ b_Label_leastCost 4 (some .long) "TreeCoverForge$Label" := hC
  have hx_ := hC.1
  have hb_ := hC.2.1
  have hl : lv_has ls 4 [(0, .ref (zz_ad (xg_G q) (42 + 3 * j)))] := hl
  have hfar := vw_far
  have L6_ : ∀ (n_ : Nat) (k : Nat) (v : Int64) (H : Heap) (locs : List Loc) (ls : Array Slot) (hk : k ≤ 4) (hv : v = vw_c (xl_lo g k)) (hZ : zz_Z (xg_G q) S s_.heap H locs) (hl : lv_has ls 4 [(0, .ref (zz_ad (xg_G q) (42 + 3 * j))), (1, .long v), (3, .int (nI k))]) (hn_ : 4 - k = n_), W p_ l e_ rm_Label_leastCost s_ m_ ([.ref (zz_ad (xg_G q) (42 + 3 * j))] : List Value).toArray bl_ mt_ c_ H locs 0 0 (MQ bl_ (va_Ql (fun ans S1 => S = S1 ∧ ans = vw_c (xl_lo g 4)) (zz_P (xg_G q)) (zz_A (xg_G q))) ([.ref (zz_ad (xg_G q) (42 + 3 * j))] : List Value).toArray s_ 0 0 (zz_A (xg_G q))) (F0 m_ 6 ls []) := by
    intro n_
    induction n_ using Nat.strongRecOn with
    | ind n_ ih_ =>
      intro k v H locs ls hk hv hZ hl hn_
      refine lv_iload_n hx_ hb_ d_Label_leastCost_6 rfl (lv_at hl 2 rfl) ?_
      refine lv_iconst (v := nI 4) hx_ hb_ d_Label_leastCost_7 (by decide) ?_
      refine zz_jge (tgt := 51) hC d_Label_leastCost_8 (by decide) (by omega) (by omega) (fun h8 => ?_) (fun h8 => ?_)
      · refine lv_lload_n hx_ hb_ d_Label_leastCost_51 rfl (lv_at hl 1 rfl) ?_
        exact zz_lret hC hK hZ rfl d_Label_leastCost_52 ⟨rfl, by rw [hv, show k = 4 by omega]⟩
      · refine lv_aload_n hx_ hb_ d_Label_leastCost_11 rfl (lv_at hl 0 rfl) ?_
        refine lv_iload_n hx_ hb_ d_Label_leastCost_12 rfl (lv_at hl 2 rfl) ?_
        refine zz_ci (zz_rV (As := [.int (nI k)]) (rest := []) hC hK hZ (42 + 3 * j) (c_Label_isCovered l q S j k (g k) hj (by omega) (hg k (by omega)).1) k_Label_isCovered (by show _ < 291; omega) (xy_lab q j _ _) rfl wd_303 ⟨rfl, rfl, by decide, by decide⟩ rfl hl.1 rfl (Nat.le_of_ble_eq_true rfl) d_Label_leastCost_13 ⟨Nat.zero_le _, Nat.zero_le _⟩) hZ (fun r13 S13 H locs hp13 hZ => ?_)
        obtain ⟨rfl, rfl⟩ := hp13
        refine zz_beq (tgt := 45) hC d_Label_leastCost_16 (by decide) (fun h16 => ?_) (fun h16 => ?_)
        · refine lv_iinc (k := 2) (v := nI (k + 1)) (lv' := [(3, .int (nI (k + 1))), (0, .ref (zz_ad (xg_G q) (42 + 3 * j))), (1, .long v)]) hx_ hb_ d_Label_leastCost_45 hl rfl (nI_add _ 1) (by decide) rfl (fun ls hl => ?_)
          refine lv_goto (tgt := 6) hx_ hb_ d_Label_leastCost_48 (by decide) ?_
          exact ih_ _ (by omega) (k + 1) v  _ _ _ (by omega) (by rw [hv, show xl_lo g (k + 1) = xl_lo g k from by
                      show min (xl_lo g k) (g k) = xl_lo g k
                      have := xl_lo_le g k
                      omega]) hZ (lv_sub hl [1, 2, 0] rfl) rfl
        · refine lv_lload_n hx_ hb_ d_Label_leastCost_19 rfl (lv_at hl 1 rfl) ?_
          refine lv_ldc2 (v := (-1)) hx_ hb_ hC.2.2.2.1 (hC.2.2.2.2.1 _ wd_298) d_Label_leastCost_20 ?_
          refine W.lcmp hx_ hb_ d_Label_leastCost_23 ?_
          refine lv_if_eq (tgt := 38) hx_ hb_ d_Label_leastCost_24 (by decide) (fun h24 => ?_) (fun h24 => ?_)
          · have h24 : v = ((-1)) := (lg_cmp_eq _ _).mp h24
            refine lv_aload_n hx_ hb_ d_Label_leastCost_38 rfl (lv_at hl 0 rfl) ?_
            refine zz_get hC hK hZ (42 + 3 * j) 0 (by show _ < 291; omega) (xy_lab q j _ _) rfl hin_Label (by decide) wd_104 rfl rfl d_Label_leastCost_39 ?_
            refine lv_iload_n hx_ hb_ d_Label_leastCost_42 rfl (lv_at hl 2 rfl) ?_
            refine zz_lald hC hK hZ (42 + 3 * j + 1) 1 k (by show _ < 291; omega) (xy_cost q j _ _) rfl rfl (by omega) (by decide) rfl d_Label_leastCost_43 ?_
            refine zz_topl (y := vw_c (g k)) (hg k (by omega)).1 ?_
            refine lv_lstore_n (i := 1) (lv' := [(1, .long (vw_c (g k))), (0, .ref (zz_ad (xg_G q) (42 + 3 * j))), (3, .int (nI k))]) hx_ hb_ d_Label_leastCost_44 rfl hl (by decide) rfl (fun ls hl => ?_)
            refine lv_iinc (k := 2) (v := nI (k + 1)) (lv' := [(3, .int (nI (k + 1))), (1, .long (vw_c (g k))), (0, .ref (zz_ad (xg_G q) (42 + 3 * j)))]) hx_ hb_ d_Label_leastCost_45 hl rfl (nI_add _ 1) (by decide) rfl (fun ls hl => ?_)
            refine lv_goto (tgt := 6) hx_ hb_ d_Label_leastCost_48 (by decide) ?_
            exact ih_ _ (by omega) (k + 1) (vw_c (g k))  _ _ _ (by omega) (by rw [show xl_lo g (k + 1) = g k from by
                        show min (xl_lo g k) (g k) = g k
                        have := (hg k (by omega)).2
                        first | (have hlo0 := vw_c_m1 (hv.symm.trans h24); omega) | omega]) hZ (lv_sub hl [2, 1, 0] rfl) rfl
          · have h24 : ¬ (v = ((-1))) := fun x => h24 ((lg_cmp_eq _ _).mpr x)
            have hlo : xl_lo g k < mx_far := vw_c_n1 (by rw [← hv]; exact h24)
            refine lv_aload_n hx_ hb_ d_Label_leastCost_27 rfl (lv_at hl 0 rfl) ?_
            refine zz_get hC hK hZ (42 + 3 * j) 0 (by show _ < 291; omega) (xy_lab q j _ _) rfl hin_Label (by decide) wd_104 rfl rfl d_Label_leastCost_28 ?_
            refine lv_iload_n hx_ hb_ d_Label_leastCost_31 rfl (lv_at hl 2 rfl) ?_
            refine zz_lald hC hK hZ (42 + 3 * j + 1) 1 k (by show _ < 291; omega) (xy_cost q j _ _) rfl rfl (by omega) (by decide) rfl d_Label_leastCost_32 ?_
            refine zz_topl (y := lN (g k)) ((hg k (by omega)).1.trans (vw_c_in h16)) ?_
            refine lv_lload_n hx_ hb_ d_Label_leastCost_33 rfl (lv_at hl 1 rfl) ?_
            refine zz_topl (y := lN (xl_lo g k)) (hv.trans (vw_c_in hlo)) ?_
            refine W.lcmp hx_ hb_ d_Label_leastCost_34 ?_
            refine lv_if_ge (tgt := 45) hx_ hb_ d_Label_leastCost_35 (by decide) (fun h35 => ?_) (fun h35 => ?_)
            · have h35 : (lN (xl_lo g k)) ≤ (lN (g k)) := (lg_cmp_ge _ _).mp h35
              rw [pk_lLE (by omega) (by omega)] at h35
              refine lv_iinc (k := 2) (v := nI (k + 1)) (lv' := [(3, .int (nI (k + 1))), (0, .ref (zz_ad (xg_G q) (42 + 3 * j))), (1, .long v)]) hx_ hb_ d_Label_leastCost_45 hl rfl (nI_add _ 1) (by decide) rfl (fun ls hl => ?_)
              refine lv_goto (tgt := 6) hx_ hb_ d_Label_leastCost_48 (by decide) ?_
              exact ih_ _ (by omega) (k + 1) v  _ _ _ (by omega) (by rw [hv, show xl_lo g (k + 1) = xl_lo g k from by
                          show min (xl_lo g k) (g k) = xl_lo g k
                          have := xl_lo_le g k
                          omega]) hZ (lv_sub hl [1, 2, 0] rfl) rfl
            · have h35 : ¬ ((lN (xl_lo g k)) ≤ (lN (g k))) := fun x => h35 ((lg_cmp_ge _ _).mpr x)
              rw [pk_lLE (by omega) (by omega)] at h35
              refine lv_aload_n hx_ hb_ d_Label_leastCost_38 rfl (lv_at hl 0 rfl) ?_
              refine zz_get hC hK hZ (42 + 3 * j) 0 (by show _ < 291; omega) (xy_lab q j _ _) rfl hin_Label (by decide) wd_104 rfl rfl d_Label_leastCost_39 ?_
              refine lv_iload_n hx_ hb_ d_Label_leastCost_42 rfl (lv_at hl 2 rfl) ?_
              refine zz_lald hC hK hZ (42 + 3 * j + 1) 1 k (by show _ < 291; omega) (xy_cost q j _ _) rfl rfl (by omega) (by decide) rfl d_Label_leastCost_43 ?_
              refine zz_topl (y := vw_c (g k)) (hg k (by omega)).1 ?_
              refine lv_lstore_n (i := 1) (lv' := [(1, .long (vw_c (g k))), (0, .ref (zz_ad (xg_G q) (42 + 3 * j))), (3, .int (nI k))]) hx_ hb_ d_Label_leastCost_44 rfl hl (by decide) rfl (fun ls hl => ?_)
              refine lv_iinc (k := 2) (v := nI (k + 1)) (lv' := [(3, .int (nI (k + 1))), (1, .long (vw_c (g k))), (0, .ref (zz_ad (xg_G q) (42 + 3 * j)))]) hx_ hb_ d_Label_leastCost_45 hl rfl (nI_add _ 1) (by decide) rfl (fun ls hl => ?_)
              refine lv_goto (tgt := 6) hx_ hb_ d_Label_leastCost_48 (by decide) ?_
              exact ih_ _ (by omega) (k + 1) (vw_c (g k))  _ _ _ (by omega) (by rw [show xl_lo g (k + 1) = g k from by
                          show min (xl_lo g k) (g k) = g k
                          have := (hg k (by omega)).2
                          first | (have hlo0 := vw_c_m1 (hv.symm.trans h24); omega) | omega]) hZ (lv_sub hl [2, 1, 0] rfl) rfl
  have L6 : ∀ (k : Nat) (v : Int64) (H : Heap) (locs : List Loc) (ls : Array Slot) (hk : k ≤ 4) (hv : v = vw_c (xl_lo g k)) (hZ : zz_Z (xg_G q) S s_.heap H locs) (hl : lv_has ls 4 [(0, .ref (zz_ad (xg_G q) (42 + 3 * j))), (1, .long v), (3, .int (nI k))]), W p_ l e_ rm_Label_leastCost s_ m_ ([.ref (zz_ad (xg_G q) (42 + 3 * j))] : List Value).toArray bl_ mt_ c_ H locs 0 0 (MQ bl_ (va_Ql (fun ans S1 => S = S1 ∧ ans = vw_c (xl_lo g 4)) (zz_P (xg_G q)) (zz_A (xg_G q))) ([.ref (zz_ad (xg_G q) (42 + 3 * j))] : List Value).toArray s_ 0 0 (zz_A (xg_G q))) (F0 m_ 6 ls []) := fun k v H locs ls hk hv hZ hl => L6_ _ k v H locs ls hk hv hZ hl rfl
  refine lv_ldc2 (v := (-1)) hx_ hb_ hC.2.2.2.1 (hC.2.2.2.2.1 _ wd_298) d_Label_leastCost_0 ?_
  refine lv_lstore_n (i := 1) (lv' := [(1, .long ((-1))), (0, .ref (zz_ad (xg_G q) (42 + 3 * j)))]) hx_ hb_ d_Label_leastCost_3 rfl hl (by decide) rfl (fun ls hl => ?_)
  refine lv_iconst (v := nI 0) hx_ hb_ d_Label_leastCost_4 (by decide) ?_
  refine lv_istore_n (i := 3) (lv' := [(3, .int (nI 0)), (1, .long ((-1))), (0, .ref (zz_ad (xg_G q) (42 + 3 * j)))]) hx_ hb_ d_Label_leastCost_5 rfl hl (by decide) rfl (fun ls hl => ?_)
  exact L6 0 ((-1))  _ _ _ (by omega) rfl hZ (lv_sub hl [2, 1, 0] rfl)
set_option maxHeartbeats 4000000 in
set_option maxRecDepth 100000 in
theorem c_Label_makeRelative (l : Launch) (q : xg_T) (S : zz_S) (j : Nat) (g : Nat → Nat) (hj : j ≤ 82) (hg : ∀ k, k < 4 → S.2 (42 + 3 * j + 1) k = vw_c (g k) ∧ g k ≤ mx_far) : Met l y_Label_makeRelative (Cond.code y_Label_makeRelative b_Label_makeRelative 4 none :: zz_tbl) rm_Label_makeRelative (zz_Pc [.ref (zz_ad (xg_G q) (42 + 3 * j))] (xg_G q) S) (va_Qv (fun S1 => zz_off (fun c => c = 42 + 3 * j + 1) S S1 ∧ ∀ k, k < 4 → S1.2 (42 + 3 * j + 1) k = vw_c (ns_nrm g k)) (zz_P (xg_G q)) (zz_A (xg_G q))) 0 0 (zz_A (xg_G q)) := by
  refine zz_met (by decide) (Nat.le_of_ble_eq_true rfl) ?_
  intro p_ e_ s_ m_ bl_ mt_ c_ ls hC hK hZ hl
  have hC : zz_C p_ s_ m_ _ mt_ c_ b_Label_makeRelative 4 none "TreeCoverForge$Label" := hC
  have hx_ := hC.1
  have hb_ := hC.2.1
  have hl : lv_has ls 4 [(0, .ref (zz_ad (xg_G q) (42 + 3 * j)))] := hl
  have hfar := vw_far
  have hlo := xl_lo4 (fun k hk => (hg k hk).2)
  have L7_ : ∀ (n_ : Nat) (k : Nat) (Sk : zz_S) (H : Heap) (locs : List Loc) (ls : Array Slot) (hk : k ≤ 4) (ho : zz_off (fun c => c = 42 + 3 * j + 1) S Sk) (hs : ∀ i, i < 4 → Sk.2 (42 + 3 * j + 1) i = vw_c (if i < k then ns_nrm g i else g i)) (hZ : zz_Z (xg_G q) Sk s_.heap H locs) (hl : lv_has ls 4 [(0, .ref (zz_ad (xg_G q) (42 + 3 * j))), (1, .long (vw_c (xl_lo g 4))), (3, .int (nI k))]) (hn_ : 4 - k = n_), W p_ l e_ rm_Label_makeRelative s_ m_ ([.ref (zz_ad (xg_G q) (42 + 3 * j))] : List Value).toArray bl_ mt_ c_ H locs 0 0 (MQ bl_ (va_Qv (fun S1 => zz_off (fun c => c = 42 + 3 * j + 1) S S1 ∧ ∀ k, k < 4 → S1.2 (42 + 3 * j + 1) k = vw_c (ns_nrm g k)) (zz_P (xg_G q)) (zz_A (xg_G q))) ([.ref (zz_ad (xg_G q) (42 + 3 * j))] : List Value).toArray s_ 0 0 (zz_A (xg_G q))) (F0 m_ 7 ls []) := by
    intro n_
    induction n_ using Nat.strongRecOn with
    | ind n_ ih_ =>
      intro k Sk H locs ls hk ho hs hZ hl hn_
      refine lv_iload_n hx_ hb_ d_Label_makeRelative_7 rfl (lv_at hl 2 rfl) ?_
      refine lv_iconst (v := nI 4) hx_ hb_ d_Label_makeRelative_8 (by decide) ?_
      refine zz_jge (tgt := 36) hC d_Label_makeRelative_9 (by decide) (by omega) (by omega) (fun h9 => ?_) (fun h9 => ?_)
      · exact zz_vret hC hK hZ rfl d_Label_makeRelative_36 ⟨ho, fun k hk => by rw [hs k hk, if_pos (by omega)]⟩
      · have hk1 : Sk.2 (42 + 3 * j + 1) k = vw_c (g k) := by
          rw [hs k (by omega), if_neg (Nat.lt_irrefl k)]
        refine lv_aload_n hx_ hb_ d_Label_makeRelative_12 rfl (lv_at hl 0 rfl) ?_
        refine lv_iload_n hx_ hb_ d_Label_makeRelative_13 rfl (lv_at hl 2 rfl) ?_
        refine zz_ci (zz_rV (As := [.int (nI k)]) (rest := []) hC hK hZ (42 + 3 * j) (c_Label_isCovered l q Sk j k (g k) hj (by omega) hk1) k_Label_isCovered (by show _ < 291; omega) (xy_lab q j _ _) rfl wd_303 ⟨rfl, rfl, by decide, by decide⟩ rfl hl.1 rfl (Nat.le_of_ble_eq_true rfl) d_Label_makeRelative_14 ⟨Nat.zero_le _, Nat.zero_le _⟩) hZ (fun r14 S14 H locs hp14 hZ => ?_)
        obtain ⟨rfl, rfl⟩ := hp14
        refine zz_beq (tgt := 30) hC d_Label_makeRelative_17 (by decide) (fun h17 => ?_) (fun h17 => ?_)
        · refine lv_iinc (k := 2) (v := nI (k + 1)) (lv' := [(3, .int (nI (k + 1))), (0, .ref (zz_ad (xg_G q) (42 + 3 * j))), (1, .long (vw_c (xl_lo g 4)))]) hx_ hb_ d_Label_makeRelative_30 hl rfl (nI_add _ 1) (by decide) rfl (fun ls hl => ?_)
          refine lv_goto (tgt := 7) hx_ hb_ d_Label_makeRelative_33 (by decide) ?_
          exact ih_ _ (by omega) (k + 1) Sk  _ _ _ (by omega) ho (fun i hi => by
                      rw [hs i hi]
                      by_cases e2 : i < k
                      · rw [if_pos e2, if_pos (by omega)]
                      · rw [if_neg e2]
                        by_cases e : i = k
                        · rw [e, if_pos (Nat.lt_succ_self k), ns_nrm, if_neg h17, vw_c_out h17, vw_c_out (Nat.lt_irrefl _)]
                        · rw [if_neg (by omega)]) hZ (lv_sub hl [1, 2, 0] rfl) rfl
        · have hlk : ns_low g ≤ g k := by
            have hc : k = 0 ∨ k = 1 ∨ k = 2 ∨ k = 3 := by omega
            unfold ns_low
            rcases hc with rfl | rfl | rfl | rfl <;> omega
          refine lv_aload_n hx_ hb_ d_Label_makeRelative_20 rfl (lv_at hl 0 rfl) ?_
          refine zz_get hC hK hZ (42 + 3 * j) 0 (by show _ < 291; omega) (xy_lab q j _ _) rfl hin_Label (by decide) wd_104 rfl rfl d_Label_makeRelative_21 ?_
          refine lv_iload_n hx_ hb_ d_Label_makeRelative_24 rfl (lv_at hl 2 rfl) ?_
          refine lv_dup2_11 hx_ hb_ d_Label_makeRelative_25 rfl rfl ?_
          refine zz_lald hC hK hZ (42 + 3 * j + 1) 1 k (by show _ < 291; omega) (xy_cost q j _ _) rfl rfl (by omega) (by decide) rfl d_Label_makeRelative_26 ?_
          refine zz_topl (y := lN (g k)) (hk1.trans (vw_c_in h17)) ?_
          refine lv_lload_n hx_ hb_ d_Label_makeRelative_27 rfl (lv_at hl 1 rfl) ?_
          refine zz_topl (y := lN (ns_low g)) (by rw [hlo, vw_c_in (by omega)]) ?_
          refine lv_lsub hx_ hb_ d_Label_makeRelative_28 ?_
          refine zz_topl (y := lN (g k - ns_low g)) (lN_sub hlk) ?_
          refine zz_last hC hK hZ (42 + 3 * j + 1) 1 k (by show _ < 291; omega) (fun _ => xy_cost q j _ _) rfl rfl (by omega) (by decide) d_Label_makeRelative_29 (fun H locs hZ => ?_)
          refine lv_iinc (k := 2) (v := nI (k + 1)) (lv' := [(3, .int (nI (k + 1))), (0, .ref (zz_ad (xg_G q) (42 + 3 * j))), (1, .long (vw_c (xl_lo g 4)))]) hx_ hb_ d_Label_makeRelative_30 hl rfl (nI_add _ 1) (by decide) rfl (fun ls hl => ?_)
          refine lv_goto (tgt := 7) hx_ hb_ d_Label_makeRelative_33 (by decide) ?_
          exact ih_ _ (by omega) (k + 1) (zz_v Sk (42 + 3 * j + 1) k (lN (g k - ns_low g)))  _ _ _ (by omega) (zz_off_tr ho (fun d hd => ⟨rfl, zz_v2 Sk _ k _ d hd⟩)) (fun i hi => by
                      rw [zz_v2s]
                      by_cases e : i = k
                      · rw [e, pk_uLs, if_pos (Nat.lt_succ_self k), ns_nrm, if_pos h17, vw_c_in (by omega)]
                      · rw [pk_uLn e, hs i hi]
                        by_cases e2 : i < k
                        · rw [if_pos e2, if_pos (by omega)]
                        · rw [if_neg e2, if_neg (by omega)]) hZ (lv_sub hl [1, 2, 0] rfl) rfl
  have L7 : ∀ (k : Nat) (Sk : zz_S) (H : Heap) (locs : List Loc) (ls : Array Slot) (hk : k ≤ 4) (ho : zz_off (fun c => c = 42 + 3 * j + 1) S Sk) (hs : ∀ i, i < 4 → Sk.2 (42 + 3 * j + 1) i = vw_c (if i < k then ns_nrm g i else g i)) (hZ : zz_Z (xg_G q) Sk s_.heap H locs) (hl : lv_has ls 4 [(0, .ref (zz_ad (xg_G q) (42 + 3 * j))), (1, .long (vw_c (xl_lo g 4))), (3, .int (nI k))]), W p_ l e_ rm_Label_makeRelative s_ m_ ([.ref (zz_ad (xg_G q) (42 + 3 * j))] : List Value).toArray bl_ mt_ c_ H locs 0 0 (MQ bl_ (va_Qv (fun S1 => zz_off (fun c => c = 42 + 3 * j + 1) S S1 ∧ ∀ k, k < 4 → S1.2 (42 + 3 * j + 1) k = vw_c (ns_nrm g k)) (zz_P (xg_G q)) (zz_A (xg_G q))) ([.ref (zz_ad (xg_G q) (42 + 3 * j))] : List Value).toArray s_ 0 0 (zz_A (xg_G q))) (F0 m_ 7 ls []) := fun k Sk H locs ls hk ho hs hZ hl => L7_ _ k Sk H locs ls hk ho hs hZ hl rfl
  refine lv_aload_n hx_ hb_ d_Label_makeRelative_0 rfl (lv_at hl 0 rfl) ?_
  refine zz_clg (zz_rV (As := []) (rest := []) hC hK hZ (42 + 3 * j) (c_Label_leastCost l q S j g hj hg) k_Label_leastCost (by show _ < 291; omega) (xy_lab q j _ _) rfl wd_319 ⟨rfl, rfl, by decide, by decide⟩ rfl hl.1 rfl (Nat.le_of_ble_eq_true rfl) d_Label_makeRelative_1 ⟨Nat.zero_le _, Nat.zero_le _⟩) hZ (fun r1 S1 H locs hp1 hZ => ?_)
  obtain ⟨rfl, rfl⟩ := hp1
  refine lv_lstore_n (i := 1) (lv' := [(1, .long (vw_c (xl_lo g 4))), (0, .ref (zz_ad (xg_G q) (42 + 3 * j)))]) hx_ hb_ d_Label_makeRelative_4 rfl hl (by decide) rfl (fun ls hl => ?_)
  refine lv_iconst (v := nI 0) hx_ hb_ d_Label_makeRelative_5 (by decide) ?_
  refine lv_istore_n (i := 3) (lv' := [(3, .int (nI 0)), (1, .long (vw_c (xl_lo g 4))), (0, .ref (zz_ad (xg_G q) (42 + 3 * j)))]) hx_ hb_ d_Label_makeRelative_6 rfl hl (by decide) rfl (fun ls hl => ?_)
  exact L7 0 S  _ _ _ (by omega) zz_off_rf (fun i hi => (hg i hi).1) hZ (lv_sub hl [2, 1, 0] rfl)
set_option maxHeartbeats 4000000 in
set_option maxRecDepth 100000 in
theorem c_Label_agreesWith (l : Launch) (q : xg_T) (S : zz_S) (j j2 : Nat) (g y g2 y2 : Nat → Nat) (hj : j ≤ 82) (hj2 : j2 ≤ 82) (hg : xl_ok S j g y) (hg2 : xl_ok S j2 g2 y2) (hb1 : ∀ k, k < 4 → g k ≤ mx_far ∧ g2 k ≤ mx_far ∧ y k ≤ 24 ∧ y2 k ≤ 24) : Met l y_Label_agreesWith (Cond.code y_Label_agreesWith b_Label_agreesWith 3 (some .boolean) :: zz_tbl) rm_Label_agreesWith (zz_Pc [.ref (zz_ad (xg_G q) (42 + 3 * j)), .ref (zz_ad (xg_G q) (42 + 3 * j2))] (xg_G q) S) (va_Qi (fun ans S1 => S = S1 ∧ ans = nI (if ns_tup g = ns_tup g2 ∧ ns_tup y = ns_tup y2 then 1 else 0)) (zz_P (xg_G q)) (zz_A (xg_G q))) 0 0 (zz_A (xg_G q)) := by
  refine zz_met (by decide) (Nat.le_of_ble_eq_true rfl) ?_
  intro p_ e_ s_ m_ bl_ mt_ c_ ls hC hK hZ hl
  have hC : zz_C p_ s_ m_ _ mt_ c_ b_Label_agreesWith 3 (some .boolean) "TreeCoverForge$Label" := hC
  have hx_ := hC.1
  have hb_ := hC.2.1
  have hl : lv_has ls 3 [(0, .ref (zz_ad (xg_G q) (42 + 3 * j))), (1, .ref (zz_ad (xg_G q) (42 + 3 * j2)))] := hl
  have L2_ : ∀ (n_ : Nat) (k : Nat) (H : Heap) (locs : List Loc) (ls : Array Slot) (hk : k ≤ 4) (hs : ∀ i, i < k → g i = g2 i ∧ y i = y2 i) (hZ : zz_Z (xg_G q) S s_.heap H locs) (hl : lv_has ls 3 [(0, .ref (zz_ad (xg_G q) (42 + 3 * j))), (1, .ref (zz_ad (xg_G q) (42 + 3 * j2))), (2, .int (nI k))]) (hn_ : 4 - k = n_), W p_ l e_ rm_Label_agreesWith s_ m_ ([.ref (zz_ad (xg_G q) (42 + 3 * j)), .ref (zz_ad (xg_G q) (42 + 3 * j2))] : List Value).toArray bl_ mt_ c_ H locs 0 0 (MQ bl_ (va_Qi (fun ans S1 => S = S1 ∧ ans = nI (if ns_tup g = ns_tup g2 ∧ ns_tup y = ns_tup y2 then 1 else 0)) (zz_P (xg_G q)) (zz_A (xg_G q))) ([.ref (zz_ad (xg_G q) (42 + 3 * j)), .ref (zz_ad (xg_G q) (42 + 3 * j2))] : List Value).toArray s_ 0 0 (zz_A (xg_G q))) (F0 m_ 2 ls []) := by
    intro n_
    induction n_ using Nat.strongRecOn with
    | ind n_ ih_ =>
      intro k H locs ls hk hs hZ hl hn_
      refine lv_iload_n hx_ hb_ d_Label_agreesWith_2 rfl (lv_at hl 2 rfl) ?_
      refine lv_iconst (v := nI 4) hx_ hb_ d_Label_agreesWith_3 (by decide) ?_
      refine zz_jge (tgt := 46) hC d_Label_agreesWith_4 (by decide) (by omega) (by omega) (fun h4 => ?_) (fun h4 => ?_)
      · refine lv_iconst (v := nI 1) hx_ hb_ d_Label_agreesWith_46 (by decide) ?_
        exact zz_zret hC hK hZ rfl d_Label_agreesWith_47 (by decide) ⟨rfl, by rw [if_pos ⟨ns_tup_eq (fun k hk => (hs k (by omega)).1), ns_tup_eq (fun k hk => (hs k (by omega)).2)⟩]⟩
      · refine lv_aload_n hx_ hb_ d_Label_agreesWith_7 rfl (lv_at hl 0 rfl) ?_
        refine zz_get hC hK hZ (42 + 3 * j) 0 (by show _ < 291; omega) (xy_lab q j _ _) rfl hin_Label (by decide) wd_104 rfl rfl d_Label_agreesWith_8 ?_
        refine lv_iload_n hx_ hb_ d_Label_agreesWith_11 rfl (lv_at hl 2 rfl) ?_
        refine zz_lald hC hK hZ (42 + 3 * j + 1) 1 k (by show _ < 291; omega) (xy_cost q j _ _) rfl rfl (by omega) (by decide) rfl d_Label_agreesWith_12 ?_
        refine zz_topl (y := vw_c (g k)) (hg k (by omega)).1 ?_
        refine lv_aload_n hx_ hb_ d_Label_agreesWith_13 rfl (lv_at hl 1 rfl) ?_
        refine zz_get hC hK hZ (42 + 3 * j2) 0 (by show _ < 291; omega) (xy_lab q j2 _ _) rfl hin_Label (by decide) wd_104 rfl rfl d_Label_agreesWith_14 ?_
        refine lv_iload_n hx_ hb_ d_Label_agreesWith_17 rfl (lv_at hl 2 rfl) ?_
        refine zz_lald hC hK hZ (42 + 3 * j2 + 1) 1 k (by show _ < 291; omega) (xy_cost q j2 _ _) rfl rfl (by omega) (by decide) rfl d_Label_agreesWith_18 ?_
        refine zz_topl (y := vw_c (g2 k)) (hg2 k (by omega)).1 ?_
        refine W.lcmp hx_ hb_ d_Label_agreesWith_19 ?_
        refine lv_if_ne (tgt := 38) hx_ hb_ d_Label_agreesWith_20 (by decide) (fun h20 => ?_) (fun h20 => ?_)
        · have h20 : ¬ ((vw_c (g k)) = (vw_c (g2 k))) := fun x => h20 ((lg_cmp_eq _ _).mpr x)
          refine lv_iconst (v := nI 0) hx_ hb_ d_Label_agreesWith_38 (by decide) ?_
          exact zz_zret hC hK hZ rfl d_Label_agreesWith_39 (by decide) ⟨rfl, by
                    rw [if_neg]
                    intro hh
                    have e1 := ns_tup_inj hh.1 k (by omega)
                    have e2 := ns_tup_inj hh.2 k (by omega)
                    first | exact h20 (by rw [e1]) | exact h35 (by rw [e2])⟩
        · have h20 : (vw_c (g k)) = (vw_c (g2 k)) := (lg_cmp_eq _ _).mp h20
          refine lv_aload_n hx_ hb_ d_Label_agreesWith_23 rfl (lv_at hl 0 rfl) ?_
          refine zz_get hC hK hZ (42 + 3 * j) 1 (by show _ < 291; omega) (xy_lab q j _ _) rfl hin_Label (by decide) wd_106 rfl rfl d_Label_agreesWith_24 ?_
          refine lv_iload_n hx_ hb_ d_Label_agreesWith_27 rfl (lv_at hl 2 rfl) ?_
          refine zz_iald hC hK hZ (42 + 3 * j + 2) 0 k (by show _ < 291; omega) (xy_choi q j _ _) rfl rfl (by omega) (by decide) rfl d_Label_agreesWith_28 ?_
          refine zz_topi (y := vw_p (y k)) (hg k (by omega)).2 ?_
          refine lv_aload_n hx_ hb_ d_Label_agreesWith_29 rfl (lv_at hl 1 rfl) ?_
          refine zz_get hC hK hZ (42 + 3 * j2) 1 (by show _ < 291; omega) (xy_lab q j2 _ _) rfl hin_Label (by decide) wd_106 rfl rfl d_Label_agreesWith_30 ?_
          refine lv_iload_n hx_ hb_ d_Label_agreesWith_33 rfl (lv_at hl 2 rfl) ?_
          refine zz_iald hC hK hZ (42 + 3 * j2 + 2) 0 k (by show _ < 291; omega) (xy_choi q j2 _ _) rfl rfl (by omega) (by decide) rfl d_Label_agreesWith_34 ?_
          refine zz_topi (y := vw_p (y2 k)) (hg2 k (by omega)).2 ?_
          refine zz_rjeq (tgt := 40) hC d_Label_agreesWith_35 (by decide) (fun h35 => ?_) (fun h35 => ?_)
          · refine lv_iinc (k := 2) (v := nI (k + 1)) (lv' := [(2, .int (nI (k + 1))), (0, .ref (zz_ad (xg_G q) (42 + 3 * j))), (1, .ref (zz_ad (xg_G q) (42 + 3 * j2)))]) hx_ hb_ d_Label_agreesWith_40 hl rfl (nI_add _ 1) (by decide) rfl (fun ls hl => ?_)
            refine lv_goto (tgt := 2) hx_ hb_ d_Label_agreesWith_43 (by decide) ?_
            exact ih_ _ (by omega) (k + 1)  _ _ _ (by omega) (fun i hi => by
                        by_cases e : i = k
                        · subst e
                          have hb2 := hb1 i (by omega)
                          exact ⟨vw_c_inj hb2.1 hb2.2.1 h20, vw_p_inj hb2.2.2.1 hb2.2.2.2 (Int32.toInt_inj.mp h35)⟩
                        · exact hs i (by omega)) hZ (lv_sub hl [1, 2, 0] rfl) rfl
          · refine lv_iconst (v := nI 0) hx_ hb_ d_Label_agreesWith_38 (by decide) ?_
            exact zz_zret hC hK hZ rfl d_Label_agreesWith_39 (by decide) ⟨rfl, by
                      rw [if_neg]
                      intro hh
                      have e1 := ns_tup_inj hh.1 k (by omega)
                      have e2 := ns_tup_inj hh.2 k (by omega)
                      first | exact h20 (by rw [e1]) | exact h35 (by rw [e2])⟩
  have L2 : ∀ (k : Nat) (H : Heap) (locs : List Loc) (ls : Array Slot) (hk : k ≤ 4) (hs : ∀ i, i < k → g i = g2 i ∧ y i = y2 i) (hZ : zz_Z (xg_G q) S s_.heap H locs) (hl : lv_has ls 3 [(0, .ref (zz_ad (xg_G q) (42 + 3 * j))), (1, .ref (zz_ad (xg_G q) (42 + 3 * j2))), (2, .int (nI k))]), W p_ l e_ rm_Label_agreesWith s_ m_ ([.ref (zz_ad (xg_G q) (42 + 3 * j)), .ref (zz_ad (xg_G q) (42 + 3 * j2))] : List Value).toArray bl_ mt_ c_ H locs 0 0 (MQ bl_ (va_Qi (fun ans S1 => S = S1 ∧ ans = nI (if ns_tup g = ns_tup g2 ∧ ns_tup y = ns_tup y2 then 1 else 0)) (zz_P (xg_G q)) (zz_A (xg_G q))) ([.ref (zz_ad (xg_G q) (42 + 3 * j)), .ref (zz_ad (xg_G q) (42 + 3 * j2))] : List Value).toArray s_ 0 0 (zz_A (xg_G q))) (F0 m_ 2 ls []) := fun k H locs ls hk hs hZ hl => L2_ _ k H locs ls hk hs hZ hl rfl
  refine lv_iconst (v := nI 0) hx_ hb_ d_Label_agreesWith_0 (by decide) ?_
  refine lv_istore_n (i := 2) (lv' := [(2, .int (nI 0)), (0, .ref (zz_ad (xg_G q) (42 + 3 * j))), (1, .ref (zz_ad (xg_G q) (42 + 3 * j2)))]) hx_ hb_ d_Label_agreesWith_1 rfl hl (by decide) rfl (fun ls hl => ?_)
  exact L2 0  _ _ _ (by omega) (fun i hi => absurd hi (Nat.not_lt_zero i)) hZ (lv_sub hl [1, 2, 0] rfl)
