/-! The constructors with loops over labels, and the whole object. Laid by wip/whole/prog/p40.py. -/
section CLPile
variable {p : Program} {l : Launch} {e : Env} {s : State} {m : MethodId} {args : Array Value} {below : List Frame} {meth : Method} {c : Code} {Q : State → Prop} {q : xg_T} {b : Nat}
set_option maxHeartbeats 4000000 in
set_option maxRecDepth 100000 in
theorem ct_loopPile {FS : List Value} {f : Nat → Option Nat} (hC : zz_C p s m args meth c b_Pile_init 2 none "TreeCoverForge$Pile") (hK : ct_K q s) (hf : ∀ i, i < 40 → f i = some (b + (10 + 3 * i))) (hFS : FS[5]? = some (.ref (b + 6))) (kx : ∀ (H : Heap) (locs : List Loc) (ls : Array Slot), ct_Z q.1 xg_cl b 130 (ct_y 4 FS (cy_P q b (fun i => if i < 40 then f i else none))) s.heap H locs → W p l e rc_Pile s m args below meth c H locs 129 650 Q (F0 m 94 ls [])) : ∀ (d k : Nat), k + d = 40 → ∀ (H : Heap) (locs : List Loc) (ls : Array Slot), ct_Z q.1 xg_cl b (10 + 3 * k) (ct_y 4 FS (cy_P q b (fun i => if i < k then f i else none))) s.heap H locs → lv_has ls 2 [(1, .int (nI k)), (0, .ref b)] → W p l e rc_Pile s m args below meth c H locs (9 + 3 * k) (250 + 10 * k) Q (F0 m 66 ls []) := by
  intro d
  induction d with
  | zero =>
    intro k hk H locs ls hZ hl
    refine lv_iload_n hC.1 hC.2.1 d_Pile_init_66 rfl (lv_at hl 0 rfl) ?_
    refine lv_aload_n hC.1 hC.2.1 d_Pile_init_67 rfl (lv_at hl 1 rfl) ?_
    refine ct_get hC hK.1 hZ (by omega) rfl hin_Pile 5 (by decide) wd_122 rfl hFS d_Pile_init_68 ?_
    refine ct_alen hC hK.1 hZ 6 2 (by omega) rfl rfl d_Pile_init_71 ?_
    refine zz_jge (a := k) (b := 40) (tgt := 94) hC d_Pile_init_72 (by decide) (by omega) (by omega) (fun h9 => ?_) (fun h9 => ?_)
    · have e9 : k = 40 := by omega
      subst e9
      exact kx H locs ls hZ
    · exact absurd h9 (by omega)
  | succ d ih =>
    intro k hk H locs ls hZ hl
    refine lv_iload_n hC.1 hC.2.1 d_Pile_init_66 rfl (lv_at hl 0 rfl) ?_
    refine lv_aload_n hC.1 hC.2.1 d_Pile_init_67 rfl (lv_at hl 1 rfl) ?_
    refine ct_get hC hK.1 hZ (by omega) rfl hin_Pile 5 (by decide) wd_122 rfl hFS d_Pile_init_68 ?_
    refine ct_alen hC hK.1 hZ 6 2 (by omega) rfl rfl d_Pile_init_71 ?_
    refine zz_jge (a := k) (b := 40) (tgt := 94) hC d_Pile_init_72 (by decide) (by omega) (by omega) (fun h9 => ?_) (fun h9 => ?_)
    · exact absurd h9 (by omega)
    · refine lv_aload_n hC.1 hC.2.1 d_Pile_init_75 rfl (lv_at hl 1 rfl) ?_
      refine ct_get hC hK.1 hZ (by omega) rfl hin_Pile 5 (by decide) wd_122 rfl hFS d_Pile_init_76 ?_
      refine lv_iload_n hC.1 hC.2.1 d_Pile_init_79 rfl (lv_at hl 0 rfl) ?_
      refine ct_make (n1 := 10 + 3 * (k + 1)) (cells1 := 9 + 3 * (k + 1)) (slots1 := 250 + 10 * (k + 1)) hC hK hZ hin_Label t_Label t_Label_ok (zz_in (i := 97) (by decide +kernel) rfl) wn_Label wi_Label rfl z_Label (c_Label_init l q (b + (10 + 3 * k))) k_Label_init (Or.inr ⟨_, wd_100⟩) ⟨by decide, by decide⟩ (fun i hi => (ct_yi (by omega)).trans (cy_P_lab (k := k + 1) (by omega) hi)) (by omega) (by show 9 + 3 * k + 1 + 2 = _; omega) (by show 250 + 10 * k + 2 + 8 = _; omega) (by show _ ≤ 129; omega) (by show _ ≤ 650; omega) hl.1 (Nat.le_of_ble_eq_true rfl) d_Pile_init_80 d_Pile_init_83 d_Pile_init_84 (fun H locs hZ => ?_)
      refine ct_aast (k := k) (N := 40) (r := (R_Label, F_Label, 2)) (ci := 2) (fs := [.ref (b + (10 + 3 * k) + 1), .ref (b + (10 + 3 * k) + 2)]) (g := (fun i => if i < k + 1 then f i else none)) (Y' := ct_y 4 FS (cy_P q b (fun i => if i < k + 1 then f i else none))) hC hK.1 hZ 6 2 (10 + 3 * k) (by omega) rfl rfl (by omega) ((ct_yi (by omega)).trans (cy_P_lab (n := 10 + 3 * k) (k := k + 1) (i := 0) (by omega) (by decide))) rfl rfl rfl h9 (by decide) rfl (fun j hj => ?_) (fun j hj => ?_) d_Pile_init_87 (fun H locs hZ => ?_)
      · by_cases h : j = k
        · subst h
          show (if j < j + 1 then f j else none) = if j = j then some (b + (10 + 3 * j)) else _
          rw [if_pos (by omega), if_pos rfl]
          exact hf j hj
        · show (if j < k + 1 then f j else none) = if j = k then _ else (if j < k then f j else none)
          rw [if_neg h]
          by_cases h2 : j < k
          · rw [if_pos h2, if_pos (by omega)]
          · rw [if_neg h2, if_neg (by omega)]
      · by_cases h : j = 0
        · subst h
          rfl
        · rw [ct_yi h, ct_yi h]
          exact cy_P_o hj
      refine lv_iinc (k := 0) (v := nI (k + 1)) (lv' := [(1, .int (nI (k + 1))), (0, .ref b)]) hC.1 hC.2.1 d_Pile_init_88 hl rfl (nI_add _ 1) (by decide) rfl (fun ls hl => ?_)
      refine lv_goto (tgt := 66) hC.1 hC.2.1 d_Pile_init_91 (by decide) ?_
      exact ih (k + 1) (by omega) H locs ls hZ hl
end CLPile
set_option maxHeartbeats 4000000 in
set_option maxRecDepth 100000 in
theorem c_Pile_init (l : Launch) (q : xg_T) (b : Nat) (f : Nat → Option Nat) (hf : ∀ i, i < 40 → f i = some (b + (10 + 3 * i))) : ct_M l y_Pile_init b_Pile_init 2 rc_Pile q b 4 [.null, .null, .null, .null, .null, .null, .null, .int (nI 0), .int (nI 0), .int (nI 0)] 130 (cy_P q b f) := by
  refine ct_met (by decide) rfl (by decide) ?_
  intro p e s m below meth c ls hC hin hK hs hZ hl
  have hC : zz_C p s m _ meth c b_Pile_init 2 none "TreeCoverForge$Pile" := hC
  have hx_ := hC.1
  have hb_ := hC.2.1
  have hZ := hZ.congr (Y' := ct_y 4 [.null, .null, .null, .null, .null, .null, .null, .int (nI 0), .int (nI 0), .int (nI 0)] (cy_P q b (fun i => if i < 0 then f i else none))) (fun i hi => by rw [show i = 0 by omega]; rfl)
  refine ct_obj hC hl rfl wd_96 w_oi w_oc d_Pile_init_0 d_Pile_init_1 (by decide) (by decide) ?_
  refine lv_aload_n hx_ hb_ d_Pile_init_4 rfl (lv_at hl 0 rfl) ?_
  refine lv_bipush (v := nI 40) hx_ hb_ d_Pile_init_5 (by decide) ?_
  refine ct_newa (atype := .int) (N := 40) (a0 := (40, .inl (fun _ => nI 0))) (n1 := 2) (cells1 := 1) (slots1 := 40) hC hZ w_arI hK.fI rfl (by decide) (cy_ai (fun _ => rfl)) (by decide) rfl rfl rfl rfl (by decide) (by decide) d_Pile_init_7 (fun H hZ => ?_)
  refine ct_put hC hK.1 hZ (by decide) rfl hin_Pile t_Pile t_Pile_ok n_Pile 0 (by decide) wd_115 rfl (Or.inr ⟨rfl, hin, rfl⟩) (t_Pile_ok 0 (by decide)) rfl rfl (Nat.le_of_ble_eq_true rfl) d_Pile_init_9 (fun H locs hZ => ?_)
  refine lv_aload_n hx_ hb_ d_Pile_init_12 rfl (lv_at hl 0 rfl) ?_
  refine lv_bipush (v := nI 40) hx_ hb_ d_Pile_init_13 (by decide) ?_
  refine ct_newa (atype := .int) (N := 40) (a0 := (40, .inl (fun _ => nI 0))) (n1 := 3) (cells1 := 2) (slots1 := 80) hC hZ w_arI hK.fI rfl (by decide) (cy_ai (fun _ => rfl)) (by decide) rfl rfl rfl rfl (by decide) (by decide) d_Pile_init_15 (fun H hZ => ?_)
  refine ct_put hC hK.1 hZ (by decide) rfl hin_Pile t_Pile t_Pile_ok n_Pile 1 (by decide) wd_117 rfl (Or.inr ⟨rfl, hin, rfl⟩) (t_Pile_ok 1 (by decide)) rfl rfl (Nat.le_of_ble_eq_true rfl) d_Pile_init_17 (fun H locs hZ => ?_)
  refine lv_aload_n hx_ hb_ d_Pile_init_20 rfl (lv_at hl 0 rfl) ?_
  refine lv_bipush (v := nI 40) hx_ hb_ d_Pile_init_21 (by decide) ?_
  refine ct_newa (atype := .int) (N := 40) (a0 := (40, .inl (fun _ => nI 0))) (n1 := 4) (cells1 := 3) (slots1 := 120) hC hZ w_arI hK.fI rfl (by decide) (cy_ai (fun _ => rfl)) (by decide) rfl rfl rfl rfl (by decide) (by decide) d_Pile_init_23 (fun H hZ => ?_)
  refine ct_put hC hK.1 hZ (by decide) rfl hin_Pile t_Pile t_Pile_ok n_Pile 2 (by decide) wd_119 rfl (Or.inr ⟨rfl, hin, rfl⟩) (t_Pile_ok 2 (by decide)) rfl rfl (Nat.le_of_ble_eq_true rfl) d_Pile_init_25 (fun H locs hZ => ?_)
  refine lv_aload_n hx_ hb_ d_Pile_init_28 rfl (lv_at hl 0 rfl) ?_
  refine lv_bipush (v := nI 40) hx_ hb_ d_Pile_init_29 (by decide) ?_
  refine ct_newa (atype := .int) (N := 40) (a0 := (40, .inl (fun _ => nI 0))) (n1 := 5) (cells1 := 4) (slots1 := 160) hC hZ w_arI hK.fI rfl (by decide) (cy_ai (fun _ => rfl)) (by decide) rfl rfl rfl rfl (by decide) (by decide) d_Pile_init_31 (fun H hZ => ?_)
  refine ct_put hC hK.1 hZ (by decide) rfl hin_Pile t_Pile t_Pile_ok n_Pile 3 (by decide) wd_120 rfl (Or.inr ⟨rfl, hin, rfl⟩) (t_Pile_ok 3 (by decide)) rfl rfl (Nat.le_of_ble_eq_true rfl) d_Pile_init_33 (fun H locs hZ => ?_)
  refine lv_aload_n hx_ hb_ d_Pile_init_36 rfl (lv_at hl 0 rfl) ?_
  refine lv_bipush (v := nI 40) hx_ hb_ d_Pile_init_37 (by decide) ?_
  refine ct_newa (atype := .int) (N := 40) (a0 := (40, .inl (fun _ => nI 0))) (n1 := 6) (cells1 := 5) (slots1 := 200) hC hZ w_arI hK.fI rfl (by decide) (cy_ai (fun _ => rfl)) (by decide) rfl rfl rfl rfl (by decide) (by decide) d_Pile_init_39 (fun H hZ => ?_)
  refine ct_put hC hK.1 hZ (by decide) rfl hin_Pile t_Pile t_Pile_ok n_Pile 4 (by decide) wd_121 rfl (Or.inr ⟨rfl, hin, rfl⟩) (t_Pile_ok 4 (by decide)) rfl rfl (Nat.le_of_ble_eq_true rfl) d_Pile_init_41 (fun H locs hZ => ?_)
  refine lv_aload_n hx_ hb_ d_Pile_init_44 rfl (lv_at hl 0 rfl) ?_
  refine lv_bipush (v := nI 40) hx_ hb_ d_Pile_init_45 (by decide) ?_
  refine ct_anew (N := 40) (f := fun i => if i < 0 then f i else none) (n1 := 7) (cells1 := 6) (slots1 := 240) hC hK hZ (zz_in (i := 97) (by decide +kernel) rfl) rfl (by decide) (fun i _ => if_neg (Nat.not_lt_zero i)) rfl rfl rfl rfl (by decide) (by decide) d_Pile_init_47 (fun H hZ => ?_)
  refine ct_put hC hK.1 hZ (by decide) rfl hin_Pile t_Pile t_Pile_ok n_Pile 5 (by decide) wd_122 rfl (Or.inr ⟨rfl, hin, rfl⟩) (t_Pile_ok 5 (by decide)) rfl rfl (Nat.le_of_ble_eq_true rfl) d_Pile_init_50 (fun H locs hZ => ?_)
  refine lv_aload_n hx_ hb_ d_Pile_init_53 rfl (lv_at hl 0 rfl) ?_
  refine ct_make (n1 := 10) (cells1 := 9) (slots1 := 250) hC hK hZ hin_Label t_Label t_Label_ok (zz_in (i := 97) (by decide +kernel) rfl) wn_Label wi_Label rfl z_Label (c_Label_init l q _) k_Label_init (Or.inr ⟨_, wd_100⟩) ⟨by decide, by decide⟩ (fun i hi => (ct_yi (by omega)).trans (cy_P_lab (k := 0) rfl hi)) rfl rfl rfl (by decide) (by decide) hl.1 (Nat.le_of_ble_eq_true rfl) d_Pile_init_54 d_Pile_init_57 d_Pile_init_58 (fun H locs hZ => ?_)
  refine ct_put hC hK.1 hZ (by decide) rfl hin_Pile t_Pile t_Pile_ok n_Pile 6 (by decide) wd_124 rfl (Or.inr ⟨rfl, hin, rfl⟩) (t_Pile_ok 6 (by decide)) rfl rfl (Nat.le_of_ble_eq_true rfl) d_Pile_init_61 (fun H locs hZ => ?_)
  refine lv_iconst (v := nI 0) hx_ hb_ d_Pile_init_64 (by decide) ?_
  refine lv_istore_n (i := 1) (lv' := [(1, .int (nI 0)), (0, .ref b)]) hx_ hb_ d_Pile_init_65 rfl hl (by decide) rfl (fun ls hl => ?_)
  refine ct_loopPile hC hK hf ?_ (fun H locs ls hZ => ?_) 40 0 rfl H locs ls hZ hl
  · rfl
  · refine ct_ret hC rfl (hZ.arr (k := 6) rfl rfl (fun i hi => if_pos hi) (fun j hj => ?_)) d_Pile_init_94
    by_cases h : j = 0
    · subst h
      rfl
    · rw [ct_yi h]
      exact cy_P_o hj
section CLTable
variable {p : Program} {l : Launch} {e : Env} {s : State} {m : MethodId} {args : Array Value} {below : List Frame} {meth : Method} {c : Code} {Q : State → Prop} {q : xg_T} {b : Nat}
set_option maxHeartbeats 4000000 in
set_option maxRecDepth 100000 in
theorem ct_loopTable {FS : List Value} {f : Nat → Option Nat} (hC : zz_C p s m args meth c b_Table_init 2 none "TreeCoverForge$StateTable") (hK : ct_K q s) (hf : ∀ i, i < 41 → f i = some (b + (5 + 3 * i))) (hFS : FS[0]? = some (.ref (b + 1))) (kx : ∀ (H : Heap) (locs : List Loc) (ls : Array Slot), ct_Z q.1 xg_cl b 128 (ct_y 3 FS (cy_T q b (fun i => if i < 41 then f i else none))) s.heap H locs → W p l e rc_Table s m args below meth c H locs 127 461 Q (F0 m 59 ls [])) : ∀ (d k : Nat), k + d = 41 → ∀ (H : Heap) (locs : List Loc) (ls : Array Slot), ct_Z q.1 xg_cl b (5 + 3 * k) (ct_y 3 FS (cy_T q b (fun i => if i < k then f i else none))) s.heap H locs → lv_has ls 2 [(1, .int (nI k)), (0, .ref b)] → W p l e rc_Table s m args below meth c H locs (4 + 3 * k) (51 + 10 * k) Q (F0 m 31 ls []) := by
  intro d
  induction d with
  | zero =>
    intro k hk H locs ls hZ hl
    refine lv_iload_n hC.1 hC.2.1 d_Table_init_31 rfl (lv_at hl 0 rfl) ?_
    refine lv_aload_n hC.1 hC.2.1 d_Table_init_32 rfl (lv_at hl 1 rfl) ?_
    refine ct_get hC hK.1 hZ (by omega) rfl hin_Table 0 (by decide) wd_161 rfl hFS d_Table_init_33 ?_
    refine ct_alen hC hK.1 hZ 1 2 (by omega) rfl rfl d_Table_init_36 ?_
    refine zz_jge (a := k) (b := 41) (tgt := 59) hC d_Table_init_37 (by decide) (by omega) (by omega) (fun h9 => ?_) (fun h9 => ?_)
    · have e9 : k = 41 := by omega
      subst e9
      exact kx H locs ls hZ
    · exact absurd h9 (by omega)
  | succ d ih =>
    intro k hk H locs ls hZ hl
    refine lv_iload_n hC.1 hC.2.1 d_Table_init_31 rfl (lv_at hl 0 rfl) ?_
    refine lv_aload_n hC.1 hC.2.1 d_Table_init_32 rfl (lv_at hl 1 rfl) ?_
    refine ct_get hC hK.1 hZ (by omega) rfl hin_Table 0 (by decide) wd_161 rfl hFS d_Table_init_33 ?_
    refine ct_alen hC hK.1 hZ 1 2 (by omega) rfl rfl d_Table_init_36 ?_
    refine zz_jge (a := k) (b := 41) (tgt := 59) hC d_Table_init_37 (by decide) (by omega) (by omega) (fun h9 => ?_) (fun h9 => ?_)
    · exact absurd h9 (by omega)
    · refine lv_aload_n hC.1 hC.2.1 d_Table_init_40 rfl (lv_at hl 1 rfl) ?_
      refine ct_get hC hK.1 hZ (by omega) rfl hin_Table 0 (by decide) wd_161 rfl hFS d_Table_init_41 ?_
      refine lv_iload_n hC.1 hC.2.1 d_Table_init_44 rfl (lv_at hl 0 rfl) ?_
      refine ct_make (n1 := 5 + 3 * (k + 1)) (cells1 := 4 + 3 * (k + 1)) (slots1 := 51 + 10 * (k + 1)) hC hK hZ hin_Label t_Label t_Label_ok (zz_in (i := 159) (by decide +kernel) rfl) wn_Label wi_Label rfl z_Label (c_Label_init l q (b + (5 + 3 * k))) k_Label_init (Or.inr ⟨_, wd_160⟩) ⟨by decide, by decide⟩ (fun i hi => (ct_yi (by omega)).trans (cy_T_lab (k := k + 1) (by omega) hi)) (by omega) (by show 4 + 3 * k + 1 + 2 = _; omega) (by show 51 + 10 * k + 2 + 8 = _; omega) (by show _ ≤ 127; omega) (by show _ ≤ 461; omega) hl.1 (Nat.le_of_ble_eq_true rfl) d_Table_init_45 d_Table_init_48 d_Table_init_49 (fun H locs hZ => ?_)
      refine ct_aast (k := k) (N := 41) (r := (R_Label, F_Label, 2)) (ci := 2) (fs := [.ref (b + (5 + 3 * k) + 1), .ref (b + (5 + 3 * k) + 2)]) (g := (fun i => if i < k + 1 then f i else none)) (Y' := ct_y 3 FS (cy_T q b (fun i => if i < k + 1 then f i else none))) hC hK.1 hZ 1 2 (5 + 3 * k) (by omega) rfl rfl (by omega) ((ct_yi (by omega)).trans (cy_T_lab (n := 5 + 3 * k) (k := k + 1) (i := 0) (by omega) (by decide))) rfl rfl rfl h9 (by decide) rfl (fun j hj => ?_) (fun j hj => ?_) d_Table_init_52 (fun H locs hZ => ?_)
      · by_cases h : j = k
        · subst h
          show (if j < j + 1 then f j else none) = if j = j then some (b + (5 + 3 * j)) else _
          rw [if_pos (by omega), if_pos rfl]
          exact hf j hj
        · show (if j < k + 1 then f j else none) = if j = k then _ else (if j < k then f j else none)
          rw [if_neg h]
          by_cases h2 : j < k
          · rw [if_pos h2, if_pos (by omega)]
          · rw [if_neg h2, if_neg (by omega)]
      · by_cases h : j = 0
        · subst h
          rfl
        · rw [ct_yi h, ct_yi h]
          exact cy_T_o hj
      refine lv_iinc (k := 0) (v := nI (k + 1)) (lv' := [(1, .int (nI (k + 1))), (0, .ref b)]) hC.1 hC.2.1 d_Table_init_53 hl rfl (nI_add _ 1) (by decide) rfl (fun ls hl => ?_)
      refine lv_goto (tgt := 31) hC.1 hC.2.1 d_Table_init_56 (by decide) ?_
      exact ih (k + 1) (by omega) H locs ls hZ hl
end CLTable
set_option maxHeartbeats 4000000 in
set_option maxRecDepth 100000 in
theorem c_Table_init (l : Launch) (q : xg_T) (b : Nat) (f : Nat → Option Nat) (hf : ∀ i, i < 41 → f i = some (b + (5 + 3 * i))) : ct_M l y_Table_init b_Table_init 2 rc_Table q b 3 [.null, .null, .int (nI 0), .int (nI 0)] 128 (cy_T q b f) := by
  refine ct_met (by decide) rfl (by decide) ?_
  intro p e s m below meth c ls hC hin hK hs hZ hl
  have hC : zz_C p s m _ meth c b_Table_init 2 none "TreeCoverForge$StateTable" := hC
  have hx_ := hC.1
  have hb_ := hC.2.1
  have hZ := hZ.congr (Y' := ct_y 3 [.null, .null, .int (nI 0), .int (nI 0)] (cy_T q b (fun i => if i < 0 then f i else none))) (fun i hi => by rw [show i = 0 by omega]; rfl)
  refine ct_obj hC hl rfl wd_158 w_oi w_oc d_Table_init_0 d_Table_init_1 (by decide) (by decide) ?_
  refine lv_aload_n hx_ hb_ d_Table_init_4 rfl (lv_at hl 0 rfl) ?_
  refine lv_bipush (v := nI 41) hx_ hb_ d_Table_init_5 (by decide) ?_
  refine ct_anew (N := 41) (f := fun i => if i < 0 then f i else none) (n1 := 2) (cells1 := 1) (slots1 := 41) hC hK hZ (zz_in (i := 159) (by decide +kernel) rfl) rfl (by decide) (fun i _ => if_neg (Nat.not_lt_zero i)) rfl rfl rfl rfl (by decide) (by decide) d_Table_init_7 (fun H hZ => ?_)
  refine ct_put hC hK.1 hZ (by decide) rfl hin_Table t_Table t_Table_ok n_Table 0 (by decide) wd_161 rfl (Or.inr ⟨rfl, hin, rfl⟩) (t_Table_ok 0 (by decide)) rfl rfl (Nat.le_of_ble_eq_true rfl) d_Table_init_10 (fun H locs hZ => ?_)
  refine lv_aload_n hx_ hb_ d_Table_init_13 rfl (lv_at hl 0 rfl) ?_
  refine ct_make (n1 := 5) (cells1 := 4) (slots1 := 51) hC hK hZ hin_Label t_Label t_Label_ok (zz_in (i := 159) (by decide +kernel) rfl) wn_Label wi_Label rfl z_Label (c_Label_init l q _) k_Label_init (Or.inr ⟨_, wd_160⟩) ⟨by decide, by decide⟩ (fun i hi => (ct_yi (by omega)).trans (cy_T_lab (k := 0) rfl hi)) rfl rfl rfl (by decide) (by decide) hl.1 (Nat.le_of_ble_eq_true rfl) d_Table_init_14 d_Table_init_17 d_Table_init_18 (fun H locs hZ => ?_)
  refine ct_put hC hK.1 hZ (by decide) rfl hin_Table t_Table t_Table_ok n_Table 1 (by decide) wd_162 rfl (Or.inr ⟨rfl, hin, rfl⟩) (t_Table_ok 1 (by decide)) rfl rfl (Nat.le_of_ble_eq_true rfl) d_Table_init_21 (fun H locs hZ => ?_)
  refine lv_aload_n hx_ hb_ d_Table_init_24 rfl (lv_at hl 0 rfl) ?_
  refine lv_iconst (v := nI 0) hx_ hb_ d_Table_init_25 (by decide) ?_
  refine ct_put hC hK.1 hZ (by decide) rfl hin_Table t_Table t_Table_ok n_Table 3 (by decide) wd_164 rfl (Or.inl rfl) (t_Table_ok 3 (by decide)) rfl rfl (Nat.le_of_ble_eq_true rfl) d_Table_init_26 (fun H locs hZ => ?_)
  refine lv_iconst (v := nI 0) hx_ hb_ d_Table_init_29 (by decide) ?_
  refine lv_istore_n (i := 1) (lv' := [(1, .int (nI 0)), (0, .ref b)]) hx_ hb_ d_Table_init_30 rfl hl (by decide) rfl (fun ls hl => ?_)
  refine ct_loopTable hC hK hf ?_ (fun H locs ls hZ => ?_) 41 0 rfl H locs ls hZ hl
  · rfl
  · refine ct_ret hC rfl (hZ.arr (k := 1) rfl rfl (fun i hi => if_pos hi) (fun j hj => ?_)) d_Table_init_59
    by_cases h : j = 0
    · subst h
      rfl
    · rw [ct_yi h]
      exact cy_T_o hj
/-- where the class's cells lie behind its object's address, and back -/
def xo_off (c : Nat) : Nat := if c < 8 then c else if c = 8 then 17 else if c < 18 then c - 1 else if c < 25 then c else if c < 27 then c + 123 else if c < 41 then c + 249 else if c = 41 then 290 else if c < 162 then c - 14 else if c < 165 then c - 137 else c - 15
def xo_inv (i : Nat) : Nat := if i < 8 then i else if i < 17 then i + 1 else if i = 17 then 8 else if i < 25 then i else if i < 28 then i + 137 else if i < 148 then i + 14 else if i < 150 then i - 123 else if i < 276 then i + 15 else if i < 290 then i - 249 else 41
theorem xo_io : ∀ c, c < 291 → xo_off c < 291 ∧ xo_inv (xo_off c) = c := by decide +kernel
def xo_lab (n : Nat) : Bool := 42 ≤ xo_inv n && (xo_inv n - 42) % 3 == 0 && xo_inv (n + 1) == xo_inv n + 1 && xo_inv (n + 2) == xo_inv n + 2 && xo_off (xo_inv n + 1) == n + 1 && xo_off (xo_inv n + 2) == n + 2
theorem xo_labP : ∀ k, k < 41 → xo_lab (25 + 3 * k) = true := by decide +kernel
theorem xo_labT : ∀ k, k < 42 → xo_lab (150 + 3 * k) = true := by decide +kernel
theorem xo_fP : ∀ k, k < 40 → xo_off (42 + 3 * k) = 18 + (10 + 3 * k) := by decide +kernel
theorem xo_fT : ∀ k, k < 41 → xo_off (42 + 3 * (42 + k)) = 148 + (5 + 3 * k) := by decide +kernel
theorem xo_fB : ∀ k, k < 9 → xo_off (9 + k) = 1 + (6 + 1 + k) := by decide +kernel
abbrev xo_q (q : xg_T) (b : Nat) : xg_T := (q.1, (fun c => b + xo_off c), q.2.2)
def cy_F (q : xg_T) (b : Nat) : Nat → va_E := fun i => xy_Y (xo_q q b) (xo_inv i) (lj_F.1 (xo_inv i)) (lj_F.2 (xo_inv i))
theorem cy_F_lab {q : xg_T} {b n i : Nat} (h : xo_lab n = true) (hi : i < 3) : cy_F q b (n + i) = cy_L q (b + n) i := by
  unfold xo_lab at h
  simp only [Bool.and_eq_true, decide_eq_true_eq, beq_iff_eq] at h
  obtain ⟨⟨⟨⟨⟨h1, h2⟩, h3⟩, h4⟩, h5⟩, h6⟩ := h
  unfold cy_F
  rcases (show i = 0 ∨ i = 1 ∨ i = 2 by omega) with rfl | rfl | rfl
  · show xy_Y (xo_q q b) (xo_inv n) (lj_F.1 (xo_inv n)) (lj_F.2 (xo_inv n)) = .inr (2, [.ref (b + n + 1), .ref (b + n + 2)])
    unfold xy_Y
    rw [if_pos h1, if_pos h2]
    show Sum.inr (2, [Value.ref (b + xo_off (xo_inv n + 1)), Value.ref (b + xo_off (xo_inv n + 2))]) = _
    rw [h5, h6]
    rfl
  · show xy_Y (xo_q q b) (xo_inv (n + 1)) (lj_F.1 (xo_inv (n + 1))) (lj_F.2 (xo_inv (n + 1))) = .inl (q.2.2.2.1, 4, .inr (.inl (fun _ => lN 0)))
    rw [h3]
    unfold xy_Y
    rw [if_pos (by omega), if_neg (by omega), if_pos (by omega)]
    rfl
  · show xy_Y (xo_q q b) (xo_inv (n + 2)) (lj_F.1 (xo_inv (n + 2))) (lj_F.2 (xo_inv (n + 2))) = .inl (q.2.2.1, 4, .inl (fun _ => nI 0))
    rw [h4]
    unfold xy_Y
    rw [if_pos (by omega), if_neg (by omega), if_neg (by omega)]
    rw [show lj_F.1 (xo_inv n + 2) = fun _ => nI 0 from funext fun k => lj_F0 (by omega)]
theorem cy_F_P {q : xg_T} {b i : Nat} (hi : i < 130) : cy_F q b (18 + i) = cy_P q (b + 18) (fun i => some (b + xo_off (42 + 3 * i))) i := by
  by_cases h : 7 ≤ i
  · have e : i = 7 + 3 * ((i - 7) / 3) + (i - 7) % 3 := by omega
    generalize hk : (i - 7) / 3 = k at e
    generalize hr : (i - 7) % 3 = r at e
    have hr3 : r < 3 := by omega
    have hk3 : k < 41 := by omega
    subst e
    rw [cy_P_lab (k := k) rfl hr3, show 18 + (7 + 3 * k + r) = 25 + 3 * k + r by omega, cy_F_lab (xo_labP k hk3) hr3, show b + 18 + (7 + 3 * k) = b + (25 + 3 * k) by omega]
  · rcases (show i = 0 ∨ i = 1 ∨ i = 2 ∨ i = 3 ∨ i = 4 ∨ i = 5 ∨ i = 6 by omega) with rfl | rfl | rfl | rfl | rfl | rfl | rfl <;> rfl
theorem cy_F_T {q : xg_T} {b i : Nat} (hi : i < 128) : cy_F q b (148 + i) = cy_T q (b + 148) (fun i => some (b + xo_off (42 + 3 * (42 + i)))) i := by
  by_cases h : 2 ≤ i
  · have e : i = 2 + 3 * ((i - 2) / 3) + (i - 2) % 3 := by omega
    generalize hk : (i - 2) / 3 = k at e
    generalize hr : (i - 2) % 3 = r at e
    have hr3 : r < 3 := by omega
    have hk3 : k < 42 := by omega
    subst e
    rw [cy_T_lab (k := k) rfl hr3, show 148 + (2 + 3 * k + r) = 150 + 3 * k + r by omega, cy_F_lab (xo_labT k hk3) hr3, show b + 148 + (2 + 3 * k) = b + (150 + 3 * k) by omega]
  · rcases (show i = 0 ∨ i = 1 by omega) with rfl | rfl <;> rfl
theorem cy_F_B {q : xg_T} {b i : Nat} (hi : i < 17) : cy_F q b (1 + i) = cy_B q (b + 1) (fun i => some (b + xo_off (9 + i))) i := by
  rcases (show i = 0 ∨ i = 1 ∨ i = 2 ∨ i = 3 ∨ i = 4 ∨ i = 5 ∨ i = 6 ∨ i = 7 ∨ i = 8 ∨ i = 9 ∨ i = 10 ∨ i = 11 ∨ i = 12 ∨ i = 13 ∨ i = 14 ∨ i = 15 ∨ i = 16 by omega) with rfl | rfl | rfl | rfl | rfl | rfl | rfl | rfl | rfl | rfl | rfl | rfl | rfl | rfl | rfl | rfl | rfl <;> rfl
theorem cy_F_C {q : xg_T} {b i : Nat} (hi : i < 14) : cy_F q b (276 + i) = cy_C q (b + 276) i := by
  rcases (show i = 0 ∨ i = 1 ∨ i = 2 ∨ i = 3 ∨ i = 4 ∨ i = 5 ∨ i = 6 ∨ i = 7 ∨ i = 8 ∨ i = 9 ∨ i = 10 ∨ i = 11 ∨ i = 12 ∨ i = 13 by omega) with rfl | rfl | rfl | rfl | rfl | rfl | rfl | rfl | rfl | rfl | rfl | rfl | rfl | rfl <;> rfl
set_option maxHeartbeats 4000000 in
set_option maxRecDepth 100000 in
theorem c_Forge_init (l : Launch) (q : xg_T) (b : Nat) : ct_M l y_Forge_init b_Forge_init 1 rc_Forge q b 0 [.null, .null, .null, .null, .null, .int (nI 0)] 291 (cy_F q b) := by
  refine ct_met (by decide) rfl (by decide) ?_
  intro p e s m below meth c ls hC hin hK hs hZ hl
  have hC : zz_C p s m _ meth c b_Forge_init 1 none "TreeCoverForge" := hC
  have hx_ := hC.1
  have hb_ := hC.2.1
  have hZ := hZ.congr (Y' := ct_y 0 [.null, .null, .null, .null, .null, .int (nI 0)] (cy_F q b)) (fun i hi => by rw [show i = 0 by omega]; rfl)
  refine ct_obj hC hl rfl wd_44 w_oi w_oc d_Forge_init_0 d_Forge_init_1 (by decide) (by decide) ?_
  refine lv_aload_n hx_ hb_ d_Forge_init_4 rfl (lv_at hl 0 rfl) ?_
  refine ct_make (n1 := 18) (cells1 := 17) (slots1 := 362) hC hK hZ hin_Book t_Book t_Book_ok (zz_in (i := 47) (by decide +kernel) rfl) wn_Book wi_Book rfl z_Book (c_Book_init l q _ (fun i => some (b + xo_off (9 + i))) (fun i hi => by show some (b + xo_off (9 + i)) = some _; rw [xo_fB i hi]; exact congrArg some (by omega))) k_Book_init (Or.inr ⟨_, wd_49⟩) ⟨by decide, by decide⟩ (fun i hi => (ct_yi (by omega)).trans (cy_F_B hi)) rfl rfl rfl (by decide) (by decide) hl.1 (Nat.le_of_ble_eq_true rfl) d_Forge_init_5 d_Forge_init_8 d_Forge_init_9 (fun H locs hZ => ?_)
  refine ct_put hC hK.1 hZ (by decide) rfl hin_Forge t_Forge t_Forge_ok n_Forge 0 (by decide) wd_229 rfl (Or.inr ⟨rfl, hin, rfl⟩) (t_Forge_ok 0 (by decide)) rfl rfl (Nat.le_of_ble_eq_true rfl) d_Forge_init_12 (fun H locs hZ => ?_)
  refine lv_aload_n hx_ hb_ d_Forge_init_15 rfl (lv_at hl 0 rfl) ?_
  refine ct_make (n1 := 148) (cells1 := 147) (slots1 := 1022) hC hK hZ hin_Pile t_Pile t_Pile_ok (zz_in (i := 91) (by decide +kernel) rfl) wn_Pile wi_Pile rfl z_Pile (c_Pile_init l q _ (fun i => some (b + xo_off (42 + 3 * i))) (fun i hi => by show some (b + xo_off (42 + 3 * i)) = some _; rw [xo_fP i hi]; exact congrArg some (by omega))) k_Pile_init (Or.inl wd_93) ⟨by decide, by decide⟩ (fun i hi => (ct_yi (by omega)).trans (cy_F_P hi)) rfl rfl rfl (by decide) (by decide) hl.1 (Nat.le_of_ble_eq_true rfl) d_Forge_init_16 d_Forge_init_19 d_Forge_init_20 (fun H locs hZ => ?_)
  refine ct_put hC hK.1 hZ (by decide) rfl hin_Forge t_Forge t_Forge_ok n_Forge 1 (by decide) wd_230 rfl (Or.inr ⟨rfl, hin, rfl⟩) (t_Forge_ok 1 (by decide)) rfl rfl (Nat.le_of_ble_eq_true rfl) d_Forge_init_23 (fun H locs hZ => ?_)
  refine lv_aload_n hx_ hb_ d_Forge_init_26 rfl (lv_at hl 0 rfl) ?_
  refine ct_make (n1 := 276) (cells1 := 275) (slots1 := 1487) hC hK hZ hin_Table t_Table t_Table_ok (zz_in (i := 153) (by decide +kernel) rfl) wn_Table wi_Table rfl z_Table (c_Table_init l q _ (fun i => some (b + xo_off (42 + 3 * (42 + i)))) (fun i hi => by show some (b + xo_off (42 + 3 * (42 + i))) = some _; rw [xo_fT i hi]; exact congrArg some (by omega))) k_Table_init (Or.inl wd_155) ⟨by decide, by decide⟩ (fun i hi => (ct_yi (by omega)).trans (cy_F_T hi)) rfl rfl rfl (by decide) (by decide) hl.1 (Nat.le_of_ble_eq_true rfl) d_Forge_init_27 d_Forge_init_30 d_Forge_init_31 (fun H locs hZ => ?_)
  refine ct_put hC hK.1 hZ (by decide) rfl hin_Forge t_Forge t_Forge_ok n_Forge 2 (by decide) wd_231 rfl (Or.inr ⟨rfl, hin, rfl⟩) (t_Forge_ok 2 (by decide)) rfl rfl (Nat.le_of_ble_eq_true rfl) d_Forge_init_34 (fun H locs hZ => ?_)
  refine lv_aload_n hx_ hb_ d_Forge_init_37 rfl (lv_at hl 0 rfl) ?_
  refine ct_make (n1 := 290) (cells1 := 289) (slots1 := 3034) hC hK hZ hin_Code t_Code t_Code_ok (zz_in (i := 175) (by decide +kernel) rfl) wn_Code wi_Code rfl z_Code (c_Code_init l q _) k_Code_init (Or.inr ⟨_, wd_177⟩) ⟨by decide, by decide⟩ (fun i hi => (ct_yi (by omega)).trans (cy_F_C hi)) rfl rfl rfl (by decide) (by decide) hl.1 (Nat.le_of_ble_eq_true rfl) d_Forge_init_38 d_Forge_init_41 d_Forge_init_42 (fun H locs hZ => ?_)
  refine ct_put hC hK.1 hZ (by decide) rfl hin_Forge t_Forge t_Forge_ok n_Forge 3 (by decide) wd_232 rfl (Or.inr ⟨rfl, hin, rfl⟩) (t_Forge_ok 3 (by decide)) rfl rfl (Nat.le_of_ble_eq_true rfl) d_Forge_init_45 (fun H locs hZ => ?_)
  refine lv_aload_n hx_ hb_ d_Forge_init_48 rfl (lv_at hl 0 rfl) ?_
  refine lv_bipush (v := nI 8) hx_ hb_ d_Forge_init_49 (by decide) ?_
  refine ct_newa (atype := .int) (N := 8) (a0 := (8, .inl (lj_F.1 41))) (n1 := 291) (cells1 := 290) (slots1 := 3042) hC hZ w_arI hK.fI rfl (by decide) (cy_ai (fun _ => lj_F0 (fun h => absurd h.1 (by decide)))) (by decide) rfl rfl rfl rfl (by decide) (by decide) d_Forge_init_51 (fun H hZ => ?_)
  refine ct_put hC hK.1 hZ (by decide) rfl hin_Forge t_Forge t_Forge_ok n_Forge 4 (by decide) wd_233 rfl (Or.inr ⟨rfl, hin, rfl⟩) (t_Forge_ok 4 (by decide)) rfl rfl (Nat.le_of_ble_eq_true rfl) d_Forge_init_53 (fun H locs hZ => ?_)
  refine lv_aload_n hx_ hb_ d_Forge_init_56 rfl (lv_at hl 0 rfl) ?_
  refine lv_iconst (v := nI 3) hx_ hb_ d_Forge_init_57 (by decide) ?_
  refine ct_put hC hK.1 hZ (by decide) rfl hin_Forge t_Forge t_Forge_ok n_Forge 5 (by decide) wd_234 rfl (Or.inl rfl) (t_Forge_ok 5 (by decide)) rfl rfl (Nat.le_of_ble_eq_true rfl) d_Forge_init_58 (fun H locs hZ => ?_)
  refine ct_ret hC rfl (hZ.congr (fun i hi => ?_)) d_Forge_init_61
  by_cases h : i = 0
  · subst h
    rfl
  · exact ct_yi h
