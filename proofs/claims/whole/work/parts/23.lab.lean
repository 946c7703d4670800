/-! Labels: questions and offers. Laid by wip/whole/prog/p3.py. -/
set_option maxHeartbeats 4000000 in
set_option maxRecDepth 100000 in
theorem c_fill8 (l : Launch) (q : xg_T) (S : zz_S)  (v : Int32) : Met l y_Arrays_fillI (Cond.code y_Arrays_fillI b_Arrays_fillI 4 none :: zz_tbl) rm_Arrays_fillI (zz_Pc [.ref (zz_ad (xg_G q) 8), .int v] (xg_G q) S) (va_Qv (fun S1 => zz_off (fun c => c = 8) S S1 ∧ ∀ k, k < 9 → S1.1 8 k = v) (zz_P (xg_G q)) (zz_A (xg_G q))) 0 0 (zz_A (xg_G q)) := by
  refine zz_met (by decide) (Nat.le_of_ble_eq_true rfl) ?_
  intro p_ e_ s_ m_ bl_ mt_ c_ ls hC hK hZ hl
  have hC : zz_C p_ s_ m_ _ mt_ c_ b_Arrays_fillI 4 none "java/util/Arrays" := hC
  have hx_ := hC.1
  have hb_ := hC.2.1
  have hl : lv_has ls 4 [(0, .ref (zz_ad (xg_G q) 8)), (1, .int v)] := hl
  have L5_ : ∀ (n_ : Nat) (i : Nat) (Si : zz_S) (H : Heap) (locs : List Loc) (ls : Array Slot) (hi : i ≤ 9) (ho : zz_off (fun c => c = 8) S Si) (hs : ∀ k, k < i → Si.1 8 k = v) (hZ : zz_Z (xg_G q) Si s_.heap H locs) (hl : lv_has ls 4 [(0, .ref (zz_ad (xg_G q) 8)), (1, .int v), (2, .int (nI i)), (3, .int (nI 9))]) (hn_ : 9 - i = n_), W p_ l e_ rm_Arrays_fillI s_ m_ ([.ref (zz_ad (xg_G q) 8), .int v] : List Value).toArray bl_ mt_ c_ H locs 0 0 (MQ bl_ (va_Qv (fun S1 => zz_off (fun c => c = 8) S S1 ∧ ∀ k, k < 9 → S1.1 8 k = v) (zz_P (xg_G q)) (zz_A (xg_G q))) ([.ref (zz_ad (xg_G q) 8), .int v] : List Value).toArray s_ 0 0 (zz_A (xg_G q))) (F0 m_ 5 ls []) := by
    intro n_
    induction n_ using Nat.strongRecOn with
    | ind n_ ih_ =>
      intro i Si H locs ls hi ho hs hZ hl hn_
      refine lv_iload_n hx_ hb_ d_Arrays_fillI_5 rfl (lv_at hl 2 rfl) ?_
      refine lv_iload_n hx_ hb_ d_Arrays_fillI_6 rfl (lv_at hl 3 rfl) ?_
      refine zz_jge (tgt := 20) hC d_Arrays_fillI_7 (by decide) (by omega) (by omega) (fun h7 => ?_) (fun h7 => ?_)
      · exact zz_vret hC hK hZ rfl d_Arrays_fillI_20 ⟨ho, fun k hk => hs k (by omega)⟩
      · refine lv_aload_n hx_ hb_ d_Arrays_fillI_10 rfl (lv_at hl 0 rfl) ?_
        refine lv_iload_n hx_ hb_ d_Arrays_fillI_11 rfl (lv_at hl 2 rfl) ?_
        refine lv_iload_n hx_ hb_ d_Arrays_fillI_12 rfl (lv_at hl 1 rfl) ?_
        refine zz_iast hC hK hZ 8 0 i (Nat.le_of_ble_eq_true rfl) (fun _ => xc_8 q _ _) rfl rfl (by omega) (by decide) d_Arrays_fillI_13 (fun H locs hZ => ?_)
        refine lv_iinc (k := 2) (v := nI (i + 1)) (lv' := [(2, .int (nI (i + 1))), (0, .ref (zz_ad (xg_G q) 8)), (1, .int v), (3, .int (nI 9))]) hx_ hb_ d_Arrays_fillI_14 hl rfl (nI_add _ 1) (by decide) rfl (fun ls hl => ?_)
        refine lv_goto (tgt := 5) hx_ hb_ d_Arrays_fillI_17 (by decide) ?_
        exact ih_ _ (by omega) (i + 1) (zz_u Si 8 i v)  _ _ _ (by omega) (zz_off_tr ho (fun d hd => ⟨zz_u1 Si _ i v d hd, rfl⟩)) (fun k hk => by
                    rw [zz_u1s]
                    by_cases e : k = i
                    · rw [e, pk_us]
                    · rw [pk_un e]
                      exact hs k (by omega)) hZ (lv_sub hl [1, 2, 0, 3] rfl) rfl
  have L5 : ∀ (i : Nat) (Si : zz_S) (H : Heap) (locs : List Loc) (ls : Array Slot) (hi : i ≤ 9) (ho : zz_off (fun c => c = 8) S Si) (hs : ∀ k, k < i → Si.1 8 k = v) (hZ : zz_Z (xg_G q) Si s_.heap H locs) (hl : lv_has ls 4 [(0, .ref (zz_ad (xg_G q) 8)), (1, .int v), (2, .int (nI i)), (3, .int (nI 9))]), W p_ l e_ rm_Arrays_fillI s_ m_ ([.ref (zz_ad (xg_G q) 8), .int v] : List Value).toArray bl_ mt_ c_ H locs 0 0 (MQ bl_ (va_Qv (fun S1 => zz_off (fun c => c = 8) S S1 ∧ ∀ k, k < 9 → S1.1 8 k = v) (zz_P (xg_G q)) (zz_A (xg_G q))) ([.ref (zz_ad (xg_G q) 8), .int v] : List Value).toArray s_ 0 0 (zz_A (xg_G q))) (F0 m_ 5 ls []) := fun i Si H locs ls hi ho hs hZ hl => L5_ _ i Si H locs ls hi ho hs hZ hl rfl
  refine lv_iconst (v := nI 0) hx_ hb_ d_Arrays_fillI_0 (by decide) ?_
  refine lv_istore_n (i := 2) (lv' := [(2, .int (nI 0)), (0, .ref (zz_ad (xg_G q) 8)), (1, .int v)]) hx_ hb_ d_Arrays_fillI_1 rfl hl (by decide) rfl (fun ls hl => ?_)
  refine lv_aload_n hx_ hb_ d_Arrays_fillI_2 rfl (lv_at hl 1 rfl) ?_
  refine zz_alen hC hK hZ 8 0 (Nat.le_of_ble_eq_true rfl) (xc_8 q _ _) rfl d_Arrays_fillI_3 ?_
  refine lv_istore_n (i := 3) (lv' := [(3, .int (nI 9)), (2, .int (nI 0)), (0, .ref (zz_ad (xg_G q) 8)), (1, .int v)]) hx_ hb_ d_Arrays_fillI_4 rfl hl (by decide) rfl (fun ls hl => ?_)
  exact L5 0 S  _ _ _ (by omega) zz_off_rf (fun k hk => absurd hk (Nat.not_lt_zero k)) hZ (lv_sub hl [2, 3, 1, 0] rfl)
set_option maxHeartbeats 4000000 in
set_option maxRecDepth 100000 in
theorem c_fill37 (l : Launch) (q : xg_T) (S : zz_S)  (v : Int32) : Met l y_Arrays_fillI (Cond.code y_Arrays_fillI b_Arrays_fillI 4 none :: zz_tbl) rm_Arrays_fillI (zz_Pc [.ref (zz_ad (xg_G q) 37), .int v] (xg_G q) S) (va_Qv (fun S1 => zz_off (fun c => c = 37) S S1 ∧ ∀ k, k < 4 → S1.1 37 k = v) (zz_P (xg_G q)) (zz_A (xg_G q))) 0 0 (zz_A (xg_G q)) := by
  refine zz_met (by decide) (Nat.le_of_ble_eq_true rfl) ?_
  intro p_ e_ s_ m_ bl_ mt_ c_ ls hC hK hZ hl
  have hC : zz_C p_ s_ m_ _ mt_ c_ b_Arrays_fillI 4 none "java/util/Arrays" := hC
  have hx_ := hC.1
  have hb_ := hC.2.1
  have hl : lv_has ls 4 [(0, .ref (zz_ad (xg_G q) 37)), (1, .int v)] := hl
  have L5_ : ∀ (n_ : Nat) (i : Nat) (Si : zz_S) (H : Heap) (locs : List Loc) (ls : Array Slot) (hi : i ≤ 4) (ho : zz_off (fun c => c = 37) S Si) (hs : ∀ k, k < i → Si.1 37 k = v) (hZ : zz_Z (xg_G q) Si s_.heap H locs) (hl : lv_has ls 4 [(0, .ref (zz_ad (xg_G q) 37)), (1, .int v), (2, .int (nI i)), (3, .int (nI 4))]) (hn_ : 4 - i = n_), W p_ l e_ rm_Arrays_fillI s_ m_ ([.ref (zz_ad (xg_G q) 37), .int v] : List Value).toArray bl_ mt_ c_ H locs 0 0 (MQ bl_ (va_Qv (fun S1 => zz_off (fun c => c = 37) S S1 ∧ ∀ k, k < 4 → S1.1 37 k = v) (zz_P (xg_G q)) (zz_A (xg_G q))) ([.ref (zz_ad (xg_G q) 37), .int v] : List Value).toArray s_ 0 0 (zz_A (xg_G q))) (F0 m_ 5 ls []) := by
    intro n_
    induction n_ using Nat.strongRecOn with
    | ind n_ ih_ =>
      intro i Si H locs ls hi ho hs hZ hl hn_
      refine lv_iload_n hx_ hb_ d_Arrays_fillI_5 rfl (lv_at hl 2 rfl) ?_
      refine lv_iload_n hx_ hb_ d_Arrays_fillI_6 rfl (lv_at hl 3 rfl) ?_
      refine zz_jge (tgt := 20) hC d_Arrays_fillI_7 (by decide) (by omega) (by omega) (fun h7 => ?_) (fun h7 => ?_)
      · exact zz_vret hC hK hZ rfl d_Arrays_fillI_20 ⟨ho, fun k hk => hs k (by omega)⟩
      · refine lv_aload_n hx_ hb_ d_Arrays_fillI_10 rfl (lv_at hl 0 rfl) ?_
        refine lv_iload_n hx_ hb_ d_Arrays_fillI_11 rfl (lv_at hl 2 rfl) ?_
        refine lv_iload_n hx_ hb_ d_Arrays_fillI_12 rfl (lv_at hl 1 rfl) ?_
        refine zz_iast hC hK hZ 37 0 i (Nat.le_of_ble_eq_true rfl) (fun _ => xc_37 q _ _) rfl rfl (by omega) (by decide) d_Arrays_fillI_13 (fun H locs hZ => ?_)
        refine lv_iinc (k := 2) (v := nI (i + 1)) (lv' := [(2, .int (nI (i + 1))), (0, .ref (zz_ad (xg_G q) 37)), (1, .int v), (3, .int (nI 4))]) hx_ hb_ d_Arrays_fillI_14 hl rfl (nI_add _ 1) (by decide) rfl (fun ls hl => ?_)
        refine lv_goto (tgt := 5) hx_ hb_ d_Arrays_fillI_17 (by decide) ?_
        exact ih_ _ (by omega) (i + 1) (zz_u Si 37 i v)  _ _ _ (by omega) (zz_off_tr ho (fun d hd => ⟨zz_u1 Si _ i v d hd, rfl⟩)) (fun k hk => by
                    rw [zz_u1s]
                    by_cases e : k = i
                    · rw [e, pk_us]
                    · rw [pk_un e]
                      exact hs k (by omega)) hZ (lv_sub hl [1, 2, 0, 3] rfl) rfl
  have L5 : ∀ (i : Nat) (Si : zz_S) (H : Heap) (locs : List Loc) (ls : Array Slot) (hi : i ≤ 4) (ho : zz_off (fun c => c = 37) S Si) (hs : ∀ k, k < i → Si.1 37 k = v) (hZ : zz_Z (xg_G q) Si s_.heap H locs) (hl : lv_has ls 4 [(0, .ref (zz_ad (xg_G q) 37)), (1, .int v), (2, .int (nI i)), (3, .int (nI 4))]), W p_ l e_ rm_Arrays_fillI s_ m_ ([.ref (zz_ad (xg_G q) 37), .int v] : List Value).toArray bl_ mt_ c_ H locs 0 0 (MQ bl_ (va_Qv (fun S1 => zz_off (fun c => c = 37) S S1 ∧ ∀ k, k < 4 → S1.1 37 k = v) (zz_P (xg_G q)) (zz_A (xg_G q))) ([.ref (zz_ad (xg_G q) 37), .int v] : List Value).toArray s_ 0 0 (zz_A (xg_G q))) (F0 m_ 5 ls []) := fun i Si H locs ls hi ho hs hZ hl => L5_ _ i Si H locs ls hi ho hs hZ hl rfl
  refine lv_iconst (v := nI 0) hx_ hb_ d_Arrays_fillI_0 (by decide) ?_
  refine lv_istore_n (i := 2) (lv' := [(2, .int (nI 0)), (0, .ref (zz_ad (xg_G q) 37)), (1, .int v)]) hx_ hb_ d_Arrays_fillI_1 rfl hl (by decide) rfl (fun ls hl => ?_)
  refine lv_aload_n hx_ hb_ d_Arrays_fillI_2 rfl (lv_at hl 1 rfl) ?_
  refine zz_alen hC hK hZ 37 0 (Nat.le_of_ble_eq_true rfl) (xc_37 q _ _) rfl d_Arrays_fillI_3 ?_
  refine lv_istore_n (i := 3) (lv' := [(3, .int (nI 4)), (2, .int (nI 0)), (0, .ref (zz_ad (xg_G q) 37)), (1, .int v)]) hx_ hb_ d_Arrays_fillI_4 rfl hl (by decide) rfl (fun ls hl => ?_)
  exact L5 0 S  _ _ _ (by omega) zz_off_rf (fun k hk => absurd hk (Nat.not_lt_zero k)) hZ (lv_sub hl [2, 3, 1, 0] rfl)
set_option maxHeartbeats 4000000 in
set_option maxRecDepth 100000 in
theorem c_fillC (l : Launch) (q : xg_T) (S : zz_S) (j : Nat) (hj : j ≤ 82) (v : Int32) : Met l y_Arrays_fillI (Cond.code y_Arrays_fillI b_Arrays_fillI 4 none :: zz_tbl) rm_Arrays_fillI (zz_Pc [.ref (zz_ad (xg_G q) (42 + 3 * j + 2)), .int v] (xg_G q) S) (va_Qv (fun S1 => zz_off (fun c => c = (42 + 3 * j + 2)) S S1 ∧ ∀ k, k < 4 → S1.1 ((42 + 3 * j + 2)) k = v) (zz_P (xg_G q)) (zz_A (xg_G q))) 0 0 (zz_A (xg_G q)) := by
  refine zz_met (by decide) (Nat.le_of_ble_eq_true rfl) ?_
  intro p_ e_ s_ m_ bl_ mt_ c_ ls hC hK hZ hl
  have hC : zz_C p_ s_ m_ _ mt_ c_ b_Arrays_fillI 4 none "java/util/Arrays" := hC
  have hx_ := hC.1
  have hb_ := hC.2.1
  have hl : lv_has ls 4 [(0, .ref (zz_ad (xg_G q) (42 + 3 * j + 2))), (1, .int v)] := hl
  have L5_ : ∀ (n_ : Nat) (i : Nat) (Si : zz_S) (H : Heap) (locs : List Loc) (ls : Array Slot) (hi : i ≤ 4) (ho : zz_off (fun c => c = (42 + 3 * j + 2)) S Si) (hs : ∀ k, k < i → Si.1 ((42 + 3 * j + 2)) k = v) (hZ : zz_Z (xg_G q) Si s_.heap H locs) (hl : lv_has ls 4 [(0, .ref (zz_ad (xg_G q) (42 + 3 * j + 2))), (1, .int v), (2, .int (nI i)), (3, .int (nI 4))]) (hn_ : 4 - i = n_), W p_ l e_ rm_Arrays_fillI s_ m_ ([.ref (zz_ad (xg_G q) (42 + 3 * j + 2)), .int v] : List Value).toArray bl_ mt_ c_ H locs 0 0 (MQ bl_ (va_Qv (fun S1 => zz_off (fun c => c = (42 + 3 * j + 2)) S S1 ∧ ∀ k, k < 4 → S1.1 ((42 + 3 * j + 2)) k = v) (zz_P (xg_G q)) (zz_A (xg_G q))) ([.ref (zz_ad (xg_G q) (42 + 3 * j + 2)), .int v] : List Value).toArray s_ 0 0 (zz_A (xg_G q))) (F0 m_ 5 ls []) := by
    intro n_
    induction n_ using Nat.strongRecOn with
    | ind n_ ih_ =>
      intro i Si H locs ls hi ho hs hZ hl hn_
      refine lv_iload_n hx_ hb_ d_Arrays_fillI_5 rfl (lv_at hl 2 rfl) ?_
      refine lv_iload_n hx_ hb_ d_Arrays_fillI_6 rfl (lv_at hl 3 rfl) ?_
      refine zz_jge (tgt := 20) hC d_Arrays_fillI_7 (by decide) (by omega) (by omega) (fun h7 => ?_) (fun h7 => ?_)
      · exact zz_vret hC hK hZ rfl d_Arrays_fillI_20 ⟨ho, fun k hk => hs k (by omega)⟩
      · refine lv_aload_n hx_ hb_ d_Arrays_fillI_10 rfl (lv_at hl 0 rfl) ?_
        refine lv_iload_n hx_ hb_ d_Arrays_fillI_11 rfl (lv_at hl 2 rfl) ?_
        refine lv_iload_n hx_ hb_ d_Arrays_fillI_12 rfl (lv_at hl 1 rfl) ?_
        refine zz_iast hC hK hZ (42 + 3 * j + 2) 0 i (by show _ < 291; omega) (fun _ => xy_choi q j _ _) rfl rfl (by omega) (by decide) d_Arrays_fillI_13 (fun H locs hZ => ?_)
        refine lv_iinc (k := 2) (v := nI (i + 1)) (lv' := [(2, .int (nI (i + 1))), (0, .ref (zz_ad (xg_G q) (42 + 3 * j + 2))), (1, .int v), (3, .int (nI 4))]) hx_ hb_ d_Arrays_fillI_14 hl rfl (nI_add _ 1) (by decide) rfl (fun ls hl => ?_)
        refine lv_goto (tgt := 5) hx_ hb_ d_Arrays_fillI_17 (by decide) ?_
        exact ih_ _ (by omega) (i + 1) (zz_u Si (42 + 3 * j + 2) i v)  _ _ _ (by omega) (zz_off_tr ho (fun d hd => ⟨zz_u1 Si _ i v d hd, rfl⟩)) (fun k hk => by
                    rw [zz_u1s]
                    by_cases e : k = i
                    · rw [e, pk_us]
                    · rw [pk_un e]
                      exact hs k (by omega)) hZ (lv_sub hl [1, 2, 0, 3] rfl) rfl
  have L5 : ∀ (i : Nat) (Si : zz_S) (H : Heap) (locs : List Loc) (ls : Array Slot) (hi : i ≤ 4) (ho : zz_off (fun c => c = (42 + 3 * j + 2)) S Si) (hs : ∀ k, k < i → Si.1 ((42 + 3 * j + 2)) k = v) (hZ : zz_Z (xg_G q) Si s_.heap H locs) (hl : lv_has ls 4 [(0, .ref (zz_ad (xg_G q) (42 + 3 * j + 2))), (1, .int v), (2, .int (nI i)), (3, .int (nI 4))]), W p_ l e_ rm_Arrays_fillI s_ m_ ([.ref (zz_ad (xg_G q) (42 + 3 * j + 2)), .int v] : List Value).toArray bl_ mt_ c_ H locs 0 0 (MQ bl_ (va_Qv (fun S1 => zz_off (fun c => c = (42 + 3 * j + 2)) S S1 ∧ ∀ k, k < 4 → S1.1 ((42 + 3 * j + 2)) k = v) (zz_P (xg_G q)) (zz_A (xg_G q))) ([.ref (zz_ad (xg_G q) (42 + 3 * j + 2)), .int v] : List Value).toArray s_ 0 0 (zz_A (xg_G q))) (F0 m_ 5 ls []) := fun i Si H locs ls hi ho hs hZ hl => L5_ _ i Si H locs ls hi ho hs hZ hl rfl
  refine lv_iconst (v := nI 0) hx_ hb_ d_Arrays_fillI_0 (by decide) ?_
  refine lv_istore_n (i := 2) (lv' := [(2, .int (nI 0)), (0, .ref (zz_ad (xg_G q) (42 + 3 * j + 2))), (1, .int v)]) hx_ hb_ d_Arrays_fillI_1 rfl hl (by decide) rfl (fun ls hl => ?_)
  refine lv_aload_n hx_ hb_ d_Arrays_fillI_2 rfl (lv_at hl 1 rfl) ?_
  refine zz_alen hC hK hZ (42 + 3 * j + 2) 0 (by show _ < 291; omega) (xy_choi q j _ _) rfl d_Arrays_fillI_3 ?_
  refine lv_istore_n (i := 3) (lv' := [(3, .int (nI 4)), (2, .int (nI 0)), (0, .ref (zz_ad (xg_G q) (42 + 3 * j + 2))), (1, .int v)]) hx_ hb_ d_Arrays_fillI_4 rfl hl (by decide) rfl (fun ls hl => ?_)
  exact L5 0 S  _ _ _ (by omega) zz_off_rf (fun k hk => absurd hk (Nat.not_lt_zero k)) hZ (lv_sub hl [2, 3, 1, 0] rfl)
set_option maxHeartbeats 4000000 in
set_option maxRecDepth 100000 in
theorem c_fillL (l : Launch) (q : xg_T) (S : zz_S) (j : Nat) (hj : j ≤ 82) (v : Int64) : Met l y_Arrays_fillJ (Cond.code y_Arrays_fillJ b_Arrays_fillJ 5 none :: zz_tbl) rm_Arrays_fillJ (zz_Pc [.ref (zz_ad (xg_G q) (42 + 3 * j + 1)), .long v] (xg_G q) S) (va_Qv (fun S1 => zz_off (fun c => c = 42 + 3 * j + 1) S S1 ∧ ∀ k, k < 4 → S1.2 (42 + 3 * j + 1) k = v) (zz_P (xg_G q)) (zz_A (xg_G q))) 0 0 (zz_A (xg_G q)) := by
  refine zz_met (by decide) (Nat.le_of_ble_eq_true rfl) ?_
  intro p_ e_ s_ m_ bl_ mt_ c_ ls hC hK hZ hl
  have hC : zz_C p_ s_ m_ _ mt_ c_ b_Arrays_fillJ 5 none "java/util/Arrays" := hC
  have hx_ := hC.1
  have hb_ := hC.2.1
  have hl : lv_has ls 5 [(0, .ref (zz_ad (xg_G q) (42 + 3 * j + 1))), (1, .long v)] := hl
  have L6_ : ∀ (n_ : Nat) (i : Nat) (Si : zz_S) (H : Heap) (locs : List Loc) (ls : Array Slot) (hi : i ≤ 4) (ho : zz_off (fun c => c = 42 + 3 * j + 1) S Si) (hs : ∀ k, k < i → Si.2 (42 + 3 * j + 1) k = v) (hZ : zz_Z (xg_G q) Si s_.heap H locs) (hl : lv_has ls 5 [(0, .ref (zz_ad (xg_G q) (42 + 3 * j + 1))), (1, .long v), (3, .int (nI i)), (4, .int (nI 4))]) (hn_ : 4 - i = n_), W p_ l e_ rm_Arrays_fillJ s_ m_ ([.ref (zz_ad (xg_G q) (42 + 3 * j + 1)), .long v] : List Value).toArray bl_ mt_ c_ H locs 0 0 (MQ bl_ (va_Qv (fun S1 => zz_off (fun c => c = 42 + 3 * j + 1) S S1 ∧ ∀ k, k < 4 → S1.2 (42 + 3 * j + 1) k = v) (zz_P (xg_G q)) (zz_A (xg_G q))) ([.ref (zz_ad (xg_G q) (42 + 3 * j + 1)), .long v] : List Value).toArray s_ 0 0 (zz_A (xg_G q))) (F0 m_ 6 ls []) := by
    intro n_
    induction n_ using Nat.strongRecOn with
    | ind n_ ih_ =>
      intro i Si H locs ls hi ho hs hZ hl hn_
      refine lv_iload_n hx_ hb_ d_Arrays_fillJ_6 rfl (lv_at hl 2 rfl) ?_
      refine lv_iload hx_ hb_ d_Arrays_fillJ_7 (lv_at hl 3 rfl) ?_
      refine zz_jge (tgt := 22) hC d_Arrays_fillJ_9 (by decide) (by omega) (by omega) (fun h9 => ?_) (fun h9 => ?_)
      · exact zz_vret hC hK hZ rfl d_Arrays_fillJ_22 ⟨ho, fun k hk => hs k (by omega)⟩
      · refine lv_aload_n hx_ hb_ d_Arrays_fillJ_12 rfl (lv_at hl 0 rfl) ?_
        refine lv_iload_n hx_ hb_ d_Arrays_fillJ_13 rfl (lv_at hl 2 rfl) ?_
        refine lv_lload_n hx_ hb_ d_Arrays_fillJ_14 rfl (lv_at hl 1 rfl) ?_
        refine zz_last hC hK hZ (42 + 3 * j + 1) 1 i (by show _ < 291; omega) (fun _ => xy_cost q j _ _) rfl rfl (by omega) (by decide) d_Arrays_fillJ_15 (fun H locs hZ => ?_)
        refine lv_iinc (k := 2) (v := nI (i + 1)) (lv' := [(3, .int (nI (i + 1))), (0, .ref (zz_ad (xg_G q) (42 + 3 * j + 1))), (1, .long v), (4, .int (nI 4))]) hx_ hb_ d_Arrays_fillJ_16 hl rfl (nI_add _ 1) (by decide) rfl (fun ls hl => ?_)
        refine lv_goto (tgt := 6) hx_ hb_ d_Arrays_fillJ_19 (by decide) ?_
        exact ih_ _ (by omega) (i + 1) (zz_v Si (42 + 3 * j + 1) i v)  _ _ _ (by omega) (zz_off_tr ho (fun d hd => ⟨rfl, zz_v2 Si _ i v d hd⟩)) (fun k hk => by
                    rw [zz_v2s]
                    by_cases e : k = i
                    · rw [e, pk_uLs]
                    · rw [pk_uLn e]
                      exact hs k (by omega)) hZ (lv_sub hl [1, 2, 0, 3] rfl) rfl
  have L6 : ∀ (i : Nat) (Si : zz_S) (H : Heap) (locs : List Loc) (ls : Array Slot) (hi : i ≤ 4) (ho : zz_off (fun c => c = 42 + 3 * j + 1) S Si) (hs : ∀ k, k < i → Si.2 (42 + 3 * j + 1) k = v) (hZ : zz_Z (xg_G q) Si s_.heap H locs) (hl : lv_has ls 5 [(0, .ref (zz_ad (xg_G q) (42 + 3 * j + 1))), (1, .long v), (3, .int (nI i)), (4, .int (nI 4))]), W p_ l e_ rm_Arrays_fillJ s_ m_ ([.ref (zz_ad (xg_G q) (42 + 3 * j + 1)), .long v] : List Value).toArray bl_ mt_ c_ H locs 0 0 (MQ bl_ (va_Qv (fun S1 => zz_off (fun c => c = 42 + 3 * j + 1) S S1 ∧ ∀ k, k < 4 → S1.2 (42 + 3 * j + 1) k = v) (zz_P (xg_G q)) (zz_A (xg_G q))) ([.ref (zz_ad (xg_G q) (42 + 3 * j + 1)), .long v] : List Value).toArray s_ 0 0 (zz_A (xg_G q))) (F0 m_ 6 ls []) := fun i Si H locs ls hi ho hs hZ hl => L6_ _ i Si H locs ls hi ho hs hZ hl rfl
  refine lv_iconst (v := nI 0) hx_ hb_ d_Arrays_fillJ_0 (by decide) ?_
  refine lv_istore_n (i := 3) (lv' := [(3, .int (nI 0)), (0, .ref (zz_ad (xg_G q) (42 + 3 * j + 1))), (1, .long v)]) hx_ hb_ d_Arrays_fillJ_1 rfl hl (by decide) rfl (fun ls hl => ?_)
  refine lv_aload_n hx_ hb_ d_Arrays_fillJ_2 rfl (lv_at hl 1 rfl) ?_
  refine zz_alen hC hK hZ (42 + 3 * j + 1) 1 (by show _ < 291; omega) (xy_cost q j _ _) rfl d_Arrays_fillJ_3 ?_
  refine lv_istore (i := 4) (lv' := [(4, .int (nI 4)), (3, .int (nI 0)), (0, .ref (zz_ad (xg_G q) (42 + 3 * j + 1))), (1, .long v)]) hx_ hb_ d_Arrays_fillJ_4 hl (by decide) rfl (fun ls hl => ?_)
  exact L6 0 S  _ _ _ (by omega) zz_off_rf (fun k hk => absurd hk (Nat.not_lt_zero k)) hZ (lv_sub hl [2, 3, 1, 0] rfl)
set_option maxHeartbeats 4000000 in
set_option maxRecDepth 100000 in
theorem c_Label_isCovered (l : Launch) (q : xg_T) (S : zz_S) (j k x : Nat) (hj : j ≤ 82) (hk : k < 4) (hx : S.2 (42 + 3 * j + 1) k = vw_c x) : Met l y_Label_isCovered (Cond.code y_Label_isCovered b_Label_isCovered 2 (some .boolean) :: zz_tbl) rm_Label_isCovered (zz_Pc [.ref (zz_ad (xg_G q) (42 + 3 * j)), .int (nI k)] (xg_G q) S) (va_Qi (fun ans S1 => S = S1 ∧ ans = nI (if x < mx_far then 1 else 0)) (zz_P (xg_G q)) (zz_A (xg_G q))) 0 0 (zz_A (xg_G q)) := by
  refine zz_met (by decide) (Nat.le_of_ble_eq_true rfl) ?_
  intro p_ e_ s_ m_ bl_ mt_ c_ ls hC hK hZ hl
  have hC : zz_C p_ s_ m_ _ mt_ c_ b_Label_isCovered 2 (some .boolean) "TreeCoverForge$Label" := hC
  have hx_ := hC.1
  have hb_ := hC.2.1
  have hl : lv_has ls 2 [(0, .ref (zz_ad (xg_G q) (42 + 3 * j))), (1, .int (nI k))] := hl
  have hx0 := hx
  refine lv_aload_n hx_ hb_ d_Label_isCovered_0 rfl (lv_at hl 0 rfl) ?_
  refine zz_get hC hK hZ (42 + 3 * j) 0 (by show _ < 291; omega) (xy_lab q j _ _) rfl hin_Label (by decide) wd_104 rfl rfl d_Label_isCovered_1 ?_
  refine lv_iload_n hx_ hb_ d_Label_isCovered_4 rfl (lv_at hl 1 rfl) ?_
  refine zz_lald hC hK hZ (42 + 3 * j + 1) 1 k (by show _ < 291; omega) (xy_cost q j _ _) rfl rfl (by omega) (by decide) rfl d_Label_isCovered_5 ?_
  refine zz_topl (y := vw_c x) hx0 ?_
  refine lv_ldc2 (v := (-1)) hx_ hb_ hC.2.2.2.1 (hC.2.2.2.2.1 _ wd_298) d_Label_isCovered_6 ?_
  refine W.lcmp hx_ hb_ d_Label_isCovered_9 ?_
  refine lv_if_eq (tgt := 17) hx_ hb_ d_Label_isCovered_10 (by decide) (fun h10 => ?_) (fun h10 => ?_)
  · have h10 : (vw_c x) = ((-1)) := (lg_cmp_eq _ _).mp h10
    refine lv_iconst (v := nI 0) hx_ hb_ d_Label_isCovered_17 (by decide) ?_
    exact zz_zret hC hK hZ rfl d_Label_isCovered_18 (by decide) ⟨rfl, by rw [if_neg (vw_c_m1 h10)]⟩
  · have h10 : ¬ ((vw_c x) = ((-1))) := fun x => h10 ((lg_cmp_eq _ _).mpr x)
    refine lv_iconst (v := nI 1) hx_ hb_ d_Label_isCovered_13 (by decide) ?_
    refine lv_goto (tgt := 18) hx_ hb_ d_Label_isCovered_14 (by decide) ?_
    exact zz_zret hC hK hZ rfl d_Label_isCovered_18 (by decide) ⟨rfl, by rw [if_pos (vw_c_n1 h10)]⟩
set_option maxHeartbeats 4000000 in
set_option maxRecDepth 100000 in
theorem c_Label_offer (l : Launch) (q : xg_T) (S : zz_S) (j r b kd pr x y : Nat) (hj : j ≤ 82) (hr : r < 24) (hkd : kd < 4) (hpr : pr ≤ 9) (h2 : S.1 2 r = nI kd) (h6 : S.1 6 r = nI pr) (hT : b + pr < mx_far) (hx : S.2 (42 + 3 * j + 1) kd = vw_c x) (hy : x < mx_far → S.1 (42 + 3 * j + 2) kd = nI y ∧ y < 24) : Met l y_Label_offer (Cond.code y_Label_offer b_Label_offer 9 (some .boolean) :: zz_tbl) rm_Label_offer (zz_Pc [.ref (zz_ad (xg_G q) (42 + 3 * j)), .ref (zz_ad (xg_G q) 1), .int (nI r), .long (lN b)] (xg_G q) S) (va_Qi (fun ans S1 => ans = nI (if (b + pr < x ∨ b + pr = x ∧ r < y) then 1 else 0) ∧ S1 = if (b + pr < x ∨ b + pr = x ∧ r < y) then (xl_set S j kd (lN (b + pr)) (nI r)) else S) (zz_P (xg_G q)) (zz_A (xg_G q))) 0 0 (zz_A (xg_G q)) := by
  refine zz_met (by decide) (Nat.le_of_ble_eq_true rfl) ?_
  intro p_ e_ s_ m_ bl_ mt_ c_ ls hC hK hZ hl
  have hC : zz_C p_ s_ m_ _ mt_ c_ b_Label_offer 9 (some .boolean) "TreeCoverForge$Label" := hC
  have hx_ := hC.1
  have hb_ := hC.2.1
  have hl : lv_has ls 9 [(0, .ref (zz_ad (xg_G q) (42 + 3 * j))), (1, .ref (zz_ad (xg_G q) 1)), (2, .int (nI r)), (3, .long (lN b))] := hl
  have hx0 := hx
  have hfar := vw_far
  have J74 : ∀  (H : Heap) (locs : List Loc) (ls : Array Slot) (hb0 : ¬ (b + pr < x ∨ b + pr = x ∧ r < y)) (hZ : zz_Z (xg_G q) S s_.heap H locs) (hl : lv_has ls 9 [(0, .ref (zz_ad (xg_G q) (42 + 3 * j))), (1, .ref (zz_ad (xg_G q) 1)), (2, .int (nI r)), (3, .long (lN b)), (5, .int (nI kd)), (6, .long (lN (b + pr)))]), W p_ l e_ rm_Label_offer s_ m_ ([.ref (zz_ad (xg_G q) (42 + 3 * j)), .ref (zz_ad (xg_G q) 1), .int (nI r), .long (lN b)] : List Value).toArray bl_ mt_ c_ H locs 0 0 (MQ bl_ (va_Qi (fun ans S1 => ans = nI (if (b + pr < x ∨ b + pr = x ∧ r < y) then 1 else 0) ∧ S1 = if (b + pr < x ∨ b + pr = x ∧ r < y) then (xl_set S j kd (lN (b + pr)) (nI r)) else S) (zz_P (xg_G q)) (zz_A (xg_G q))) ([.ref (zz_ad (xg_G q) (42 + 3 * j)), .ref (zz_ad (xg_G q) 1), .int (nI r), .long (lN b)] : List Value).toArray s_ 0 0 (zz_A (xg_G q))) (F0 m_ 74 ls []) := by
    intro  H locs ls hb0 hZ hl
    refine lv_iconst (v := nI 0) hx_ hb_ d_Label_offer_74 (by decide) ?_
    refine lv_istore (i := 8) (lv' := [(8, .int (nI 0)), (0, .ref (zz_ad (xg_G q) (42 + 3 * j))), (1, .ref (zz_ad (xg_G q) 1)), (2, .int (nI r)), (3, .long (lN b)), (5, .int (nI kd)), (6, .long (lN (b + pr)))]) hx_ hb_ d_Label_offer_75 hl (by decide) rfl (fun ls hl => ?_)
    refine lv_iload hx_ hb_ d_Label_offer_77 (lv_at hl 0 rfl) ?_
    refine zz_ieq (tgt := 99) hC d_Label_offer_79 (by decide) (by omega) (fun h79 => ?_) (fun h79 => ?_)
    · refine lv_iload hx_ hb_ d_Label_offer_99 (lv_at hl 0 rfl) ?_
      exact zz_zret hC hK hZ rfl d_Label_offer_101 (by decide) ⟨by rw [if_neg hb0], by rw [if_neg hb0]⟩
    · exact absurd rfl h79
  have J70 : ∀  (H : Heap) (locs : List Loc) (ls : Array Slot) (hb1 : (b + pr < x ∨ b + pr = x ∧ r < y)) (hZ : zz_Z (xg_G q) S s_.heap H locs) (hl : lv_has ls 9 [(0, .ref (zz_ad (xg_G q) (42 + 3 * j))), (1, .ref (zz_ad (xg_G q) 1)), (2, .int (nI r)), (3, .long (lN b)), (5, .int (nI kd)), (6, .long (lN (b + pr)))]), W p_ l e_ rm_Label_offer s_ m_ ([.ref (zz_ad (xg_G q) (42 + 3 * j)), .ref (zz_ad (xg_G q) 1), .int (nI r), .long (lN b)] : List Value).toArray bl_ mt_ c_ H locs 0 0 (MQ bl_ (va_Qi (fun ans S1 => ans = nI (if (b + pr < x ∨ b + pr = x ∧ r < y) then 1 else 0) ∧ S1 = if (b + pr < x ∨ b + pr = x ∧ r < y) then (xl_set S j kd (lN (b + pr)) (nI r)) else S) (zz_P (xg_G q)) (zz_A (xg_G q))) ([.ref (zz_ad (xg_G q) (42 + 3 * j)), .ref (zz_ad (xg_G q) 1), .int (nI r), .long (lN b)] : List Value).toArray s_ 0 0 (zz_A (xg_G q))) (F0 m_ 70 ls []) := by
    intro  H locs ls hb1 hZ hl
    refine lv_iconst (v := nI 1) hx_ hb_ d_Label_offer_70 (by decide) ?_
    refine lv_goto (tgt := 75) hx_ hb_ d_Label_offer_71 (by decide) ?_
    refine lv_istore (i := 8) (lv' := [(8, .int (nI 1)), (0, .ref (zz_ad (xg_G q) (42 + 3 * j))), (1, .ref (zz_ad (xg_G q) 1)), (2, .int (nI r)), (3, .long (lN b)), (5, .int (nI kd)), (6, .long (lN (b + pr)))]) hx_ hb_ d_Label_offer_75 hl (by decide) rfl (fun ls hl => ?_)
    refine lv_iload hx_ hb_ d_Label_offer_77 (lv_at hl 0 rfl) ?_
    refine zz_ieq (tgt := 99) hC d_Label_offer_79 (by decide) (by omega) (fun h79 => ?_) (fun h79 => ?_)
    · exact absurd h79 (by decide)
    · refine lv_aload_n hx_ hb_ d_Label_offer_82 rfl (lv_at hl 1 rfl) ?_
      refine zz_get hC hK hZ (42 + 3 * j) 0 (by show _ < 291; omega) (xy_lab q j _ _) rfl hin_Label (by decide) wd_104 rfl rfl d_Label_offer_83 ?_
      refine lv_iload hx_ hb_ d_Label_offer_86 (lv_at hl 5 rfl) ?_
      refine lv_lload hx_ hb_ d_Label_offer_88 (lv_at hl 6 rfl) ?_
      refine zz_last hC hK hZ (42 + 3 * j + 1) 1 kd (by show _ < 291; omega) (fun _ => xy_cost q j _ _) rfl rfl (by omega) (by decide) d_Label_offer_90 (fun H locs hZ => ?_)
      refine lv_aload_n hx_ hb_ d_Label_offer_91 rfl (lv_at hl 1 rfl) ?_
      refine zz_get hC hK hZ (42 + 3 * j) 1 (by show _ < 291; omega) (xy_lab q j _ _) rfl hin_Label (by decide) wd_106 rfl rfl d_Label_offer_92 ?_
      refine lv_iload hx_ hb_ d_Label_offer_95 (lv_at hl 5 rfl) ?_
      refine lv_iload_n hx_ hb_ d_Label_offer_97 rfl (lv_at hl 3 rfl) ?_
      refine zz_iast hC hK hZ (42 + 3 * j + 2) 0 kd (by show _ < 291; omega) (fun _ => xy_choi q j _ _) rfl rfl (by omega) (by decide) d_Label_offer_98 (fun H locs hZ => ?_)
      refine lv_iload hx_ hb_ d_Label_offer_99 (lv_at hl 0 rfl) ?_
      exact zz_zret hC hK hZ rfl d_Label_offer_101 (by decide) ⟨by rw [if_pos hb1], by rw [if_pos hb1]; rfl⟩
  refine lv_aload_n hx_ hb_ d_Label_offer_0 rfl (lv_at hl 1 rfl) ?_
  refine zz_get hC hK hZ 1 0 (Nat.le_of_ble_eq_true rfl) (xc_1 q _ _) rfl hin_Book (by decide) wd_56 rfl rfl d_Label_offer_1 ?_
  refine lv_iload_n hx_ hb_ d_Label_offer_4 rfl (lv_at hl 2 rfl) ?_
  refine zz_iald hC hK hZ 2 0 r (Nat.le_of_ble_eq_true rfl) (xc_2 q _ _) rfl rfl (by omega) (by decide) rfl d_Label_offer_5 ?_
  refine zz_topi (y := nI kd) h2 ?_
  refine lv_istore (i := 5) (lv' := [(5, .int (nI kd)), (0, .ref (zz_ad (xg_G q) (42 + 3 * j))), (1, .ref (zz_ad (xg_G q) 1)), (2, .int (nI r)), (3, .long (lN b))]) hx_ hb_ d_Label_offer_6 hl (by decide) rfl (fun ls hl => ?_)
  refine lv_lload_n hx_ hb_ d_Label_offer_8 rfl (lv_at hl 4 rfl) ?_
  refine lv_aload_n hx_ hb_ d_Label_offer_9 rfl (lv_at hl 2 rfl) ?_
  refine zz_get hC hK hZ 1 4 (Nat.le_of_ble_eq_true rfl) (xc_1 q _ _) rfl hin_Book (by decide) wd_66 rfl rfl d_Label_offer_10 ?_
  refine lv_iload_n hx_ hb_ d_Label_offer_13 rfl (lv_at hl 3 rfl) ?_
  refine zz_iald hC hK hZ 6 0 r (Nat.le_of_ble_eq_true rfl) (xc_6 q _ _) rfl rfl (by omega) (by decide) rfl d_Label_offer_14 ?_
  refine zz_topi (y := nI pr) h6 ?_
  refine lv_i2l (v := lN pr) hx_ hb_ d_Label_offer_15 (nI_l (by omega)) ?_
  refine lv_ladd hx_ hb_ d_Label_offer_16 ?_
  refine zz_topl (y := lN (b + pr)) (lN_add _ _) ?_
  refine lv_lstore (i := 6) (lv' := [(6, .long (lN (b + pr))), (5, .int (nI kd)), (0, .ref (zz_ad (xg_G q) (42 + 3 * j))), (1, .ref (zz_ad (xg_G q) 1)), (2, .int (nI r)), (3, .long (lN b))]) hx_ hb_ d_Label_offer_17 hl (by decide) rfl (fun ls hl => ?_)
  refine lv_aload_n hx_ hb_ d_Label_offer_19 rfl (lv_at hl 2 rfl) ?_
  refine zz_get hC hK hZ (42 + 3 * j) 0 (by show _ < 291; omega) (xy_lab q j _ _) rfl hin_Label (by decide) wd_104 rfl rfl d_Label_offer_20 ?_
  refine lv_iload hx_ hb_ d_Label_offer_23 (lv_at hl 1 rfl) ?_
  refine zz_lald hC hK hZ (42 + 3 * j + 1) 1 kd (by show _ < 291; omega) (xy_cost q j _ _) rfl rfl (by omega) (by decide) rfl d_Label_offer_25 ?_
  refine zz_topl (y := vw_c x) hx0 ?_
  refine lv_ldc2 (v := (-1)) hx_ hb_ hC.2.2.2.1 (hC.2.2.2.2.1 _ wd_298) d_Label_offer_26 ?_
  refine W.lcmp hx_ hb_ d_Label_offer_29 ?_
  refine lv_if_eq (tgt := 70) hx_ hb_ d_Label_offer_30 (by decide) (fun h30 => ?_) (fun h30 => ?_)
  · have h30 : (vw_c x) = ((-1)) := (lg_cmp_eq _ _).mp h30
    exact J70   _ _ _ (by first | (have h0 := vw_c_m1 h30; omega) | omega) hZ (lv_sub hl [2, 3, 4, 5, 1, 0] rfl)
  · have h30 : ¬ ((vw_c x) = ((-1))) := fun x => h30 ((lg_cmp_eq _ _).mpr x)
    have hxf := vw_c_n1 h30
    have hyf := (hy hxf).2
    refine lv_lload hx_ hb_ d_Label_offer_33 (lv_at hl 0 rfl) ?_
    refine lv_aload_n hx_ hb_ d_Label_offer_35 rfl (lv_at hl 2 rfl) ?_
    refine zz_get hC hK hZ (42 + 3 * j) 0 (by show _ < 291; omega) (xy_lab q j _ _) rfl hin_Label (by decide) wd_104 rfl rfl d_Label_offer_36 ?_
    refine lv_iload hx_ hb_ d_Label_offer_39 (lv_at hl 1 rfl) ?_
    refine zz_lald hC hK hZ (42 + 3 * j + 1) 1 kd (by show _ < 291; omega) (xy_cost q j _ _) rfl rfl (by omega) (by decide) rfl d_Label_offer_41 ?_
    refine zz_topl (y := lN x) (hx0.trans (vw_c_in hxf)) ?_
    refine W.lcmp hx_ hb_ d_Label_offer_42 ?_
    refine lv_if_lt (tgt := 70) hx_ hb_ d_Label_offer_43 (by decide) (fun h43 => ?_) (fun h43 => ?_)
    · have h43 : (lN (b + pr)) < (lN x) := (lg_cmp_lt _ _).mp h43
      rw [pk_lLT (by omega) (by omega)] at h43
      exact J70   _ _ _ (by first | (have h0 := vw_c_m1 h30; omega) | omega) hZ (lv_sub hl [2, 3, 4, 5, 1, 0] rfl)
    · have h43 : ¬ ((lN (b + pr)) < (lN x)) := fun x => h43 ((lg_cmp_lt _ _).mpr x)
      rw [pk_lLT (by omega) (by omega)] at h43
      refine lv_lload hx_ hb_ d_Label_offer_46 (lv_at hl 0 rfl) ?_
      refine lv_aload_n hx_ hb_ d_Label_offer_48 rfl (lv_at hl 2 rfl) ?_
      refine zz_get hC hK hZ (42 + 3 * j) 0 (by show _ < 291; omega) (xy_lab q j _ _) rfl hin_Label (by decide) wd_104 rfl rfl d_Label_offer_49 ?_
      refine lv_iload hx_ hb_ d_Label_offer_52 (lv_at hl 1 rfl) ?_
      refine zz_lald hC hK hZ (42 + 3 * j + 1) 1 kd (by show _ < 291; omega) (xy_cost q j _ _) rfl rfl (by omega) (by decide) rfl d_Label_offer_54 ?_
      refine zz_topl (y := lN x) (hx0.trans (vw_c_in hxf)) ?_
      refine W.lcmp hx_ hb_ d_Label_offer_55 ?_
      refine lv_if_ne (tgt := 74) hx_ hb_ d_Label_offer_56 (by decide) (fun h56 => ?_) (fun h56 => ?_)
      · have h56 : ¬ ((lN (b + pr)) = (lN x)) := fun x => h56 ((lg_cmp_eq _ _).mpr x)
        rw [pk_lEQ (by omega) (by omega)] at h56
        exact J74   _ _ _ (by omega) hZ (lv_sub hl [2, 3, 4, 5, 1, 0] rfl)
      · have h56 : (lN (b + pr)) = (lN x) := (lg_cmp_eq _ _).mp h56
        rw [pk_lEQ (by omega) (by omega)] at h56
        refine lv_iload_n hx_ hb_ d_Label_offer_59 rfl (lv_at hl 4 rfl) ?_
        refine lv_aload_n hx_ hb_ d_Label_offer_60 rfl (lv_at hl 2 rfl) ?_
        refine zz_get hC hK hZ (42 + 3 * j) 1 (by show _ < 291; omega) (xy_lab q j _ _) rfl hin_Label (by decide) wd_106 rfl rfl d_Label_offer_61 ?_
        refine lv_iload hx_ hb_ d_Label_offer_64 (lv_at hl 1 rfl) ?_
        refine zz_iald hC hK hZ (42 + 3 * j + 2) 0 kd (by show _ < 291; omega) (xy_choi q j _ _) rfl rfl (by omega) (by decide) rfl d_Label_offer_66 ?_
        refine zz_topi (y := nI y) (hy hxf).1 ?_
        refine zz_jge (tgt := 74) hC d_Label_offer_67 (by decide) (by omega) (by omega) (fun h67 => ?_) (fun h67 => ?_)
        · exact J74   _ _ _ (by omega) hZ (lv_sub hl [2, 3, 4, 5, 1, 0] rfl)
        · exact J70   _ _ _ (by first | (have h0 := vw_c_m1 h30; omega) | omega) hZ (lv_sub hl [2, 3, 4, 5, 1, 0] rfl)
