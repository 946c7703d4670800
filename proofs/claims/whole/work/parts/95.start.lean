/-! The law's start: the tables' classes, the table of arities, the two objects. Laid by wip/whole/prog/p41.py. -/
theorem lw_D {s : State} {a : Array Value} (hts : ∀ w ∈ zz_tbl, w.before a s = true) : ∃ D : va_G, ∀ (c : Nat) (q : vw_C), xg_cl[c]? = some q → u_Kn s q.1 q.2.1 q.2.2 (D.1 c) (D.2 c) := by
  obtain ⟨c0, i0, k0⟩ := u_known (n := 6) hts hin_Forge (hts _ wn_Forge)
  obtain ⟨c1, i1, k1⟩ := u_known (n := 8) hts hin_Book (hts _ wn_Book)
  obtain ⟨c2, i2, k2⟩ := u_known (n := 2) hts hin_Label (hts _ wn_Label)
  obtain ⟨c3, i3, k3⟩ := u_known (n := 4) hts hin_Table (hts _ wn_Table)
  obtain ⟨c4, i4, k4⟩ := u_known (n := 10) hts hin_Pile (hts _ wn_Pile)
  obtain ⟨c5, i5, k5⟩ := u_known (n := 15) hts hin_Code (hts _ wn_Code)
  obtain ⟨c6, i6, k6⟩ := u_known (n := 39) hts hin_Model (hts _ wn_Model)
  refine ⟨((fun c => match c with | 0 => c0 | 1 => c1 | 2 => c2 | 3 => c3 | 4 => c4 | 5 => c5 | _ => c6), (fun c => match c with | 0 => i0 | 1 => i1 | 2 => i2 | 3 => i3 | 4 => i4 | 5 => i5 | _ => i6)), fun c q hq => ?_⟩
  match c, hq with
  | 0, hq =>
    obtain rfl : (R_Forge, F_Forge, 6) = q := Option.some.inj hq
    exact k0
  | 1, hq =>
    obtain rfl : (R_Book, F_Book, 8) = q := Option.some.inj hq
    exact k1
  | 2, hq =>
    obtain rfl : (R_Label, F_Label, 2) = q := Option.some.inj hq
    exact k2
  | 3, hq =>
    obtain rfl : (R_Table, F_Table, 4) = q := Option.some.inj hq
    exact k3
  | 4, hq =>
    obtain rfl : (R_Pile, F_Pile, 10) = q := Option.some.inj hq
    exact k4
  | 5, hq =>
    obtain rfl : (R_Code, F_Code, 15) = q := Option.some.inj hq
    exact k5
  | 6, hq =>
    obtain rfl : (R_Model, F_Model, 39) = q := Option.some.inj hq
    exact k6
  | c + 7, hq =>
    have e : xg_cl[c + 7]? = none := rfl
    rw [e] at hq
    cases hq
theorem lw_ty {s : State} {a : Array Value} (hts : ∀ w ∈ zz_tbl, w.before a s = true) (hL : (Cond.arrayOver (.object R_Label)).before a s = true) (hA : (Cond.arrayOver (.array .int)).before a s = true) : ∃ cI cJ cL cA : ClassId, ∀ (k : Nat) (q : ClassId × FieldType), ([(cI, .int), (cJ, .long), (cL, .object R_Label), (cA, .array .int)] : List (ClassId × FieldType))[k]? = some q → ArrOfT s q.1 q.2 ∧ va_RA s q.1 q.2 := by
  obtain ⟨cI, kI, pI, a1, a2, a3⟩ := Cond.arrayClass_spec (hts _ w_arI)
  obtain ⟨cJ, kJ, pJ, e1, e2, e3⟩ := Cond.arrayClass_spec (hts _ w_arJ)
  obtain ⟨pL, cL, kL, b1, -, b3, b4, b5⟩ := Cond.arrayOver_spec hL
  obtain ⟨pA, cA, kA, d1, -, d3, d4, d5⟩ := arrayOverA_spec hA
  refine ⟨cI, cJ, cL, cA, fun k q hq => ?_⟩
  match k, hq with
  | 0, hq =>
    obtain rfl : (cI, FieldType.int) = q := Option.some.inj hq
    exact ⟨fun N z => ⟨(fun x hx => by cases hx), kI, a2, pI, a3⟩, a1⟩
  | 1, hq =>
    obtain rfl : (cJ, FieldType.long) = q := Option.some.inj hq
    exact ⟨fun N z => ⟨(fun x hx => by cases hx), kJ, e2, pJ, e3⟩, e1⟩
  | 2, hq =>
    obtain rfl : (cL, FieldType.object R_Label) = q := Option.some.inj hq
    exact ⟨fun N z => ⟨(fun x hx => by cases hx), kL, b3, pL, b4⟩, kL, pL, b3, b4, b1, b5⟩
  | 3, hq =>
    obtain rfl : (cA, FieldType.array .int) = q := Option.some.inj hq
    exact ⟨fun N z => ⟨(fun x hx => by cases hx), kA, d3, pA, d4⟩, d5⟩
  | k + 4, hq => exact absurd hq (by simp)
abbrev lw_st : Term := .static "TreeCoverForge" "ARITIES" "[I"
theorem lw_ari {s : State} {a : Array Value} (hgv : (Jvm.Cond.and given_1 narrow_1).before a s = true) (hts : ∀ w ∈ lw_tbl, w.before a s = true) : ∃ t : Nat, ∀ A : Nat → Prop, (∀ x, x < s.heap.size → ¬ A x) → va_Z "TreeCoverForge" "ARITIES" "[I" (.ref t) A s s.heap ∧ va_T .int t 8 zz_ar A s s.heap := by
  have hs := flat_of_before _ hgv
  have hl : (Term.length lw_st).eval a s none [] s = some (.int (Int32.ofNat 8)) := va_eqv (hs (.eq (.length lw_st) (.int 8)) (by decide +kernel)) rfl
  have he : ∀ j : Nat, j < 8 → (Term.elem lw_st (.int (Int32.ofNat j))).eval a s none [] s = some (zz_ar j) := by
    intro j hj
    match j, hj with
    | 0, _ => exact va_eqv (hs (.eq (.elem lw_st (.int 0)) (.int 0)) (by decide +kernel)) rfl
    | 1, _ => exact va_eqv (hs (.eq (.elem lw_st (.int 1)) (.int 0)) (by decide +kernel)) rfl
    | 2, _ => exact va_eqv (hs (.eq (.elem lw_st (.int 2)) (.int 0)) (by decide +kernel)) rfl
    | 3, _ => exact va_eqv (hs (.eq (.elem lw_st (.int 3)) (.int 1)) (by decide +kernel)) rfl
    | 4, _ => exact va_eqv (hs (.eq (.elem lw_st (.int 4)) (.int 1)) (by decide +kernel)) rfl
    | 5, _ => exact va_eqv (hs (.eq (.elem lw_st (.int 5)) (.int 2)) (by decide +kernel)) rfl
    | 6, _ => exact va_eqv (hs (.eq (.elem lw_st (.int 6)) (.int 2)) (by decide +kernel)) rfl
    | 7, _ => exact va_eqv (hs (.eq (.elem lw_st (.int 7)) (.int 2)) (by decide +kernel)) rfl
    | j + 8, h => exact absurd h (by omega)
  obtain ⟨t, hev, hT⟩ := va_Tof (A := fun x => s.heap.size ≤ x) (by decide) (hs (.arrayOf lw_st .int) (by decide +kernel)) hl he (fun x hx => Nat.not_le.mpr hx)
  refine ⟨t, fun A hA => ⟨va_Zof (hts (.laysStatic "TreeCoverForge" "ARITIES" "[I") (List.mem_of_getElem? (i := 259) (by decide +kernel))) (hts _ (List.mem_filter.mp wi_Forge).1) hev hA, ?_⟩⟩
  obtain ⟨cell, h1, h2, h3, h4, h5, h6, h7⟩ := hT
  exact ⟨cell, h1, h2, h3, h4, h5, h6, hA t (Array.getElem?_eq_some_iff.mp h1).1⟩
theorem lw_ZF {s : State} {q : xg_T} {b0 : Nat} {H : Heap} (h : ct_P q.1 xg_cl b0 291 (cy_F q b0) H) : lw_Z2 s (xg_G (xo_q q b0)) lj_F H := by
  refine ⟨fun k x hx => ?_, ⟨fun i j u v hi hj e => ?_, fun k x hx => ?_⟩⟩
  · obtain ⟨hk, rfl⟩ := zz_w_inv hx
    have h1 := h (xo_off k) (xo_io k hk).1
    unfold cy_F at h1
    rw [(xo_io k hk).2] at h1
    exact h1
  · obtain ⟨h1, rfl⟩ := zz_w_inv hi
    obtain ⟨h2, rfl⟩ := zz_w_inv hj
    have e2 : b0 + xo_off i = b0 + xo_off j := e
    rw [← (xo_io i h1).2, ← (xo_io j h2).2, Nat.add_left_cancel e2]
  · obtain ⟨hk, rfl⟩ := zz_w_inv hx
    exact ⟨k, hk, rfl⟩
abbrev xo_m (q : xg_T) (b : Nat) : xg_T := (q.1, (fun c => b + c), q.2.2)
theorem lw_ZM {s : State} {q : xg_T} {b0 : Nat} {H : Heap} (h : ct_P q.1 xg_cl b0 33 (cy_M q b0) H) : lw_Z2 s (mg_G (xo_m q b0)) lj_M H := by
  refine ⟨fun k x hx => ?_, ⟨fun i j u v hi hj e => ?_, fun k x hx => ?_⟩⟩
  · obtain ⟨hk, rfl⟩ := zz_w_inv hx
    exact h k hk
  · obtain ⟨h1, rfl⟩ := zz_w_inv hi
    obtain ⟨h2, rfl⟩ := zz_w_inv hj
    have e2 : b0 + i = b0 + j := e
    exact Nat.add_left_cancel e2
  · obtain ⟨hk, rfl⟩ := zz_w_inv hx
    exact ⟨k, hk, rfl⟩
def cy_W (q : xg_T) (b : Nat) : Nat → va_E := fun i => if i < 291 then cy_F q b i else cy_M q (b + 291) (i - 291)
theorem lw_inF {q : xg_T} {b0 x : Nat} (h : zz_A (xg_G (xo_q q b0)) x) : b0 ≤ x ∧ x < b0 + 291 := by
  obtain ⟨k, hk, e⟩ := h
  have e : x = b0 + xo_off k := e
  have := (xo_io k hk).1
  omega
theorem lw_inM {q : xg_T} {b0 x : Nat} (h : zz_A (mg_G (xo_m q b0)) x) : b0 ≤ x := by
  obtain ⟨k, hk, e⟩ := h
  have e : x = b0 + k := e
  omega
section GO
variable {p : Program} {l : Launch} {e : Env} {s : State} {m : MethodId} {below : List Frame} {meth : Method} {c : Code} {Q : State → Prop} {b L : Nat} {xs : Nat → Int32} {ls : Array Slot}
set_option maxHeartbeats 4000000 in
set_option maxRecDepth 100000 in
theorem lw_go {q : xg_T} (hC : zz_C p s m #[Value.ref b] meth c b_Law_law 4 ret "TreeCoverForgeLaw") (hK : ct_K q s) (hZT : ∀ A : Nat → Prop, (∀ x, x < s.heap.size → ¬ A x) → va_Z "TreeCoverForge" "ARITIES" "[I" (.ref q.2.2.2.2.2.2) A s s.heap ∧ va_T .int q.2.2.2.2.2.2 8 zz_ar A s s.heap) (hX : va_X b L xs s s.heap) (hbl : b < s.heap.size) (hL : L ≤ 3072) (hl : lv_has ls 4 [(0, .ref b)]) (kx : ∀ (H : Heap) (ls : Array Slot), W p l e room_1 s m #[Value.ref b] below meth c H [] 324 5647 Q (F0 m 511 ls [])) : W p l e room_1 s m #[Value.ref b] below meth c s.heap [] 0 0 Q (F0 m 0 ls []) := by
  have hZ : ct_Z q.1 xg_cl s.heap.size 0 (cy_W q s.heap.size) s.heap s.heap [] := ⟨rfl, fun i hi => absurd hi (Nat.not_lt_zero i), va_S.rf⟩
  refine ct_make (n1 := 291) (cells1 := 291) (slots1 := 3048) (Y' := cy_F q s.heap.size) hC hK hZ hin_Forge t_Forge t_Forge_ok (zz_in (i := 39) (by decide +kernel) rfl) wn_Forge wi_Forge rfl z_Forge (c_Forge_init l q s.heap.size) k_Forge_init (Or.inl wd_41) ⟨by decide, by decide⟩ (fun i hi => by rw [Nat.zero_add]; exact if_pos hi) rfl rfl rfl (by decide) (by decide) hl.1 (Nat.le_of_ble_eq_true rfl) d_Law_law_0 d_Law_law_3 d_Law_law_4 (fun H locs hZ => ?_)
  refine va_forget hZ.2.2.2.2 ?_
  have hZ : ct_Z q.1 xg_cl s.heap.size 291 (cy_W q s.heap.size) s.heap H [] := ⟨hZ.1, hZ.2.1, hZ.2.2.1, hZ.2.2.2.1, fun _ h => absurd h List.not_mem_nil⟩
  refine lv_astore_n (i := 1) (lv' := [(1, .ref (s.heap.size + 0)), (0, .ref b)]) hC.1 hC.2.1 d_Law_law_7 rfl hl (by decide) rfl (fun ls hl => ?_)
  refine ct_make (n1 := 324) (cells1 := 324) (slots1 := 5647) (Y' := cy_M q (s.heap.size + 291)) hC hK hZ hin_Model t_Model t_Model_ok (zz_in (i := 501) (by decide +kernel) rfl) wn_Model wi_Model rfl z_Model (c_Model_init l q (s.heap.size + 291)) k_Model_init (Or.inl wd_503) ⟨by decide, by decide⟩ (fun i hi => by unfold cy_W; rw [if_neg (by omega), Nat.add_sub_cancel_left]) rfl rfl rfl (by decide) (by decide) hl.1 (Nat.le_of_ble_eq_true rfl) d_Law_law_8 d_Law_law_11 d_Law_law_12 (fun H locs hZ => ?_)
  refine va_forget hZ.2.2.2.2 ?_
  have hZ : ct_Z q.1 xg_cl s.heap.size 324 (cy_W q s.heap.size) s.heap H [] := ⟨hZ.1, hZ.2.1, hZ.2.2.1, hZ.2.2.2.1, fun _ h => absurd h List.not_mem_nil⟩
  refine lv_astore_n (i := 2) (lv' := [(2, .ref (s.heap.size + 291)), (1, .ref (s.heap.size + 0)), (0, .ref b)]) hC.1 hC.2.1 d_Law_law_15 rfl hl (by decide) rfl (fun ls hl => ?_)
  refine lv_iconst (v := nI 0) hC.1 hC.2.1 d_Law_law_16 (by decide) ?_
  refine lv_istore_n (i := 3) (lv' := [(3, .int (nI 0)), (2, .ref (s.heap.size + 291)), (1, .ref (s.heap.size + 0)), (0, .ref b)]) hC.1 hC.2.1 d_Law_law_17 rfl hl (by decide) rfl (fun ls hl => ?_)
  have hF : lw_Z2 s (xg_G (xo_q q s.heap.size)) lj_F H := lw_ZF (fun i hi => by
    have h1 := hZ.2.1 i (by omega)
    unfold cy_W at h1
    rw [if_pos hi] at h1
    exact h1)
  have hM : lw_Z2 s (mg_G (xo_m q (s.heap.size + 291))) lj_M H := lw_ZM (fun i hi => by
    have h1 := hZ.2.1 (291 + i) (by omega)
    unfold cy_W at h1
    rw [if_neg (by omega), Nat.add_sub_cancel_left, ← Nat.add_assoc] at h1
    exact h1)
  have nF : ∀ x, x < s.heap.size → ¬ zz_A (xg_G (xo_q q s.heap.size)) x := fun x hx h => by
    have := lw_inF h
    omega
  have nM : ∀ x, x < s.heap.size → ¬ zz_A (mg_G (xo_m q (s.heap.size + 291))) x := fun x hx h => by
    have := lw_inM h
    omega
  have hCC : lw_C p s m meth c b L xs (xo_q q s.heap.size) (xo_m q (s.heap.size + 291)) := ⟨hC, ⟨hK.1, (hZT _ nF).1, (hZT _ nF).2, hK.2.2.2⟩, ⟨hK.1, (hZT _ nM).1, (hZT _ nM).2, hK.2.2.2⟩, hX, hbl, hL, fun x h => (lw_inF h).1, fun x h => by
    have := lw_inM h
    show s.heap.size ≤ x
    omega, fun x h1 h2 => by
    have := lw_inM h1
    have := lw_inF h2
    omega, fun x h1 h2 => by
    have := lw_inF h1
    have := lw_inM h2
    omega⟩
  exact lw_loop hCC ⟨by decide, by decide⟩ kx L 0 (by omega) (by omega) H ls ⟨lj_F, lj_M, hF, hM, lj_start, hZ.2.2⟩ hl
end GO
