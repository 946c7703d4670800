/-! The law's loop itself. Laid by wip/whole/prog/p41.py. -/
section LAW2
variable {p : Program} {l : Launch} {e : Env} {s : State} {m : MethodId} {below : List Frame} {meth : Method} {c : Code} {Q : State → Prop} {b L : Nat} {xs : Nat → Int32} {qF qM : xg_T} {H : Heap} {ls : Array Slot} {i cells slots : Nat}
theorem lw_sub {L : Nat} (h : L ≤ 3072) : (nI L - nI 6).toInt = (L : Int) - 6 := by
  rw [Int32.toInt_sub, nI_toInt (by omega), nI_toInt (by omega)]
  exact Jvm.Kit.bmod32 (by omega) (by omega)
theorem lw_head (hC : lw_C p s m meth c b L xs qF qM) (hS : va_S (lw_A s) s.heap H []) (hl : lv_has ls 4 (lw_V b qF qM i)) (hi : i ≤ 3072) (kt : L < i + 6 → W p l e room_1 s m #[Value.ref b] below meth c H [] cells slots Q (F0 m 511 ls [])) (kf : i + 6 ≤ L → W p l e room_1 s m #[Value.ref b] below meth c H [] cells slots Q (F0 m 27 ls [])) : W p l e room_1 s m #[Value.ref b] below meth c H [] cells slots Q (F0 m 18 ls []) := by
  have hL := hC.2.2.2.2.2.1
  refine lv_iload_n hC.1.1 hC.1.2.1 d_Law_law_18 rfl (lv_at hl 0 rfl) ?_
  refine lv_aload_n hC.1.1 hC.1.2.1 d_Law_law_19 rfl (lv_at hl 3 rfl) ?_
  refine va_slen hC.1.1 hC.1.2.1 hC.2.2.2.1 hC.2.2.2.2.1 (Nat.not_le.mpr hC.2.2.2.2.1) hS d_Law_law_20 ?_
  refine lv_bipush (v := nI 6) hC.1.1 hC.1.2.1 d_Law_law_21 (by decide) ?_
  refine lv_isub hC.1.1 hC.1.2.1 d_Law_law_23 ?_
  refine zz_rjgt (tgt := 511) hC.1 d_Law_law_24 (by decide) (fun h => kt ?_) (fun h => kf ?_)
  · rw [show Int32.ofNat L = nI L from rfl, lw_sub hL, nI_toInt (by omega)] at h
    omega
  · rw [show Int32.ofNat L = nI L from rfl, lw_sub hL, nI_toInt (by omega)] at h
    omega
set_option maxHeartbeats 4000000 in
theorem lw_body (hC : lw_C p s m meth c b L xs qF qM) (hJ : lw_J s qF qM H) (hl : lv_has ls 4 (lw_V b qF qM i)) (hi : i + 6 ≤ L) (hcs : cells ≤ room_1.cells ∧ slots ≤ room_1.slots) (kk : ∀ H1, lw_J s qF qM H1 → W p l e room_1 s m #[Value.ref b] below meth c H1 [] cells slots Q (F0 m 505 ls [])) : W p l e room_1 s m #[Value.ref b] below meth c H [] cells slots Q (F0 m 27 ls []) := by
  have hL := hC.2.2.2.2.2.1
  obtain ⟨F, M, hF, hM, hj, hS⟩ := hJ
  have hJ : lw_J s qF qM H := ⟨F, M, hF, hM, hj, hS⟩
  refine lv_aload_n hC.1.1 hC.1.2.1 d_Law_law_27 rfl (lv_at hl 3 rfl) ?_
  refine lv_iload_n hC.1.1 hC.1.2.1 d_Law_law_28 rfl (lv_at hl 0 rfl) ?_
  refine va_sld hC.1.1 hC.1.2.1 hC.2.2.2.1 hC.2.2.2.2.1 (Nat.not_le.mpr hC.2.2.2.2.1) hS (vp_in_nI (show i < L by omega) (by omega)) d_Law_law_29 ?_
  refine lv_bipush (v := nI 31) hC.1.1 hC.1.2.1 d_Law_law_30 (by decide) ?_
  refine lv_iand hC.1.1 hC.1.2.1 d_Law_law_32 ?_
  generalize xs (nI i).toNatClampNeg &&& nI 31 = v
  by_cases h : v.toInt < 0 ∨ 16 < v.toInt
  · exact lv_tableOut (tgt := 505) hC.1.1 hC.1.2.1 d_Law_law_33 h (by decide) (kk H hJ)
  · rcases (show v.toInt = 0 ∨ v.toInt = 1 ∨ v.toInt = 2 ∨ v.toInt = 3 ∨ v.toInt = 4 ∨ v.toInt = 5 ∨ v.toInt = 6 ∨ v.toInt = 7 ∨ v.toInt = 8 ∨ v.toInt = 9 ∨ v.toInt = 10 ∨ v.toInt = 11 ∨ v.toInt = 12 ∨ v.toInt = 13 ∨ v.toInt = 14 ∨ v.toInt = 15 ∨ v.toInt = 16 by omega) with hk | hk | hk | hk | hk | hk | hk | hk | hk | hk | hk | hk | hk | hk | hk | hk | hk
    · exact lv_tableIn (off := 83) (tgt := 116) hC.1.1 hC.1.2.1 d_Law_law_33 (by omega) (by omega) (by rw [hk]; rfl) (by decide) (lw_case_rule hC hJ hl hi hcs kk)
    · exact lv_tableIn (off := 146) (tgt := 179) hC.1.1 hC.1.2.1 d_Law_law_33 (by omega) (by omega) (by rw [hk]; rfl) (by decide) (lw_case_clear hC hJ hl hi hcs kk)
    · exact lv_tableIn (off := 157) (tgt := 190) hC.1.1 hC.1.2.1 d_Law_law_33 (by omega) (by omega) (by rw [hk]; rfl) (by decide) (lw_case_states hC hJ hl hi hcs kk)
    · exact lv_tableIn (off := 170) (tgt := 203) hC.1.1 hC.1.2.1 d_Law_law_33 (by omega) (by omega) (by rw [hk]; rfl) (by decide) (lw_case_push hC hJ hl hi hcs kk)
    · exact lv_tableIn (off := 203) (tgt := 236) hC.1.1 hC.1.2.1 d_Law_law_33 (by omega) (by omega) (by rw [hk]; rfl) (by decide) (lw_case_pop hC hJ hl hi hcs kk)
    · exact lv_tableIn (off := 216) (tgt := 249) hC.1.1 hC.1.2.1 d_Law_law_33 (by omega) (by omega) (by rw [hk]; rfl) (by decide) (lw_case_trees hC hJ hl hi hcs kk)
    · exact lv_tableIn (off := 229) (tgt := 262) hC.1.1 hC.1.2.1 d_Law_law_33 (by omega) (by omega) (by rw [hk]; rfl) (by decide) (lw_case_nodes hC hJ hl hi hcs kk)
    · exact lv_tableIn (off := 242) (tgt := 275) hC.1.1 hC.1.2.1 d_Law_law_33 (by omega) (by omega) (by rw [hk]; rfl) (by decide) (lw_case_relative hC hJ hl hi hcs kk)
    · exact lv_tableIn (off := 275) (tgt := 308) hC.1.1 hC.1.2.1 d_Law_law_33 (by omega) (by omega) (by rw [hk]; rfl) (by decide) (lw_case_choice hC hJ hl hi hcs kk)
    · exact lv_tableIn (off := 308) (tgt := 341) hC.1.1 hC.1.2.1 d_Law_law_33 (by omega) (by omega) (by rw [hk]; rfl) (by decide) (lw_case_cost hC hJ hl hi hcs kk)
    · exact lv_tableIn (off := 331) (tgt := 364) hC.1.1 hC.1.2.1 d_Law_law_33 (by omega) (by omega) (by rw [hk]; rfl) (by decide) (lw_case_registers hC hJ hl hi hcs kk)
    · exact lv_tableIn (off := 354) (tgt := 387) hC.1.1 hC.1.2.1 d_Law_law_33 (by omega) (by omega) (by rw [hk]; rfl) (by decide) (lw_case_cover hC hJ hl hi hcs kk)
    · exact lv_tableIn (off := 367) (tgt := 400) hC.1.1 hC.1.2.1 d_Law_law_33 (by omega) (by omega) (by rw [hk]; rfl) (by decide) (lw_case_instruction hC hJ hl hi hcs kk)
    · exact lv_tableIn (off := 400) (tgt := 433) hC.1.1 hC.1.2.1 d_Law_law_33 (by omega) (by omega) (by rw [hk]; rfl) (by decide) (lw_case_slots hC hJ hl hi hcs kk)
    · exact lv_tableIn (off := 413) (tgt := 446) hC.1.1 hC.1.2.1 d_Law_law_33 (by omega) (by omega) (by rw [hk]; rfl) (by decide) (lw_case_set hC hJ hl hi hcs kk)
    · exact lv_tableIn (off := 446) (tgt := 479) hC.1.1 hC.1.2.1 d_Law_law_33 (by omega) (by omega) (by rw [hk]; rfl) (by decide) (lw_case_run hC hJ hl hi hcs kk)
    · exact lv_tableIn (off := 459) (tgt := 492) hC.1.1 hC.1.2.1 d_Law_law_33 (by omega) (by omega) (by rw [hk]; rfl) (by decide) (lw_case_value hC hJ hl hi hcs kk)
theorem lw_loop (hC : lw_C p s m meth c b L xs qF qM) (hcs : cells ≤ room_1.cells ∧ slots ≤ room_1.slots) (kx : ∀ (H : Heap) (ls : Array Slot), W p l e room_1 s m #[Value.ref b] below meth c H [] cells slots Q (F0 m 511 ls [])) : ∀ (n i : Nat), L ≤ i + n → i ≤ 3072 → ∀ (H : Heap) (ls : Array Slot), lw_J s qF qM H → lv_has ls 4 (lw_V b qF qM i) → W p l e room_1 s m #[Value.ref b] below meth c H [] cells slots Q (F0 m 18 ls []) := by
  have hL := hC.2.2.2.2.2.1
  intro n
  induction n with
  | zero =>
    intro i h1 h2 H ls hJ hl
    obtain ⟨F, M, hF, hM, hj, hS⟩ := hJ
    exact lw_head hC hS hl h2 (fun _ => kx H ls) (fun h => absurd h (by omega))
  | succ n ih =>
    intro i h1 h2 H ls hJ hl
    have hJ0 := hJ
    obtain ⟨F, M, hF, hM, hj, hS⟩ := hJ
    refine lw_head hC hS hl h2 (fun _ => kx H ls) (fun hi => lw_body hC hJ0 hl hi hcs (fun H1 hJ1 => ?_))
    refine lv_iinc (k := 0) (v := nI (i + 6)) (lv' := lw_V b qF qM (i + 6)) hC.1.1 hC.1.2.1 d_Law_law_505 hl rfl (nI_add _ 6) (by decide) rfl (fun ls hl => ?_)
    refine lv_goto (tgt := 18) hC.1.1 hC.1.2.1 d_Law_law_508 (by decide) ?_
    exact ih (i + 6) (by omega) (by omega) H1 ls hJ1 hl
end LAW2
