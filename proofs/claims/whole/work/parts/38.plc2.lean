/-! One instruction gets its place. -/
abbrev xg_X : Nat → Prop := fun c => c = 27 ∨ c = 35 ∨ c = 37
theorem ph_lt {reg i : Nat} {un pl hd : Nat → Nat} (h : ph_A reg un pl hd i) {r : Nat} (hr : r < reg) (hf : hd r < 1000) : hd r < i := by
  rcases h r hr with ⟨a, b⟩ | ⟨a, b, c⟩
  · exact absurd hf a
  · exact a
theorem ph_ltB {reg i : Nat} {un pl hd : Nat → Nat} (h : ph_B reg un pl hd i) {r : Nat} (hr : r < reg) (hf : hd r < 1000) : hd r < i := by
  rcases h r hr with ⟨a, b⟩ | ⟨a, b, c⟩
  · exact absurd hf a
  · exact a
theorem gp_spill {reg i sc : Nat} {un pl hd : Nat → Nat} {S S1 : zz_S} (hi : i ≤ 160) (hB : ph_B reg un pl hd i) (hall : ∀ r, r < reg → hd r < 1000) (hpl : ∀ j, j < i → S.1 35 j = nI (pl j)) (hh : ∀ r, r < reg → S.1 37 r = vw_h (hd r))
    (hS : (ph_mx un hd i reg = i ∧ S1 = zz_u (zz_u S 35 i (nI (reg + sc))) 27 14 (nI (sc + 1))) ∨ (ph_mx un hd i reg ≠ i ∧ S1 = zz_u (zz_u (zz_u (zz_u S 35 i (nI (pl (ph_mx un hd i reg)))) 37 (pl (ph_mx un hd i reg)) (nI i)) 35 (ph_mx un hd i reg) (nI (reg + sc))) 27 14 (nI (sc + 1)))) :
    ∃ pl2 hd2 : Nat → Nat, pl_step reg un i pl sc pl2 (sc + 1) ∧ ph_A reg un pl2 hd2 (i + 1) ∧ (∀ j, j < i + 1 → S1.1 35 j = nI (pl2 j)) ∧ (∀ r, r < reg → S1.1 37 r = vw_h (hd2 r)) ∧ S1.1 27 14 = nI (sc + 1) ∧ S1.1 27 13 = S.1 27 13 ∧ zz_off xg_X S S1 := by
  have hmax := ph_max hB hall hi
  have hnf : ∀ r, r < reg → ¬ pl_fr reg un pl i r := fun r hr => (ph_held hi hB hr (hall r hr)).1
  rcases hS with ⟨e, rfl⟩ | ⟨e, rfl⟩
  · rw [e] at hmax
    refine ⟨va_up pl i (reg + sc), hd, Or.inr ⟨hnf, i, hmax, rfl, Or.inl ⟨rfl, rfl⟩⟩, ph_own (by omega) hB, fun j hj => ?_, fun r hr => hh r hr, rfl, rfl, fun c hc => ?_⟩
    · show upd (S.1 35) i (nI (reg + sc)) j = _
      exact xk_upN (k := 0) hpl j hj
    · exact ⟨by rw [zz_u1 _ 27 _ _ c (fun h => hc (Or.inl h)), zz_u1 _ 35 _ _ c (fun h => hc (Or.inr (Or.inl h)))], rfl⟩
  · have hx : pl_held reg un pl i (ph_mx un hd i reg) := by
      rcases hmax.1 with h | h
      · exact absurd h e
      · exact h
    generalize ph_mx un hd i reg = x at *
    have hxi := hx.1
    refine ⟨va_up (va_up pl x (reg + sc)) i (pl x), va_up hd (pl x) i, Or.inr ⟨hnf, x, hmax, rfl, Or.inr ⟨e, rfl⟩⟩, ph_swap (by omega) hB hx, fun j hj => ?_, fun r hr => ?_, rfl, rfl, fun c hc => ?_⟩
    · show upd (upd (S.1 35) i (nI (pl x))) x (nI (reg + sc)) j = _
      by_cases ej : j = i
      · rw [ej, pk_un (by omega), pk_us, mp_up_s]
      · by_cases ex : j = x
        · rw [ex, pk_us, mp_up_n (by omega), mp_up_s]
        · rw [pk_un ex, pk_un ej, mp_up_n ej, mp_up_n ex]
          exact hpl j (by omega)
    · show upd (S.1 37) (pl x) (nI i) r = _
      by_cases er : r = pl x
      · rw [er, pk_us, mp_up_s, vw_h_in (by omega)]
      · rw [pk_un er, mp_up_n er]
        exact hh r hr
    · exact ⟨by rw [zz_u1 _ 27 _ _ c (fun h => hc (Or.inl h)), zz_u1 _ 35 _ _ c (fun h => hc (Or.inr (Or.inl h))), zz_u1 _ 37 _ _ c (fun h => hc (Or.inr (Or.inr h))), zz_u1 _ 35 _ _ c (fun h => hc (Or.inr (Or.inl h)))], rfl⟩
theorem gp_give {reg i sc r : Nat} {un pl hd : Nat → Nat} {S : zz_S} (hi : i ≤ 160) (hB : ph_B reg un pl hd i) (hr : r < reg) (hf : ¬ hd r < 1000) (hl : ∀ s, s < r → hd s < 1000) (hpl : ∀ j, j < i → S.1 35 j = nI (pl j)) (hh : ∀ r, r < reg → S.1 37 r = vw_h (hd r)) :
    ∃ pl2 hd2 : Nat → Nat, pl_step reg un i pl sc pl2 sc ∧ ph_A reg un pl2 hd2 (i + 1) ∧ (∀ j, j < i + 1 → (zz_u (zz_u S 37 r (nI i)) 35 i (nI r)).1 35 j = nI (pl2 j)) ∧ (∀ s, s < reg → (zz_u (zz_u S 37 r (nI i)) 35 i (nI r)).1 37 s = vw_h (hd2 s)) ∧ zz_off xg_X S (zz_u (zz_u S 37 r (nI i)) 35 i (nI r)) := by
  refine ⟨va_up pl i r, va_up hd r i, Or.inl ⟨r, hr, ph_free hi hB hr hf, fun s hs => (ph_held hi hB (by omega) (hl s hs)).1, rfl, rfl⟩, ph_give hi hB hr hf, fun j hj => ?_, fun s hs => ?_, fun c hc => ?_⟩
  · show upd (S.1 35) i (nI r) j = _
    exact xk_upN (k := 0) hpl j hj
  · show upd (S.1 37) r (nI i) s = _
    by_cases e : s = r
    · rw [e, pk_us, mp_up_s, vw_h_in (by omega)]
    · rw [pk_un e, mp_up_n e]
      exact hh s hs
  · exact ⟨by rw [zz_u1 _ 35 _ _ c (fun h => hc (Or.inr (Or.inl h))), zz_u1 _ 37 _ _ c (fun h => hc (Or.inr (Or.inr h)))], rfl⟩
