/-! The places: registers while there are free ones, else the value that is needed longest gets a slot. pl j: the place of instruction j; un j: its last use. -/
abbrev pl_held (reg : Nat) (un pl : Nat → Nat) (i j : Nat) : Prop := j < i ∧ pl j < reg ∧ i < un j
def pl_fr (reg : Nat) (un pl : Nat → Nat) (i r : Nat) : Prop := ∀ j, pl_held reg un pl i j → pl j ≠ r
def pl_max (reg : Nat) (un pl : Nat → Nat) (i x : Nat) : Prop := (x = i ∨ pl_held reg un pl i x) ∧ (un i < un x ∨ un i = un x ∧ i ≤ x) ∧ ∀ j, pl_held reg un pl i j → un j < un x ∨ un j = un x ∧ j ≤ x
def pl_step (reg : Nat) (un : Nat → Nat) (i : Nat) (pl : Nat → Nat) (sc : Nat) (pl' : Nat → Nat) (sc' : Nat) : Prop :=
  (∃ r, r < reg ∧ pl_fr reg un pl i r ∧ (∀ r', r' < r → ¬ pl_fr reg un pl i r') ∧ pl' = va_up pl i r ∧ sc' = sc) ∨
  ((∀ r, r < reg → ¬ pl_fr reg un pl i r) ∧ ∃ x, pl_max reg un pl i x ∧ sc' = sc + 1 ∧ (x = i ∧ pl' = va_up pl i (reg + sc) ∨ x ≠ i ∧ pl' = va_up (va_up pl x (reg + sc)) i (pl x)))
def pl_at (reg : Nat) (un : Nat → Nat) : Nat → (Nat → Nat) → Nat → Prop
  | 0, pl, sc => pl = (fun _ => 0) ∧ sc = 0
  | i + 1, pl', sc' => ∃ pl sc, pl_at reg un i pl sc ∧ pl_step reg un i pl sc pl' sc'
section PLC
variable {reg : Nat} {un pl pl' pl2 : Nat → Nat} {i sc sc' sc2 : Nat}
theorem pl_step_uniq (h : pl_step reg un i pl sc pl' sc') (h2 : pl_step reg un i pl sc pl2 sc2) : pl' = pl2 ∧ sc' = sc2 := by
  rcases h with ⟨r, a1, a2, a3, a4, a5⟩ | ⟨a1, x, a2, a3, a4⟩ <;> rcases h2 with ⟨r2, b1, b2, b3, b4, b5⟩ | ⟨b1, x2, b2, b3, b4⟩
  · have e : r = r2 := by
      rcases Nat.lt_trichotomy r r2 with h | h | h
      · exact absurd a2 (b3 r h)
      · exact h
      · exact absurd b2 (a3 r2 h)
    rw [a4, b4, a5, b5, e]
    exact ⟨rfl, rfl⟩
  · exact absurd a2 (b1 r a1)
  · exact absurd b2 (a1 r2 b1)
  · have e : x = x2 := by
      obtain ⟨c1, c2, c3⟩ := a2
      obtain ⟨d1, d2, d3⟩ := b2
      have f1 : un x2 < un x ∨ un x2 = un x ∧ x2 ≤ x := by
        rcases d1 with e | e
        · rw [e]; exact c2
        · exact c3 x2 e
      have f2 : un x < un x2 ∨ un x = un x2 ∧ x ≤ x2 := by
        rcases c1 with e | e
        · rw [e]; exact d2
        · exact d3 x e
      omega
    subst e
    refine ⟨?_, by omega⟩
    rcases a4 with ⟨e, a4⟩ | ⟨e, a4⟩ <;> rcases b4 with ⟨e2, b4⟩ | ⟨e2, b4⟩
    · rw [a4, b4]
    · exact absurd e e2
    · exact absurd e2 e
    · rw [a4, b4]
theorem pl_at_uniq : ∀ (i : Nat) {pl pl' : Nat → Nat} {sc sc' : Nat}, pl_at reg un i pl sc → pl_at reg un i pl' sc' → pl = pl' ∧ sc = sc'
  | 0, _, _, _, _, h, h' => ⟨h.1.trans h'.1.symm, h.2.trans h'.2.symm⟩
  | i + 1, _, _, _, _, h, h' => by
    obtain ⟨p1, s1, a1, a2⟩ := h
    obtain ⟨p2, s2, b1, b2⟩ := h'
    obtain ⟨rfl, rfl⟩ := pl_at_uniq i a1 b1
    exact pl_step_uniq a2 b2
/-- what is in one place is never needed at once; slots are used once -/
def pl_ok (reg : Nat) (un : Nat → Nat) (i : Nat) (pl : Nat → Nat) (sc : Nat) : Prop :=
  (∀ j k, j < k → k < i → pl j = pl k → un j ≤ k) ∧ (∀ j, j < i → pl j < reg + sc) ∧ (∀ j k, j < i → k < i → reg ≤ pl j → pl j = pl k → j = k) ∧ sc ≤ i
theorem pl_ok_step (hr : 0 < reg) (h : pl_ok reg un i pl sc) (hs : pl_step reg un i pl sc pl' sc') : pl_ok reg un (i + 1) pl' sc' := by
  obtain ⟨h1, h2, h3, h4⟩ := h
  rcases hs with ⟨r, a1, a2, a3, rfl, rfl⟩ | ⟨a1, x, a2, rfl, a4⟩
  · refine ⟨fun j k hjk hk e => ?_, fun j hj => ?_, fun j k hj hk hg e => ?_, by omega⟩
    · by_cases ek : k = i
      · subst ek
        rw [mp_up_n (by omega), mp_up_s] at e
        by_cases hu : un j ≤ k
        · exact hu
        · exact absurd e (a2 j ⟨hjk, by omega, by omega⟩)
      · rw [mp_up_n (by omega), mp_up_n ek] at e
        exact h1 j k hjk (by omega) e
    · by_cases ej : j = i
      · rw [ej, mp_up_s]; omega
      · rw [mp_up_n ej]; exact h2 j (by omega)
    · by_cases ej : j = i
      · rw [ej, mp_up_s] at hg
        omega
      · by_cases ek : k = i
        · rw [mp_up_n ej, ek, mp_up_s] at e
          rw [mp_up_n ej] at hg
          omega
        · rw [mp_up_n ej, mp_up_n ek] at e
          rw [mp_up_n ej] at hg
          exact h3 j k (by omega) (by omega) hg e
  · rcases a4 with ⟨rfl, rfl⟩ | ⟨hx, rfl⟩
    · refine ⟨fun j k hjk hk e => ?_, fun j hj => ?_, fun j k hj hk hg e => ?_, by omega⟩
      · by_cases ek : k = x
        · subst ek
          rw [mp_up_n (by omega), mp_up_s] at e
          have := h2 j (by omega)
          omega
        · rw [mp_up_n (by omega), mp_up_n ek] at e
          exact h1 j k hjk (by omega) e
      · by_cases ej : j = x
        · rw [ej, mp_up_s]; omega
        · rw [mp_up_n ej]
          have := h2 j (by omega)
          omega
      · by_cases ej : j = x
        · by_cases ek : k = x
          · omega
          · rw [ej, mp_up_s, mp_up_n ek] at e
            have := h2 k (by omega)
            omega
        · by_cases ek : k = x
          · rw [mp_up_n ej, ek, mp_up_s] at e
            have := h2 j (by omega)
            omega
          · rw [mp_up_n ej, mp_up_n ek] at e
            rw [mp_up_n ej] at hg
            exact h3 j k (by omega) (by omega) hg e
    · have hh : pl_held reg un pl i x := by
        rcases a2.1 with e | e
        · exact absurd e hx
        · exact e
      obtain ⟨g1, g2, g3⟩ := hh
      have u : ∀ j, va_up (va_up pl x (reg + sc)) i (pl x) j = if j = i then pl x else if j = x then reg + sc else pl j := fun j => rfl
      refine ⟨fun j k hjk hk e => ?_, fun j hj => ?_, fun j k hj hk hg e => ?_, by omega⟩
      · rw [u, u] at e
        rw [if_neg (show j ≠ i by omega)] at e
        by_cases ek : k = i
        · rw [if_pos ek] at e
          by_cases ej : j = x
          · rw [if_pos ej] at e
            have := h2 x g1
            omega
          · rw [if_neg ej] at e
            rcases Nat.lt_or_gt_of_ne ej with h | h
            · have := h1 j x h g1 e
              omega
            · have := h1 x j h (by omega) e.symm
              omega
        · rw [if_neg ek] at e
          by_cases ej : j = x
          · rw [if_pos ej, if_neg (show k ≠ x by omega)] at e
            have := h2 k (by omega)
            omega
          · rw [if_neg ej] at e
            by_cases ekx : k = x
            · rw [if_pos ekx] at e
              have := h2 j (by omega)
              omega
            · rw [if_neg ekx] at e
              exact h1 j k hjk (by omega) e
      · rw [u]
        have := h2 x g1
        split
        · omega
        · split
          · omega
          · have := h2 j (by omega)
            omega
      · rw [u] at hg e
        rw [u] at e
        by_cases ej : j = i
        · rw [if_pos ej] at hg
          omega
        · rw [if_neg ej] at hg e
          by_cases ek : k = i
          · rw [if_pos ek] at e
            by_cases ejx : j = x
            · rw [if_pos ejx] at e
              omega
            · rw [if_neg ejx] at e hg
              omega
          · rw [if_neg ek] at e
            by_cases ejx : j = x
            · by_cases ekx : k = x
              · omega
              · rw [if_pos ejx, if_neg ekx] at e
                have := h2 k (by omega)
                omega
            · rw [if_neg ejx] at e hg
              by_cases ekx : k = x
              · rw [if_pos ekx] at e
                have := h2 j (by omega)
                omega
              · rw [if_neg ekx] at e
                exact h3 j k (by omega) (by omega) hg e
theorem pl_ok_at (hr : 0 < reg) : ∀ (i : Nat) {pl : Nat → Nat} {sc : Nat}, pl_at reg un i pl sc → pl_ok reg un i pl sc
  | 0, _, _, h => by
    obtain ⟨rfl, rfl⟩ := h
    exact ⟨fun j k _ hk => absurd hk (Nat.not_lt_zero _), fun j hj => absurd hj (Nat.not_lt_zero _), fun j k hj => absurd hj (Nat.not_lt_zero _), Nat.le_refl _⟩
  | i + 1, _, _, h => by
    obtain ⟨p1, s1, a1, a2⟩ := h
    exact pl_ok_step hr (pl_ok_at hr i a1) a2
end PLC
