/-! Trees in a row: every node behind its kids. -/
def tr_ok (op sz : Nat → Nat) (m : Nat) : Prop := ∀ i, i < m → op i < 8 ∧ 1 ≤ sz i ∧ sz i ≤ i + 1 ∧ (zz_kd (op i) = 0 → sz i = 1) ∧ (zz_kd (op i) = 1 → 1 ≤ i ∧ sz i = 1 + sz (i - 1)) ∧ (zz_kd (op i) = 2 → 2 ≤ i ∧ sz (i - 1) + 1 ≤ i ∧ sz i = 1 + sz (i - 1 - sz (i - 1)) + sz (i - 1))
def tr_fa (op sz : Nat → Nat) (i : Nat) : Nat := if zz_kd (op i) = 2 then i - 1 - sz (i - 1) else i - 1
theorem tr_kd (k : Nat) : zz_kd k = 0 ∨ zz_kd k = 1 ∨ zz_kd k = 2 := by
  unfold zz_kd
  split
  · exact Or.inl rfl
  · split
    · exact Or.inr (Or.inl rfl)
    · exact Or.inr (Or.inr rfl)
/-- the trees that are left ahead of x, down to fm; of each root 'ok' holds -/
def tr_fr (sz : Nat → Nat) (ok : Nat → Prop) (fm : Nat) : Nat → List Nat → Prop
  | x, [] => x = fm
  | x, p :: L => x = p + 1 ∧ fm + sz p ≤ x ∧ ok p ∧ tr_fr sz ok fm (x - sz p) L
section TR
variable {op sz : Nat → Nat} {ok ok' : Nat → Prop} {m fm x : Nat}
theorem tr_fr_ge {L : List Nat} (h : tr_fr sz ok fm x L) : fm ≤ x := by
  cases L with
  | nil => exact Nat.le_of_eq h.symm
  | cons p L =>
    have := h.2.1
    omega
theorem tr_fr_mono : ∀ (L : List Nat) {x : Nat}, tr_fr sz ok fm x L → (∀ p, p < x → fm ≤ p → ok p → ok' p) → (∀ i, i < x → 1 ≤ sz i) → tr_fr sz ok' fm x L
  | [], _, h, _, _ => h
  | p :: L, x, h, hm, hs => by
    obtain ⟨h1, h2, h3, h4⟩ := h
    have := hs p (by omega)
    have h5 := tr_fr_ge h4
    exact ⟨h1, h2, hm p (by omega) (by omega) h3, tr_fr_mono L h4 (fun p hp => hm p (by omega)) (fun i hi => hs i (by omega))⟩
/-- the last tree's root is taken: its kids' trees are left -/
theorem tr_fr_step (ht : tr_ok op sz m) {p : Nat} {L : List Nat} (hp : p < m) (h : tr_fr sz ok fm (p + 1) L) (hne : fm ≤ p) (h1 : zz_kd (op p) = 1 → ok' (p - 1)) (h2 : zz_kd (op p) = 2 → ok' (p - 1) ∧ ok' (tr_fa op sz p)) (hm : ∀ i, i + sz p ≤ p → fm ≤ i → ok i → ok' i) : ∃ L', tr_fr sz ok' fm p L' := by
  obtain ⟨t1, t2, t3, t4, t5, t6⟩ := ht p hp
  cases L with
  | nil =>
    have h : p + 1 = fm := h
    omega
  | cons p' L =>
    obtain ⟨a1, a2, a3, a4⟩ := h
    have e : p' = p := by omega
    subst e
    have hs : ∀ i, i < p' + 1 → 1 ≤ sz i := fun i hi => (ht i (by omega)).2.1
    have hL : tr_fr sz ok' fm (p' + 1 - sz p') L := tr_fr_mono L a4 (fun i hi hf => hm i (by omega) hf) (fun i hi => hs i (by omega))
    rcases tr_kd (op p') with hk | hk | hk
    · have := t4 hk
      refine ⟨L, ?_⟩
      rw [show p' + 1 - sz p' = p' by omega] at hL
      exact hL
    · obtain ⟨b1, b2⟩ := t5 hk
      refine ⟨(p' - 1) :: L, by omega, by omega, h1 hk, ?_⟩
      rw [show p' + 1 - sz p' = p' - sz (p' - 1) by omega] at hL
      exact hL
    · obtain ⟨b1, b2, b3⟩ := t6 hk
      have ef : tr_fa op sz p' = p' - 1 - sz (p' - 1) := by rw [tr_fa, if_pos hk]
      have c := h2 hk
      rw [ef] at c
      refine ⟨(p' - 1) :: (p' - 1 - sz (p' - 1)) :: L, by omega, by omega, c.1, by omega, by omega, c.2, ?_⟩
      rw [show p' + 1 - sz p' = p' - sz (p' - 1) - sz (p' - 1 - sz (p' - 1)) by omega] at hL
      exact hL
/-- a node's kids lie ahead of it, in its own tree -/
theorem tr_kid (ht : tr_ok op sz m) {p : Nat} {L : List Nat} (hp : p < m) (h : tr_fr sz ok fm (p + 1) L) (hne : fm ≤ p) : ok p ∧ (0 < zz_kd (op p) → fm ≤ p - 1 ∧ 1 ≤ p ∧ fm ≤ tr_fa op sz p ∧ tr_fa op sz p < p) := by
  obtain ⟨t1, t2, t3, t4, t5, t6⟩ := ht p hp
  cases L with
  | nil =>
    have h : p + 1 = fm := h
    omega
  | cons p' L =>
    obtain ⟨a1, a2, a3, a4⟩ := h
    have e : p' = p := by omega
    subst e
    refine ⟨a3, fun hk0 => ?_⟩
    rcases tr_kd (op p') with hk | hk | hk
    · omega
    · obtain ⟨b1, b2⟩ := t5 hk
      have := (ht (p' - 1) (by omega)).2.1
      rw [tr_fa, if_neg (by omega)]
      omega
    · obtain ⟨b1, b2, b3⟩ := t6 hk
      have c1 := (ht (p' - 1) (by omega)).2.1
      have c2 := (ht (p' - 1 - sz (p' - 1)) (by omega)).2.1
      rw [tr_fa, if_pos hk]
      omega
end TR
