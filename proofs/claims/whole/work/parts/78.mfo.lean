/-! Paths of chain rules, as the reference follows them. -/
theorem mf_head {rl : mx_R} {y : Nat → Nat} {k r : Nat} {rest : List Nat} (h : fo_path rl y k (r :: rest)) : r = y k := by
  cases rest with
  | nil => exact h.1
  | cons r2 rest3 => exact h.1
theorem mf_start {rl : mx_R} {y : Nat → Nat} {k : Nat} {L : List Nat} (h : fo_path rl y k L) : ∃ rest, L = y k :: rest := by
  cases L with
  | nil => exact absurd h id
  | cons r rest => exact ⟨rest, by rw [mf_head h]⟩
theorem mf_next {rl : mx_R} {y : Nat → Nat} {k r : Nat} {rest : List Nat} (h : fo_path rl y k (r :: rest)) (h8 : (rl r).2.1 = 8) : ∃ rest2, rest = y (rl r).2.2.1 :: rest2 ∧ fo_path rl y (rl r).2.2.1 (y (rl r).2.2.1 :: rest2) := by
  cases rest with
  | nil => exact absurd h8 h.2
  | cons r2 rest3 =>
    have h2 := (fo_cons h).2.2
    have e := mf_head h2
    subst e
    exact ⟨rest3, rfl, h2⟩
theorem mf_last {rl : mx_R} {y : Nat → Nat} {k r n : Nat} {rest L : List Nat} (h : fo_path rl y k (r :: rest)) (h8 : (rl r).2.1 ≠ 8) (hd : L.drop n = r :: rest) : L.length = n + 1 ∧ L.getD (L.length - 1) 0 = r := by
  cases rest with
  | nil =>
    have h1 := congrArg List.length hd
    rw [List.length_drop] at h1
    have h2 : L.length - n = 1 := h1
    have e : L.length = n + 1 := by omega
    refine ⟨e, ?_⟩
    rw [e, Nat.add_sub_cancel]
    exact (wr_drop hd).1
  | cons r2 rest3 => exact absurd (fo_cons h).2.1 h8
theorem mk_22 {S : zz_S} {cs : cd_T} {v : Int32} (h : mk_cd S cs) : mk_cd (zz_u S 22 cs.1 v) cs := by
  refine ⟨h.1, h.2.1, fun i hi => ?_⟩
  rw [zz_u1 _ 22 _ _ 19 (by omega), zz_u1 _ 22 _ _ 20 (by omega), zz_u1 _ 22 _ _ 21 (by omega), zz_u1 _ 22 _ _ 23 (by omega), zz_u1 _ 22 _ _ 24 (by omega), zz_u1 _ 22 _ _ 25 (by omega), zz_u1s, pk_un (by omega)]
  exact h.2.2 i hi
abbrev em_X (c : Nat) : Prop := c = 0 ∨ (19 ≤ c ∧ c ≤ 25) ∨ c = 29 ∨ c = 30
abbrev cv_X (c : Nat) : Prop := c = 0 ∨ (11 ≤ c ∧ c ≤ 16) ∨ (19 ≤ c ∧ c ≤ 26) ∨ (28 ≤ c ∧ c ≤ 30)
