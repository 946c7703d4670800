/-! The reference's states. -/
def mk_st (S : zz_S) (A : Nat → ns_St) (n : Nat) : Prop := S.1 0 19 = nI n ∧ n ≤ 41 ∧ ∀ i, i < n → ∀ k, k < 4 → S.2 17 (4 * i + k) = lN (ns_at (A i).1 k) ∧ S.1 18 (4 * i + k) = vw_p (ns_at (A i).2 k)
theorem st_eq {a : ns_St} {f h : Nat → Nat} : (∀ j, j < 4 → ns_at a.1 j = f j ∧ ns_at a.2 j = h j) ↔ a = (ns_tup f, ns_tup h) := by
  constructor
  · intro e
    have e1 : a.1 = ns_tup f := (ns_tup_at a.1).symm.trans (ns_tup_eq (fun k hk => (e k hk).1))
    have e2 : a.2 = ns_tup h := (ns_tup_at a.2).symm.trans (ns_tup_eq (fun k hk => (e k hk).2))
    exact Prod.ext e1 e2
  · intro e j hj
    rw [e]
    exact ⟨ns_at_tup f j hj, ns_at_tup h j hj⟩
theorem vw_pti {a : Nat} : (vw_p a).toInt = if a < 24 then (a : Int) else -3 := by
  unfold vw_p
  split
  · exact nI_toInt (by omega)
  · rfl
theorem vw_pinj {a b : Nat} (ha : a ≤ 24) (hb : b ≤ 24) (h : (vw_p a).toInt = (vw_p b).toInt) : a = b := by
  rw [vw_pti, vw_pti] at h
  split at h <;> split at h <;> omega
abbrev ms_K (c : Nat) : Prop := c = 0 ∨ c = 17 ∨ c = 18
abbrev ms_X (c : Nat) : Prop := c = 0 ∨ (13 ≤ c ∧ c ≤ 18)
theorem mk_new {S Si : zz_S} {A : Nat → ns_St} {n : Nat} {f h : Nat → Nat} (hK : mk_st S A n) (hn : n ≤ 40) (hold : ∀ i, i < 4 * n → Si.2 17 i = S.2 17 i ∧ Si.1 18 i = S.1 18 i) (hnew : ∀ j, j < 4 → Si.2 17 (4 * n + j) = lN (f j) ∧ Si.1 18 (4 * n + j) = vw_p (h j)) : mk_st (zz_u Si 0 19 (nI (n + 1))) (va_up A n (ns_tup f, ns_tup h)) (n + 1) := by
  refine ⟨by rw [zz_u1s, pk_us], by omega, fun i hi k hk => ?_⟩
  rw [zz_u1 _ 0 _ _ 18 (by omega)]
  show Si.2 17 _ = _ ∧ _
  by_cases e : i = n
  · rw [e, va_up, if_pos rfl]
    show _ = lN (ns_at (ns_tup f) k) ∧ _ = vw_p (ns_at (ns_tup h) k)
    rw [ns_at_tup f k hk, ns_at_tup h k hk]
    exact hnew k hk
  · rw [va_up, if_neg e, (hold (4 * i + k) (by omega)).1, (hold (4 * i + k) (by omega)).2]
    exact hK.2.2 i (by omega) k hk
