/-! Class and reference side by side: the same words in both, the same answers from both. -/
def lj (F M : zz_S) (rl : mx_R) (R : Nat) (op : Nat → Nat) (nu : Nat → Int32) (sz ht : Nat → Nat) (m t : Nat) (ps : Nat → Nat) (reg : Nat) (vr : Nat → Int32) (cs : cd_T) (pl : Nat → Nat) (sc : Nat) : Prop :=
  xi_ok F rl R op nu sz ht m t reg vr cs pl sc ∧ mi_ok M rl R op nu sz ht m t ps reg vr cs pl sc ∧ xn_ok op nu m ∧ mu_ok cs pl sc ∧ 1 ≤ reg ∧ reg ≤ 4
def lj_ok (F M : zz_S) : Prop := ∃ rl R op nu sz ht m t ps reg vr cs pl sc, lj F M rl R op nu sz ht m t ps reg vr cs pl sc
theorem xe_uniq {vr : Nat → Int32} {op : Nat → Nat} {nu : Nat → Int32} {sz : Nat → Nat} {vl vl' : Nat → Int32} {a m : Nat} (h : xe_ok vr op nu sz vl a m) (h' : xe_ok vr op nu sz vl' a m) (hin : ∀ i, a ≤ i → i < m → 0 < zz_kd (op i) → a ≤ i - 1 ∧ 1 ≤ i ∧ a ≤ tr_fa op sz i ∧ tr_fa op sz i < i) : ∀ i, a ≤ i → i < m → vl i = vl' i := by
  intro i
  induction i using Nat.strongRecOn with
  | ind i ih =>
    intro h1 h2
    rw [h i h1 h2, h' i h1 h2]
    have e1 : (if 0 < zz_kd (op i) then vl (tr_fa op sz i) else 0) = (if 0 < zz_kd (op i) then vl' (tr_fa op sz i) else 0) := by
      by_cases hc : 0 < zz_kd (op i)
      · have := hin i h1 h2 hc
        rw [if_pos hc, if_pos hc, ih _ this.2.2.2 this.2.2.1 (by omega)]
      · rw [if_neg hc, if_neg hc]
    have e2 : (if zz_kd (op i) = 2 then vl (i - 1) else 0) = (if zz_kd (op i) = 2 then vl' (i - 1) else 0) := by
      by_cases hc : zz_kd (op i) = 2
      · have := hin i h1 h2 (by omega)
        rw [if_pos hc, if_pos hc, ih (i - 1) (by omega) this.1 (by omega)]
      · rw [if_neg hc, if_neg hc]
    rw [e1, e2]
theorem wr_st_eq {rl : mx_R} {op : Nat → Nat} {nu : Nat → Int32} {sz : Nat → Nat} {qs qs' : Nat → Nat → Nat} {W W' : Nat → Nat} {fm : Nat} : ∀ d, (∀ i, fm ≤ i → i < fm + d → wr_path rl qs W i = wr_path rl qs' W' i) → wr_st rl op nu sz qs W fm d = wr_st rl op nu sz qs' W' fm d
  | 0, _ => rfl
  | d + 1, h => by
    have ih := wr_st_eq (op := op) (nu := nu) (sz := sz) d (fun i h1 h2 => h i h1 (by omega))
    have e := h (fm + d) (by omega) (by omega)
    have el : wr_last rl qs W (fm + d) = wr_last rl qs' W' (fm + d) := by
      unfold wr_last
      rw [e]
    rw [wr_st, wr_st, ih, e, el]
section LJ
variable {F M F1 M1 : zz_S} {rl : mx_R} {R : Nat} {op : Nat → Nat} {nu : Nat → Int32} {sz ht : Nat → Nat} {m t : Nat} {ps : Nat → Nat} {reg : Nat} {vr : Nat → Int32} {cs : cd_T} {pl : Nat → Nat} {sc : Nat} {x y : Int32}
theorem lj_in (h : lj F M rl R op nu sz ht m t ps reg vr cs pl sc) (ht0 : t ≠ 0) : 0 < m ∧ (m - sz (m - 1)) + sz (m - 1) = m ∧ 1 ≤ sz (m - 1) ∧ ∀ i, m - sz (m - 1) ≤ i → i < m → 0 < zz_kd (op i) → m - sz (m - 1) ≤ i - 1 ∧ 1 ≤ i ∧ m - sz (m - 1) ≤ tr_fa op sz i ∧ tr_fa op sz i < i := by
  have hT := h.2.1.2.1
  have h2 := (ts_two hT.2.2.2.2.2.2.2.1).1 (by omega)
  have hf : (m - sz (m - 1)) + sz (m - 1) = m := by omega
  exact ⟨by omega, hf, by omega, fun i h1 h2 => (tr_in hT.2.2.2.2.2.1 (by omega) hf h1 h2).2⟩
theorem lj_lab (h : lj F M rl R op nu sz ht m t ps reg vr cs pl sc) (ht0 : t ≠ 0) {gs qs gs' qs' : Nat → Nat → Nat} (a : ∀ i, i < m → xq_lab rl R op sz gs qs i) (b : ∀ i, m - sz (m - 1) ≤ i → i < m → xq_lab rl R op sz gs' qs' i) : ∀ i, m - sz (m - 1) ≤ i → i < m → ∀ k, k < 4 → gs i k = gs' i k ∧ qs i k = qs' i k :=
  xq_uniq h.2.1.1.2.2.1 h.2.1.2.1.2.2.2.2.2.1 (fun i _ h2 => a i h2) b (lj_in h ht0).2.2.2
theorem lj_rule {k o a b c : Int32} (h : lj F M rl R op nu sz ht m t ps reg vr cs pl sc) (hF : (¬ rv_ok k o a b c ∧ x = -1 ∧ F = F1) ∨ (rv_ok k o a b c ∧ R = 24 ∧ x = -2 ∧ F = F1) ∨ (rv_ok k o a b c ∧ R < 24 ∧ x = nI R ∧ xi_ok F1 (rv_new rl R k o a b c) (R + 1) op nu sz ht m t reg vr cs pl sc)) (hM : (¬ rv_ok k o a b c ∧ y = -1 ∧ M = M1) ∨ (rv_ok k o a b c ∧ R = 24 ∧ y = -2 ∧ M = M1) ∨ (rv_ok k o a b c ∧ R < 24 ∧ y = nI R ∧ M1 = zz_u (zz_u (zz_u (zz_u (zz_u (zz_u M 1 R (nI k.toNatClampNeg)) 2 R (nI o.toNatClampNeg)) 3 R (nI a.toNatClampNeg)) 4 R (nI b.toNatClampNeg)) 5 R (nI c.toNatClampNeg)) 0 0 (nI (R + 1)))) : x = y ∧ lj_ok F1 M1 := by
  rcases hF with ⟨f1, rfl, rfl⟩ | ⟨f1, f2, rfl, rfl⟩ | ⟨f1, f2, rfl, f4⟩ <;> rcases hM with ⟨g1, rfl, rfl⟩ | ⟨g1, g2, rfl, rfl⟩ | ⟨g1, g2, rfl, rfl⟩
  · exact ⟨rfl, _, _, _, _, _, _, _, _, _, _, _, _, _, _, h⟩
  · exact absurd g1 f1
  · exact absurd g1 f1
  · exact absurd f1 g1
  · exact ⟨rfl, _, _, _, _, _, _, _, _, _, _, _, _, _, _, h⟩
  · exact absurd g2 (by omega)
  · exact absurd f1 g1
  · exact absurd f2 (by omega)
  · exact ⟨rfl, _, _, _, _, _, _, _, _, _, _, _, _, _, _, f4, mi_rule h.2.1 f1 f2, h.2.2⟩
theorem lj_clear (h : lj F M rl R op nu sz ht m t ps reg vr cs pl sc) (hF : xi_ok F1 rl 0 op nu sz ht m t reg vr cs pl sc) (hM : M1 = zz_u M 0 0 (nI 0)) : lj_ok F1 M1 := by
  subst hM
  exact ⟨_, _, _, _, _, _, _, _, _, _, _, _, _, _, hF, mi_clear h.2.1, h.2.2⟩
theorem lj_states (h : lj F M rl R op nu sz ht m t ps reg vr cs pl sc) (hF : ns_ans rl R x ∧ xi_ok F1 rl R op nu sz ht m t reg vr cs pl sc) (hM : ns_ans rl R y ∧ zz_off ms_X M M1 ∧ ∀ j, j ≠ 19 → M1.1 0 j = M.1 0 j) : x = y ∧ lj_ok F1 M1 :=
  ⟨ns_ans_uniq hF.1 hM.1, _, _, _, _, _, _, _, _, _, _, _, _, _, _, hF.2, mi_same h.2.1 hM.2.2 (fun c a b => (hM.2.1 c (by unfold ms_X; omega)).1), h.2.2⟩
theorem lj_push {o v : Int32} (h : lj F M rl R op nu sz ht m t ps reg vr cs pl sc) (hF : (¬ pv_ok o v t ∧ x = -1 ∧ F = F1) ∨ (pv_ok o v t ∧ (m = 40 ∨ 10 < xp_hi sz ht m o.toNatClampNeg) ∧ x = -2 ∧ F = F1) ∨ (pv_ok o v t ∧ m < 40 ∧ xp_hi sz ht m o.toNatClampNeg ≤ 10 ∧ x = nI (t + 1 - zz_kd o.toNatClampNeg) ∧ xi_ok F1 rl R (va_up op m o.toNatClampNeg) (upd nu m v) (va_up sz m (xp_sz sz m o.toNatClampNeg)) (va_up ht m (xp_hi sz ht m o.toNatClampNeg)) (m + 1) (t + 1 - zz_kd o.toNatClampNeg) reg vr cs pl sc)) (hM : (¬ pv_ok o v t ∧ y = -1 ∧ M = M1) ∨ (pv_ok o v t ∧ (m = 40 ∨ 10 < xp_hi sz ht m o.toNatClampNeg) ∧ y = -2 ∧ M = M1) ∨ (pv_ok o v t ∧ m < 40 ∧ xp_hi sz ht m o.toNatClampNeg ≤ 10 ∧ y = nI (t + 1 - zz_kd o.toNatClampNeg) ∧ M1 = mi_p7 M m o.toNatClampNeg (xp_sz sz m o.toNatClampNeg) (xp_hi sz ht m o.toNatClampNeg) t (zz_kd o.toNatClampNeg) v)) : x = y ∧ lj_ok F1 M1 := by
  rcases hF with ⟨f1, rfl, rfl⟩ | ⟨f1, f2, rfl, rfl⟩ | ⟨f1, f2, f3, rfl, f4⟩ <;> rcases hM with ⟨g1, rfl, rfl⟩ | ⟨g1, g2, rfl, rfl⟩ | ⟨g1, g2, g3, rfl, rfl⟩
  · exact ⟨rfl, _, _, _, _, _, _, _, _, _, _, _, _, _, _, h⟩
  · exact absurd g1 f1
  · exact absurd g1 f1
  · exact absurd f1 g1
  · exact ⟨rfl, _, _, _, _, _, _, _, _, _, _, _, _, _, _, h⟩
  · exact absurd f2 (by omega)
  · exact absurd f1 g1
  · exact absurd g2 (by omega)
  · have hc := (zz_clamp f1.1.1).2.1
    have ho : o.toNatClampNeg < 8 := by have := f1.1.2; omega
    refine ⟨rfl, _, _, _, _, _, _, _, _, _, _, _, _, _, _, f4, mi_push h.2.1 ho f1.2.2 f2 f3, fun i hi h1 => ?_, h.2.2.2⟩
    by_cases e : i = m
    · rw [e] at h1 ⊢
      rw [mp_up_s] at h1
      rw [pk_us]
      have hv := f1.2.1 (Or.inl h1)
      have hcv := zz_clamp hv.1
      exact ⟨hcv.1, by omega⟩
    · rw [mp_up_n e] at h1
      rw [pk_un e]
      exact h.2.2.1 i (by omega) h1
theorem lj_pop (h : lj F M rl R op nu sz ht m t ps reg vr cs pl sc) (hF : (t = 0 ∧ x = nI 0 ∧ F = F1) ∨ (t ≠ 0 ∧ x = nI 1 ∧ xi_ok F1 rl R op nu sz ht (m - sz (m - 1)) (t - 1) reg vr cs pl sc)) (hM : (t = 0 ∧ y = nI 0 ∧ M = M1) ∨ (t ≠ 0 ∧ y = nI 1 ∧ M1 = zz_u (zz_u M 0 11 (nI (t - 1))) 0 6 (nI (m - sz (m - 1))))) : x = y ∧ lj_ok F1 M1 := by
  rcases hF with ⟨f1, rfl, rfl⟩ | ⟨f1, rfl, f3⟩ <;> rcases hM with ⟨g1, rfl, rfl⟩ | ⟨g1, rfl, rfl⟩
  · exact ⟨rfl, _, _, _, _, _, _, _, _, _, _, _, _, _, _, h⟩
  · exact absurd f1 g1
  · exact absurd g1 f1
  · exact ⟨rfl, _, _, _, _, _, _, _, _, _, _, _, _, _, _, f3, mi_pop h.2.1 f1, fun i hi h1 => h.2.2.1 i (by omega) h1, h.2.2.2⟩
end LJ
