/-! Class and reference side by side: cover. -/
section LC
variable {F M F1 M1 : zz_S} {rl : mx_R} {R : Nat} {op : Nat → Nat} {nu : Nat → Int32} {sz ht : Nat → Nat} {m t : Nat} {ps : Nat → Nat} {reg : Nat} {vr : Nat → Int32} {cs : cd_T} {pl : Nat → Nat} {sc : Nat} {x y : Int32}
theorem lj_cover (h : lj F M rl R op nu sz ht m t ps reg vr cs pl sc)
    (hF : (t = 0 ∧ x = -1 ∧ F = F1) ∨ (t ≠ 0 ∧ ∃ gs qs, (∀ i, i < m → xq_lab rl R op sz gs qs i) ∧ ((¬ gs (m - 1) 0 < mx_far ∧ x = -3 ∧ xi_ok F1 rl R op nu sz ht m t reg vr cs pl sc) ∨ (gs (m - 1) 0 < mx_far ∧ ∃ Wk pl2 sc2, wk_ok rl op sz gs qs Wk (m - sz (m - 1)) m ∧ pl_at reg (wr_st rl op nu sz qs Wk (m - sz (m - 1)) (sz (m - 1))).1.2.2.2.2.2.2.2 (wr_st rl op nu sz qs Wk (m - sz (m - 1)) (sz (m - 1))).1.1 pl2 sc2 ∧ x = nI (wr_st rl op nu sz qs Wk (m - sz (m - 1)) (sz (m - 1))).1.1 ∧ xi_ok F1 rl R op nu sz ht m t reg vr (wr_st rl op nu sz qs Wk (m - sz (m - 1)) (sz (m - 1))).1 pl2 sc2))))
    (hM : (t = 0 ∧ y = -1 ∧ M = M1) ∨ (t ≠ 0 ∧ ∃ gs qs, (∀ i, m - sz (m - 1) ≤ i → i < m → xq_lab rl R op sz gs qs i) ∧ ((¬ gs (m - 1) 0 < mx_far ∧ y = -3 ∧ zz_off mr_X M M1) ∨ (gs (m - 1) 0 < mx_far ∧ ∃ Wk pl2 sc2, wk_ok rl op sz gs qs Wk (m - sz (m - 1)) m ∧ pl_at reg (wr_st rl op nu sz qs Wk (m - sz (m - 1)) (sz (m - 1))).1.2.2.2.2.2.2.2 (wr_st rl op nu sz qs Wk (m - sz (m - 1)) (sz (m - 1))).1.1 pl2 sc2 ∧ y = nI (wr_st rl op nu sz qs Wk (m - sz (m - 1)) (sz (m - 1))).1.1 ∧ zz_off cv_X M M1 ∧ (∀ j, j ≠ 22 → j ≠ 23 → M1.1 0 j = M.1 0 j) ∧ mk_cd M1 (wr_st rl op nu sz qs Wk (m - sz (m - 1)) (sz (m - 1))).1 ∧ M1.1 0 23 = nI sc2 ∧ ∀ j, j < (wr_st rl op nu sz qs Wk (m - sz (m - 1)) (sz (m - 1))).1.1 → M1.1 26 j = nI (pl2 j))))) : x = y ∧ lj_ok F1 M1 := by
  rcases hF with ⟨f1, f2, f3⟩ | ⟨f1, gs, qs, f2, f3⟩ <;> rcases hM with ⟨g1, g2, g3⟩ | ⟨g1, gs', qs', g2, g3⟩
  · exact lj_same h f3 g3 f2 g2
  · exact absurd f1 g1
  · exact absurd g1 f1
  · have hin := lj_in h f1
    have hok := h.2.1.1.2.2.1
    have htr := h.2.1.2.1.2.2.2.2.2.1
    have hu := lj_lab h f1 f2 g2
    have hu0 := (hu (m - 1) (by omega) (by omega) 0 (by omega)).1
    have f2' : ∀ i, m - sz (m - 1) ≤ i → i < m → xq_lab rl R op sz gs qs i := fun i _ a => f2 i a
    rcases f3 with ⟨a1, a2, a3⟩ | ⟨a1, W, p, s, a2, a3, a4, a5⟩ <;> rcases g3 with ⟨b1, b2, b3⟩ | ⟨b1, W', p', s', b2, b3, b4, b5, b6, b7, b8, b9⟩
    · exact ⟨a2.trans b2.symm, lj_both h a3 (lj_work h b3)⟩
    · exact absurd b1 (by rw [← hu0]; exact a1)
    · exact absurd a1 (by rw [hu0]; exact b1)
    · have hw := (wk_uniq hok htr hin.1 hin.2.1 (fun i h1 h2 k hk => (hu i h1 h2 k hk).2) f2' a2 b2 g2 (sz (m - 1)) (m - sz (m - 1)) hin.2.1 (Nat.le_refl _)).2
      have he := wr_st_eq (op := op) (nu := nu) (sz := sz) (sz (m - 1)) (fun i h1 h2 => (hw i h1 (by omega)).2)
      rw [← he] at b3 b4 b7 b9
      obtain ⟨e1, e2⟩ := pl_at_uniq _ a3 b3
      subst e1
      subst e2
      have hwi := wr_inv (nu := nu) hok htr hin.1 hin.2.1 f2' a2 (sz (m - 1)) (by omega)
      refine ⟨a4.trans b4.symm, _, _, _, _, _, _, _, _, _, _, _, _, _, _, a5, mi_cov h.2.1 b5 b6 b7 b8 b9, h.2.2.1, ⟨hwi.2.2.1, b7.2.1, ⟨reg, h.2.2.2.2.1, h.2.2.2.2.2, pl_ok_at h.2.2.2.2.1 _ a3⟩, mu_wr htr h.2.2.1 (sz (m - 1)) (by omega)⟩, h.2.2.2.2⟩
end LC
