/-! Class and reference side by side: the calls that ask. -/
section LK
variable {F M F1 M1 : zz_S} {rl : mx_R} {R : Nat} {op : Nat → Nat} {nu : Nat → Int32} {sz ht : Nat → Nat} {m t : Nat} {ps : Nat → Nat} {reg : Nat} {vr : Nat → Int32} {cs : cd_T} {pl : Nat → Nat} {sc : Nat} {x y : Int32}
theorem lj_same (h : lj F M rl R op nu sz ht m t ps reg vr cs pl sc) (a : F = F1) (b : M = M1) {u : Int32} (hx : x = u) (hy : y = u) : x = y ∧ lj_ok F1 M1 := by
  subst a
  subst b
  exact ⟨hx.trans hy.symm, _, _, _, _, _, _, _, _, _, _, _, _, _, _, h⟩
theorem lj_both (h : lj F M rl R op nu sz ht m t ps reg vr cs pl sc) (a : xi_ok F1 rl R op nu sz ht m t reg vr cs pl sc) (b : mi_ok M1 rl R op nu sz ht m t ps reg vr cs pl sc) : lj_ok F1 M1 := ⟨_, _, _, _, _, _, _, _, _, _, _, _, _, _, a, b, h.2.2⟩
theorem lj_work (h : lj F M rl R op nu sz ht m t ps reg vr cs pl sc) (ho : zz_off mr_X M M1) : mi_ok M1 rl R op nu sz ht m t ps reg vr cs pl sc := mi_off h.2.1 ho (fun c hc => by unfold mr_X at hc; omega)
theorem lj_relative {nd k : Int32} (h : lj F M rl R op nu sz ht m t ps reg vr cs pl sc)
    (hF : (¬ ((0 ≤ nd.toInt ∧ nd.toInt < (((if t = 0 then 0 else sz (m - 1)) : Nat) : Int)) ∧ (0 ≤ k.toInt ∧ k.toInt < 4)) ∧ x = -1 ∧ F = F1) ∨ (((0 ≤ nd.toInt ∧ nd.toInt < (((if t = 0 then 0 else sz (m - 1)) : Nat) : Int)) ∧ (0 ≤ k.toInt ∧ k.toInt < 4)) ∧ xi_ok F1 rl R op nu sz ht m t reg vr cs pl sc ∧ ∃ gs qs, (∀ i, i < m → xq_lab rl R op sz gs qs i) ∧ x = if gs (m - (if t = 0 then 0 else sz (m - 1)) + nd.toNatClampNeg) k.toNatClampNeg < mx_far then nI (gs (m - (if t = 0 then 0 else sz (m - 1)) + nd.toNatClampNeg) k.toNatClampNeg - ns_low (gs (m - (if t = 0 then 0 else sz (m - 1)) + nd.toNatClampNeg))) else -3))
    (hM : (¬ ((0 ≤ nd.toInt ∧ nd.toInt < (md_n sz m t : Int)) ∧ (0 ≤ k.toInt ∧ k.toInt < 4)) ∧ y = -1 ∧ M = M1) ∨ (((0 ≤ nd.toInt ∧ nd.toInt < (md_n sz m t : Int)) ∧ (0 ≤ k.toInt ∧ k.toInt < 4)) ∧ zz_off mr_X M M1 ∧ ∃ gs qs, (∀ i, m - sz (m - 1) ≤ i → i < m → xq_lab rl R op sz gs qs i) ∧ y = if gs ((m - sz (m - 1)) + nd.toNatClampNeg) k.toNatClampNeg < mx_far then nI (gs ((m - sz (m - 1)) + nd.toNatClampNeg) k.toNatClampNeg - ns_low (gs ((m - sz (m - 1)) + nd.toNatClampNeg))) else -3)) : x = y ∧ lj_ok F1 M1 := by
  rcases hF with ⟨f1, f2, f3⟩ | ⟨f1, f2, gs, qs, f3, f4⟩ <;> rcases hM with ⟨g1, g2, g3⟩ | ⟨g1, g2, gs', qs', g3, g4⟩
  · exact lj_same h f3 g3 f2 g2
  · exact absurd g1 f1
  · exact absurd f1 g1
  · have ht0 : t ≠ 0 := fun e => by rw [if_pos e] at f1; omega
    have hin := lj_in h ht0
    rw [if_neg ht0] at f1 f4
    have hcn := (zz_clamp f1.1.1).2.1
    have hck := (zz_clamp f1.2.1).2.1
    have hu : ∀ k, k < 4 → gs ((m - sz (m - 1)) + nd.toNatClampNeg) k = gs' ((m - sz (m - 1)) + nd.toNatClampNeg) k := fun k hk => (lj_lab h ht0 f3 g3 _ (by omega) (by omega) k hk).1
    have hl : ns_low (gs ((m - sz (m - 1)) + nd.toNatClampNeg)) = ns_low (gs' ((m - sz (m - 1)) + nd.toNatClampNeg)) := by
      unfold ns_low
      rw [hu 0 (by omega), hu 1 (by omega), hu 2 (by omega), hu 3 (by omega)]
    exact ⟨by rw [f4, g4, hu _ (by omega), hl], lj_both h f2 (lj_work h g2)⟩
theorem lj_choice {nd k : Int32} (h : lj F M rl R op nu sz ht m t ps reg vr cs pl sc)
    (hF : (¬ ((0 ≤ nd.toInt ∧ nd.toInt < (((if t = 0 then 0 else sz (m - 1)) : Nat) : Int)) ∧ (0 ≤ k.toInt ∧ k.toInt < 4)) ∧ x = -1 ∧ F = F1) ∨ (((0 ≤ nd.toInt ∧ nd.toInt < (((if t = 0 then 0 else sz (m - 1)) : Nat) : Int)) ∧ (0 ≤ k.toInt ∧ k.toInt < 4)) ∧ xi_ok F1 rl R op nu sz ht m t reg vr cs pl sc ∧ ∃ gs qs, (∀ i, i < m → xq_lab rl R op sz gs qs i) ∧ x = vw_p (qs (m - (if t = 0 then 0 else sz (m - 1)) + nd.toNatClampNeg) k.toNatClampNeg)))
    (hM : (¬ ((0 ≤ nd.toInt ∧ nd.toInt < (md_n sz m t : Int)) ∧ (0 ≤ k.toInt ∧ k.toInt < 4)) ∧ y = -1 ∧ M = M1) ∨ (((0 ≤ nd.toInt ∧ nd.toInt < (md_n sz m t : Int)) ∧ (0 ≤ k.toInt ∧ k.toInt < 4)) ∧ zz_off mr_X M M1 ∧ ∃ gs qs, (∀ i, m - sz (m - 1) ≤ i → i < m → xq_lab rl R op sz gs qs i) ∧ y = vw_p (qs ((m - sz (m - 1)) + nd.toNatClampNeg) k.toNatClampNeg))) : x = y ∧ lj_ok F1 M1 := by
  rcases hF with ⟨f1, f2, f3⟩ | ⟨f1, f2, gs, qs, f3, f4⟩ <;> rcases hM with ⟨g1, g2, g3⟩ | ⟨g1, g2, gs', qs', g3, g4⟩
  · exact lj_same h f3 g3 f2 g2
  · exact absurd g1 f1
  · exact absurd f1 g1
  · have ht0 : t ≠ 0 := fun e => by rw [if_pos e] at f1; omega
    have hin := lj_in h ht0
    rw [if_neg ht0] at f1 f4
    have hcn := (zz_clamp f1.1.1).2.1
    have hck := (zz_clamp f1.2.1).2.1
    exact ⟨by rw [f4, g4, (lj_lab h ht0 f3 g3 _ (by omega) (by omega) _ (by omega)).2], lj_both h f2 (lj_work h g2)⟩
theorem lj_cost {k : Int32} (h : lj F M rl R op nu sz ht m t ps reg vr cs pl sc)
    (hF : (¬ (t ≠ 0 ∧ (0 ≤ k.toInt ∧ k.toInt < 4)) ∧ x = -1 ∧ F = F1) ∨ ((t ≠ 0 ∧ (0 ≤ k.toInt ∧ k.toInt < 4)) ∧ xi_ok F1 rl R op nu sz ht m t reg vr cs pl sc ∧ ∃ gs qs, (∀ i, i < m → xq_lab rl R op sz gs qs i) ∧ x = if gs (m - 1) k.toNatClampNeg < mx_far then nI (gs (m - 1) k.toNatClampNeg) else -3))
    (hM : (¬ (t ≠ 0 ∧ (0 ≤ k.toInt ∧ k.toInt < 4)) ∧ y = -1 ∧ M = M1) ∨ ((t ≠ 0 ∧ (0 ≤ k.toInt ∧ k.toInt < 4)) ∧ zz_off mr_X M M1 ∧ ∃ gs qs, (∀ i, m - sz (m - 1) ≤ i → i < m → xq_lab rl R op sz gs qs i) ∧ y = if gs (m - 1) k.toNatClampNeg < mx_far then nI (gs (m - 1) k.toNatClampNeg) else -3)) : x = y ∧ lj_ok F1 M1 := by
  rcases hF with ⟨f1, f2, f3⟩ | ⟨f1, f2, gs, qs, f3, f4⟩ <;> rcases hM with ⟨g1, g2, g3⟩ | ⟨g1, g2, gs', qs', g3, g4⟩
  · exact lj_same h f3 g3 f2 g2
  · exact absurd g1 f1
  · exact absurd f1 g1
  · have hin := lj_in h f1.1
    have hck := (zz_clamp f1.2.1).2.1
    exact ⟨by rw [f4, g4, (lj_lab h f1.1 f3 g3 (m - 1) (by omega) (by omega) _ (by omega)).1], lj_both h f2 (lj_work h g2)⟩
theorem lj_registers {v : Int32} (h : lj F M rl R op nu sz ht m t ps reg vr cs pl sc) (hF : (¬ (1 ≤ v.toInt ∧ v.toInt ≤ 4) ∧ x = nI 0 ∧ F = F1) ∨ ((1 ≤ v.toInt ∧ v.toInt ≤ 4) ∧ x = nI 1 ∧ xi_ok F1 rl R op nu sz ht m t v.toNatClampNeg vr cs pl sc)) (hM : (¬ (1 ≤ v.toInt ∧ v.toInt ≤ 4) ∧ y = nI 0 ∧ M = M1) ∨ ((1 ≤ v.toInt ∧ v.toInt ≤ 4) ∧ y = nI 1 ∧ M1 = zz_u M 0 24 (nI v.toNatClampNeg))) : x = y ∧ lj_ok F1 M1 := by
  rcases hF with ⟨f1, f2, f3⟩ | ⟨f1, f2, f3⟩ <;> rcases hM with ⟨g1, g2, g3⟩ | ⟨g1, g2, rfl⟩
  · exact lj_same h f3 g3 f2 g2
  · exact absurd g1 f1
  · exact absurd f1 g1
  · have hc := (zz_clamp (show 0 ≤ v.toInt by omega)).2.1
    exact ⟨f2.trans g2.symm, _, _, _, _, _, _, _, _, _, _, _, _, _, _, f3, mi_reg h.2.1 _, h.2.2.1, h.2.2.2.1, by omega, by omega⟩
theorem lj_set {v u : Int32} (h : lj F M rl R op nu sz ht m t ps reg vr cs pl sc) (hF : (¬ (0 ≤ v.toInt ∧ v.toInt < 8) ∧ x = nI 0 ∧ F = F1) ∨ ((0 ≤ v.toInt ∧ v.toInt < 8) ∧ x = nI 1 ∧ xi_ok F1 rl R op nu sz ht m t reg (upd vr v.toNatClampNeg u) cs pl sc)) (hM : (¬ (0 ≤ v.toInt ∧ v.toInt < 8) ∧ y = nI 0 ∧ M = M1) ∨ ((0 ≤ v.toInt ∧ v.toInt < 8) ∧ y = nI 1 ∧ M1 = zz_u M 31 v.toNatClampNeg u)) : x = y ∧ lj_ok F1 M1 := by
  rcases hF with ⟨f1, f2, f3⟩ | ⟨f1, f2, f3⟩ <;> rcases hM with ⟨g1, g2, g3⟩ | ⟨g1, g2, rfl⟩
  · exact lj_same h f3 g3 f2 g2
  · exact absurd g1 f1
  · exact absurd f1 g1
  · exact ⟨f2.trans g2.symm, _, _, _, _, _, _, _, _, _, _, _, _, _, _, f3, mi_set h.2.1 _ _, h.2.2⟩
theorem lj_run (h : lj F M rl R op nu sz ht m t ps reg vr cs pl sc) (hF : xi_ok F1 rl R op nu sz ht m t reg vr cs pl sc ∧ ((cs.1 = 0 ∧ x = nI 0) ∨ (cs.1 ≠ 0 ∧ ∃ res, ex_ok vr cs res ∧ x = res (cs.1 - 1)))) (hM : zz_off (fun c => c = 27) M M1 ∧ ((cs.1 = 0 ∧ y = nI 0) ∨ (cs.1 ≠ 0 ∧ ∃ res, ex_ok vr cs res ∧ y = res (cs.1 - 1)))) : x = y ∧ lj_ok F1 M1 := by
  refine ⟨?_, lj_both h hF.1 (mi_off h.2.1 hM.1 (fun c hc => by omega))⟩
  rcases hF.2 with ⟨f1, f2⟩ | ⟨f1, res, f2, f3⟩ <;> rcases hM.2 with ⟨g1, g2⟩ | ⟨g1, res', g2, g3⟩
  · exact f2.trans g2.symm
  · exact absurd f1 g1
  · exact absurd g1 f1
  · rw [f3, g3]
    exact ex_uniq h.2.2.2.1.1 f2 g2 _ (by omega)
theorem lj_value (h : lj F M rl R op nu sz ht m t ps reg vr cs pl sc) (hF : xi_ok F1 rl R op nu sz ht m t reg vr cs pl sc ∧ ((t = 0 ∧ x = nI 0) ∨ (t ≠ 0 ∧ ∃ vl, xe_ok vr op nu sz vl (m - sz (m - 1)) m ∧ x = vl (m - 1)))) (hM : (t = 0 ∧ y = nI 0 ∧ M = M1) ∨ (t ≠ 0 ∧ zz_off (fun c => c = 32) M M1 ∧ ∃ vl, xe_ok vr op nu sz vl (m - sz (m - 1)) m ∧ y = vl (m - 1))) : x = y ∧ lj_ok F1 M1 := by
  rcases hF.2 with ⟨f1, f2⟩ | ⟨f1, vl, f2, f3⟩ <;> rcases hM with ⟨g1, g2, g3⟩ | ⟨g1, g2, vl', g3, g4⟩
  · subst g3
    exact ⟨f2.trans g2.symm, lj_both h hF.1 h.2.1⟩
  · exact absurd f1 g1
  · exact absurd g1 f1
  · have hin := lj_in h f1
    exact ⟨by rw [f3, g4]; exact xe_uniq f2 g3 hin.2.2.2 (m - 1) (by omega) (by omega), lj_both h hF.1 (mi_off h.2.1 g2 (fun c hc => by omega))⟩
end LK
