/-! A node tells its kids which kinds it wants of them. -/
abbrev wk_at (gs : Nat → Nat → Nat) (c : Nat → Int32) (W : Nat → Nat) : Nat → Prop := fun p => c p = nI (W p) ∧ W p < 4 ∧ gs p (W p) < mx_far
def wk_up (op sz : Nat → Nat) (W : Nat → Nat) (p a b : Nat) : Nat → Nat := fun j => if 0 < zz_kd (op p) ∧ j = tr_fa op sz p then a else if zz_kd (op p) = 2 ∧ j = p - 1 then b else W j
section WK
variable {rl : mx_R} {R : Nat} {op sz : Nat → Nat} {gs qs : Nat → Nat → Nat} {W : Nat → Nat} {m fm p : Nat} {c c' : Nat → Int32}
theorem wk_kids (ht : tr_ok op sz m) (hp : p < m) : (0 < zz_kd (op p) → tr_fa op sz p < p ∧ p < tr_fa op sz p + sz p ∧ 1 ≤ p) ∧ (zz_kd (op p) = 2 → tr_fa op sz p ≠ p - 1 ∧ p < p - 1 + sz p) := by
  obtain ⟨t1, t2, t3, t4, t5, t6⟩ := ht p hp
  rcases tr_kd (op p) with h | h | h
  · exact ⟨fun h0 => absurd h0 (by omega), fun h0 => absurd h0 (by omega)⟩
  · have h5 := t5 h
    have h7 := (ht (p - 1) (by omega)).2.1
    refine ⟨fun _ => ?_, fun h0 => absurd h0 (by omega)⟩
    rw [tr_fa, if_neg (by omega)]
    omega
  · have h6 := t6 h
    have h7 := (ht (p - 1) (by omega)).2.1
    have h8 := (ht (p - 1 - sz (p - 1)) (by omega)).2.1
    rw [tr_fa, if_pos h]
    exact ⟨fun _ => by omega, fun _ => by omega⟩
theorem wk_up_n {a b j : Nat} (h1 : 0 < zz_kd (op p) → j ≠ tr_fa op sz p) (h2 : zz_kd (op p) = 2 → j ≠ p - 1) : wk_up op sz W p a b j = W j := by
  rw [wk_up, if_neg (fun h => h1 h.1 h.2), if_neg (fun h => h2 h.1 h.2)]
theorem wk_step (hok : mx_ok rl R) (ht : tr_ok op sz m) (hp : p < m) (hfp : fm ≤ p) (hl : xq_lab rl R op sz gs qs p) {Lf : List Nat} (hfr : tr_fr sz (wk_at gs c W) fm (p + 1) Lf) (hpr : ∀ i, p + 1 ≤ i → i < m → c i = nI (W i) ∧ wk_node rl op sz gs qs W i) (hW0 : W (m - 1) = 0)
    (hc : ∀ j, c' j = if 0 < zz_kd (op p) ∧ j = tr_fa op sz p then nI (rl (wr_last rl qs W p)).2.2.1 else if zz_kd (op p) = 2 ∧ j = p - 1 then nI (rl (wr_last rl qs W p)).2.2.2.1 else c j) :
    (∃ L', tr_fr sz (wk_at gs c' (wk_up op sz W p (rl (wr_last rl qs W p)).2.2.1 (rl (wr_last rl qs W p)).2.2.2.1)) fm p L') ∧ (∀ i, p ≤ i → i < m → c' i = nI (wk_up op sz W p (rl (wr_last rl qs W p)).2.2.1 (rl (wr_last rl qs W p)).2.2.2.1 i) ∧ wk_node rl op sz gs qs (wk_up op sz W p (rl (wr_last rl qs W p)).2.2.1 (rl (wr_last rl qs W p)).2.2.2.1) i) ∧ wk_up op sz W p (rl (wr_last rl qs W p)).2.2.1 (rl (wr_last rl qs W p)).2.2.2.1 (m - 1) = 0 := by
  have hkid := tr_kid ht hp hfr hfp
  obtain ⟨⟨e0, w1, w2⟩, hk2⟩ := hkid
  obtain ⟨r1, r2, r3, r4, r5, r6, r7⟩ := wr_ok hok hl w1 w2
  obtain ⟨k1, k2⟩ := wk_kids ht hp
  have hokr := hok _ r4
  generalize hae : (rl (wr_last rl qs W p)).2.2.1 = a at *
  generalize hbe : (rl (wr_last rl qs W p)).2.2.2.1 = b at *
  have hcW : ∀ j, (0 < zz_kd (op p) → j ≠ tr_fa op sz p) → (zz_kd (op p) = 2 → j ≠ p - 1) → c' j = c j := fun j h1 h2 => by
    rw [hc j, if_neg (fun h => h1 h.1 h.2), if_neg (fun h => h2 h.1 h.2)]
  have ha : 0 < zz_kd (op p) → wk_at gs c' (wk_up op sz W p a b) (tr_fa op sz p) := fun h => by
    have u : wk_up op sz W p a b (tr_fa op sz p) = a := by rw [wk_up, if_pos ⟨h, rfl⟩]
    refine ⟨?_, ?_, ?_⟩
    · rw [hc, if_pos ⟨h, rfl⟩, u]
    · rw [u]; exact hokr.2.2.1
    · rw [u]; exact r6 h
  have hb : zz_kd (op p) = 2 → wk_at gs c' (wk_up op sz W p a b) (p - 1) := fun h => by
    have n1 := (k2 h).1
    have u : wk_up op sz W p a b (p - 1) = b := by rw [wk_up, if_neg (fun h9 => n1 h9.2.symm), if_pos ⟨h, rfl⟩]
    refine ⟨?_, ?_, ?_⟩
    · rw [hc, if_neg (fun h9 => n1 h9.2.symm), if_pos ⟨h, rfl⟩, u]
    · rw [u]; exact hokr.2.2.2.1
    · rw [u]; exact r7 (by omega)
  refine ⟨?_, fun i h1 h2 => ?_, ?_⟩
  · refine tr_fr_step ht hp hfr hfp (fun h => ?_) (fun h => ⟨hb h, ha (by omega)⟩) (fun i h1 h2 hi => ?_)
    · have := ha (by omega)
      rw [tr_fa, if_neg (by omega)] at this
      exact this
    · have n1 : 0 < zz_kd (op p) → i ≠ tr_fa op sz p := fun h => by have := k1 h; omega
      have n2 : zz_kd (op p) = 2 → i ≠ p - 1 := fun h => by have := k2 h; have := k1 (by omega); omega
      refine ⟨?_, ?_, ?_⟩
      · rw [hcW i n1 n2, wk_up_n n1 n2]; exact hi.1
      · rw [wk_up_n n1 n2]; exact hi.2.1
      · rw [wk_up_n n1 n2]; exact hi.2.2
  · have n1 : 0 < zz_kd (op p) → i ≠ tr_fa op sz p := fun h => by have := k1 h; omega
    have n2 : zz_kd (op p) = 2 → i ≠ p - 1 := fun h => by have := k1 (by omega); omega
    have uW : wk_up op sz W p a b i = W i := wk_up_n n1 n2
    have ew := (wr_cW (rl := rl) (qs := qs) uW).2
    by_cases e : i = p
    · subst e
      refine ⟨by rw [hcW i n1 n2, uW]; exact e0, by rw [uW]; exact w1, by rw [uW]; exact w2, fun h => ?_, fun h => ?_⟩
      · rw [ew, hae, wk_up, if_pos ⟨h, rfl⟩]
      · have n1 := (k2 h).1
        rw [ew, hbe, wk_up, if_neg (fun h9 => n1 h9.2.symm), if_pos ⟨h, rfl⟩]
    · obtain ⟨x1, x2, x3, x4, x5⟩ := hpr i (by omega) h2
      refine ⟨by rw [hcW i n1 n2, uW]; exact x1, by rw [uW]; exact x2, by rw [uW]; exact x3, fun h => ?_, fun h => ?_⟩
      · rw [ew, wk_up_n (fun h9 e9 => tr_par ht (show p < i by omega) h2 h9 h (Or.inr e9) (Or.inr rfl)) (fun h9 e9 => tr_par ht (show p < i by omega) h2 (by omega) h (Or.inl e9) (Or.inr rfl))]
        exact x4 h
      · rw [ew, wk_up_n (fun h9 e9 => tr_par ht (show p < i by omega) h2 h9 (by omega) (Or.inr e9) (Or.inl rfl)) (fun h9 e9 => tr_par ht (show p < i by omega) h2 (by omega) (by omega) (Or.inl e9) (Or.inl rfl))]
        exact x5 h
  · rw [wk_up_n (fun h => by have := k1 h; omega) (fun h => by have := k1 (by omega); omega)]
    exact hW0
end WK
