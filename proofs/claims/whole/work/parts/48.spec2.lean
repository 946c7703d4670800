/-! How the class's picture changes with its calls. -/
section XJ
variable {S S0 S1 : zz_S} {rl rl' : mx_R} {R R' : Nat} {op : Nat → Nat} {nu : Nat → Int32} {sz ht : Nat → Nat} {m t reg : Nat} {vr : Nat → Int32} {cs : cd_T} {pl : Nat → Nat} {sc : Nat}
/-- other rules: nothing is known of labels and states -/
theorem xi_fresh (h : xi_ok S rl R op nu sz ht m t reg vr cs pl sc) (ho : zz_off (fun x => 1 ≤ x ∧ x < 18) (zz_u (zz_u S 25 3 (nI 0)) 18 9 (nI 0)) S1) (hb : ∃ (sz1 : Nat → Nat) (nb : Nat → Nat → Nat), xb_ok S1 rl' R' sz1 nb) : xi_ok S1 rl' R' op nu sz ht m t reg vr cs pl sc := by
  obtain ⟨h1, h2, h3, h4, h5, h6, h7, h8⟩ := h
  have e : ∀ c, c ≠ 18 → c ≠ 25 → ¬ (1 ≤ c ∧ c < 18) → S1.1 c = S.1 c ∧ S1.2 c = S.2 c := fun c a b d => by
    rw [(ho c d).1, (ho c d).2, zz_u1 _ 18 _ _ c a, zz_u1 _ 25 _ _ c b]
    exact ⟨rfl, rfl⟩
  refine ⟨hb, xi_pile h2 ?_ ?_ (fun c a b => (e c (by omega) (by omega) (by omega)).1), ⟨0, fun _ _ => 0, fun _ _ => 0, ?_, Nat.zero_le _, fun i hi => absurd hi (Nat.not_lt_zero i)⟩, fun k hk => ?_, Or.inl ?_, ?_, fun k hk => ?_, xi_code h8 (fun c a b => (e c (by omega) (by omega) (by omega)).1)⟩
  · rw [(ho 18 (by omega)).1]; rfl
  · rw [(ho 18 (by omega)).1]; rfl
  · rw [(ho 18 (by omega)).1]; rfl
  · rw [(e (42 + 3 * 40 + 1) (by omega) (by omega) (by omega)).2, (e (42 + 3 * 41 + 1) (by omega) (by omega) (by omega)).2]
    exact h4 k hk
  · rw [(ho 25 (by omega)).1]; rfl
  · rw [(e 0 (by omega) (by omega) (by omega)).1]
    exact h6
  · rw [(e 41 (by omega) (by omega) (by omega)).1]
    exact h7 k hk
theorem ts_two {ps : Nat → Nat} (h : ts_ok sz m t ps) : (1 ≤ t → sz (m - 1) = m - ps (t - 1) ∧ ps (t - 1) < m) ∧ (2 ≤ t → sz (m - 1) + 1 ≤ m) := by
  obtain ⟨h0, h1, h2⟩ := h
  have a : 1 ≤ t → sz (m - 1) = m - ps (t - 1) ∧ ps (t - 1) < m := fun ht => by
    have := h2 (t - 1) (by omega)
    rw [show t - 1 + 1 = t by omega, h1] at this
    omega
  refine ⟨a, fun ht => ?_⟩
  have b := a (by omega)
  have c := h2 (t - 2) (by omega)
  rw [show t - 2 + 1 = t - 1 by omega] at c
  omega
theorem tr_push {o : Nat} (ho : o < 8) (h : tr_ok op sz m) (hk1 : 0 < zz_kd o → 1 ≤ m) (hk2 : zz_kd o = 2 → sz (m - 1) + 1 ≤ m) : tr_ok (va_up op m o) (va_up sz m (xp_sz sz m o)) (m + 1) := fun i hi => by
  by_cases e : i = m
  · subst e
    rw [mp_up_s, mp_up_s]
    rcases tr_kd o with hk | hk | hk
    · have e1 : xp_sz sz i o = 1 := by rw [xp_sz, if_pos hk]
      rw [e1]
      exact ⟨ho, by omega, by omega, fun _ => rfl, fun h9 => absurd h9 (by omega), fun h9 => absurd h9 (by omega)⟩
    · have h1 := hk1 (by omega)
      have h2 := (h (i - 1) (by omega)).2.2.1
      have e1 : xp_sz sz i o = 1 + sz (i - 1) := by
        rw [xp_sz, if_neg (by omega), xp_fk, if_neg (by omega)]
        omega
      rw [e1, mp_up_n (by omega)]
      exact ⟨ho, by omega, by omega, fun h9 => absurd h9 (by omega), fun _ => ⟨by omega, rfl⟩, fun h9 => absurd h9 (by omega)⟩
    · have h1 := hk1 (by omega)
      have h3 := hk2 hk
      have h4 := (h (i - 1) (by omega)).2.1
      have h2 := (h (i - 1 - sz (i - 1)) (by omega)).2
      have e1 : xp_sz sz i o = 1 + sz (i - 1 - sz (i - 1)) + sz (i - 1) := by
        rw [xp_sz, if_neg (by omega), xp_fk, if_pos hk]
        omega
      rw [e1, mp_up_n (show i - 1 ≠ i by omega), mp_up_n (by omega)]
      exact ⟨ho, by omega, by omega, fun h9 => absurd h9 (by omega), fun h9 => absurd h9 (by omega), fun _ => ⟨by omega, by omega, rfl⟩⟩
  · obtain ⟨t1, t2, t3, t4, t5, t6⟩ := h i (by omega)
    rw [mp_up_n e, mp_up_n e]
    refine ⟨t1, t2, t3, t4, fun h9 => ?_, fun h9 => ?_⟩
    · rw [mp_up_n (by omega)]
      exact t5 h9
    · have := t6 h9
      rw [mp_up_n (show i - 1 ≠ m by omega), mp_up_n (by omega)]
      exact this
theorem tr_fa_up {o s i : Nat} (h : tr_ok op sz m) (hi : i < m) : tr_fa (va_up op m o) (va_up sz m s) i = tr_fa op sz i := by
  rw [tr_fa, tr_fa, mp_up_n (show i ≠ m by omega), mp_up_n (show i - 1 ≠ m by omega)]
theorem xq_lab_up {gs qs : Nat → Nat → Nat} {o s i : Nat} (h : tr_ok op sz m) (hi : i < m) (hq : xq_lab rl R op sz gs qs i) : xq_lab rl R (va_up op m o) (va_up sz m s) gs qs i := by
  unfold xq_lab
  rw [tr_fa_up h hi, mp_up_n (show i ≠ m by omega)]
  exact hq
/-- a node more -/
theorem xi_push {o : Nat} {v : Int32} (h : xi_ok S rl R op nu sz ht m t reg vr cs pl sc) (ho : o < 8) (hm : m < 40) (hk : zz_kd o ≤ t) (hk2 : zz_kd o = 2 → sz (m - 1) + 1 ≤ m) (hh : xp_hi sz ht m o ≤ 10) : xi_ok (xp_add S m o v (xp_sz sz m o) (xp_hi sz ht m o) (t + 1 - zz_kd o)) rl R (va_up op m o) (upd nu m v) (va_up sz m (xp_sz sz m o)) (va_up ht m (xp_hi sz ht m o)) (m + 1) (t + 1 - zz_kd o) reg vr cs pl sc := by
  obtain ⟨⟨sz1, nb, h1⟩, ⟨b1, b2, b3, b4, b5, b6, b7⟩, ⟨n, gs, qs, c1, c2, c3⟩, h4, h5, h6, h7, h8⟩ := h
  have e : ∀ c, c ≠ 18 → c ≠ 19 → c ≠ 20 → c ≠ 21 → c ≠ 22 → (xp_add S m o v (xp_sz sz m o) (xp_hi sz ht m o) (t + 1 - zz_kd o)).1 c = S.1 c := fun c x1 x2 x3 x4 x5 => by
    unfold xp_add
    rw [zz_u1 _ 18 _ _ c x1, zz_u1 _ 18 _ _ c x1, zz_u1 _ 20 _ _ c x3, zz_u1 _ 19 _ _ c x2, zz_u1 _ 21 _ _ c x4, zz_u1 _ 22 _ _ c x5]
  have hkd := tr_kd o
  have el : ∀ c, 42 ≤ c → c < 162 → (xp_add S m o v (xp_sz sz m o) (xp_hi sz ht m o) (t + 1 - zz_kd o)).1 c = S.1 c ∧ (xp_add S m o v (xp_sz sz m o) (xp_hi sz ht m o) (t + 1 - zz_kd o)).2 c = S.2 c := fun c x1 x2 => ⟨e c (by omega) (by omega) (by omega) (by omega) (by omega), rfl⟩
  refine ⟨⟨sz1, nb, xb_keep h1 (fun c x y => e c (by omega) (by omega) (by omega) (by omega) (by omega))⟩, ⟨rfl, rfl, by omega, by omega, fun i hi => ?_, tr_push ho b6 (fun _ => by omega) hk2, by omega⟩, ⟨n, gs, qs, c1, by omega, fun i hi => ?_⟩, h4, ?_, ?_, fun k hk9 => ?_, xi_code h8 (fun c x y => e c (by omega) (by omega) (by omega) (by omega) (by omega))⟩
  · show upd (S.1 19) m (nI o) i = _ ∧ upd (S.1 20) m v i = _ ∧ upd (S.1 21) m (nI (xp_sz sz m o)) i = _ ∧ upd (S.1 22) m (nI (xp_hi sz ht m o)) i = _ ∧ _
    by_cases ei : i = m
    · rw [ei, pk_us, pk_us, pk_us, pk_us, mp_up_s, pk_us, mp_up_s, mp_up_s]
      exact ⟨rfl, rfl, rfl, rfl, hh⟩
    · rw [pk_un ei, pk_un ei, pk_un ei, pk_un ei, mp_up_n ei, pk_un ei, mp_up_n ei, mp_up_n ei]
      exact b5 i (by omega)
  · have hq := xq_keep c3 (by omega) el i hi
    exact ⟨hq.1, xq_lab_up b6 (by omega) hq.2⟩
  · rw [e 25 (by omega) (by omega) (by omega) (by omega) (by omega)]
    exact h5
  · rw [e 0 (by omega) (by omega) (by omega) (by omega) (by omega)]
    exact h6
  · rw [e 41 (by omega) (by omega) (by omega) (by omega) (by omega)]
    exact h7 k hk9
/-- the top tree is gone -/
theorem xi_pop {n : Nat} (h : xi_ok S rl R op nu sz ht m t reg vr cs pl sc) (hn : S.1 18 9 = nI n) (hnm : n ≤ m) (ht1 : 1 ≤ t) (ht0 : t = 1 → sz (m - 1) = m) (htm : t - 1 ≤ m - sz (m - 1)) : xi_ok (zz_u (zz_u (zz_u S 18 7 (nI (m - sz (m - 1)))) 18 8 (nI (t - 1))) 18 9 (nI (min n (m - sz (m - 1))))) rl R op nu sz ht (m - sz (m - 1)) (t - 1) reg vr cs pl sc := by
  obtain ⟨⟨sz1, nb, h1⟩, ⟨b1, b2, b3, b4, b5, b6, b7⟩, ⟨n2, gs, qs, c1, c2, c3⟩, h4, h5, h6, h7, h8⟩ := h
  have e : ∀ c, c ≠ 18 → (zz_u (zz_u (zz_u S 18 7 (nI (m - sz (m - 1)))) 18 8 (nI (t - 1))) 18 9 (nI (min n (m - sz (m - 1))))).1 c = S.1 c := fun c x => by rw [zz_u1 _ 18 _ _ c x, zz_u1 _ 18 _ _ c x, zz_u1 _ 18 _ _ c x]
  refine ⟨⟨sz1, nb, xb_keep h1 (fun c x y => e c (by omega))⟩, ⟨rfl, rfl, by omega, by omega, fun i hi => ?_, tr_cut b6 (by omega), fun h9 => ?_⟩, ⟨min n2 (m - sz (m - 1)), gs, qs, ?_, by omega, fun i hi => ?_⟩, h4, ?_, ?_, fun k hk9 => ?_, xi_code h8 (fun c x y => e c (by omega))⟩
  · rw [e 19 (by omega), e 20 (by omega), e 21 (by omega), e 22 (by omega)]
    exact b5 i (by omega)
  · have := ht0 (by omega)
    omega
  · show nI (min n (m - sz (m - 1))) = nI (min n2 (m - sz (m - 1)))
    have hnn : nI n = nI n2 := hn.symm.trans c1
    rw [(nI_eq (by omega) (by omega)).mp hnn]
  · exact ⟨fun k hk => by
      rw [e (42 + 3 * i + 2) (by omega)]
      exact (c3 i (by omega)).1 k hk, (c3 i (by omega)).2⟩
  · rw [e 25 (by omega)]
    exact h5
  · rw [e 0 (by omega)]
    exact h6
  · rw [e 41 (by omega)]
    exact h7 k hk9
end XJ
abbrev pv_ok (o v : Int32) (t : Nat) : Prop := (0 ≤ o.toInt ∧ o.toInt < 8) ∧ (o.toNatClampNeg = 1 ∨ o.toNatClampNeg = 2 → 0 ≤ v.toInt ∧ v.toInt < 8) ∧ zz_kd o.toNatClampNeg ≤ t
section XK
variable {S : zz_S} {rl : mx_R} {R : Nat} {op : Nat → Nat} {nu : Nat → Int32} {sz ht : Nat → Nat} {m t reg : Nat} {vr : Nat → Int32} {cs : cd_T} {pl : Nat → Nat} {sc : Nat}
theorem xi_reg {x : Nat} (h : xi_ok S rl R op nu sz ht m t reg vr cs pl sc) : xi_ok (zz_u S 0 5 (nI x)) rl R op nu sz ht m t x vr cs pl sc := by
  obtain ⟨⟨sz1, nb, h1⟩, h2, ⟨n, gs, qs, a1, a2, a3⟩, h4, h5, h6, h7, h8⟩ := h
  have e : ∀ c, c ≠ 0 → (zz_u S 0 5 (nI x)).1 c = S.1 c := fun c hc => zz_u1 S 0 5 _ c hc
  have hm := h2.2.2.1
  exact ⟨⟨sz1, nb, xb_keep h1 (fun c a b => e c (by omega))⟩, xi_pile h2 rfl rfl (fun c a b => e c (by omega)), ⟨n, gs, qs, a1, a2, xq_keep a3 (by omega) (fun c a b => ⟨e c (by omega), rfl⟩)⟩, h4, h5, rfl, h7, xi_code h8 (fun c a b => e c (by omega))⟩
theorem xi_var {k : Nat} {x : Int32} (h : xi_ok S rl R op nu sz ht m t reg vr cs pl sc) : xi_ok (zz_u S 41 k x) rl R op nu sz ht m t reg (upd vr k x) cs pl sc := by
  obtain ⟨⟨sz1, nb, h1⟩, h2, ⟨n, gs, qs, a1, a2, a3⟩, h4, h5, h6, h7, h8⟩ := h
  have e : ∀ c, c ≠ 41 → (zz_u S 41 k x).1 c = S.1 c := fun c hc => zz_u1 S 41 k _ c hc
  have hm := h2.2.2.1
  refine ⟨⟨sz1, nb, xb_keep h1 (fun c a b => e c (by omega))⟩, xi_pile h2 rfl rfl (fun c a b => e c (by omega)), ⟨n, gs, qs, a1, a2, xq_keep a3 (by omega) (fun c a b => ⟨e c (by omega), rfl⟩)⟩, h4, h5, h6, fun j hj => ?_, xi_code h8 (fun c a b => e c (by omega))⟩
  rw [zz_u1s]
  by_cases e2 : j = k
  · rw [e2, pk_us, pk_us]
  · rw [pk_un e2, pk_un e2]
    exact h7 j hj
end XK
/-- the code of a covered tree: its numbers are right -/
theorem mu_cd {cs : cd_T} {r nd o a b : Nat} {nu : Int32} (h : ∀ i, i < cs.1 → cs.2.2.2.1 i ≤ 8 ∧ (cs.2.2.2.1 i = 1 → cs.2.2.2.2.1 i = nI (cs.2.2.2.2.1 i).toNatClampNeg ∧ (cs.2.2.2.2.1 i).toNatClampNeg < 8)) (ho : o ≤ 8) (hn : o = 1 → nu = nI nu.toNatClampNeg ∧ nu.toNatClampNeg < 8) : ∀ i, i < (cd_ap cs r nd o nu a b).1 → (cd_ap cs r nd o nu a b).2.2.2.1 i ≤ 8 ∧ ((cd_ap cs r nd o nu a b).2.2.2.1 i = 1 → (cd_ap cs r nd o nu a b).2.2.2.2.1 i = nI ((cd_ap cs r nd o nu a b).2.2.2.2.1 i).toNatClampNeg ∧ ((cd_ap cs r nd o nu a b).2.2.2.2.1 i).toNatClampNeg < 8) := fun i hi => by
  have hi : i < cs.1 + 1 := hi
  show va_up cs.2.2.2.1 cs.1 o i ≤ 8 ∧ (va_up cs.2.2.2.1 cs.1 o i = 1 → upd cs.2.2.2.2.1 cs.1 nu i = nI (upd cs.2.2.2.2.1 cs.1 nu i).toNatClampNeg ∧ (upd cs.2.2.2.2.1 cs.1 nu i).toNatClampNeg < 8)
  by_cases e : i = cs.1
  · rw [e, mp_up_s, pk_us]
    exact ⟨ho, hn⟩
  · rw [mp_up_n e, pk_un e]
    exact h i (by omega)
theorem mu_ch (nd : Nat) : ∀ (A : List Nat) (cs : cd_T), (∀ i, i < cs.1 → cs.2.2.2.1 i ≤ 8 ∧ (cs.2.2.2.1 i = 1 → cs.2.2.2.2.1 i = nI (cs.2.2.2.2.1 i).toNatClampNeg ∧ (cs.2.2.2.2.1 i).toNatClampNeg < 8)) → ∀ i, i < (cd_ch nd A cs).1 → (cd_ch nd A cs).2.2.2.1 i ≤ 8 ∧ ((cd_ch nd A cs).2.2.2.1 i = 1 → (cd_ch nd A cs).2.2.2.2.1 i = nI ((cd_ch nd A cs).2.2.2.2.1 i).toNatClampNeg ∧ ((cd_ch nd A cs).2.2.2.2.1 i).toNatClampNeg < 8)
  | [], _, h => h
  | r :: A, cs, h => mu_ch nd A _ (mu_cd h (Nat.le_refl 8) (fun h9 => absurd h9 (by omega)))
theorem mu_wr {rl : mx_R} {op sz : Nat → Nat} {nu : Nat → Int32} {qs : Nat → Nat → Nat} {W : Nat → Nat} {m fm : Nat} (ht : tr_ok op sz m) (hn : xn_ok op nu m) : ∀ d, fm + d ≤ m → ∀ i, i < (wr_st rl op nu sz qs W fm d).1.1 → (wr_st rl op nu sz qs W fm d).1.2.2.2.1 i ≤ 8 ∧ ((wr_st rl op nu sz qs W fm d).1.2.2.2.1 i = 1 → (wr_st rl op nu sz qs W fm d).1.2.2.2.2.1 i = nI ((wr_st rl op nu sz qs W fm d).1.2.2.2.2.1 i).toNatClampNeg ∧ ((wr_st rl op nu sz qs W fm d).1.2.2.2.2.1 i).toNatClampNeg < 8) := by
  intro d
  induction d with
  | zero => exact fun _ i hi => absurd hi (Nat.not_lt_zero i)
  | succ d ih =>
    intro hd
    exact mu_ch d _ _ (mu_cd (ih (by omega)) (by have := (ht (fm + d) (by omega)).1; omega) (fun h => hn (fm + d) (by omega) h))
theorem xi_cover {S S1 : zz_S} {rl : mx_R} {R : Nat} {op : Nat → Nat} {nu : Nat → Int32} {sz ht : Nat → Nat} {m t reg : Nat} {vr : Nat → Int32} {cs cs2 : cd_T} {pl pl2 : Nat → Nat} {sc sc2 : Nat} (h : xi_ok S rl R op nu sz ht m t reg vr cs pl sc) (ho : zz_off (fun c => 27 ≤ c ∧ c ≤ 40) S S1) (hc : xi_cod S1 cs2 pl2 sc2) : xi_ok S1 rl R op nu sz ht m t reg vr cs2 pl2 sc2 := by
  obtain ⟨⟨sz1, nb, h1⟩, h2, ⟨n, gs, qs, a1, a2, a3⟩, h4, h5, h6, h7, h8⟩ := h
  have e : ∀ c, ¬ (27 ≤ c ∧ c ≤ 40) → S1.1 c = S.1 c := fun c hc => (ho c hc).1
  have hm := h2.2.2.1
  refine ⟨⟨sz1, nb, xb_keep h1 (fun c a b => e c (by omega))⟩, xi_pile h2 ?_ ?_ (fun c a b => e c (by omega)), ⟨n, gs, qs, ?_, a2, xq_keep a3 (by omega) (fun c a b => ho c (by omega))⟩, fun k hk => ?_, ?_, ?_, fun k hk => ?_, hc⟩
  · rw [e 18 (by omega)]
  · rw [e 18 (by omega)]
  · rw [e 18 (by omega)]; exact a1
  · rw [(ho (42 + 3 * 40 + 1) (by omega)).2, (ho (42 + 3 * 41 + 1) (by omega)).2]
    exact h4 k hk
  · rw [e 25 (by omega)]; exact h5
  · rw [e 0 (by omega)]; exact h6
  · rw [e 41 (by omega)]; exact h7 k hk
