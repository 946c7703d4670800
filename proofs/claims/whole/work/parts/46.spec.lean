/-! What the class's object holds, in the words that both sides share. -/
def xi_lab (S : zz_S) (rl : mx_R) (R : Nat) (op sz : Nat → Nat) (m : Nat) : Prop := ∃ (n : Nat) (gs qs : Nat → Nat → Nat), S.1 18 9 = nI n ∧ n ≤ m ∧ xq_ok S rl R op sz gs qs n
def xi_cod (S : zz_S) (cs : cd_T) (pl : Nat → Nat) (sc : Nat) : Prop := xk_ok S cs ∧ S.1 27 14 = nI sc ∧ ∀ i, i < cs.1 → S.1 35 i = nI (pl i)
def xi_ok (S : zz_S) (rl : mx_R) (R : Nat) (op : Nat → Nat) (nu : Nat → Int32) (sz ht : Nat → Nat) (m t reg : Nat) (vr : Nat → Int32) (cs : cd_T) (pl : Nat → Nat) (sc : Nat) : Prop :=
  (∃ (sz1 : Nat → Nat) (nb : Nat → Nat → Nat), xb_ok S rl R sz1 nb) ∧ xp_ok S op nu sz ht m t ∧ xi_lab S rl R op sz m ∧ (∀ k, k < 4 → S.2 (42 + 3 * 40 + 1) k = vw_c 0 ∧ S.2 (42 + 3 * 41 + 1) k = vw_c 0) ∧ (S.1 25 3 = nI 0 ∨ ns_ans rl R (S.1 25 3)) ∧ S.1 0 5 = nI reg ∧ (∀ k, k < 8 → S.1 41 k = vr k) ∧ xi_cod S cs pl sc
/-- of the code: its sources, places and numbers are right -/
def mu_ok (cs : cd_T) (pl : Nat → Nat) (sc : Nat) : Prop := cd_ok cs ∧ cs.1 ≤ 160 ∧ (∃ r0, 1 ≤ r0 ∧ r0 ≤ 4 ∧ pl_ok r0 cs.2.2.2.2.2.2.2 cs.1 pl sc) ∧ ∀ i, i < cs.1 → cs.2.2.2.1 i ≤ 8 ∧ (cs.2.2.2.1 i = 1 → cs.2.2.2.2.1 i = nI (cs.2.2.2.2.1 i).toNatClampNeg ∧ (cs.2.2.2.2.1 i).toNatClampNeg < 8)
/-- everything but the cells in X is as it was -/
theorem xi_pile {S S1 : zz_S} {op : Nat → Nat} {nu : Nat → Int32} {sz ht : Nat → Nat} {m t : Nat} (h : xp_ok S op nu sz ht m t) (h7 : S1.1 18 7 = S.1 18 7) (h8 : S1.1 18 8 = S.1 18 8) (hk : ∀ c, 19 ≤ c → c ≤ 22 → S1.1 c = S.1 c) : xp_ok S1 op nu sz ht m t := by
  unfold xp_ok
  rw [h7, h8, hk 19 (by omega) (by omega), hk 20 (by omega) (by omega), hk 21 (by omega) (by omega), hk 22 (by omega) (by omega)]
  exact h
theorem xi_code {S S1 : zz_S} {cs : cd_T} {pl : Nat → Nat} {sc : Nat} (h : xi_cod S cs pl sc) (hk : ∀ c, 27 ≤ c → c ≤ 35 → S1.1 c = S.1 c) : xi_cod S1 cs pl sc := by
  unfold xi_cod xk_ok
  rw [hk 27 (by omega) (by omega), hk 28 (by omega) (by omega), hk 29 (by omega) (by omega), hk 30 (by omega) (by omega), hk 31 (by omega) (by omega), hk 32 (by omega) (by omega), hk 33 (by omega) (by omega), hk 34 (by omega) (by omega), hk 35 (by omega) (by omega)]
  exact h
section XI
variable {S S0 S1 : zz_S} {rl : mx_R} {R : Nat} {op : Nat → Nat} {nu : Nat → Int32} {sz ht : Nat → Nat} {m t reg : Nat} {vr : Nat → Int32} {cs : cd_T} {pl : Nat → Nat} {sc : Nat}
/-- the labels are worked out -/
theorem xi_labd (h : xi_ok S rl R op nu sz ht m t reg vr cs pl sc) (ho : zz_off xq_X S S0) {gs qs : Nat → Nat → Nat} (hq : xq_ok (zz_u S0 18 9 (nI m)) rl R op sz gs qs m) : xi_ok (zz_u S0 18 9 (nI m)) rl R op nu sz ht m t reg vr cs pl sc := by
  obtain ⟨⟨sz1, nb, h1⟩, h2, h3, h4, h5, h6, h7, h8⟩ := h
  have e : ∀ c, c ≠ 18 → c < 42 → (zz_u S0 18 9 (nI m)).1 c = S.1 c := fun c h1 h2 => by rw [zz_u1 S0 18 9 _ c h1]; exact (ho c (by omega)).1
  refine ⟨⟨sz1, nb, xb_keep h1 (fun c a b => e c (by omega) (by omega))⟩, xi_pile h2 ?_ ?_ (fun c a b => e c (by omega) (by omega)), ⟨m, gs, qs, rfl, Nat.le_refl m, hq⟩, fun k hk => ?_, ?_, ?_, fun k hk => ?_, xi_code h8 (fun c a b => e c (by omega) (by omega))⟩
  · show S0.1 18 7 = _
    rw [(ho 18 (by omega)).1]
  · show S0.1 18 8 = _
    rw [(ho 18 (by omega)).1]
  · show S0.2 (42 + 3 * 40 + 1) k = _ ∧ S0.2 (42 + 3 * 41 + 1) k = _
    rw [(ho (42 + 3 * 40 + 1) (by omega)).2, (ho (42 + 3 * 41 + 1) (by omega)).2]
    exact h4 k hk
  · rw [e 25 (by omega) (by omega)]
    exact h5
  · rw [e 0 (by omega) (by omega)]
    exact h6
  · rw [e 41 (by omega) (by omega)]
    exact h7 k hk
/-- only rows that nobody reads later have changed -/
theorem xi_same (h : xi_ok S rl R op nu sz ht m t reg vr cs pl sc) (h0 : ∀ c, c < 42 → c ≠ 23 → c ≠ 36 → c ≠ 37 → c ≠ 38 → c ≠ 39 → c ≠ 40 → c ≠ 25 → S1.1 c = S.1 c) (hl : ∀ c, 42 ≤ c → c < 168 → S1.1 c = S.1 c ∧ S1.2 c = S.2 c) (hc : S1.1 25 3 = nI 0 ∨ ns_ans rl R (S1.1 25 3)) (hm : m ≤ 40) : xi_ok S1 rl R op nu sz ht m t reg vr cs pl sc := by
  obtain ⟨⟨sz1, nb, h1⟩, h2, ⟨n, gs, qs, a1, a2, a3⟩, h4, h5, h6, h7, h8⟩ := h
  refine ⟨⟨sz1, nb, xb_keep h1 (fun c a b => h0 c (by omega) (by omega) (by omega) (by omega) (by omega) (by omega) (by omega) (by omega))⟩, xi_pile h2 ?_ ?_ (fun c a b => h0 c (by omega) (by omega) (by omega) (by omega) (by omega) (by omega) (by omega) (by omega)), ⟨n, gs, qs, ?_, a2, xq_keep a3 (by omega) (fun c h1 h2 => hl c h1 (by omega))⟩, fun k hk => ?_, hc, ?_, fun k hk => ?_, xi_code h8 (fun c a b => h0 c (by omega) (by omega) (by omega) (by omega) (by omega) (by omega) (by omega) (by omega))⟩
  · rw [h0 18 (by omega) (by omega) (by omega) (by omega) (by omega) (by omega) (by omega) (by omega)]
  · rw [h0 18 (by omega) (by omega) (by omega) (by omega) (by omega) (by omega) (by omega) (by omega)]
  · rw [h0 18 (by omega) (by omega) (by omega) (by omega) (by omega) (by omega) (by omega) (by omega)]
    exact a1
  · rw [(hl (42 + 3 * 40 + 1) (by omega) (by omega)).2, (hl (42 + 3 * 41 + 1) (by omega) (by omega)).2]
    exact h4 k hk
  · rw [h0 0 (by omega) (by omega) (by omega) (by omega) (by omega) (by omega) (by omega) (by omega)]
    exact h6
  · rw [h0 41 (by omega) (by omega) (by omega) (by omega) (by omega) (by omega) (by omega) (by omega)]
    exact h7 k hk
end XI
/-- a rule is a right one -/
abbrev rv_ok (k o a b c : Int32) : Prop := (0 ≤ k.toInt ∧ k.toInt < 4) ∧ (0 ≤ o.toInt ∧ o.toInt ≤ 8) ∧ (0 ≤ a.toInt ∧ a.toInt < 4) ∧ (0 ≤ b.toInt ∧ b.toInt < 4) ∧ ((o.toNatClampNeg = 8 ∧ a.toInt ≠ k.toInt ∧ b.toInt = 0) ∨ (o.toNatClampNeg ≠ 8 ∧ (1 ≤ zz_kd o.toNatClampNeg ∨ a.toInt = 0) ∧ (zz_kd o.toNatClampNeg = 2 ∨ b.toInt = 0))) ∧ ((o.toNatClampNeg = 8 ∧ 1 ≤ c.toInt) ∨ (o.toNatClampNeg ≠ 8 ∧ 0 ≤ c.toInt)) ∧ c.toInt ≤ 9
def rv_new (rl : mx_R) (R : Nat) (k o a b c : Int32) : mx_R := fun r => if r = R then (k.toNatClampNeg, o.toNatClampNeg, a.toNatClampNeg, b.toNatClampNeg, c.toNatClampNeg) else rl r
theorem zz_clamp {x : Int32} (h : 0 ≤ x.toInt) : x = nI x.toNatClampNeg ∧ (x.toNatClampNeg : Int) = x.toInt ∧ x.toNatClampNeg < 2 ^ 31 := by
  obtain ⟨j, hj, e⟩ := nI_of (x := x) (fun hx => by
    rw [Int32.lt_iff_toInt_lt] at hx
    have : (0 : Int32).toInt = 0 := rfl
    omega)
  have h1 : x.toNatClampNeg = j := by rw [e]; exact nI_clamp hj
  rw [h1]
  exact ⟨e, by rw [e, nI_toInt hj], hj⟩
/-- a rule more -/
def xb_new (rl : mx_R) (R k o a b c : Nat) : mx_R := fun r => if r = R then (k, o, a, b, c) else rl r
def xb_put (S : zz_S) (R n k o a b c : Nat) : zz_S := zz_u (zz_u (zz_u (zz_u (zz_u (zz_u (zz_u (zz_u S 2 R (nI k)) 3 R (nI o)) 4 R (nI a)) 5 R (nI b)) 6 R (nI c)) (9 + o) n (nI R)) 8 o (nI (n + 1))) 1 7 (nI (R + 1))
theorem xb_putI {S : zz_S} {rl : mx_R} {R k o a b c : Nat} {sz : Nat → Nat} {nb : Nat → Nat → Nat} (h : xb_ok S rl R sz nb) (hR : R < 24) (ho : o ≤ 8) (hk : k < 4) (ha : a < 4) (hb : b < 4) (hc : c ≤ 9) (h8 : o = 8 → 1 ≤ c) : xb_ok (xb_put S R (sz o) k o a b c) (xb_new rl R k o a b c) (R + 1) (va_up sz o (sz o + 1)) (va_up nb o (va_up (nb o) (sz o) R)) := by
  obtain ⟨h1, h2, h3, h4, h5⟩ := h
  have hs := (h5 o (by omega)).2.1
  have n1 : ∀ r, r ≠ R → xb_new rl R k o a b c r = rl r := fun r hr => by rw [xb_new, if_neg hr]
  have n2 : xb_new rl R k o a b c R = (k, o, a, b, c) := by rw [xb_new, if_pos rfl]
  have low : ∀ x, x ≠ 1 → x ≠ 8 → x ≠ 9 + o → (xb_put S R (sz o) k o a b c).1 x = (zz_u (zz_u (zz_u (zz_u (zz_u S 2 R (nI k)) 3 R (nI o)) 4 R (nI a)) 5 R (nI b)) 6 R (nI c)).1 x := fun x e1 e2 e3 => by
    unfold xb_put
    rw [zz_u1 _ 1 _ _ x e1, zz_u1 _ 8 _ _ x e2, zz_u1 _ (9 + o) _ _ x e3]
  refine ⟨rfl, by omega, fun r hr => ?_, fun r hr => ?_, fun x hx => ?_⟩
  · by_cases e : r = R
    · subst e
      rw [n2]
      exact ⟨hk, ho, ha, hb, hc, h8⟩
    · rw [n1 r e]
      exact h3 r (by omega)
  · rw [low 2 (by omega) (by omega) (by omega), low 3 (by omega) (by omega) (by omega), low 4 (by omega) (by omega) (by omega), low 5 (by omega) (by omega) (by omega), low 6 (by omega) (by omega) (by omega)]
    show upd (S.1 2) R (nI k) r = _ ∧ upd (S.1 3) R (nI o) r = _ ∧ upd (S.1 4) R (nI a) r = _ ∧ upd (S.1 5) R (nI b) r = _ ∧ upd (S.1 6) R (nI c) r = _
    by_cases e : r = R
    · rw [e, n2, pk_us, pk_us, pk_us, pk_us, pk_us]
      exact ⟨rfl, rfl, rfl, rfl, rfl⟩
    · rw [n1 r e, pk_un e, pk_un e, pk_un e, pk_un e, pk_un e]
      exact h4 r (by omega)
  · have e8 : (xb_put S R (sz o) k o a b c).1 8 = upd (S.1 8) o (nI (sz o + 1)) := by
      unfold xb_put
      rw [zz_u1 _ 1 _ _ 8 (by omega), zz_u1s, zz_u1 _ (9 + o) _ _ 8 (by omega)]
      rfl
    have er : x ≠ o → (xb_put S R (sz o) k o a b c).1 (9 + x) = S.1 (9 + x) := fun e => by
      rw [low (9 + x) (by omega) (by omega) (by omega), zz_u1 _ 6 _ _ _ (by omega), zz_u1 _ 5 _ _ _ (by omega), zz_u1 _ 4 _ _ _ (by omega), zz_u1 _ 3 _ _ _ (by omega), zz_u1 _ 2 _ _ _ (by omega)]
    have ero : (xb_put S R (sz o) k o a b c).1 (9 + o) = upd (S.1 (9 + o)) (sz o) (nI R) := by
      unfold xb_put
      rw [zz_u1 _ 1 _ _ _ (by omega), zz_u1 _ 8 _ _ _ (by omega), zz_u1s, zz_u1 _ 6 _ _ _ (by omega), zz_u1 _ 5 _ _ _ (by omega), zz_u1 _ 4 _ _ _ (by omega), zz_u1 _ 3 _ _ _ (by omega), zz_u1 _ 2 _ _ _ (by omega)]
    obtain ⟨g1, g2, g3, g4⟩ := h5 x hx
    rw [e8]
    by_cases e : x = o
    · subst e
      rw [pk_us, mp_up_s]
      refine ⟨rfl, by omega, fun i hi => ?_, fun r hr he => ?_⟩
      · rw [ero, xq_us]
        by_cases ei : i = sz x
        · rw [ei, pk_us, mp_up_s, n2]
          refine ⟨rfl, by omega, rfl, fun i2 h2 => ?_⟩
          rw [mp_up_n (by omega)]
          exact (g3 i2 h2).2.1
        · obtain ⟨y1, y2, y3, y4⟩ := g3 i (by omega)
          rw [pk_un ei, mp_up_n ei, n1 _ (by omega)]
          refine ⟨y1, by omega, y3, fun i2 h2 => ?_⟩
          rw [mp_up_n (by omega)]
          exact y4 i2 h2
      · rw [xq_us]
        by_cases er2 : r = R
        · exact ⟨sz x, by omega, by rw [mp_up_s, er2]⟩
        · rw [n1 r er2] at he
          obtain ⟨i, hi, e2⟩ := g4 r (by omega) he
          exact ⟨i, by omega, by rw [mp_up_n (by omega)]; exact e2⟩
    · rw [pk_un e, mp_up_n e, er e, xq_up e]
      refine ⟨g1, by omega, fun i hi => ?_, fun r hr he => ?_⟩
      · obtain ⟨y1, y2, y3, y4⟩ := g3 i hi
        rw [n1 _ (by omega)]
        exact ⟨y1, by omega, y3, y4⟩
      · by_cases er2 : r = R
        · rw [er2, n2] at he
          exact absurd he.symm e
        · rw [n1 r er2] at he
          exact g4 r (by omega) he
theorem xb_putO {S : zz_S} {R n k o a b c : Nat} (ho : o ≤ 8) : zz_off (fun x => 1 ≤ x ∧ x < 18) S (xb_put S R n k o a b c) := fun x hx => by
  refine ⟨?_, rfl⟩
  unfold xb_put
  rw [zz_u1 _ 1 _ _ x (by omega), zz_u1 _ 8 _ _ x (by omega), zz_u1 _ (9 + o) _ _ x (by omega), zz_u1 _ 6 _ _ x (by omega), zz_u1 _ 5 _ _ x (by omega), zz_u1 _ 4 _ _ x (by omega), zz_u1 _ 3 _ _ x (by omega), zz_u1 _ 2 _ _ x (by omega)]
/-- the rules are gone: the same cells serve for none -/
theorem xb_none {S S1 : zz_S} {rl : mx_R} (h7 : S1.1 1 7 = nI 0) (h8 : ∀ k, k < 9 → S1.1 8 k = nI 0) : xb_ok S1 rl 0 (fun _ => 0) (fun _ _ => 0) := ⟨h7, by omega, fun r hr => absurd hr (Nat.not_lt_zero r), fun r hr => absurd hr (Nat.not_lt_zero r), fun o ho => ⟨h8 o ho, Nat.le_refl _, fun i hi => absurd hi (Nat.not_lt_zero i), fun r hr => absurd hr (Nat.not_lt_zero r)⟩⟩
