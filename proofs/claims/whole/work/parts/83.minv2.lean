/-! The reference's object after a rule, a push, a cover. -/
section MIY
variable {S S1 : zz_S} {rl : mx_R} {R : Nat} {op : Nat → Nat} {nu : Nat → Int32} {sz ht : Nat → Nat} {m t : Nat} {ps : Nat → Nat} {reg : Nat} {vr : Nat → Int32} {cs : cd_T} {pl : Nat → Nat} {sc : Nat}
def mi_p4 (S : zz_S) (m o s h : Nat) (v : Int32) : zz_S := zz_u (zz_u (zz_u (zz_u S 6 m (nI o)) 7 m v) 8 m (nI s)) 9 m (nI h)
def mi_p7 (S : zz_S) (m o s h t k : Nat) (v : Int32) : zz_S := zz_u (zz_u (zz_u (mi_p4 S m o s h v) 0 11 (nI (t + 1 - k))) 10 (t + 1 - k - 1) (nI (m + 1 - s))) 0 6 (nI (m + 1))
theorem mi_push {o : Nat} {v : Int32} (h : mi_ok S rl R op nu sz ht m t ps reg vr cs pl sc) (ho : o < 8) (hk : zz_kd o ≤ t) (hm : m < 40) (hh : xp_hi sz ht m o ≤ 10) : mi_ok (mi_p7 S m o (xp_sz sz m o) (xp_hi sz ht m o) t (zz_kd o) v) rl R (va_up op m o) (upd nu m v) (va_up sz m (xp_sz sz m o)) (va_up ht m (xp_hi sz ht m o)) (m + 1) (t + 1 - zz_kd o) (va_up ps (t + 1 - zz_kd o) (m + 1)) reg vr cs pl sc := by
  obtain ⟨h1, h2, h3, h4, h5, h6, h7⟩ := h
  obtain ⟨a1, a2, a3, a4, a5, a6, a7, a8, a9⟩ := h2
  have hf := ts_first a8 hk
  have hkd := tr_kd o
  generalize xp_hi sz ht m o = hi at *
  have e : ∀ j, j ≠ 6 → j ≠ 11 → (mi_p7 S m o (xp_sz sz m o) hi t (zz_kd o) v).1 0 j = S.1 0 j := fun j hj hj2 => by
    unfold mi_p7
    rw [zz_u1s, pk_un hj, zz_u1 _ 10 _ _ 0 (by omega), zz_u1s, pk_un hj2]
    rfl
  have e2 : ∀ c, c ≠ 0 → c ≠ 10 → (mi_p7 S m o (xp_sz sz m o) hi t (zz_kd o) v).1 c = (mi_p4 S m o (xp_sz sz m o) hi v).1 c := fun c hc hc2 => by
    unfold mi_p7
    rw [zz_u1 _ 0 _ _ c hc, zz_u1 _ 10 _ _ c hc2, zz_u1 _ 0 _ _ c hc]
  have e3 : ∀ c, c ≠ 0 → c ≠ 10 → c ≠ 6 → c ≠ 7 → c ≠ 8 → c ≠ 9 → (mi_p7 S m o (xp_sz sz m o) hi t (zz_kd o) v).1 c = S.1 c := fun c c0 c1 c2 c3 c4 c5 => by
    rw [e2 c c0 c1]
    unfold mi_p4
    rw [zz_u1 _ 9 _ _ c c5, zz_u1 _ 8 _ _ c c4, zz_u1 _ 7 _ _ c c3, zz_u1 _ 6 _ _ c c2]
  have e10 : (mi_p7 S m o (xp_sz sz m o) hi t (zz_kd o) v).1 10 = upd (S.1 10) (t + 1 - zz_kd o - 1) (nI (m + 1 - xp_sz sz m o)) := by
    unfold mi_p7
    rw [zz_u1 _ 0 _ _ 10 (by omega), zz_u1s, zz_u1 _ 0 _ _ 10 (by omega)]
    rfl
  refine ⟨mb_keep h1 (e 0 (by omega) (by omega)) (fun c a b => e3 c (by omega) (by omega) (by omega) (by omega) (by omega) (by omega)), ⟨?_, ?_, by omega, by omega, fun i hi => ?_, tr_push ho a6 hf.2.1 hf.2.2, fun h0 => absurd h0 (by omega), ts_push a8 hk, fun j hj => ?_⟩, by rw [e 24 (by omega) (by omega)]; exact h3, fun k k8 => by rw [e3 31 (by omega) (by omega) (by omega) (by omega) (by omega) (by omega)]; exact h4 k k8, mk_cdk h5 (e 22 (by omega) (by omega)) (fun c a b => e3 c (by omega) (by omega) (by omega) (by omega) (by omega) (by omega)), by rw [e 23 (by omega) (by omega)]; exact h6, fun i hi => by rw [e3 26 (by omega) (by omega) (by omega) (by omega) (by omega) (by omega)]; exact h7 i hi⟩
  · unfold mi_p7
    rw [zz_u1s, pk_us]
  · unfold mi_p7
    rw [zz_u1s, pk_un (by omega), zz_u1 _ 10 _ _ 0 (by omega), zz_u1s, pk_us]
  · rw [e2 6 (by omega) (by omega), e2 7 (by omega) (by omega), e2 8 (by omega) (by omega), e2 9 (by omega) (by omega)]
    show upd (S.1 6) m (nI o) i = _ ∧ upd (S.1 7) m v i = _ ∧ upd (S.1 8) m (nI (xp_sz sz m o)) i = _ ∧ upd (S.1 9) m _ i = _ ∧ _
    by_cases e : i = m
    · rw [e, pk_us, pk_us, pk_us, pk_us, pk_us, mp_up_s, mp_up_s, mp_up_s]
      exact ⟨rfl, rfl, rfl, rfl, hh⟩
    · rw [pk_un e, pk_un e, pk_un e, pk_un e, pk_un e, mp_up_n e, mp_up_n e, mp_up_n e]
      exact a5 i (by omega)
  · rw [e10, mp_up_n (show j ≠ t + 1 - zz_kd o by omega)]
    by_cases e : j = t + 1 - zz_kd o - 1
    · rw [e, pk_us, show t + 1 - zz_kd o - 1 = t - zz_kd o by omega, show m + 1 - xp_sz sz m o = ps (t - zz_kd o) by omega]
    · rw [pk_un e]
      exact a9 j (by omega)
theorem mi_rule {k o a b c : Int32} (h : mi_ok S rl R op nu sz ht m t ps reg vr cs pl sc) (hv : rv_ok k o a b c) (hR : R < 24) : mi_ok (zz_u (zz_u (zz_u (zz_u (zz_u (zz_u S 1 R (nI k.toNatClampNeg)) 2 R (nI o.toNatClampNeg)) 3 R (nI a.toNatClampNeg)) 4 R (nI b.toNatClampNeg)) 5 R (nI c.toNatClampNeg)) 0 0 (nI (R + 1))) (rv_new rl R k o a b c) (R + 1) op nu sz ht m t ps reg vr cs pl sc := by
  obtain ⟨h1, h2, h3, h4, h5, h6, h7⟩ := h
  have hs := rv_to hv
  have hck := (zz_clamp hs.1.1).2.1
  have hco := (zz_clamp hs.2.1.1).2.1
  have hca := (zz_clamp hs.2.2.1.1).2.1
  have hcb := (zz_clamp hs.2.2.2.1.1).2.1
  have hcc := (zz_clamp hs.2.2.2.2.2.2.2.1.1).2.1
  have n1 : ∀ r, r ≠ R → rv_new rl R k o a b c r = rl r := fun r hr => by rw [rv_new, if_neg hr]
  have n2 : rv_new rl R k o a b c R = (k.toNatClampNeg, o.toNatClampNeg, a.toNatClampNeg, b.toNatClampNeg, c.toNatClampNeg) := by rw [rv_new, if_pos rfl]
  generalize k.toNatClampNeg = k' at *
  generalize o.toNatClampNeg = o' at *
  generalize a.toNatClampNeg = a' at *
  generalize b.toNatClampNeg = b' at *
  generalize c.toNatClampNeg = c' at *
  have e : ∀ j, j ≠ 0 → (zz_u (zz_u (zz_u (zz_u (zz_u (zz_u S 1 R (nI k')) 2 R (nI o')) 3 R (nI a')) 4 R (nI b')) 5 R (nI c')) 0 0 (nI (R + 1))).1 0 j = S.1 0 j := fun j hj => by
    rw [zz_u1s, pk_un hj]
    rfl
  have e2 : ∀ x, 5 < x → (zz_u (zz_u (zz_u (zz_u (zz_u (zz_u S 1 R (nI k')) 2 R (nI o')) 3 R (nI a')) 4 R (nI b')) 5 R (nI c')) 0 0 (nI (R + 1))).1 x = S.1 x := fun x hx => by
    rw [zz_u1 _ 0 _ _ x (by omega), zz_u1 _ 5 _ _ x (by omega), zz_u1 _ 4 _ _ x (by omega), zz_u1 _ 3 _ _ x (by omega), zz_u1 _ 2 _ _ x (by omega), zz_u1 _ 1 _ _ x (by omega)]
  refine ⟨⟨by rw [zz_u1s, pk_us], by omega, fun r hr => ?_, fun r hr => ?_⟩, mt_keep h2 (e 6 (by omega)) (e 11 (by omega)) (fun c a b => e2 c (by omega)), by rw [e 24 (by omega)]; exact h3, fun k k8 => by rw [e2 31 (by omega)]; exact h4 k k8, mk_cdk h5 (e 22 (by omega)) (fun c a b => e2 c (by omega)), by rw [e 23 (by omega)]; exact h6, fun i hi => by rw [e2 26 (by omega)]; exact h7 i hi⟩
  · by_cases er : r = R
    · rw [er, n2]
      exact ⟨by show k' < 4; omega, by show o' ≤ 8; omega, by show a' < 4; omega, by show b' < 4; omega, by show c' ≤ 9; omega, fun h8 => by have h8 : o' = 8 := h8; show 1 ≤ c'; have := hs.2.2.2.2.2.2.2.2; omega⟩
    · rw [n1 r er]
      exact h1.2.2.1 r (by omega)
  · rw [zz_u1 _ 0 _ _ 1 (by omega), zz_u1 _ 0 _ _ 2 (by omega), zz_u1 _ 0 _ _ 3 (by omega), zz_u1 _ 0 _ _ 4 (by omega), zz_u1 _ 0 _ _ 5 (by omega)]
    show upd (S.1 1) R (nI k') r = _ ∧ upd (S.1 2) R (nI o') r = _ ∧ upd (S.1 3) R (nI a') r = _ ∧ upd (S.1 4) R (nI b') r = _ ∧ upd (S.1 5) R (nI c') r = _
    by_cases er : r = R
    · rw [er, n2, pk_us, pk_us, pk_us, pk_us, pk_us]
      exact ⟨rfl, rfl, rfl, rfl, rfl⟩
    · rw [n1 r er, pk_un er, pk_un er, pk_un er, pk_un er, pk_un er]
      exact h1.2.2.2 r (by omega)
theorem mi_cov {cs2 : cd_T} {pl2 : Nat → Nat} {sc2 : Nat} (h : mi_ok S rl R op nu sz ht m t ps reg vr cs pl sc) (ho : zz_off cv_X S S1) (hf : ∀ j, j ≠ 22 → j ≠ 23 → S1.1 0 j = S.1 0 j) (hk : mk_cd S1 cs2) (hs : S1.1 0 23 = nI sc2) (hp : ∀ j, j < cs2.1 → S1.1 26 j = nI (pl2 j)) : mi_ok S1 rl R op nu sz ht m t ps reg vr cs2 pl2 sc2 := by
  obtain ⟨h1, h2, h3, h4, h5, h6, h7⟩ := h
  have e2 : ∀ c, 1 ≤ c → c ≤ 10 ∨ c = 31 → S1.1 c = S.1 c := fun c a b => (ho c (by unfold cv_X; omega)).1
  exact ⟨mb_keep h1 (hf 0 (by omega) (by omega)) (fun c a b => e2 c a (by omega)), mt_keep h2 (hf 6 (by omega) (by omega)) (hf 11 (by omega) (by omega)) (fun c a b => e2 c (by omega) (by omega)), by rw [hf 24 (by omega) (by omega)]; exact h3, fun k k8 => by rw [e2 31 (by omega) (by omega)]; exact h4 k k8, hk, hs, hp⟩
end MIY
theorem mi_clear {S : zz_S} {rl : mx_R} {R : Nat} {op : Nat → Nat} {nu : Nat → Int32} {sz ht : Nat → Nat} {m t : Nat} {ps : Nat → Nat} {reg : Nat} {vr : Nat → Int32} {cs : cd_T} {pl : Nat → Nat} {sc : Nat} (h : mi_ok S rl R op nu sz ht m t ps reg vr cs pl sc) : mi_ok (zz_u S 0 0 (nI 0)) rl 0 op nu sz ht m t ps reg vr cs pl sc := by
  obtain ⟨h1, h2, h3, h4, h5, h6, h7⟩ := h
  have e : ∀ j, j ≠ 0 → (zz_u S 0 0 (nI 0)).1 0 j = S.1 0 j := fun j hj => by rw [zz_u1s, pk_un hj]
  have e2 : ∀ c, c ≠ 0 → (zz_u S 0 0 (nI 0)).1 c = S.1 c := fun c hc => zz_u1 S 0 0 _ c hc
  exact ⟨⟨by rw [zz_u1s, pk_us], by omega, fun r hr => absurd hr (Nat.not_lt_zero r), fun r hr => absurd hr (Nat.not_lt_zero r)⟩, mt_keep h2 (e 6 (by omega)) (e 11 (by omega)) (fun c a b => e2 c (by omega)), by rw [e 24 (by omega)]; exact h3, fun k k8 => by rw [e2 31 (by omega)]; exact h4 k k8, mk_cdk h5 (e 22 (by omega)) (fun c a b => e2 c (by omega)), by rw [e 23 (by omega)]; exact h6, fun i hi => by rw [e2 26 (by omega)]; exact h7 i hi⟩
