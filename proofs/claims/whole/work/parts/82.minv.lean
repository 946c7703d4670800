/-! What the reference's object holds, in the words that both sides share. -/
def mi_ok (S : zz_S) (rl : mx_R) (R : Nat) (op : Nat → Nat) (nu : Nat → Int32) (sz ht : Nat → Nat) (m t : Nat) (ps : Nat → Nat) (reg : Nat) (vr : Nat → Int32) (cs : cd_T) (pl : Nat → Nat) (sc : Nat) : Prop :=
  mb_ok S rl R ∧ mt_ok S op nu sz ht m t ps ∧ S.1 0 24 = nI reg ∧ (∀ k, k < 8 → S.1 31 k = vr k) ∧ mk_cd S cs ∧ S.1 0 23 = nI sc ∧ ∀ i, i < cs.1 → S.1 26 i = nI (pl i)
section TSX
variable {sz : Nat → Nat} {m t : Nat} {ps : Nat → Nat}
theorem ts_le (h : ts_ok sz m t ps) : ∀ d j, j + d = t → ps j ≤ m := by
  intro d
  induction d with
  | zero =>
    intro j hj
    rw [show j = t by omega, h.2.1]
    exact Nat.le_refl _
  | succ d ih =>
    intro j hj
    have := ih (j + 1) (by omega)
    have := (h.2.2 j (by omega)).1
    omega
theorem ts_pop (h : ts_ok sz m t ps) (ht : t ≠ 0) : ts_ok sz (m - sz (m - 1)) (t - 1) ps := by
  have h2 := (ts_two h).1 (by omega)
  exact ⟨h.1, by omega, fun j hj => h.2.2 j (by omega)⟩
theorem ts_first (h : ts_ok sz m t ps) {o : Nat} (hk : zz_kd o ≤ t) : xp_sz sz m o + ps (t - zz_kd o) = m + 1 ∧ (0 < zz_kd o → 1 ≤ m) ∧ (zz_kd o = 2 → sz (m - 1) + 1 ≤ m) := by
  have h2 := ts_two h
  have a1 : 0 < zz_kd o → 1 ≤ m := fun hh => by have := h2.1 (by omega); omega
  have a2 : zz_kd o = 2 → sz (m - 1) + 1 ≤ m := fun hh => h2.2 (by omega)
  have hx := xs_sz a1 a2
  refine ⟨?_, a1, a2⟩
  rcases tr_kd o with e | e | e
  · rw [hx.1 e, e, Nat.sub_zero, h.2.1]
    omega
  · have b1 := h2.1 (by omega)
    rw [hx.2.1 e, e, xp_fk, if_neg (by omega)]
    omega
  · have b1 := h2.1 (by omega)
    have b2 := h.2.2 (t - 2) (by omega)
    rw [show t - 2 + 1 = t - 1 by omega] at b2
    rw [hx.2.2 e, e, xp_fk, if_pos e, show m - 1 - sz (m - 1) = ps (t - 1) - 1 by omega, b2.2]
    omega
theorem ts_push (h : ts_ok sz m t ps) {o : Nat} (hk : zz_kd o ≤ t) : ts_ok (va_up sz m (xp_sz sz m o)) (m + 1) (t + 1 - zz_kd o) (va_up ps (t + 1 - zz_kd o) (m + 1)) := by
  have hf := (ts_first h hk).1
  refine ⟨by rw [mp_up_n (by omega)]; exact h.1, mp_up_s, fun j hj => ?_⟩
  rw [mp_up_n (show j ≠ t + 1 - zz_kd o by omega)]
  by_cases e : j + 1 = t + 1 - zz_kd o
  · rw [e, mp_up_s, Nat.add_sub_cancel, mp_up_s, show j = t - zz_kd o by omega]
    have := ts_le h (zz_kd o) (t - zz_kd o) (by omega)
    omega
  · rw [mp_up_n e]
    have h1 := h.2.2 j (by omega)
    have h3 := ts_le h (t - (j + 1)) (j + 1) (by omega)
    rw [mp_up_n (show ps (j + 1) - 1 ≠ m by omega)]
    exact h1
end TSX
section MIX
variable {S S1 : zz_S} {rl : mx_R} {R : Nat} {op : Nat → Nat} {nu : Nat → Int32} {sz ht : Nat → Nat} {m t : Nat} {ps : Nat → Nat} {reg : Nat} {vr : Nat → Int32} {cs : cd_T} {pl : Nat → Nat} {sc : Nat}
/-- only rows that nobody reads later have changed -/
theorem mi_same (h : mi_ok S rl R op nu sz ht m t ps reg vr cs pl sc) (h0 : ∀ j, j ≠ 19 → S1.1 0 j = S.1 0 j) (hk : ∀ c, 1 ≤ c → (c ≤ 10 ∨ (19 ≤ c ∧ c ≤ 26) ∨ c = 31) → S1.1 c = S.1 c) : mi_ok S1 rl R op nu sz ht m t ps reg vr cs pl sc := by
  obtain ⟨h1, h2, h3, h4, h5, h6, h7⟩ := h
  refine ⟨mb_keep h1 (h0 0 (by omega)) (fun c a b => hk c a (by omega)), mt_keep h2 (h0 6 (by omega)) (h0 11 (by omega)) (fun c a b => hk c (by omega) (by omega)), by rw [h0 24 (by omega)]; exact h3, fun k k8 => by rw [hk 31 (by omega) (by omega)]; exact h4 k k8, mk_cdk h5 (h0 22 (by omega)) (fun c a b => hk c (by omega) (by omega)), by rw [h0 23 (by omega)]; exact h6, fun i hi => by rw [hk 26 (by omega) (by omega)]; exact h7 i hi⟩
theorem mi_off {X : Nat → Prop} (h : mi_ok S rl R op nu sz ht m t ps reg vr cs pl sc) (ho : zz_off X S S1) (hX : ∀ c, X c → (11 ≤ c ∧ c ≤ 18) ∨ (27 ≤ c ∧ c ≤ 30) ∨ c = 32) : mi_ok S1 rl R op nu sz ht m t ps reg vr cs pl sc :=
  mi_same h (fun j _ => by rw [(ho 0 (fun x => by have := hX 0 x; omega)).1]) (fun c a b => (ho c (fun x => by have := hX c x; omega)).1)
theorem mi_reg (h : mi_ok S rl R op nu sz ht m t ps reg vr cs pl sc) (x : Nat) : mi_ok (zz_u S 0 24 (nI x)) rl R op nu sz ht m t ps x vr cs pl sc := by
  obtain ⟨h1, h2, h3, h4, h5, h6, h7⟩ := h
  have e : ∀ j, j ≠ 24 → (zz_u S 0 24 (nI x)).1 0 j = S.1 0 j := fun j hj => by rw [zz_u1s, pk_un hj]
  have e2 : ∀ c, c ≠ 0 → (zz_u S 0 24 (nI x)).1 c = S.1 c := fun c hc => zz_u1 S 0 24 _ c hc
  exact ⟨mb_keep h1 (e 0 (by omega)) (fun c a b => e2 c (by omega)), mt_keep h2 (e 6 (by omega)) (e 11 (by omega)) (fun c a b => e2 c (by omega)), by rw [zz_u1s, pk_us], fun k k8 => by rw [e2 31 (by omega)]; exact h4 k k8, mk_cdk h5 (e 22 (by omega)) (fun c a b => e2 c (by omega)), by rw [e 23 (by omega)]; exact h6, fun i hi => by rw [e2 26 (by omega)]; exact h7 i hi⟩
theorem mi_set (h : mi_ok S rl R op nu sz ht m t ps reg vr cs pl sc) (v : Nat) (x : Int32) : mi_ok (zz_u S 31 v x) rl R op nu sz ht m t ps reg (upd vr v x) cs pl sc := by
  obtain ⟨h1, h2, h3, h4, h5, h6, h7⟩ := h
  have e2 : ∀ c, c ≠ 31 → (zz_u S 31 v x).1 c = S.1 c := fun c hc => zz_u1 S 31 v _ c hc
  refine ⟨mb_keep h1 (by rw [e2 0 (by omega)]) (fun c a b => e2 c (by omega)), mt_keep h2 (by rw [e2 0 (by omega)]) (by rw [e2 0 (by omega)]) (fun c a b => e2 c (by omega)), by rw [e2 0 (by omega)]; exact h3, fun k k8 => ?_, mk_cdk h5 (by rw [e2 0 (by omega)]) (fun c a b => e2 c (by omega)), by rw [e2 0 (by omega)]; exact h6, fun i hi => by rw [e2 26 (by omega)]; exact h7 i hi⟩
  rw [zz_u1s]
  by_cases e : k = v
  · rw [e, pk_us, pk_us]
  · rw [pk_un e, pk_un e]
    exact h4 k k8
theorem mi_pop (h : mi_ok S rl R op nu sz ht m t ps reg vr cs pl sc) (ht0 : t ≠ 0) : mi_ok (zz_u (zz_u S 0 11 (nI (t - 1))) 0 6 (nI (m - sz (m - 1)))) rl R op nu sz ht (m - sz (m - 1)) (t - 1) ps reg vr cs pl sc := by
  obtain ⟨h1, h2, h3, h4, h5, h6, h7⟩ := h
  have e : ∀ j, j ≠ 6 → j ≠ 11 → (zz_u (zz_u S 0 11 (nI (t - 1))) 0 6 (nI (m - sz (m - 1)))).1 0 j = S.1 0 j := fun j hj hj2 => by rw [zz_u1s, pk_un hj, zz_u1s, pk_un hj2]
  have e2 : ∀ c, c ≠ 0 → (zz_u (zz_u S 0 11 (nI (t - 1))) 0 6 (nI (m - sz (m - 1)))).1 c = S.1 c := fun c hc => by rw [zz_u1 _ 0 _ _ c hc, zz_u1 _ 0 _ _ c hc]
  obtain ⟨a1, a2, a3, a4, a5, a6, a7, a8, a9⟩ := h2
  have b := (ts_two a8).1 (by omega)
  have b0 := ts_le a8 1 (t - 1) (by omega)
  have hj : ∀ j d, j + d = t - 1 → j ≤ ps j := fun j => by
    induction j with
    | zero => intro d _; exact Nat.zero_le _
    | succ j ih =>
      intro d hd
      have := ih (d + 1) (by omega)
      have := (a8.2.2 j (by omega)).1
      omega
  have c1 := hj (t - 1) 0 rfl
  refine ⟨mb_keep h1 (e 0 (by omega) (by omega)) (fun c a b => e2 c (by omega)), ⟨by rw [zz_u1s, pk_us], by rw [zz_u1s, pk_un (by omega), zz_u1s, pk_us], by omega, by omega, fun i hi => by rw [e2 6 (by omega), e2 7 (by omega), e2 8 (by omega), e2 9 (by omega)]; exact a5 i (by omega), fun i hi => a6 i (by omega), fun h0 => by have h9 := a8.1; rw [show t - 1 = 0 from h0] at b; omega, ts_pop a8 ht0, fun j hj => by rw [e2 10 (by omega)]; exact a9 j (by omega)⟩, by rw [e 24 (by omega) (by omega)]; exact h3, fun k k8 => by rw [e2 31 (by omega)]; exact h4 k k8, mk_cdk h5 (e 22 (by omega) (by omega)) (fun c a b => e2 c (by omega)), by rw [e 23 (by omega) (by omega)]; exact h6, fun i hi => by rw [e2 26 (by omega)]; exact h7 i hi⟩
end MIX
