/-! The reference's code grows. -/
def mk_b (S : zz_S) (n r nd o a b : Nat) : zz_S := zz_u (zz_u (zz_u (zz_u (zz_u (zz_u S 19 n (nI r)) 20 n (nI nd)) 21 n (nI o)) 23 n (vw_s a)) 24 n (vw_s b)) 25 n (nI n)
abbrev mk_X (c : Nat) : Prop := c = 0 ∨ (19 ≤ c ∧ c ≤ 25)
theorem mk_ap {S So : zz_S} {cs : cd_T} {r nd o a b : Nat} {nu : Int32} (h : mk_cd S cs) (hn : cs.1 < 160) (hnu : S.1 22 cs.1 = nu) (ho : zz_off (fun c => c = 25) (mk_b S cs.1 r nd o a b) So) (h34 : ∀ j, j < cs.1 + 1 → So.1 25 j = nI (cd_un (cd_un (va_up cs.2.2.2.2.2.2.2 cs.1 cs.1) cs.1 a) cs.1 b j)) : mk_cd (zz_u So 0 22 (nI (cs.1 + 1))) (cd_ap cs r nd o nu a b) := by
  obtain ⟨h1, h2, h3⟩ := h
  refine ⟨by rw [zz_u1s, pk_us]; rfl, by show cs.1 + 1 ≤ 160; omega, fun i hi => ?_⟩
  have hi : i < cs.1 + 1 := hi
  have e : ∀ c, c ≠ 0 → c ≠ 25 → (zz_u So 0 22 (nI (cs.1 + 1))).1 c = (mk_b S cs.1 r nd o a b).1 c := fun c c1 c2 => by rw [zz_u1 So 0 22 _ c c1]; exact (ho c c2).1
  rw [e 19 (by omega) (by omega), e 20 (by omega) (by omega), e 21 (by omega) (by omega), e 22 (by omega) (by omega), e 23 (by omega) (by omega), e 24 (by omega) (by omega), zz_u1 So 0 22 _ 25 (by omega)]
  refine ⟨xk_upN (k := 0) (fun j hj => (h3 j hj).1) i hi, xk_upN (k := 0) (fun j hj => (h3 j hj).2.1) i hi, xk_upN (k := 0) (fun j hj => (h3 j hj).2.2.1) i hi, ?_, xk_upS (fun j hj => (h3 j hj).2.2.2.2.1) i hi, xk_upS (fun j hj => (h3 j hj).2.2.2.2.2.1) i hi, h34 i hi⟩
  show S.1 22 i = upd cs.2.2.2.2.1 cs.1 nu i
  by_cases e2 : i = cs.1
  · rw [e2, pk_us, hnu]
  · rw [pk_un e2]
    exact (h3 i (by omega)).2.2.2.1
theorem mk_boff {S So : zz_S} {n r nd o a b : Nat} {v : Int32} (ho : zz_off (fun c => c = 25) (mk_b S n r nd o a b) So) : zz_off mk_X S (zz_u So 0 22 v) := fun c hc => by
  have h1 : c ≠ 0 := fun h => hc (Or.inl h)
  have h2 : ∀ x, 19 ≤ x → x ≤ 25 → c ≠ x := fun x a b h => hc (Or.inr (by omega))
  refine ⟨?_, ?_⟩
  · rw [zz_u1 So 0 22 _ c h1, (ho c (h2 25 (by omega) (by omega))).1]
    unfold mk_b
    rw [zz_u1 _ 25 _ _ c (h2 25 (by omega) (by omega)), zz_u1 _ 24 _ _ c (h2 24 (by omega) (by omega)), zz_u1 _ 23 _ _ c (h2 23 (by omega) (by omega)), zz_u1 _ 21 _ _ c (h2 21 (by omega) (by omega)), zz_u1 _ 20 _ _ c (h2 20 (by omega) (by omega)), zz_u1 _ 19 _ _ c (h2 19 (by omega) (by omega))]
  · show So.2 c = S.2 c
    rw [(ho c (h2 25 (by omega) (by omega))).2]
    rfl
