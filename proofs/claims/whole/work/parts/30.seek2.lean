/-! How far the search has come. -/
def sk_has (A : Nat → ns_St) (n : Nat) (c : ns_St) : Prop := ∃ i, i < n ∧ A i = c
def sk_c0 (rl : mx_R) (R : Nat) (A : Nat → ns_St) (n o : Nat) : Prop := ∀ o', o' < o → o' < 3 → ∀ a b c, ns_nx rl R o' a b c → sk_has A n c
def sk_c1 (rl : mx_R) (R : Nat) (A : Nat → ns_St) (n i o : Nat) : Prop := ∀ o', 3 ≤ o' → o' < o → o' < 5 → ∀ b c, ns_nx rl R o' (A i) b c → sk_has A n c
def sk_c2 (rl : mx_R) (R : Nat) (A : Nat → ns_St) (n x jj : Nat) : Prop := ∀ o', 5 ≤ o' → o' < 8 → ∀ y, y < jj → ∀ c, (ns_nx rl R o' (A x) (A y) c ∨ ns_nx rl R o' (A y) (A x) c) → sk_has A n c
def sk_al (rl : mx_R) (R : Nat) (A : Nat → ns_St) (n i : Nat) : Prop := ∀ x, x < i → sk_c1 rl R A n x 5 ∧ sk_c2 rl R A n x (x + 1)
section SQ
variable {rl : mx_R} {R : Nat} {A A' : Nat → ns_St} {n n' i o jj x : Nat}
theorem sk_has_ex {c : ns_St} (h : xt_ex A n A' n') (hc : sk_has A n c) : sk_has A' n' c := by
  obtain ⟨i, hi, e⟩ := hc
  exact ⟨i, Nat.lt_of_lt_of_le hi h.1, by rw [h.2 i hi]; exact e⟩
theorem sk_c0_ex (h : xt_ex A n A' n') (hc : sk_c0 rl R A n o) : sk_c0 rl R A' n' o := fun o' h1 h2 a b c hx => sk_has_ex h (hc o' h1 h2 a b c hx)
theorem sk_c1_ex (h : xt_ex A n A' n') (hi : i < n) (hc : sk_c1 rl R A n i o) : sk_c1 rl R A' n' i o := fun o' h1 h2 h3 b c hx => sk_has_ex h (hc o' h1 h2 h3 b c (by rw [← h.2 i hi]; exact hx))
theorem sk_c2_ex (h : xt_ex A n A' n') (hx : x < n) (hj : jj ≤ n) (hc : sk_c2 rl R A n x jj) : sk_c2 rl R A' n' x jj := fun o' h1 h2 y hy c hh => sk_has_ex h (hc o' h1 h2 y hy c (by rw [← h.2 x hx, ← h.2 y (by omega)]; exact hh))
theorem sk_al_ex (h : xt_ex A n A' n') (hi : i ≤ n) (hc : sk_al rl R A n i) : sk_al rl R A' n' i := fun x hx => ⟨sk_c1_ex h (by omega) (hc x hx).1, sk_c2_ex h (by omega) (by omega) (hc x hx).2⟩
theorem sk_irr {a b a' b' c : ns_St} (hok : mx_ok rl R) (h0 : 0 < zz_kd o → a = a') (h1 : 1 < zz_kd o → b = b') (h : ns_nx rl R o a b c) : ns_nx rl R o a' b' c := by
  obtain ⟨g, q, h2, h3⟩ := h
  exact ⟨g, q, sk_lab hok (fun hk k _ => by rw [h0 hk]) (fun hk k _ => by rw [h1 hk]) h2, h3⟩
theorem sk_end (hok : mx_ok rl R) (h0 : sk_c0 rl R A n 3) (h : sk_al rl R A n n) : ns_cl rl R A n := by
  refine ⟨fun o ho a b c hx => h0 o ho ho a b c hx, fun o h3 h8 x y hx hy c hc => ?_⟩
  by_cases h5 : o < 5
  · exact (h x hx).1 o h3 (by omega) h5 _ c hc
  · by_cases hxy : y ≤ x
    · exact (h x hx).2 o (by omega) h8 y (by omega) c (Or.inl hc)
    · exact (h y hy).2 o (by omega) h8 x (by omega) c (Or.inr hc)
theorem sk_kd2 (h : 5 ≤ o) : zz_kd o = 2 := by
  unfold zz_kd
  rw [if_neg (by omega), if_neg (by omega)]
theorem sk_kd1 (h : 3 ≤ o) (h2 : o < 5) : zz_kd o = 1 := by
  unfold zz_kd
  rw [if_neg (by omega), if_pos (by omega)]
theorem sk_kd0 (h : o < 3) : zz_kd o = 0 := by
  unfold zz_kd
  rw [if_pos h]
theorem sk_gdM (hG : xt_gd rl R A n) (hi : i < n) : ∀ k, k < 4 → ns_at (A i).1 k < mx_far → ns_at (A i).1 k + 36 ≤ 36 * 2 ^ n := fun k hk hf => (hG.2.2 i hi k hk).2.1 hf
theorem sk_zM : ∀ k, k < 4 → (fun _ => 0 : Nat → Nat) k < mx_far → (fun _ => 0 : Nat → Nat) k + 36 ≤ 36 * 2 ^ n := fun k _ _ => by
  have h2 : 1 ≤ 2 ^ n := Nat.one_le_two_pow
  show 0 + 36 ≤ _
  omega
end SQ
theorem sk_bk {S So : zz_S} {rl : mx_R} {R : Nat} {sz : Nat → Nat} {nb : Nat → Nat → Nat} (hB : xb_ok S rl R sz nb) (ho : zz_off xt_X S So) : xb_ok So rl R sz nb := xb_keep hB (fun c h1 h2 => (ho c (fun h => by rcases h with h | h <;> omega)).1)
theorem sk_xat {So : zz_S} {A : Nat → ns_St} {n x : Nat} (hT : xt_ok So A n) (hx : x < n) : ∀ k, k < 4 → So.2 (42 + 3 * (42 + x) + 1) k = vw_c (ns_at (A x).1 k) := fun k hk => xt_at hT hx k hk
