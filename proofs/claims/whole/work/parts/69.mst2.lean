/-! The reference's states: what is closed under what. -/
def mq_c2 (rl : mx_R) (R : Nat) (A : Nat → ns_St) (n x o jj : Nat) : Prop := ∀ o', 5 ≤ o' → o' < 8 → ∀ y, y < x + 1 → (o' < o ∨ (o' = o ∧ y < jj)) → ∀ c, (ns_nx rl R o' (A x) (A y) c ∨ ns_nx rl R o' (A y) (A x) c) → sk_has A n c
theorem mq_ex {rl : mx_R} {R : Nat} {A A' : Nat → ns_St} {n n' x o jj : Nat} (h : xt_ex A n A' n') (hx : x < n) (hc : mq_c2 rl R A n x o jj) : mq_c2 rl R A' n' x o jj := fun o' h1 h2 y hy ho c hh => sk_has_ex h (hc o' h1 h2 y hy ho c (by rw [← h.2 x hx, ← h.2 y (by omega)]; exact hh))
/-- what the search holds -/
def ms_inv (S Si : zz_S) (rl : mx_R) (R : Nat) (A : Nat → ns_St) (n : Nat) : Prop := zz_off ms_X S Si ∧ (∀ j, j ≠ 19 → Si.1 0 j = S.1 0 j) ∧ mk_st Si A n ∧ n ≤ 40 ∧ xt_gd rl R A n
theorem ms_book {S Si : zz_S} {rl : mx_R} {R : Nat} (hB : mb_ok S rl R) (h1 : zz_off ms_X S Si) (h2 : ∀ j, j ≠ 19 → Si.1 0 j = S.1 0 j) : mb_ok Si rl R := mb_keep hB (h2 0 (by omega)) (fun c a b => (h1 c (by unfold ms_X; omega)).1)
/-- what one more look leaves -/
def ms_got (S S1 : zz_S) (rl : mx_R) (R o : Nat) (A : Nat → ns_St) (n : Nat) (a b : ns_St) (ans : Int32) : Prop := zz_off ms_X S S1 ∧ (∀ j, j ≠ 19 → S1.1 0 j = S.1 0 j) ∧ ∃ (A1 : Nat → ns_St) (n1 : Nat), xt_ex A n A1 n1 ∧ n1 ≤ n + 1 ∧ mk_st S1 A1 n1 ∧ xt_gd rl R A1 n1 ∧ ∀ c, ns_nx rl R o a b c → sk_has A1 n1 c
theorem ms_got_of {S S0 S1 : zz_S} {rl : mx_R} {R o n : Nat} {A : Nat → ns_St} {a b : ns_St} {g y : Nat → Nat} {r : Int32} (hok : mx_ok rl R) (hR : R ≤ 24) (hn : n ≤ 40) (hM : mk_st S0 A n) (hG : xt_gd rl R A n) (ho : zz_off ms_X S S0) (h0 : S0.1 0 = S.1 0) (hl : mx_Lab rl R o (ns_at a.1) (ns_at b.1) g y) (hlM : ∀ k, k < 4 → ns_at a.1 k < mx_far → ns_at a.1 k + 36 ≤ 36 * 2 ^ n) (hrM : ∀ k, k < 4 → ns_at b.1 k < mx_far → ns_at b.1 k + 36 ≤ 36 * 2 ^ n) (hab : o < 3 ∨ (3 ≤ o ∧ o < 8 ∧ ∃ x y, x < n ∧ y < n ∧ a = A x ∧ b = A y)) (h : ((∃ i, i < n ∧ A i = (ns_tup (ns_nrm g), ns_tup y)) ∧ r = nI 1 ∧ S0 = S1) ∨ ((∀ i, i < n → A i ≠ (ns_tup (ns_nrm g), ns_tup y)) ∧ r = nI 0 ∧ zz_off ms_K S0 S1 ∧ (∀ j, j ≠ 19 → S1.1 0 j = S0.1 0 j) ∧ mk_st S1 (va_up A n (ns_tup (ns_nrm g), ns_tup y)) (n + 1))) : ms_got S S1 rl R o A n a b r := by
  have hp : 2 ^ (n + 1) = 2 * 2 ^ n := by rw [Nat.pow_succ]; omega
  have hp1 : 1 ≤ 2 ^ n := Nat.one_le_two_pow
  have hun : ∀ c, ns_nx rl R o a b c → c = (ns_tup (ns_nrm g), ns_tup y) := fun c hc => ns_nx_uniq hok hc ⟨g, y, hl, rfl⟩
  rcases h with ⟨⟨i, hi, e⟩, hr, rfl⟩ | ⟨hno, hr, hoff, hj, hM1⟩
  · exact ⟨ho, fun j _ => by rw [h0], A, n, xt_ex_rf, by omega, hM, hG, fun c hc => ⟨i, hi, by rw [e, hun c hc]⟩⟩
  · refine ⟨zz_off_tr ho (zz_off_mono hoff (fun c h => by unfold ms_K at h; unfold ms_X; omega)), fun j h => by rw [hj j h, h0], _, n + 1, xt_exN, by omega, hM1, xt_gd_new hok hR hG hl (fun k hk hf => ?_) hab hno, fun c hc => ⟨n, by omega, by rw [hun c hc, va_up, if_pos rfl]⟩⟩
    have := ns_bound hok hl.1 (M := 36 * 2 ^ n - 36) (fun k hk hf => by have := hlM k hk hf; omega) (fun k hk hf => by have := hrM k hk hf; omega) k hk hf
    omega
def ns_z : ns_St := ((0, 0, 0, 0), (0, 0, 0, 0))
theorem ns_z0 (k : Nat) : ns_at ns_z.1 k = 0 := by
  unfold ns_at
  split
  · rfl
  · split
    · rfl
    · split <;> rfl
theorem mk_off {S S1 : zz_S} {A : Nat → ns_St} {n : Nat} (h : mk_st S A n) (h0 : S1.1 0 = S.1 0) (h17 : S1.2 17 = S.2 17) (h18 : S1.1 18 = S.1 18) : mk_st S1 A n := by
  unfold mk_st
  rw [h0, h17, h18]
  exact h
theorem nI_lt41 {a b : Nat} (h : nI a = nI b) (hb : b ≤ 40) (ha : a ≤ 41) : a ≤ 40 := by
  have h1 : (nI a).toInt = (nI b).toInt := by rw [h]
  rw [nI_toInt (by omega), nI_toInt (by omega)] at h1
  omega
theorem ms_inv0 {S : zz_S} {rl : mx_R} {R : Nat} : ms_inv S (zz_u S 0 19 (nI 0)) rl R (fun _ => ns_z) 0 := ⟨fun d hd => ⟨zz_u1 S 0 _ _ d (fun h => hd (Or.inl h)), rfl⟩, fun j hj => by rw [zz_u1s, pk_un hj], ⟨by rw [zz_u1s, pk_us], by omega, fun i hi => absurd hi (Nat.not_lt_zero i)⟩, by omega, fun i hi => absurd hi (Nat.not_lt_zero i), fun i j hi => absurd hi (Nat.not_lt_zero i), fun i hi => absurd hi (Nat.not_lt_zero i)⟩
theorem ms_step {S Si S1 : zz_S} {rl : mx_R} {R n n1 : Nat} {A A1 : Nat → ns_St} (hI : ms_inv S Si rl R A n) (g1 : zz_off ms_X Si S1) (g2 : ∀ j, j ≠ 19 → S1.1 0 j = Si.1 0 j) (g5 : mk_st S1 A1 n1) (hn : n1 ≤ 40) (g6 : xt_gd rl R A1 n1) : ms_inv S S1 rl R A1 n1 := ⟨zz_off_tr hI.1 g1, fun j hj => (g2 j hj).trans (hI.2.1 j hj), g5, hn, g6⟩
theorem ms_end {rl : mx_R} {R n : Nat} {A : Nat → ns_St} (h : xt_gd rl R A n) (h1 : n ≤ 41) (h2 : ¬ n ≤ 40) : ns_ans rl R (-4) := by
  have e : n = 41 := by omega
  subst e
  exact Or.inr ⟨rfl, A, h.1, h.2.1⟩
section MQ
variable {rl : mx_R} {R n n1 n2 i o j : Nat} {A A1 A2 : Nat → ns_St}
theorem mq_c0 (hok : mx_ok rl R) (h : sk_c0 rl R A n o) (hx : xt_ex A n A1 n1) (ho : o < 3) (hg : ∀ c, ns_nx rl R o ns_z ns_z c → sk_has A1 n1 c) : sk_c0 rl R A1 n1 (o + 1) := fun o' h1 h2 a b c hc => by
  by_cases e : o' = o
  · rw [e] at hc
    exact hg c (sk_irr hok (fun h => absurd h (by rw [sk_kd0 ho]; omega)) (fun h => absurd h (by rw [sk_kd0 ho]; omega)) hc)
  · exact sk_has_ex hx (h o' (by omega) h2 a b c hc)
theorem mq_c1 (hok : mx_ok rl R) (h : sk_c1 rl R A n i o) (hx : xt_ex A n A1 n1) (hi : i < n) (ho : 3 ≤ o) (ho2 : o < 5) (hg : ∀ c, ns_nx rl R o (A i) (A i) c → sk_has A1 n1 c) : sk_c1 rl R A1 n1 i (o + 1) := fun o' h1 h2 h3 b c hc => by
  rw [hx.2 i hi] at hc
  by_cases e : o' = o
  · rw [e] at hc
    exact hg c (sk_irr hok (fun _ => rfl) (fun h => absurd h (by rw [sk_kd1 ho ho2]; omega)) hc)
  · exact sk_has_ex hx (h o' h1 (by omega) h3 b c hc)
theorem mq_step (h : mq_c2 rl R A n i o j) (hx : xt_ex A n A1 n1) (hx2 : xt_ex A1 n1 A2 n2) (hi : i < n) (hj : j ≤ i) (hg : ∀ c, ns_nx rl R o (A i) (A j) c → sk_has A1 n1 c) (hg2 : ∀ c, ns_nx rl R o (A1 j) (A1 i) c → sk_has A2 n2 c) : mq_c2 rl R A2 n2 i o (j + 1) := fun o' h1 h2 y hy ho c hc => by
  have hn1 := hx.1
  rw [hx2.2 i (by omega), hx2.2 y (by omega)] at hc
  by_cases e : o' = o ∧ y = j
  · rw [e.1, e.2] at hc
    rcases hc with hc | hc
    · rw [hx.2 i hi, hx.2 j (by omega)] at hc
      exact sk_has_ex hx2 (hg c hc)
    · exact hg2 c hc
  · rw [hx.2 i hi, hx.2 y (by omega)] at hc
    exact sk_has_ex (xt_ex_tr hx hx2) (h o' h1 h2 y hy (by omega) c hc)
theorem mq_nx (h : mq_c2 rl R A n i o (i + 1)) : mq_c2 rl R A n i (o + 1) 0 := fun o' h1 h2 y hy ho c hc => h o' h1 h2 y hy (by omega) c hc
theorem mq_0 : mq_c2 rl R A n i 5 0 := fun o' h1 h2 y hy ho c hc => absurd ho (by omega)
theorem mq_al (h : sk_al rl R A n i) (h1 : sk_c1 rl R A n i 5) (h2 : mq_c2 rl R A n i 8 0) : sk_al rl R A n (i + 1) := fun x hx => by
  by_cases e : x = i
  · rw [e]
    exact ⟨h1, fun o' a b y hy c hc => h2 o' a b y hy (Or.inl b) c hc⟩
  · exact h x (by omega)
end MQ
