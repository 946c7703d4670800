/-! The reference's states: what is closed under what. -/
def mq_c2 (rl : mx_R) (R : Nat) (A : Nat → ns_St) (n x o jj : Nat) : Prop := ∀ o', 5 ≤ o' → o' < 8 → ∀ y, y < x + 1 → (o' < o ∨ (o' = o ∧ y < jj)) → ∀ c, (ns_nx rl R o' (A x) (A y) c ∨ ns_nx rl R o' (A y) (A x) c) → sk_has A n c
theorem mq_ex {rl : mx_R} {R : Nat} {A A' : Nat → ns_St} {n n' x o jj : Nat} (h : xt_ex A n A' n') (hx : x < n) (hc : mq_c2 rl R A n x o jj) : mq_c2 rl R A' n' x o jj := fun o' h1 h2 y hy ho c hh => sk_has_ex h (hc o' h1 h2 y hy ho c (by rw [← h.2 x hx, ← h.2 y (by omega)]; exact hh))
/-- what the search holds -/
def ms_inv (S Si : zz_S) (rl : mx_R) (R : Nat) (A : Nat → ns_St) (n : Nat) : Prop := zz_off ms_X S Si ∧ (∀ j, j ≠ 19 → Si.1 0 j = S.1 0 j) ∧ mk_st Si A n ∧ n ≤ 40 ∧ xt_gd rl R A n
theorem ms_book {S Si : zz_S} {rl : mx_R} {R : Nat} (hB : mb_ok S rl R) (h1 : zz_off ms_X S Si) (h2 : ∀ j, j ≠ 19 → Si.1 0 j = S.1 0 j) : mb_ok Si rl R := mb_keep hB (h2 0 (by omega)) (fun c a b => (h1 c (by unfold ms_X; omega)).1)
/-- what one more look leaves -/
def ms_got (S S1 : zz_S) (rl : mx_R) (R o : Nat) (A : Nat → ns_St) (n : Nat) (a b : ns_St) (ans : Int32) : Prop := zz_off ms_X S S1 ∧ (∀ j, j ≠ 19 → S1.1 0 j = S.1 0 j) ∧ ∃ (A1 : Nat → ns_St) (n1 : Nat), xt_ex A n A1 n1 ∧ n1 ≤ n + 1 ∧ mk_st S1 A1 n1 ∧ xt_gd rl R A1 n1 ∧ ∀ c, ns_nx rl R o a b c → sk_has A1 n1 c
theorem ms_got_of {S S0 S1 : zz_S} {rl : mx_R} {R o n : Nat} {A : Nat → ns_St} {a b : ns_St} {g y : Nat → Nat} {r : Int32} (hok : mx_ok rl R) (hR : R ≤ 24) (hn : n ≤ 40) (hM : mk_st S0 A n) (hG : xt_gd rl R A n) (ho : zz_off ms_X S S0) (h0 : S0.1 0 = S.1 0) (hl : mx_Lab rl R o (ns_at a.1) (ns_at b.1) g y) (hlM : ∀ k, k < 4 → ns_at a.1 k < mx_far → ns_at a.1 k + 36 ≤ 36 * 2 ^ n) (hrM : ∀ k, k < 4 → ns_at b.1 k < mx_far → ns_at b.1 k + 36 ≤ 36 * 2 ^ n) (hab : o < 3 ∨ (3 ≤ o ∧ o < 8 ∧ ∃ x y, x < n ∧ y < n ∧ a = A x ∧ b = A y)) (h : ((∃ i, i < n ∧ A i = (ns_tup (ns_nrm g), ns_tup y)) ∧ r = nI 1 ∧ S0 = S1) ∨ ((∀ i, i < n → A i ≠ (ns_tup (ns_nrm g), ns_tup y)) ∧ r = nI 0 ∧ zz_off ms_K S0 S1 ∧ (∀ j, j ≠ 19 → S1.1 0 j = S0.1 0 j) ∧ mk_st S1 (va_up A n (ns_tup (ns_nrm g), ns_tup y)) (n + 1))) : ms_got S S1 rl R o A n a b r := by
  have hp : 2 ^ (n + 1) = 2 * 2 ^ n := by rw [Nat.pow_succ]; omega
  have hp1 : 1 ≤ 2 ^ n := Nat.one_le_two_pow
  have hun : ∀ c, ns_nx rl R o a b c → c = (ns_tup (ns_nrm g), ns_tup y) := fun c hc => ns_nx_uniq hok hc ⟨g, y, hl, rfl⟩
  rcases h with ⟨⟨i, hi, e⟩, hr, rfl⟩ | ⟨hno, hr, hoff, hj, hM1⟩
  · exact ⟨ho, fun j _ => by rw [h0], A, n, xt_ex_rf, by omega, hM, hG, fun c hc => ⟨i, hi, by rw [e, hun c hc]⟩⟩
  · refine ⟨zz_off_tr ho (zz_off_mono hoff (fun c h => by unfold ms_K at h; unfold ms_X; omega)), fun j h => by rw [hj j h, h0], _, n + 1, xt_exN, by omega, hM1, xt_gd_new hok hR hG hl (fun k hk hf => ?_) hab hno, fun c hc => ⟨n, by omega, by rw [hun c hc, va_up, if_pos rfl]⟩⟩
    have := ns_bound hok hl.1 (M := 36 * 2 ^ n - 36) (fun k hk hf => by have := hlM k hk hf; omega) (fun k hk hf => by have := hrM k hk hf; omega) k hk hf
    omega
def ns_z : ns_St := ((0, 0, 0, 0), (0, 0, 0, 0))
theorem ns_z0 (k : Nat) : ns_at ns_z.1 k = 0 := by
  unfold ns_at
  split
  · rfl
  · split
    · rfl
    · split <;> rfl
theorem mk_off {S S1 : zz_S} {A : Nat → ns_St} {n : Nat} (h : mk_st S A n) (h0 : S1.1 0 = S.1 0) (h17 : S1.2 17 = S.2 17) (h18 : S1.1 18 = S.1 18) : mk_st S1 A n := by
  unfold mk_st
  rw [h0, h17, h18]
  exact h
theorem nI_lt41 {a b : Nat} (h : nI a = nI b) (hb : b ≤ 40) (ha : a ≤ 41) : a ≤ 40 := by
  have h1 : (nI a).toInt = (nI b).toInt := by rw [h]
  rw [nI_toInt (by omega), nI_toInt (by omega)] at h1
  omega
