/-! The search for states: what is found so far, and what one look adds. -/
section SK
variable {rl : mx_R} {R o : Nat} {lf rt lf' rt' g q : Nat → Nat}
theorem sk_th (hok : mx_ok rl R) (h1 : 0 < zz_kd o → ∀ k, k < 4 → lf k = lf' k) (h2 : 1 < zz_kd o → ∀ k, k < 4 → rt k = rt' k) {r : Nat} (hr : r < R) : mx_th rl o lf rt g r = mx_th rl o lf' rt' g r := by
  have hb := hok r hr
  rw [mx_th, mx_th]
  split
  · rfl
  · split
    · congr 1
      · congr 1
        split
        · rename_i c
          exact h1 c _ hb.2.2.1
        · rfl
      · split
        · rename_i c
          exact h2 c _ hb.2.2.2.1
        · rfl
    · rfl
theorem sk_lab (hok : mx_ok rl R) (h1 : 0 < zz_kd o → ∀ k, k < 4 → lf k = lf' k) (h2 : 1 < zz_kd o → ∀ k, k < 4 → rt k = rt' k) (h : mx_Lab rl R o lf rt g q) : mx_Lab rl R o lf' rt' g q := by
  have e : ∀ r, r < R → mx_th rl o lf rt g r = mx_th rl o lf' rt' g r := fun r hr => sk_th hok h1 h2 hr
  obtain ⟨⟨a1, a2, a3⟩, b⟩ := h
  refine ⟨⟨a1, fun r hr => by rw [← e r hr]; exact a2 r hr, fun k hk hf => ?_⟩, fun k hk => ⟨fun hf => ?_, (b k hk).2⟩⟩
  · obtain ⟨r, hr, hm, ht⟩ := a3 k hk hf
    exact ⟨r, hr, hm, by rw [← e r hr]; exact ht⟩
  · obtain ⟨x1, x2, x3, x4⟩ := (b k hk).1 hf
    exact ⟨x1, x2, by rw [← e _ x1]; exact x3, fun r hr hm ht => x4 r hr hm (by rw [e r hr]; exact ht)⟩
theorem sk_q24 (h : mx_Lab rl R o lf rt g q) (hR : R ≤ 24) (k : Nat) (hk : k < 4) : q k ≤ 24 := by
  by_cases hf : g k < mx_far
  · have := ((h.2 k hk).1 hf).1
    omega
  · rw [(h.2 k hk).2 hf]
    exact Nat.le_refl _
end SK
def xt_ok (S : zz_S) (A : Nat → ns_St) (n : Nat) : Prop := S.1 25 2 = nI n ∧ n ≤ 41 ∧ ∀ i, i < n → xl_ok S (42 + i) (ns_at (A i).1) (ns_at (A i).2)
def xt_gd (rl : mx_R) (R : Nat) (A : Nat → ns_St) (n : Nat) : Prop := ns_from rl R A n ∧ ns_dis A n ∧ ∀ i, i < n → ∀ k, k < 4 → ns_at (A i).1 k ≤ mx_far ∧ (ns_at (A i).1 k < mx_far → ns_at (A i).1 k + 36 ≤ 36 * 2 ^ n) ∧ ns_at (A i).2 k ≤ 24
def xt_ex (A : Nat → ns_St) (n : Nat) (A' : Nat → ns_St) (n' : Nat) : Prop := n ≤ n' ∧ ∀ i, i < n → A' i = A i
abbrev xt_X : Nat → Prop := fun c => c = 25 ∨ 168 ≤ c
theorem xt_ex_rf {A : Nat → ns_St} {n : Nat} : xt_ex A n A n := ⟨Nat.le_refl _, fun _ _ => rfl⟩
theorem xt_ex_tr {A B C : Nat → ns_St} {n m k : Nat} (h : xt_ex A n B m) (h2 : xt_ex B m C k) : xt_ex A n C k := ⟨Nat.le_trans h.1 h2.1, fun i hi => (h2.2 i (Nat.lt_of_lt_of_le hi h.1)).trans (h.2 i hi)⟩
theorem xt_pow {n : Nat} (hn : n ≤ 40) : 36 * 2 ^ n ≤ 39582418599936 := by
  have h := Nat.pow_le_pow_right (n := 2) (by omega) hn
  have e : (2 : Nat) ^ 40 = 1099511627776 := by decide
  omega
/-- a new one behind the found ones -/
theorem xt_gd_new {rl : mx_R} {R o n : Nat} {A : Nat → ns_St} {a b : ns_St} {g q : Nat → Nat} (hok : mx_ok rl R) (hR : R ≤ 24) (h : xt_gd rl R A n) (hl : mx_Lab rl R o (ns_at a.1) (ns_at b.1) g q) (hb : ∀ k, k < 4 → g k < mx_far → g k + 36 ≤ 36 * 2 ^ (n + 1)) (hab : o < 3 ∨ (3 ≤ o ∧ o < 8 ∧ ∃ x y, x < n ∧ y < n ∧ a = A x ∧ b = A y)) (hnew : ∀ i, i < n → A i ≠ (ns_tup (ns_nrm g), ns_tup q)) : xt_gd rl R (va_up A n (ns_tup (ns_nrm g), ns_tup q)) (n + 1) := by
  obtain ⟨h1, h2, h3⟩ := h
  have ups : va_up A n (ns_tup (ns_nrm g), ns_tup q) n = (ns_tup (ns_nrm g), ns_tup q) := by rw [va_up, if_pos rfl]
  have upn : ∀ i, i ≠ n → va_up A n (ns_tup (ns_nrm g), ns_tup q) i = A i := fun i hi => by rw [va_up, if_neg hi]
  have hx : ns_nx rl R o a b (ns_tup (ns_nrm g), ns_tup q) := ⟨g, q, hl, rfl⟩
  refine ⟨fun i hi => ?_, fun i j hi hj e => ?_, fun i hi k hk => ?_⟩
  · by_cases e : i = n
    · subst e
      rw [ups]
      refine ⟨o, ?_⟩
      rcases hab with h | ⟨h3', h8, x, y, hx1, hy1, ea, eb⟩
      · exact Or.inl ⟨h, a, b, hx⟩
      · refine Or.inr ⟨h3', h8, x, y, hx1, hy1, ?_⟩
        rw [upn x (by omega), upn y (by omega), ← ea, ← eb]
        exact hx
    · obtain ⟨o', ho'⟩ := h1 i (by omega)
      refine ⟨o', ?_⟩
      rw [upn i e]
      rcases ho' with h | ⟨h3', h8, x, y, hx1, hy1, hh⟩
      · exact Or.inl h
      · refine Or.inr ⟨h3', h8, x, y, hx1, hy1, ?_⟩
        rw [upn x (by omega), upn y (by omega)]
        exact hh
  · by_cases ei : i = n
    · by_cases ej : j = n
      · omega
      · rw [ei, ups, upn j ej] at e
        exact absurd e.symm (hnew j (by omega))
    · by_cases ej : j = n
      · rw [ej, ups, upn i ei] at e
        exact absurd e (hnew i (by omega))
      · rw [upn i ei, upn j ej] at e
        exact h2 i j (by omega) (by omega) e
  · by_cases e : i = n
    · subst e
      rw [ups]
      show ns_at (ns_tup (ns_nrm g)) k ≤ _ ∧ (ns_at (ns_tup (ns_nrm g)) k < _ → ns_at (ns_tup (ns_nrm g)) k + 36 ≤ _) ∧ ns_at (ns_tup q) k ≤ 24
      rw [ns_at_tup _ k hk, ns_at_tup _ k hk]
      refine ⟨?_, fun hf => ?_, sk_q24 hl hR k hk⟩
      · rw [ns_nrm]
        split <;> omega
      · rw [ns_nrm] at hf ⊢
        split at hf
        · rename_i c
          rw [if_pos c]
          have := hb k hk c
          omega
        · omega
    · rw [upn i e]
      have := h3 i (by omega) k hk
      refine ⟨this.1, fun hf => ?_, this.2.2⟩
      have h4 := this.2.1 hf
      rw [Nat.pow_succ]
      omega
/-- the states of the search lie where the class keeps them -/
theorem xt_at {S : zz_S} {A : Nat → ns_St} {n i : Nat} (h : xt_ok S A n) (hi : i < n) (k : Nat) (hk : k < 4) : S.2 (42 + 3 * (42 + i) + 1) k = vw_c (ns_at (A i).1 k) := (h.2.2 i hi k hk).1
theorem ns_tup_at (t : ns_Q) : ns_tup (ns_at t) = t := rfl
theorem xt_old {S Sw : zz_S} {A : Nat → ns_St} {n : Nat} (hT : xt_ok S A n) (ho : zz_off (xl_X (42 + n)) S Sw) : ∀ i, i < n → xl_ok Sw (42 + i) (ns_at (A i).1) (ns_at (A i).2) := fun i hi k hk => by
  rw [(ho (42 + 3 * (42 + i) + 1) (fun h => by rcases h with h | h <;> omega)).2, (ho (42 + 3 * (42 + i) + 2) (fun h => by rcases h with h | h <;> omega)).1]
  exact hT.2.2 i hi k hk
theorem xt_fc {S Sw : zz_S} {n c k : Nat} (ho : zz_off (xl_X (42 + n)) S Sw) (hc : c < 100) : Sw.1 c k = S.1 c k := by
  rw [(ho c (fun h => by rcases h with h | h <;> omega)).1]
theorem xt_new {S Sw : zz_S} {A : Nat → ns_St} {n : Nat} {g q : Nat → Nat} (hT : xt_ok S A n) (hn : n ≤ 40) (ho : zz_off (xl_X (42 + n)) S Sw) (hx : xl_ok Sw (42 + n) (ns_nrm g) q) : xt_ok (zz_u Sw 25 2 (nI (n + 1))) (va_up A n (ns_tup (ns_nrm g), ns_tup q)) (n + 1) := by
  refine ⟨rfl, by omega, fun i hi k hk => ?_⟩
  have e1 : (zz_u Sw 25 2 (nI (n + 1))).2 (42 + 3 * (42 + i) + 1) k = Sw.2 (42 + 3 * (42 + i) + 1) k := rfl
  have e2 : (zz_u Sw 25 2 (nI (n + 1))).1 (42 + 3 * (42 + i) + 2) k = Sw.1 (42 + 3 * (42 + i) + 2) k := by rw [zz_u1 Sw 25 2 _ (42 + 3 * (42 + i) + 2) (by omega)]
  rw [e1, e2]
  by_cases e : i = n
  · subst e
    rw [show va_up A i (ns_tup (ns_nrm g), ns_tup q) i = (ns_tup (ns_nrm g), ns_tup q) by rw [va_up, if_pos rfl]]
    show _ = vw_c (ns_at (ns_tup (ns_nrm g)) k) ∧ _ = vw_p (ns_at (ns_tup q) k)
    rw [ns_at_tup _ k hk, ns_at_tup _ k hk]
    exact hx k hk
  · rw [show va_up A n (ns_tup (ns_nrm g), ns_tup q) i = A i by rw [va_up, if_neg e]]
    exact xt_old hT ho i (by omega) k hk
theorem xt_offX {S Sw : zz_S} {n : Nat} (ho : zz_off (xl_X (42 + n)) S Sw) : zz_off xt_X S Sw := zz_off_mono ho (fun c h => Or.inr (by rcases h with h | h <;> omega))
theorem xt_exN {A : Nat → ns_St} {n : Nat} {c : ns_St} : xt_ex A n (va_up A n c) (n + 1) := ⟨Nat.le_succ n, fun i hi => by rw [va_up, if_neg (by omega)]⟩
