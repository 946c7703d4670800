/-! The reference's trees and their labels. -/
def mt_ok (S : zz_S) (op : Nat → Nat) (nu : Nat → Int32) (sz ht : Nat → Nat) (m t : Nat) (ps : Nat → Nat) : Prop :=
  S.1 0 6 = nI m ∧ S.1 0 11 = nI t ∧ m ≤ 40 ∧ t ≤ m ∧ (∀ i, i < m → S.1 6 i = nI (op i) ∧ S.1 7 i = nu i ∧ S.1 8 i = nI (sz i) ∧ S.1 9 i = nI (ht i) ∧ ht i ≤ 10) ∧ tr_ok op sz m ∧ (t = 0 → m = 0) ∧ ts_ok sz m t ps ∧ ∀ j, j < t → S.1 10 j = nI (ps j)
theorem mt_keep {S S1 : zz_S} {op : Nat → Nat} {nu : Nat → Int32} {sz ht : Nat → Nat} {m t : Nat} {ps : Nat → Nat} (h : mt_ok S op nu sz ht m t ps) (h6 : S1.1 0 6 = S.1 0 6) (h11 : S1.1 0 11 = S.1 0 11) (hk : ∀ c, 6 ≤ c → c ≤ 10 → S1.1 c = S.1 c) : mt_ok S1 op nu sz ht m t ps := by
  unfold mt_ok
  rw [h6, h11, hk 6 (by omega) (by omega), hk 7 (by omega) (by omega), hk 8 (by omega) (by omega), hk 9 (by omega) (by omega), hk 10 (by omega) (by omega)]
  exact h
abbrev ml_M (gs : Nat → Nat → Nat) (i : Nat) : Prop := ∀ j k, k < 4 → gs j k ≤ mx_far ∧ (gs j k < mx_far → gs j k + 36 ≤ 36 * 2 ^ i)
theorem ml_M0 (i : Nat) : ml_M (fun _ _ => 0) i := fun _ _ _ => ⟨Nat.zero_le _, fun _ => by
  have : 1 ≤ 2 ^ i := Nat.one_le_two_pow
  show 0 + 36 ≤ _
  omega⟩
theorem ml_add {rl : mx_R} {R : Nat} {op sz : Nat → Nat} {gs qs : Nat → Nat → Nat} {i m fm : Nat} {g y : Nat → Nat} (hok : mx_ok rl R) (ht : tr_ok op sz m) (hi : i < m) (hG : ml_M gs i) (h : ∀ j, fm ≤ j → j < i → xq_lab rl R op sz gs qs j) (hl : mx_Lab rl R (op i) (gs (tr_fa op sz i)) (gs (i - 1)) g y) : ml_M (va_up gs i g) (i + 1) ∧ ∀ j, fm ≤ j → j < i + 1 → xq_lab rl R op sz (va_up gs i g) (va_up qs i y) j := by
  have hp : 2 ^ (i + 1) = 2 * 2 ^ i := by rw [Nat.pow_succ]; omega
  have hp1 : 1 ≤ 2 ^ i := Nat.one_le_two_pow
  have hb : ∀ k, k < 4 → g k < mx_far → g k + 36 ≤ 36 * 2 ^ (i + 1) := fun k hk hf => by
    have := ns_bound hok hl.1 (M := 36 * 2 ^ i - 36) (fun k hk hf => by have := (hG (tr_fa op sz i) k hk).2 hf; omega) (fun k hk hf => by have := (hG (i - 1) k hk).2 hf; omega) k hk hf
    omega
  refine ⟨fun j k hk => ?_, fun j h1 hj => ?_⟩
  · by_cases e : j = i
    · rw [e, xq_us]
      exact ⟨hl.1.1 k hk, hb k hk⟩
    · rw [xq_up e]
      refine ⟨(hG j k hk).1, fun hf => ?_⟩
      have := (hG j k hk).2 hf
      omega
  · obtain ⟨t1, t2, t3, t4, t5, t6⟩ := ht j (by omega)
    have hkid : 0 < zz_kd (op j) → tr_fa op sz j ≠ i ∧ j - 1 ≠ i := fun hk => by
      rcases tr_kd (op j) with h0 | h0 | h0
      · omega
      · have := t5 h0
        rw [tr_fa, if_neg (by omega)]
        omega
      · have := t6 h0
        rw [tr_fa, if_pos h0]
        omega
    by_cases e : j = i
    · subst e
      unfold xq_lab
      rw [xq_us, xq_us]
      refine ⟨sk_lab hok (fun hk k _ => ?_) (fun hk k _ => ?_) hl, hb⟩
      · rw [xq_up (hkid hk).1]
      · rw [xq_up (hkid (by omega)).2]
    · unfold xq_lab
      rw [xq_up e, xq_up e]
      obtain ⟨h2, h3⟩ := h j h1 (by omega)
      refine ⟨sk_lab hok (fun hk k _ => ?_) (fun hk k _ => ?_) h2, h3⟩
      · rw [xq_up (hkid hk).1]
      · rw [xq_up (hkid (by omega)).2]
/-- the rows of the labels -/
abbrev mr_ok (S : zz_S) (gs qs : Nat → Nat → Nat) (a b : Nat) : Prop := ∀ j, a ≤ j → j < b → ∀ k, k < 4 → S.2 11 (4 * j + k) = lN (gs j k) ∧ S.1 12 (4 * j + k) = vw_p (qs j k)
abbrev mr_X (c : Nat) : Prop := 11 ≤ c ∧ c ≤ 16
theorem mr_add {S : zz_S} {gs qs : Nat → Nat → Nat} {g y : Nat → Nat} {a i : Nat} (h : mr_ok S gs qs a i) (hn : ∀ k, k < 4 → S.2 11 (4 * i + k) = lN (g k) ∧ S.1 12 (4 * i + k) = vw_p (y k)) : mr_ok S (va_up gs i g) (va_up qs i y) a (i + 1) := fun j h1 h2 k hk => by
  by_cases e : j = i
  · rw [e, xq_us, xq_us]
    exact hn k hk
  · rw [xq_up e, xq_up e]
    exact h j h1 (by omega) k hk
def md_n (sz : Nat → Nat) (m t : Nat) : Nat := if t = 0 then 0 else sz (m - 1)
theorem ns_low_le {g : Nat → Nat} {k : Nat} (h : k < 4) : ns_low g ≤ g k := by
  unfold ns_low
  rcases (show k = 0 ∨ k = 1 ∨ k = 2 ∨ k = 3 by omega) with e | e | e | e <;> rw [e] <;> omega
theorem xs_sz {sz : Nat → Nat} {m o : Nat} (h1 : 0 < zz_kd o → 1 ≤ m) (h2 : zz_kd o = 2 → sz (m - 1) + 1 ≤ m) : (zz_kd o = 0 → xp_sz sz m o = 1) ∧ (zz_kd o = 1 → xp_sz sz m o = 1 + sz (xp_fk sz m o)) ∧ (zz_kd o = 2 → xp_sz sz m o = 1 + sz (xp_fk sz m o) + sz (m - 1)) := by
  refine ⟨fun h => by rw [xp_sz, if_pos h], fun h => ?_, fun h => ?_⟩
  · have := h1 (by omega)
    rw [xp_sz, if_neg (by omega), xp_fk, if_neg (by omega)]
    omega
  · have := h2 h
    rw [xp_sz, if_neg (by omega), xp_fk, if_pos h]
    omega
