/-! The reference's cells: rules and costs. -/
theorem zz_kdc (k : Nat) : (k < 3 ∧ zz_kd k = 0) ∨ (3 ≤ k ∧ k < 5 ∧ zz_kd k = 1) ∨ (5 ≤ k ∧ zz_kd k = 2) := by
  unfold zz_kd
  split
  · exact Or.inl ⟨by assumption, rfl⟩
  · split
    · exact Or.inr (Or.inl ⟨by omega, by assumption, rfl⟩)
    · exact Or.inr (Or.inr ⟨by omega, rfl⟩)
def mb_ok (S : zz_S) (rl : mx_R) (R : Nat) : Prop := S.1 0 0 = nI R ∧ R ≤ 24 ∧ mx_ok rl R ∧ ∀ r, r < R → S.1 1 r = nI (rl r).1 ∧ S.1 2 r = nI (rl r).2.1 ∧ S.1 3 r = nI (rl r).2.2.1 ∧ S.1 4 r = nI (rl r).2.2.2.1 ∧ S.1 5 r = nI (rl r).2.2.2.2
theorem mb_keep {S S1 : zz_S} {rl : mx_R} {R : Nat} (h : mb_ok S rl R) (h0 : S1.1 0 0 = S.1 0 0) (hk : ∀ c, 1 ≤ c → c < 6 → S1.1 c = S.1 c) : mb_ok S1 rl R := by
  unfold mb_ok
  rw [h0, hk 1 (by omega) (by omega), hk 2 (by omega) (by omega), hk 3 (by omega) (by omega), hk 4 (by omega) (by omega), hk 5 (by omega) (by omega)]
  exact h
/-- costs as the reference keeps them -/
abbrev mg_ok (S : zz_S) (c : Nat) (g : Nat → Nat) : Prop := ∀ k, k < 4 → S.2 c k = lN (g k)
theorem mg_off {S S1 : zz_S} {c : Nat} {g : Nat → Nat} (h : mg_ok S c g) (e : S1.2 c = S.2 c) : mg_ok S1 c g := fun k hk => by
  rw [e]
  exact h k hk
theorem mg_set {S : zz_S} {c k v : Nat} {g g' : Nat → Nat} (h : mg_ok S c g) (hv : g' k = v) (hn : ∀ j, j < 4 → j ≠ k → g' j = g j) : mg_ok (zz_v S c k (lN v)) c g' := fun j hj => by
  rw [zz_v2s]
  by_cases e : j = k
  · rw [e, pk_uLs, hv]
  · rw [pk_uLn e, hn j hj e]
    exact h j hj
section MM
variable {rl : mx_R} {R o : Nat} {lf rt g : Nat → Nat}
theorem mm_th_le (hok : mx_ok rl R) {r : Nat} (hr : r < R) (hl : ∀ k, k < 4 → lf k ≤ mx_far) (hrt : ∀ k, k < 4 → rt k ≤ mx_far) (hg : ∀ k, k < 4 → g k ≤ mx_far) : mx_th rl o lf rt g r ≤ 2 * mx_far + 9 := by
  have hb := hok r hr
  have a1 := hl _ hb.2.2.1
  have a2 := hrt _ hb.2.2.2.1
  have a3 := hg _ hb.2.2.1
  have a4 := hb.2.2.2.2.1
  rw [mx_th]
  split
  · omega
  · split
    · split <;> split <;> omega
    · omega
theorem mm_sw_le {P : Nat → Bool} (t n k : Nat) : mx_sw rl o lf rt P (mp_G rl R o lf rt t) n k ≤ mx_far := Nat.le_trans (mx_sw_le0 n k) (mp_G_far t k)
end MM
