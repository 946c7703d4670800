/-! The reference's cells: rules and costs. -/
theorem zz_kdc (k : Nat) : (k < 3 ∧ zz_kd k = 0) ∨ (3 ≤ k ∧ k < 5 ∧ zz_kd k = 1) ∨ (5 ≤ k ∧ zz_kd k = 2) := by
  unfold zz_kd
  split
  · exact Or.inl ⟨by assumption, rfl⟩
  · split
    · exact Or.inr (Or.inl ⟨by omega, by assumption, rfl⟩)
    · exact Or.inr (Or.inr ⟨by omega, rfl⟩)
def mb_ok (S : zz_S) (rl : mx_R) (R : Nat) : Prop := S.1 0 0 = nI R ∧ R ≤ 24 ∧ mx_ok rl R ∧ ∀ r, r < R → S.1 1 r = nI (rl r).1 ∧ S.1 2 r = nI (rl r).2.1 ∧ S.1 3 r = nI (rl r).2.2.1 ∧ S.1 4 r = nI (rl r).2.2.2.1 ∧ S.1 5 r = nI (rl r).2.2.2.2
theorem mb_keep {S S1 : zz_S} {rl : mx_R} {R : Nat} (h : mb_ok S rl R) (h0 : S1.1 0 0 = S.1 0 0) (hk : ∀ c, 1 ≤ c → c < 6 → S1.1 c = S.1 c) : mb_ok S1 rl R := by
  unfold mb_ok
  rw [h0, hk 1 (by omega) (by omega), hk 2 (by omega) (by omega), hk 3 (by omega) (by omega), hk 4 (by omega) (by omega), hk 5 (by omega) (by omega)]
  exact h
/-- costs as the reference keeps them -/
abbrev mg_ok (S : zz_S) (c : Nat) (g : Nat → Nat) : Prop := ∀ k, k < 4 → S.2 c k = lN (g k)
theorem mg_off {S S1 : zz_S} {c : Nat} {g : Nat → Nat} (h : mg_ok S c g) (e : S1.2 c = S.2 c) : mg_ok S1 c g := fun k hk => by
  rw [e]
  exact h k hk
theorem mg_set {S : zz_S} {c k v : Nat} {g g' : Nat → Nat} (h : mg_ok S c g) (hv : g' k = v) (hn : ∀ j, j < 4 → j ≠ k → g' j = g j) : mg_ok (zz_v S c k (lN v)) c g' := fun j hj => by
  rw [zz_v2s]
  by_cases e : j = k
  · rw [e, pk_uLs, hv]
  · rw [pk_uLn e, hn j hj e]
    exact h j hj
section MM
variable {rl : mx_R} {R o : Nat} {lf rt g : Nat → Nat}
theorem mm_th_le (hok : mx_ok rl R) {r : Nat} (hr : r < R) (hl : ∀ k, k < 4 → lf k ≤ mx_far) (hrt : ∀ k, k < 4 → rt k ≤ mx_far) (hg : ∀ k, k < 4 → g k ≤ mx_far) : mx_th rl o lf rt g r ≤ 2 * mx_far + 9 := by
  have hb := hok r hr
  have a1 := hl _ hb.2.2.1
  have a2 := hrt _ hb.2.2.2.1
  have a3 := hg _ hb.2.2.1
  have a4 := hb.2.2.2.2.1
  rw [mx_th]
  split
  · omega
  · split
    · split <;> split <;> omega
    · omega
theorem mm_sw_le {P : Nat → Bool} (t n k : Nat) : mx_sw rl o lf rt P (mp_G rl R o lf rt t) n k ≤ mx_far := Nat.le_trans (mx_sw_le0 n k) (mp_G_far t k)
end MM
theorem rv_to {k o a b c : Int32} (h : rv_ok k o a b c) : (0 ≤ k.toInt ∧ k.toInt < 4) ∧ (0 ≤ o.toInt ∧ o.toInt ≤ 8) ∧ (0 ≤ a.toInt ∧ a.toInt < 4) ∧ (0 ≤ b.toInt ∧ b.toInt < 4) ∧ (o.toInt < 3 → a.toInt = 0) ∧ (o.toInt < 5 ∨ o.toInt = 8 → b.toInt = 0) ∧ (o.toInt = 8 → a.toInt ≠ k.toInt) ∧ (0 ≤ c.toInt ∧ c.toInt ≤ 9) ∧ (o.toInt = 8 → c.toInt ≠ 0) := by
  obtain ⟨h1, h2, h3, h4, h5, h6, h7⟩ := h
  have hkc := zz_kdc o.toNatClampNeg
  have hcl := (zz_clamp h2.1).2.1
  refine ⟨h1, h2, h3, h4, ?_, ?_, ?_, ?_, ?_⟩ <;> omega
theorem rv_of {k o a b c : Int32} (h1 : 0 ≤ k.toInt ∧ k.toInt < 4) (h2 : 0 ≤ o.toInt ∧ o.toInt ≤ 8) (h3 : 0 ≤ a.toInt ∧ a.toInt < 4) (h4 : 0 ≤ b.toInt ∧ b.toInt < 4) (h5 : o.toInt < 3 → a.toInt = 0) (h6 : o.toInt < 5 ∨ o.toInt = 8 → b.toInt = 0) (h7 : o.toInt = 8 → a.toInt ≠ k.toInt) (h8 : 0 ≤ c.toInt ∧ c.toInt ≤ 9) (h9 : o.toInt = 8 → c.toInt ≠ 0) : rv_ok k o a b c := by
  have hkc := zz_kdc o.toNatClampNeg
  have hcl := (zz_clamp h2.1).2.1
  refine ⟨h1, h2, h3, h4, ?_, ?_, h8.2⟩ <;> omega
theorem mput_0 (q : xg_T) (f : Nat → Int32) (g : Nat → Int64) (v : Int32) {fs : List Value} (h : zz_y (mg_G q) 0 f g = .inr (6, fs)) : zz_y (mg_G q) 0 (upd f 0 v) g = .inr (6, fs.set 0 (.int v)) := by
  rw [mc_0] at h
  cases h
  rfl
theorem mput_6 (q : xg_T) (f : Nat → Int32) (g : Nat → Int64) (v : Int32) {fs : List Value} (h : zz_y (mg_G q) 0 f g = .inr (6, fs)) : zz_y (mg_G q) 0 (upd f 6 v) g = .inr (6, fs.set 6 (.int v)) := by
  rw [mc_0] at h
  cases h
  rfl
theorem mput_11 (q : xg_T) (f : Nat → Int32) (g : Nat → Int64) (v : Int32) {fs : List Value} (h : zz_y (mg_G q) 0 f g = .inr (6, fs)) : zz_y (mg_G q) 0 (upd f 11 v) g = .inr (6, fs.set 11 (.int v)) := by
  rw [mc_0] at h
  cases h
  rfl
theorem mput_19 (q : xg_T) (f : Nat → Int32) (g : Nat → Int64) (v : Int32) {fs : List Value} (h : zz_y (mg_G q) 0 f g = .inr (6, fs)) : zz_y (mg_G q) 0 (upd f 19 v) g = .inr (6, fs.set 19 (.int v)) := by
  rw [mc_0] at h
  cases h
  rfl
theorem mput_22 (q : xg_T) (f : Nat → Int32) (g : Nat → Int64) (v : Int32) {fs : List Value} (h : zz_y (mg_G q) 0 f g = .inr (6, fs)) : zz_y (mg_G q) 0 (upd f 22 v) g = .inr (6, fs.set 22 (.int v)) := by
  rw [mc_0] at h
  cases h
  rfl
theorem mput_23 (q : xg_T) (f : Nat → Int32) (g : Nat → Int64) (v : Int32) {fs : List Value} (h : zz_y (mg_G q) 0 f g = .inr (6, fs)) : zz_y (mg_G q) 0 (upd f 23 v) g = .inr (6, fs.set 23 (.int v)) := by
  rw [mc_0] at h
  cases h
  rfl
theorem mput_24 (q : xg_T) (f : Nat → Int32) (g : Nat → Int64) (v : Int32) {fs : List Value} (h : zz_y (mg_G q) 0 f g = .inr (6, fs)) : zz_y (mg_G q) 0 (upd f 24 v) g = .inr (6, fs.set 24 (.int v)) := by
  rw [mc_0] at h
  cases h
  rfl
