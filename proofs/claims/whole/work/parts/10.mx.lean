/-! The least costs of a node out of those of its kids: what both sides work out, as one relation with one answer. Kinds are 0 .. 3; mx_far stands for 'no cover'. A rule is (kind, op, a, b, cost). -/
def mx_far : Nat := 1125899906842624
abbrev mx_R : Type := Nat → Nat × Nat × Nat × Nat × Nat
def mx_th (rl : mx_R) (o : Nat) (lf rt g : Nat → Nat) (r : Nat) : Nat :=
  if (rl r).2.1 = 8 then (rl r).2.2.2.2 + g (rl r).2.2.1
  else if (rl r).2.1 = o then (rl r).2.2.2.2 + (if 0 < zz_kd o then lf (rl r).2.2.1 else 0) + (if 1 < zz_kd o then rt (rl r).2.2.2.1 else 0)
  else mx_far
def mx_ok (rl : mx_R) (R : Nat) : Prop := ∀ r, r < R → (rl r).1 < 4 ∧ (rl r).2.1 ≤ 8 ∧ (rl r).2.2.1 < 4 ∧ (rl r).2.2.2.1 < 4 ∧ (rl r).2.2.2.2 ≤ 9 ∧ ((rl r).2.1 = 8 → 1 ≤ (rl r).2.2.2.2)
def mx_Sol (rl : mx_R) (R o : Nat) (lf rt g : Nat → Nat) : Prop :=
  (∀ k, k < 4 → g k ≤ mx_far) ∧ (∀ r, r < R → g (rl r).1 ≤ mx_th rl o lf rt g r) ∧ ∀ k, k < 4 → g k < mx_far → ∃ r, r < R ∧ (rl r).1 = k ∧ mx_th rl o lf rt g r = g k
def mx_Lab (rl : mx_R) (R o : Nat) (lf rt g q : Nat → Nat) : Prop :=
  mx_Sol rl R o lf rt g ∧ ∀ k, k < 4 → (g k < mx_far → q k < R ∧ (rl (q k)).1 = k ∧ mx_th rl o lf rt g (q k) = g k ∧ ∀ r, r < R → (rl r).1 = k → mx_th rl o lf rt g r = g k → q k ≤ r) ∧ (¬ g k < mx_far → q k = 24)
section MX
variable {rl : mx_R} {R o : Nat} {lf rt g g' q q' : Nat → Nat}
theorem mx_th_ch {r : Nat} (h : (rl r).2.1 = 8) : mx_th rl o lf rt g r = (rl r).2.2.2.2 + g (rl r).2.2.1 := by
  rw [mx_th, if_pos h]
theorem mx_th_op {r : Nat} (h : (rl r).2.1 ≠ 8) : mx_th rl o lf rt g r = mx_th rl o lf rt g' r := by
  rw [mx_th, mx_th, if_neg h, if_neg h]
theorem mx_th_mono (hok : mx_ok rl R) {r : Nat} (hr : r < R) (h : ∀ k, k < 4 → g k ≤ g' k) : mx_th rl o lf rt g r ≤ mx_th rl o lf rt g' r := by
  by_cases h8 : (rl r).2.1 = 8
  · rw [mx_th_ch h8, mx_th_ch h8]
    have := h _ (hok r hr).2.2.1
    omega
  · rw [mx_th_op (g' := g') h8]
    exact Nat.le_refl _
theorem mx_th_congr (hok : mx_ok rl R) {r : Nat} (hr : r < R) (h : ∀ k, k < 4 → g k = g' k) : mx_th rl o lf rt g r = mx_th rl o lf rt g' r :=
  Nat.le_antisymm (mx_th_mono hok hr (fun k hk => Nat.le_of_eq (h k hk))) (mx_th_mono hok hr (fun k hk => Nat.le_of_eq (h k hk).symm))
theorem mx_sol_le (hok : mx_ok rl R) (h : mx_Sol rl R o lf rt g) (h' : mx_Sol rl R o lf rt g') : ∀ v k, k < 4 → g k = v → g k < mx_far → g' k ≤ g k := by
  intro v
  induction v using Nat.strongRecOn with
  | ind v ih =>
    intro k hk hv hf
    obtain ⟨r, hr, hm, ht⟩ := h.2.2 k hk hf
    have h1 := h'.2.1 r hr
    rw [hm] at h1
    by_cases h8 : (rl r).2.1 = 8
    · rw [mx_th_ch h8] at ht h1
      have hp := (hok r hr).2.2.2.2.2 h8
      have hj := (hok r hr).2.2.1
      have := ih (g (rl r).2.2.1) (by omega) _ hj rfl (by omega)
      omega
    · rw [mx_th_op (g' := g) h8] at h1
      omega
theorem mx_sol_uniq (hok : mx_ok rl R) (h : mx_Sol rl R o lf rt g) (h' : mx_Sol rl R o lf rt g') (k : Nat) (hk : k < 4) : g k = g' k := by
  have a1 := mx_sol_le hok h h' (g k) k hk rfl
  have a2 := mx_sol_le hok h' h (g' k) k hk rfl
  have b1 := h.1 k hk
  have b2 := h'.1 k hk
  by_cases c1 : g k < mx_far
  · have := a1 c1
    have := a2 (by omega)
    omega
  · by_cases c2 : g' k < mx_far
    · have := a2 c2
      omega
    · omega
theorem mx_lab_uniq (hok : mx_ok rl R) (h : mx_Lab rl R o lf rt g q) (h' : mx_Lab rl R o lf rt g' q') (k : Nat) (hk : k < 4) : g k = g' k ∧ q k = q' k := by
  have e := mx_sol_uniq hok h.1 h'.1
  refine ⟨e k hk, ?_⟩
  by_cases c1 : g k < mx_far
  · obtain ⟨x1, x2, x3, x4⟩ := (h.2 k hk).1 c1
    obtain ⟨y1, y2, y3, y4⟩ := (h'.2 k hk).1 (by rw [← e k hk]; exact c1)
    have z1 := x4 (q' k) y1 y2 (by rw [mx_th_congr hok y1 e, y3, e k hk])
    have z2 := y4 (q k) x1 x2 (by rw [← mx_th_congr hok x1 e, x3, e k hk])
    omega
  · rw [(h.2 k hk).2 c1, (h'.2 k hk).2 (by rw [← e k hk]; exact c1)]
/-- one turn over the rules that P takes, in their order -/
def mx_sw (rl : mx_R) (o : Nat) (lf rt : Nat → Nat) (P : Nat → Bool) (g0 : Nat → Nat) : Nat → Nat → Nat
  | 0 => g0
  | n + 1 => fun k => if P n = true ∧ k = (rl n).1 ∧ mx_th rl o lf rt (mx_sw rl o lf rt P g0 n) n < mx_sw rl o lf rt P g0 n k then mx_th rl o lf rt (mx_sw rl o lf rt P g0 n) n else mx_sw rl o lf rt P g0 n k
variable {P : Nat → Bool} {g0 : Nat → Nat}
theorem mx_sw_s (n k : Nat) : mx_sw rl o lf rt P g0 (n + 1) k = if P n = true ∧ k = (rl n).1 ∧ mx_th rl o lf rt (mx_sw rl o lf rt P g0 n) n < mx_sw rl o lf rt P g0 n k then mx_th rl o lf rt (mx_sw rl o lf rt P g0 n) n else mx_sw rl o lf rt P g0 n k := rfl
theorem mx_sw_dec (n k : Nat) : mx_sw rl o lf rt P g0 (n + 1) k ≤ mx_sw rl o lf rt P g0 n k := by
  rw [mx_sw_s]
  split
  · omega
  · exact Nat.le_refl _
theorem mx_sw_le {n n' : Nat} (h : n ≤ n') (k : Nat) : mx_sw rl o lf rt P g0 n' k ≤ mx_sw rl o lf rt P g0 n k := by
  induction h with
  | refl => exact Nat.le_refl _
  | step _ ih => exact Nat.le_trans (mx_sw_dec _ k) ih
theorem mx_sw_le0 (n k : Nat) : mx_sw rl o lf rt P g0 n k ≤ g0 k := mx_sw_le (Nat.zero_le n) k
theorem mx_sw_a {n r : Nat} (h : r < n) (hP : P r = true) : mx_sw rl o lf rt P g0 n (rl r).1 ≤ mx_th rl o lf rt (mx_sw rl o lf rt P g0 r) r := by
  refine Nat.le_trans (mx_sw_le (show r + 1 ≤ n from h) _) ?_
  rw [mx_sw_s]
  split
  · exact Nat.le_refl _
  · rename_i hn
    exact Nat.le_of_not_lt (fun h2 => hn ⟨hP, rfl, h2⟩)
theorem mx_sw_b (n k : Nat) : mx_sw rl o lf rt P g0 n k = g0 k ∨ ∃ r, r < n ∧ P r = true ∧ (rl r).1 = k ∧ mx_sw rl o lf rt P g0 n k = mx_th rl o lf rt (mx_sw rl o lf rt P g0 r) r := by
  induction n with
  | zero => exact Or.inl rfl
  | succ n ih =>
    rw [mx_sw_s]
    split
    · rename_i hn
      exact Or.inr ⟨n, Nat.lt_succ_self n, hn.1, hn.2.1.symm, rfl⟩
    · cases ih with
      | inl h => exact Or.inl h
      | inr h =>
        obtain ⟨r, h1, h2⟩ := h
        exact Or.inr ⟨r, Nat.lt_succ_of_lt h1, h2⟩
/-- the chain of changes: what changes in a turn rests on what changed in the turn before -/
theorem mx_desc {a0 a1 a2 : Nat → Nat} (hok : mx_ok rl R) (h2 : ∀ r, r < R → (rl r).2.1 = 8 → a1 (rl r).1 ≤ (rl r).2.2.2.2 + a0 (rl r).2.2.1) (l1 : ∀ k, k < 4 → a1 k ≤ a0 k) (l2 : ∀ k, k < 4 → a2 k ≤ a1 k) (h3 : ∀ k, k < 4 → a2 k < a1 k → ∃ r, r < R ∧ (rl r).2.1 = 8 ∧ (rl r).1 = k ∧ (rl r).2.2.2.2 + a2 (rl r).2.2.1 ≤ a2 k) : ∀ v k, k < 4 → a2 k = v → a2 k < a1 k → ∃ j, j < 4 ∧ a1 j < a0 j ∧ a2 j = a1 j ∧ a2 j < a2 k := by
  intro v
  induction v using Nat.strongRecOn with
  | ind v ih =>
    intro k hk hv hc
    obtain ⟨r, hr, h8, hm, ht⟩ := h3 k hk hc
    have hj := (hok r hr).2.2.1
    have hp := (hok r hr).2.2.2.2.2 h8
    have e2 := h2 r hr h8
    rw [hm] at e2
    have m1 := l1 _ hj
    have m2 := l2 _ hj
    by_cases c1 : a2 (rl r).2.2.1 < a1 (rl r).2.2.1
    · obtain ⟨j, j1, j2, j3, j4⟩ := ih (a2 (rl r).2.2.1) (by omega) _ hj rfl c1
      exact ⟨j, j1, j2, j3, by omega⟩
    · by_cases c2 : a1 (rl r).2.2.1 < a0 (rl r).2.2.1
      · exact ⟨_, hj, c2, by omega, by omega⟩
      · exfalso
        omega
/-- what is changed by the third turn is above all others -/
theorem mx_top {d0 d1 d2 d3 : Nat → Nat} (hok : mx_ok rl R)
    (l1 : ∀ k, k < 4 → d1 k ≤ d0 k) (l2 : ∀ k, k < 4 → d2 k ≤ d1 k) (l3 : ∀ k, k < 4 → d3 k ≤ d2 k)
    (e1 : ∀ r, r < R → (rl r).2.1 = 8 → d1 (rl r).1 ≤ (rl r).2.2.2.2 + d0 (rl r).2.2.1)
    (e2 : ∀ r, r < R → (rl r).2.1 = 8 → d2 (rl r).1 ≤ (rl r).2.2.2.2 + d1 (rl r).2.2.1)
    (c1 : ∀ k, k < 4 → d1 k < d0 k → ∃ r, r < R ∧ (rl r).2.1 = 8 ∧ (rl r).1 = k ∧ (rl r).2.2.2.2 + d1 (rl r).2.2.1 ≤ d1 k)
    (c2 : ∀ k, k < 4 → d2 k < d1 k → ∃ r, r < R ∧ (rl r).2.1 = 8 ∧ (rl r).1 = k ∧ (rl r).2.2.2.2 + d2 (rl r).2.2.1 ≤ d2 k)
    (c3 : ∀ k, k < 4 → d3 k < d2 k → ∃ r, r < R ∧ (rl r).2.1 = 8 ∧ (rl r).1 = k ∧ (rl r).2.2.2.2 + d3 (rl r).2.2.1 ≤ d3 k)
    {j k : Nat} (hj : j < 4) (hk : k < 4) (hc : d3 j < d2 j) (hjk : d3 j < d3 k) : False := by
  obtain ⟨k2, q2, x1, x2, x3⟩ := mx_desc hok e2 l2 l3 c3 (d3 j) j hj rfl hc
  obtain ⟨k1, q1, y1, y2, y3⟩ := mx_desc hok e1 l1 l2 c2 (d2 k2) k2 q2 rfl x1
  obtain ⟨r, hr, h8, hm, ht⟩ := c1 k1 q1 y1
  have q0 := (hok r hr).2.2.1
  have hp := (hok r hr).2.2.2.2.2 h8
  generalize (rl r).2.2.1 = k0 at q0 ht
  have z1 : d1 k0 < d1 k1 := by omega
  have a1 := l2 k0 q0
  have a2 := l3 k0 q0
  have a3 := l3 k1 q1
  have n1 : k0 ≠ k1 := fun h => by subst h; omega
  have n2 : k0 ≠ k2 := fun h => by subst h; omega
  have n3 : k0 ≠ j := fun h => by subst h; omega
  have n4 : k0 ≠ k := fun h => by subst h; omega
  have n5 : k1 ≠ k2 := fun h => by subst h; omega
  have n6 : k1 ≠ j := fun h => by subst h; omega
  have n7 : k1 ≠ k := fun h => by subst h; omega
  have n8 : k2 ≠ j := fun h => by subst h; omega
  have n9 : k2 ≠ k := fun h => by subst h; omega
  have n0 : j ≠ k := fun h => by subst h; omega
  omega
/-- a fourth turn changes nothing -/
theorem mx_stop {d0 d1 d2 d3 d4 : Nat → Nat} (hok : mx_ok rl R)
    (l1 : ∀ k, k < 4 → d1 k ≤ d0 k) (l2 : ∀ k, k < 4 → d2 k ≤ d1 k) (l3 : ∀ k, k < 4 → d3 k ≤ d2 k) (l4 : ∀ k, k < 4 → d4 k ≤ d3 k)
    (e1 : ∀ r, r < R → (rl r).2.1 = 8 → d1 (rl r).1 ≤ (rl r).2.2.2.2 + d0 (rl r).2.2.1)
    (e2 : ∀ r, r < R → (rl r).2.1 = 8 → d2 (rl r).1 ≤ (rl r).2.2.2.2 + d1 (rl r).2.2.1)
    (e3 : ∀ r, r < R → (rl r).2.1 = 8 → d3 (rl r).1 ≤ (rl r).2.2.2.2 + d2 (rl r).2.2.1)
    (c1 : ∀ k, k < 4 → d1 k < d0 k → ∃ r, r < R ∧ (rl r).2.1 = 8 ∧ (rl r).1 = k ∧ (rl r).2.2.2.2 + d1 (rl r).2.2.1 ≤ d1 k)
    (c2 : ∀ k, k < 4 → d2 k < d1 k → ∃ r, r < R ∧ (rl r).2.1 = 8 ∧ (rl r).1 = k ∧ (rl r).2.2.2.2 + d2 (rl r).2.2.1 ≤ d2 k)
    (c3 : ∀ k, k < 4 → d3 k < d2 k → ∃ r, r < R ∧ (rl r).2.1 = 8 ∧ (rl r).1 = k ∧ (rl r).2.2.2.2 + d3 (rl r).2.2.1 ≤ d3 k)
    (c4 : ∀ k, k < 4 → d4 k < d3 k → ∃ r, r < R ∧ (rl r).2.1 = 8 ∧ (rl r).1 = k ∧ (rl r).2.2.2.2 + d4 (rl r).2.2.1 ≤ d4 k)
    (k : Nat) (hk : k < 4) : d4 k = d3 k := by
  have := l4 k hk
  by_cases hc : d4 k < d3 k
  · exfalso
    obtain ⟨k3, q3, x1, x2, x3⟩ := mx_desc hok e3 l3 l4 c4 (d4 k) k hk rfl hc
    exact mx_top hok l1 l2 l3 e1 e2 c1 c2 c3 q3 hk x1 (by omega)
  · omega
end MX
