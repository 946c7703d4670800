/-! The states: what both searches count. A state is its relative costs and its choices, four of each. -/
section NB
variable {rl : mx_R} {R o : Nat} {lf rt g : Nat → Nat}
/-- how many kinds cost less than v -/
def ns_rk (g : Nat → Nat) (v : Nat) : Nat := (if g 0 < v then 1 else 0) + (if g 1 < v then 1 else 0) + (if g 2 < v then 1 else 0) + (if g 3 < v then 1 else 0)
theorem ns_rk_lt {v w j : Nat} (hj : j < 4) (h1 : g j = v) (h2 : v < w) : ns_rk g v + 1 ≤ ns_rk g w := by
  have hc : j = 0 ∨ j = 1 ∨ j = 2 ∨ j = 3 := by omega
  unfold ns_rk
  rcases hc with rfl | rfl | rfl | rfl <;> (repeat' split) <;> omega
theorem ns_rk_le (v j : Nat) (hj : j < 4) (h1 : g j = v) : ns_rk g v ≤ 3 := by
  have hc : j = 0 ∨ j = 1 ∨ j = 2 ∨ j = 3 := by omega
  unfold ns_rk
  rcases hc with rfl | rfl | rfl | rfl <;> (repeat' split) <;> omega
theorem ns_bound0 (hok : mx_ok rl R) (h : mx_Sol rl R o lf rt g) {M : Nat} (hl : ∀ k, k < 4 → lf k < mx_far → lf k ≤ M) (hr : ∀ k, k < 4 → rt k < mx_far → rt k ≤ M) : ∀ v k, k < 4 → g k = v → g k < mx_far → g k ≤ 9 * ns_rk g v + (9 + 2 * M) := by
  intro v
  induction v using Nat.strongRecOn with
  | ind v ih =>
    intro k hk hv hf
    obtain ⟨r, hr', hm, ht⟩ := h.2.2 k hk hf
    have hb := hok r hr'
    by_cases h8 : (rl r).2.1 = 8
    · rw [mx_th_ch h8] at ht
      have hp := hb.2.2.2.2.2 h8
      have i1 := ih (g (rl r).2.2.1) (by omega) _ hb.2.2.1 rfl (by omega)
      have i2 := ns_rk_lt (g := g) (v := g (rl r).2.2.1) (w := v) hb.2.2.1 rfl (by omega)
      have := hb.2.2.2.2.1
      omega
    · by_cases ho : (rl r).2.1 = o
      · rw [mx_th, if_neg h8, if_pos ho] at ht
        have a1 := hl _ hb.2.2.1
        have a2 := hr _ hb.2.2.2.1
        have := hb.2.2.2.2.1
        split at ht <;> split at ht <;> omega
      · rw [mx_th, if_neg h8, if_neg ho] at ht
        omega
/-- no cost is far above those of the kids -/
theorem ns_bound (hok : mx_ok rl R) (h : mx_Sol rl R o lf rt g) {M : Nat} (hl : ∀ k, k < 4 → lf k < mx_far → lf k ≤ M) (hr : ∀ k, k < 4 → rt k < mx_far → rt k ≤ M) (k : Nat) (hk : k < 4) (hf : g k < mx_far) : g k ≤ 2 * M + 36 := by
  have a1 := ns_bound0 hok h hl hr (g k) k hk rfl hf
  have a2 := ns_rk_le (g := g) (g k) k hk rfl
  omega
end NB
abbrev ns_Q : Type := Nat × Nat × Nat × Nat
def ns_tup (f : Nat → Nat) : ns_Q := (f 0, f 1, f 2, f 3)
def ns_at (t : ns_Q) (k : Nat) : Nat := if k = 0 then t.1 else if k = 1 then t.2.1 else if k = 2 then t.2.2.1 else t.2.2.2
theorem ns_at_tup (f : Nat → Nat) (k : Nat) (hk : k < 4) : ns_at (ns_tup f) k = f k := by
  have hc : k = 0 ∨ k = 1 ∨ k = 2 ∨ k = 3 := by omega
  rcases hc with rfl | rfl | rfl | rfl <;> rfl
theorem ns_tup_eq {f g : Nat → Nat} (h : ∀ k, k < 4 → f k = g k) : ns_tup f = ns_tup g := by
  rw [ns_tup, ns_tup, h 0 (by omega), h 1 (by omega), h 2 (by omega), h 3 (by omega)]
theorem ns_tup_inj {f g : Nat → Nat} (h : ns_tup f = ns_tup g) (k : Nat) (hk : k < 4) : f k = g k := by
  rw [← ns_at_tup f k hk, ← ns_at_tup g k hk, h]
def ns_low (g : Nat → Nat) : Nat := min (min (g 0) (g 1)) (min (g 2) (g 3))
def ns_nrm (g : Nat → Nat) (k : Nat) : Nat := if g k < mx_far then g k - ns_low g else mx_far
abbrev ns_St : Type := ns_Q × ns_Q
/-- c is the state of a tree with the operator o over trees of the states a and b -/
def ns_nx (rl : mx_R) (R o : Nat) (a b c : ns_St) : Prop := ∃ g q : Nat → Nat, mx_Lab rl R o (ns_at a.1) (ns_at b.1) g q ∧ c = (ns_tup (ns_nrm g), ns_tup q)
theorem ns_nx_uniq {rl : mx_R} {R o : Nat} (hok : mx_ok rl R) {a b c c' : ns_St} (h : ns_nx rl R o a b c) (h' : ns_nx rl R o a b c') : c = c' := by
  obtain ⟨g, q, h1, h2⟩ := h
  obtain ⟨g', q', h1', h2'⟩ := h'
  have e := mx_lab_uniq hok h1 h1'
  rw [h2, h2']
  have e1 : ∀ k, k < 4 → g k = g' k := fun k hk => (e k hk).1
  have el : ns_low g = ns_low g' := by
    rw [ns_low, ns_low, e1 0 (by omega), e1 1 (by omega), e1 2 (by omega), e1 3 (by omega)]
  rw [ns_tup_eq (f := q) (g := q') (fun k hk => (e k hk).2), ns_tup_eq (f := ns_nrm g) (g := ns_nrm g') (fun k hk => by rw [ns_nrm, ns_nrm, e1 k hk, el])]
/-- each one found rests on ones found before it -/
def ns_from (rl : mx_R) (R : Nat) (A : Nat → ns_St) (n : Nat) : Prop := ∀ i, i < n → ∃ o, (o < 3 ∧ ∃ a b, ns_nx rl R o a b (A i)) ∨ (3 ≤ o ∧ o < 8 ∧ ∃ x y, x < i ∧ y < i ∧ ns_nx rl R o (A x) (A y) (A i))
def ns_dis (A : Nat → ns_St) (n : Nat) : Prop := ∀ i j, i < n → j < n → A i = A j → i = j
def ns_cl (rl : mx_R) (R : Nat) (A : Nat → ns_St) (n : Nat) : Prop := (∀ o, o < 3 → ∀ a b c, ns_nx rl R o a b c → ∃ i, i < n ∧ A i = c) ∧ ∀ o, 3 ≤ o → o < 8 → ∀ x y, x < n → y < n → ∀ c, ns_nx rl R o (A x) (A y) c → ∃ i, i < n ∧ A i = c
theorem ns_sub {rl : mx_R} {R : Nat} {A B : Nat → ns_St} {n m : Nat} (hA : ns_from rl R A n) (hB : ns_cl rl R B m) : ∀ i, i < n → ∃ j, j < m ∧ B j = A i := by
  intro i
  induction i using Nat.strongRecOn with
  | ind i ih =>
    intro hi
    obtain ⟨o, h | h⟩ := hA i hi
    · obtain ⟨ho, a, b, h⟩ := h
      exact hB.1 o ho a b _ h
    · obtain ⟨h3, h8, x, y, hx, hy, h⟩ := h
      obtain ⟨x', hx', ex⟩ := ih x hx (by omega)
      obtain ⟨y', hy', ey⟩ := ih y hy (by omega)
      rw [← ex, ← ey] at h
      exact hB.2 o h3 h8 x' y' hx' hy' _ h
theorem ns_pig : ∀ (L M : List ns_St), L.Nodup → (∀ a, a ∈ L → a ∈ M) → L.length ≤ M.length
  | [], M, _, _ => Nat.zero_le _
  | a :: L, M, hn, hs => by
    have h1 := List.nodup_cons.mp hn
    have ha : a ∈ M := hs a List.mem_cons_self
    have hl := List.length_erase_of_mem ha
    have hp : 0 < M.length := List.length_pos_of_mem ha
    have := ns_pig L (M.erase a) h1.2 (fun b hb => by
      have hne : b ≠ a := fun e => h1.1 (e ▸ hb)
      exact (List.mem_erase_of_ne hne).mpr (hs b (List.mem_cons_of_mem _ hb)))
    rw [List.length_cons]
    omega
theorem ns_le {rl : mx_R} {R : Nat} {A B : Nat → ns_St} {n m : Nat} (hA : ns_from rl R A n) (hd : ns_dis A n) (hB : ns_cl rl R B m) : n ≤ m := by
  have h := ns_pig ((List.range n).map A) ((List.range m).map B) (by
    refine List.pairwise_map.mpr ?_
    refine List.Pairwise.imp_of_mem (R := fun a b => a < b) ?_ List.pairwise_lt_range
    intro a b ha hb hab e
    have := hd a b (List.mem_range.mp ha) (List.mem_range.mp hb) e
    omega) (fun a ha => by
    obtain ⟨i, hi, rfl⟩ := List.mem_map.mp ha
    obtain ⟨j, hj, e⟩ := ns_sub hA hB i (List.mem_range.mp hi)
    exact List.mem_map.mpr ⟨j, List.mem_range.mpr hj, e⟩)
  simpa using h
/-- what states() answers -/
def ns_ans (rl : mx_R) (R : Nat) (r : Int32) : Prop := (∃ (A : Nat → ns_St) (n : Nat), n ≤ 40 ∧ r = nI n ∧ ns_from rl R A n ∧ ns_dis A n ∧ ns_cl rl R A n) ∨ (r = -4 ∧ ∃ A : Nat → ns_St, ns_from rl R A 41 ∧ ns_dis A 41)
theorem ns_ans_uniq {rl : mx_R} {R : Nat} {r r' : Int32} (h : ns_ans rl R r) (h' : ns_ans rl R r') : r = r' := by
  rcases h with ⟨A, n, hn, e, h1, h2, h3⟩ | ⟨e, A, h1, h2⟩ <;> rcases h' with ⟨A', n', hn', e', h1', h2', h3'⟩ | ⟨e', A', h1', h2'⟩
  · have a1 := ns_le h1 h2 h3'
    have a2 := ns_le h1' h2' h3
    rw [e, e', show n = n' by omega]
  · have := ns_le h1' h2' h3
    omega
  · have := ns_le h1 h2 h3'
    omega
  · rw [e, e']
