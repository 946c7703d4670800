/-! Running the code: by results of instructions (the reference), by places (the class). -/
def ex_cal (vr : Nat → Int32) (o : Nat) (v a b : Int32) : Int32 :=
  if o = 0 then v else if o = 1 then vr v.toNatClampNeg else if o = 2 then 100 + v else if o = 3 then -a else if o = 4 then a + a else if o = 5 then a + b else if o = 6 then a - b else if o = 7 then a * b else a
def ex_src (res : Nat → Int32) (s : Nat) : Int32 := if s < 1000 then res s else 0
def ex_ok (vr : Nat → Int32) (s : cd_T) (res : Nat → Int32) : Prop := ∀ i, i < s.1 → res i = ex_cal vr (s.2.2.2.1 i) (s.2.2.2.2.1 i) (ex_src res (s.2.2.2.2.2.1 i)) (ex_src res (s.2.2.2.2.2.2.1 i))
/-- what the places hold ahead of instruction i -/
def ex_mem (un pl : Nat → Nat) (res mem : Nat → Int32) (i : Nat) : Prop := (∀ j, j < i → i ≤ un j → mem (pl j) = res j) ∧ (0 < i → mem (pl (i - 1)) = res (i - 1))
theorem ex_mem_0 {un pl : Nat → Nat} {res mem : Nat → Int32} : ex_mem un pl res mem 0 := ⟨fun j hj => absurd hj (Nat.not_lt_zero _), fun h => absurd h (Nat.lt_irrefl _)⟩
theorem ex_mem_s {reg sc n i : Nat} {un pl : Nat → Nat} {res mem : Nat → Int32} (hok : pl_ok reg un n pl sc) (hi : i < n) (h : ex_mem un pl res mem i) : ex_mem un pl res (upd mem (pl i) (res i)) (i + 1) := by
  refine ⟨fun j hj hu => ?_, fun _ => ?_⟩
  · by_cases e : j = i
    · rw [e]; exact pk_us
    · have hne : pl j ≠ pl i := fun h2 => by
        have := hok.1 j i (by omega) hi h2
        omega
      rw [pk_un hne]
      exact h.1 j (by omega) (by omega)
  · show upd mem (pl i) (res i) (pl i) = res i
    exact pk_us
theorem ex_uniq {vr : Nat → Int32} {s : cd_T} {res res' : Nat → Int32} (hc : cd_ok s) (h : ex_ok vr s res) (h' : ex_ok vr s res') : ∀ i, i < s.1 → res i = res' i := by
  intro i
  induction i using Nat.strongRecOn with
  | ind i ih =>
    intro hi
    have e1 : ex_src res (s.2.2.2.2.2.1 i) = ex_src res' (s.2.2.2.2.2.1 i) := by
      rw [ex_src, ex_src]
      split
      · rename_i hs
        have := ((hc i hi).2.2.1 hs).1
        exact ih _ this (by omega)
      · rfl
    have e2 : ex_src res (s.2.2.2.2.2.2.1 i) = ex_src res' (s.2.2.2.2.2.2.1 i) := by
      rw [ex_src, ex_src]
      split
      · rename_i hs
        have := ((hc i hi).2.2.2 hs).1
        exact ih _ this (by omega)
      · rfl
    rw [h i hi, h' i hi, e1, e2]
