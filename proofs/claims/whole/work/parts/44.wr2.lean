/-! The code of a node, put down rule by rule. -/
abbrev wr_X : Nat → Prop := fun c => (27 ≤ c ∧ c ≤ 34) ∨ c = 38 ∨ c = 39 ∨ c = 40
theorem wr_take {L : List Nat} {y : Nat} (h1 : 1 ≤ y) (h2 : y + 1 ≤ L.length) : L.dropLast.reverse.take (L.length - 1 - (y - 1)) = L.dropLast.reverse.take (L.length - 1 - y) ++ [L.getD (y - 1) 0] := by
  have e : L.length - 1 - (y - 1) = (L.length - 1 - y) + 1 := by omega
  have hl : L.dropLast.length = L.length - 1 := List.length_dropLast
  rw [e, List.take_add_one, List.getElem?_reverse (by omega), List.getElem?_dropLast, hl, show L.length - 1 - 1 - (L.length - 1 - y) = y - 1 by omega, if_pos (by omega)]
  congr 1
  rw [List.getD]
  have : y - 1 < L.length := by omega
  rw [List.getElem?_eq_getElem this]
  rfl
/-- the operator's instruction of node i -/
def wr_op (rl : mx_R) (op : Nat → Nat) (nu : Nat → Int32) (sz : Nat → Nat) (qs : Nat → Nat → Nat) (W : Nat → Nat) (fm i : Nat) : cd_T := cd_ap (wr_st rl op nu sz qs W fm (i - fm)).1 (wr_last rl qs W i) (i - fm) (op i) (nu i) (if 0 < zz_kd (op i) then (wr_st rl op nu sz qs W fm (i - fm)).2 (tr_fa op sz i) else 1000) (if zz_kd (op i) = 2 then (wr_st rl op nu sz qs W fm (i - fm)).2 (i - 1) else 1000)
def wr_rv (rl : mx_R) (qs : Nat → Nat → Nat) (W : Nat → Nat) (i : Nat) : List Nat := (wr_path rl qs W i).dropLast.reverse
section W2
variable {rl : mx_R} {R : Nat} {op sz : Nat → Nat} {nu : Nat → Int32} {gs qs : Nat → Nat → Nat} {W : Nat → Nat} {m fm i : Nat}
theorem wr_next (h : fm ≤ i) : wr_st rl op nu sz qs W fm (i + 1 - fm) = (cd_ch (i - fm) (wr_rv rl qs W i) (wr_op rl op nu sz qs W fm i), va_up (wr_st rl op nu sz qs W fm (i - fm)).2 i ((cd_ch (i - fm) (wr_rv rl qs W i) (wr_op rl op nu sz qs W fm i)).1 - 1)) := by
  have e : i + 1 - fm = (i - fm) + 1 := by omega
  have e2 : fm + (i - fm) = i := by omega
  rw [e, wr_st, e2]
  rfl
theorem wr_part (y : Nat) (hy : y + 1 ≤ (wr_path rl qs W i).length) : (cd_ch (i - fm) ((wr_rv rl qs W i).take ((wr_path rl qs W i).length - 1 - y)) (wr_op rl op nu sz qs W fm i)).1 = (wr_st rl op nu sz qs W fm (i - fm)).1.1 + 1 + ((wr_path rl qs W i).length - 1 - y) := by
  rw [cd_ch_len, List.length_take, wr_rv, List.length_reverse, List.length_dropLast]
  show (wr_st rl op nu sz qs W fm (i - fm)).1.1 + 1 + _ = _
  rw [Nat.min_eq_left (by omega)]
theorem wr_all : (wr_rv rl qs W i).take ((wr_path rl qs W i).length - 1 - 0) = wr_rv rl qs W i := by
  refine List.take_of_length_le ?_
  rw [wr_rv, List.length_reverse, List.length_dropLast]
  omega
theorem wr_none (h : 1 ≤ (wr_path rl qs W i).length) : (wr_rv rl qs W i).take ((wr_path rl qs W i).length - 1 - ((wr_path rl qs W i).length - 1)) = [] := by
  rw [Nat.sub_self]
  rfl
theorem wr_more {y : Nat} (h1 : 1 ≤ y) (h2 : y + 1 ≤ (wr_path rl qs W i).length) (c : cd_T) : cd_ch (i - fm) ((wr_rv rl qs W i).take ((wr_path rl qs W i).length - 1 - (y - 1))) c = cd_ap (cd_ch (i - fm) ((wr_rv rl qs W i).take ((wr_path rl qs W i).length - 1 - y)) c) ((wr_path rl qs W i).getD (y - 1) 0) (i - fm) 8 0 ((cd_ch (i - fm) ((wr_rv rl qs W i).take ((wr_path rl qs W i).length - 1 - y)) c).1 - 1) 1000 := by
  rw [wr_rv, wr_take h1 h2, cd_ch_app]
  rfl
end W2
theorem zz_m2 {n : Nat} (h : 1 ≤ n) : nI n - nI 2 = nI (n - 1) - 1 := by
  have e : nI n = nI (n - 1) + nI 1 := by rw [nI_add, show n - 1 + 1 = n by omega]
  rw [e, show (1 : Int32) = nI 1 from rfl, show nI 2 = nI 1 + nI 1 from (nI_add 1 1).symm]
  rw [Int32.sub_eq_add_neg, Int32.neg_add, Int32.sub_eq_add_neg]
  rw [Int32.add_assoc, ← Int32.add_assoc (nI 1), Int32.add_right_neg, Int32.zero_add, ← Int32.sub_eq_add_neg]
