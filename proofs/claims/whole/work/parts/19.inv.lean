/-! What the cells of the class hold: pile, rules. -/
def zz_off (X : Nat → Prop) (S S1 : zz_S) : Prop := ∀ c, ¬ X c → S1.1 c = S.1 c ∧ S1.2 c = S.2 c
theorem zz_max {a b : Nat} (ha : a < 2 ^ 31) (hb : b < 2 ^ 31) : (if nI a < nI b then nI b else nI a) = nI (max a b) := by
  by_cases h : a < b
  · rw [if_pos ((nI_ltI ha hb).mpr h), Nat.max_eq_right (Nat.le_of_lt h)]
  · rw [if_neg (fun x => h ((nI_ltI ha hb).mp x)), Nat.max_eq_left (Nat.le_of_not_lt h)]
theorem zz_min {a b : Nat} (ha : a < 2 ^ 31) (hb : b < 2 ^ 31) : (if nI b < nI a then nI b else nI a) = nI (min a b) := by
  by_cases h : b < a
  · rw [if_pos ((nI_ltI hb ha).mpr h), Nat.min_eq_right (Nat.le_of_lt h)]
  · rw [if_neg (fun x => h ((nI_ltI hb ha).mp x)), Nat.min_eq_left (Nat.le_of_not_lt h)]
theorem zz_asub {t k : Nat} (h : k ≤ t + 1) : nI t + (nI 1 - nI k) = nI (t + 1 - k) := by
  rw [← pk_sub h, ← nI_add, Int32.sub_eq_add_neg, Int32.sub_eq_add_neg, Int32.add_assoc]
/-- where the trees begin: tree j holds the nodes ps j .. ps (j + 1) - 1, its root the last -/
def ts_ok (sz : Nat → Nat) (m t : Nat) (ps : Nat → Nat) : Prop := ps 0 = 0 ∧ ps t = m ∧ ∀ j, j < t → ps j < ps (j + 1) ∧ sz (ps (j + 1) - 1) = ps (j + 1) - ps j
def xp_ok (S : zz_S) (op : Nat → Nat) (nu : Nat → Int32) (sz ht : Nat → Nat) (m t : Nat) : Prop :=
  S.1 18 7 = nI m ∧ S.1 18 8 = nI t ∧ m ≤ 40 ∧ t ≤ m ∧ (∀ i, i < m → S.1 19 i = nI (op i) ∧ S.1 20 i = nu i ∧ S.1 21 i = nI (sz i) ∧ S.1 22 i = nI (ht i) ∧ ht i ≤ 10) ∧ tr_ok op sz m ∧ (t = 0 → m = 0)
def xp_add (S : zz_S) (m o : Nat) (v : Int32) (s h t : Nat) : zz_S := zz_u (zz_u (zz_u (zz_u (zz_u (zz_u S 22 m (nI h)) 21 m (nI s)) 19 m (nI o)) 20 m v) 18 7 (nI (m + 1))) 18 8 (nI t)
def xp_fk (sz : Nat → Nat) (i o : Nat) : Nat := if zz_kd o = 2 then i - 1 - sz (i - 1) else i - 1
def xp_hi (sz ht : Nat → Nat) (m o : Nat) : Nat := if zz_kd o = 0 then 1 else 1 + max (ht (xp_fk sz m o)) (ht (m - 1))
def xp_sz (sz : Nat → Nat) (m o : Nat) : Nat := if zz_kd o = 0 then 1 else 1 + (m - xp_fk sz m o - 1 + sz (xp_fk sz m o))
