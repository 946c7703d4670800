/-! Registers and their holders: hd r is the instruction that holds register r, 1000 if it is free. -/
def vw_h (x : Nat) : Int32 := if x < 1000 then nI x else -1
theorem vw_h_in {x : Nat} (h : x < 1000) : vw_h x = nI x := if_pos h
theorem vw_h_out {x : Nat} (h : ¬ x < 1000) : vw_h x = -1 := if_neg h
theorem vw_h_eq {x : Nat} (h : (vw_h x).toInt = (-1 : Int32).toInt) : ¬ x < 1000 := fun hx => by
  rw [vw_h_in hx, nI_toInt (by omega), show (-1 : Int32).toInt = -1 from rfl] at h
  omega
theorem vw_h_ne {x : Nat} (h : (vw_h x).toInt ≠ (-1 : Int32).toInt) : x < 1000 := by
  by_cases hx : x < 1000
  · exact hx
  · rw [vw_h_out hx] at h
    exact absurd rfl h
/-- ahead of instruction i -/
def ph_A (reg : Nat) (un pl hd : Nat → Nat) (i : Nat) : Prop := ∀ r, r < reg → (¬ hd r < 1000 ∧ ∀ j, j < i → pl j = r → un j ≤ i) ∨ (hd r < i ∧ pl (hd r) = r ∧ ∀ j, j < i → j ≠ hd r → pl j = r → un j ≤ i)
/-- behind the release -/
def ph_B (reg : Nat) (un pl hd : Nat → Nat) (i : Nat) : Prop := ∀ r, r < reg → (¬ hd r < 1000 ∧ ∀ j, j < i → pl j = r → un j ≤ i) ∨ (hd r < i ∧ pl (hd r) = r ∧ i < un (hd r) ∧ ∀ j, j < i → j ≠ hd r → pl j = r → un j ≤ i)
def ph_rel (un hd : Nat → Nat) (i r : Nat) : Nat := if hd r < 1000 ∧ un (hd r) ≤ i then 1000 else hd r
section PH
variable {reg i : Nat} {un pl pl' hd : Nat → Nat}
theorem ph_AB (hi : i ≤ 160) (h : ph_A reg un pl hd i) : ph_B reg un pl (ph_rel un hd i) i := fun r hr => by
  rw [ph_rel]
  rcases h r hr with ⟨a, b⟩ | ⟨a, b, c⟩
  · rw [if_neg (fun x => a x.1)]
    exact Or.inl ⟨a, b⟩
  · by_cases hu : un (hd r) ≤ i
    · rw [if_pos ⟨by omega, hu⟩]
      refine Or.inl ⟨by omega, fun j hj hp => ?_⟩
      by_cases e : j = hd r
      · rw [e]; exact hu
      · exact c j hj e hp
    · rw [if_neg (fun x => hu x.2)]
      exact Or.inr ⟨a, b, by omega, c⟩
theorem ph_free (hi : i ≤ 160) (h : ph_B reg un pl hd i) {r : Nat} (hr : r < reg) (hf : ¬ hd r < 1000) : pl_fr reg un pl i r := fun j hj e => by
  rcases h r hr with ⟨a, b⟩ | ⟨a, b, c, d⟩
  · have := b j hj.1 e
    have := hj.2.2
    omega
  · exact absurd (show hd r < 1000 by omega) hf
theorem ph_held (hi : i ≤ 160) (h : ph_B reg un pl hd i) {r : Nat} (hr : r < reg) (hf : hd r < 1000) : ¬ pl_fr reg un pl i r ∧ pl_held reg un pl i (hd r) ∧ pl (hd r) = r := by
  rcases h r hr with ⟨a, b⟩ | ⟨a, b, c, d⟩
  · exact absurd hf a
  · have hh : pl_held reg un pl i (hd r) := ⟨a, by omega, c⟩
    exact ⟨fun hfr => hfr _ hh b, hh, b⟩
/-- a held one is some register's holder -/
theorem ph_who (h : ph_B reg un pl hd i) {j : Nat} (hj : pl_held reg un pl i j) : hd (pl j) = j := by
  rcases h (pl j) hj.2.1 with ⟨a, b⟩ | ⟨a, b, c, d⟩
  · have := b j hj.1 rfl
    have := hj.2.2
    omega
  · by_cases e : j = hd (pl j)
    · exact e.symm
    · have := d j hj.1 e rfl
      have := hj.2.2
      omega
/-- a free register is given -/
theorem ph_give (hi : i ≤ 160) (h : ph_B reg un pl hd i) {r : Nat} (hr : r < reg) (hf : ¬ hd r < 1000) : ph_A reg un (va_up pl i r) (va_up hd r i) (i + 1) := fun s hs => by
  by_cases e : s = r
  · subst e
    rw [mp_up_s]
    refine Or.inr ⟨Nat.lt_succ_self i, mp_up_s, fun j hj hne hp => ?_⟩
    rw [mp_up_n hne] at hp
    rcases h s hs with ⟨a, b⟩ | ⟨a, b, c, d⟩
    · have := b j (by omega) hp
      omega
    · exact absurd (show hd s < 1000 by omega) hf
  · rw [mp_up_n e]
    rcases h s hs with ⟨a, b⟩ | ⟨a, b, c, d⟩
    · refine Or.inl ⟨a, fun j hj hp => ?_⟩
      by_cases ej : j = i
      · rw [ej, mp_up_s] at hp
        exact absurd hp.symm e
      · rw [mp_up_n ej] at hp
        have := b j (by omega) hp
        omega
    · refine Or.inr ⟨by omega, by rw [mp_up_n (by omega)]; exact b, fun j hj hne hp => ?_⟩
      by_cases ej : j = i
      · rw [ej, mp_up_s] at hp
        exact absurd hp.symm e
      · rw [mp_up_n ej] at hp
        have := d j (by omega) hne hp
        omega
/-- all are held: i itself gets a slot -/
theorem ph_own {v : Nat} (hv : reg ≤ v) (h : ph_B reg un pl hd i) : ph_A reg un (va_up pl i v) hd (i + 1) := fun s hs => by
  rcases h s hs with ⟨a, b⟩ | ⟨a, b, c, d⟩
  · refine Or.inl ⟨a, fun j hj hp => ?_⟩
    by_cases ej : j = i
    · rw [ej, mp_up_s] at hp
      omega
    · rw [mp_up_n ej] at hp
      have := b j (by omega) hp
      omega
  · refine Or.inr ⟨by omega, by rw [mp_up_n (by omega)]; exact b, fun j hj hne hp => ?_⟩
    by_cases ej : j = i
    · rw [ej, mp_up_s] at hp
      omega
    · rw [mp_up_n ej] at hp
      have := d j (by omega) hne hp
      omega
/-- another one gets a slot, i its register -/
theorem ph_swap {v x : Nat} (hv : reg ≤ v) (h : ph_B reg un pl hd i) (hx : pl_held reg un pl i x) : ph_A reg un (va_up (va_up pl x v) i (pl x)) (va_up hd (pl x) i) (i + 1) := fun s hs => by
  have hw := ph_who h hx
  have u : ∀ j, j ≠ i → j ≠ x → va_up (va_up pl x v) i (pl x) j = pl j := fun j h1 h2 => by rw [mp_up_n h1, mp_up_n h2]
  have ux : va_up (va_up pl x v) i (pl x) x = v := by rw [mp_up_n (by have := hx.1; omega), mp_up_s]
  by_cases e : s = pl x
  · rw [e, mp_up_s]
    refine Or.inr ⟨Nat.lt_succ_self i, mp_up_s, fun j hj hne hp => ?_⟩
    by_cases ej : j = x
    · rw [ej, ux] at hp
      have := hx.2.1
      omega
    · rw [u j hne ej] at hp
      rcases h (pl x) hx.2.1 with ⟨a, b⟩ | ⟨a, b, c, d⟩
      · have := b j (by omega) hp
        omega
      · rw [hw] at d
        have := d j (by omega) ej hp
        omega
  · rw [mp_up_n e]
    rcases h s hs with ⟨a, b⟩ | ⟨a, b, c, d⟩
    · refine Or.inl ⟨a, fun j hj hp => ?_⟩
      by_cases ej : j = i
      · rw [ej, mp_up_s] at hp
        exact absurd hp.symm e
      · by_cases ex : j = x
        · rw [ex, ux] at hp
          omega
        · rw [u j ej ex] at hp
          have := b j (by omega) hp
          omega
    · have hsx : hd s ≠ x := fun h2 => e (by rw [← b, h2])
      refine Or.inr ⟨by omega, by rw [u _ (by omega) hsx]; exact b, fun j hj hne hp => ?_⟩
      by_cases ej : j = i
      · rw [ej, mp_up_s] at hp
        exact absurd hp.symm e
      · by_cases ex : j = x
        · rw [ex, ux] at hp
          omega
        · rw [u j ej ex] at hp
          have := d j (by omega) hne hp
          omega
/-- the one that is needed longest among i and the first k holders -/
def ph_mx (un hd : Nat → Nat) (i : Nat) : Nat → Nat
  | 0 => i
  | k + 1 => if un (ph_mx un hd i k) < un (hd k) ∨ un (hd k) = un (ph_mx un hd i k) ∧ ph_mx un hd i k < hd k then hd k else ph_mx un hd i k
theorem ph_mx_is (h : ph_B reg un pl hd i) (hall : ∀ r, r < reg → hd r < 1000) (hi : i ≤ 160) (k : Nat) (hk : k ≤ reg) : (ph_mx un hd i k = i ∨ pl_held reg un pl i (ph_mx un hd i k)) ∧ (un i < un (ph_mx un hd i k) ∨ un i = un (ph_mx un hd i k) ∧ i ≤ ph_mx un hd i k) ∧ ∀ r, r < k → un (hd r) < un (ph_mx un hd i k) ∨ un (hd r) = un (ph_mx un hd i k) ∧ hd r ≤ ph_mx un hd i k := by
  induction k with
  | zero => exact ⟨Or.inl rfl, Or.inr ⟨rfl, Nat.le_refl _⟩, fun r hr => absurd hr (Nat.not_lt_zero r)⟩
  | succ k ih =>
    obtain ⟨a, b, c⟩ := ih (by omega)
    have hh := (ph_held hi h (show k < reg by omega) (hall k (by omega))).2.1
    show (ite _ _ _ = i ∨ pl_held reg un pl i (ite _ _ _)) ∧ (un i < un (ite _ _ _) ∨ un i = un (ite _ _ _) ∧ i ≤ ite _ _ _) ∧ ∀ r, r < k + 1 → un (hd r) < un (ite _ _ _) ∨ un (hd r) = un (ite _ _ _) ∧ hd r ≤ ite _ _ _
    split
    · rename_i hc
      refine ⟨Or.inr hh, by omega, fun r hr => ?_⟩
      by_cases e : r = k
      · subst e
        exact Or.inr ⟨rfl, Nat.le_refl _⟩
      · have := c r (by omega)
        omega
    · rename_i hc
      refine ⟨a, b, fun r hr => ?_⟩
      by_cases e : r = k
      · subst e
        omega
      · exact c r (by omega)
theorem ph_max (h : ph_B reg un pl hd i) (hall : ∀ r, r < reg → hd r < 1000) (hi : i ≤ 160) : pl_max reg un pl i (ph_mx un hd i reg) := by
  obtain ⟨a, b, c⟩ := ph_mx_is h hall hi reg (Nat.le_refl _)
  refine ⟨a, b, fun j hj => ?_⟩
  have := c (pl j) hj.2.1
  rw [ph_who h hj] at this
  exact this
end PH
