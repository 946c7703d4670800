/-! Five turns over all rules (the reference), and one over the operator's rules and three over the chain rules with their choices (the class), come to mx_Lab. -/
section MP
variable {rl : mx_R} {R o : Nat} {lf rt g g' q q' g0 : Nat → Nat} {P : Nat → Bool}
def mp_G (rl : mx_R) (R o : Nat) (lf rt : Nat → Nat) : Nat → Nat → Nat
  | 0 => fun _ => mx_far
  | t + 1 => mx_sw rl o lf rt (fun _ => true) (mp_G rl R o lf rt t) R
theorem mp_G_le (t k : Nat) : mp_G rl R o lf rt (t + 1) k ≤ mp_G rl R o lf rt t k := mx_sw_le0 R k
theorem mp_G_e (hok : mx_ok rl R) (t r : Nat) (hr : r < R) : mp_G rl R o lf rt (t + 1) (rl r).1 ≤ mx_th rl o lf rt (mp_G rl R o lf rt t) r :=
  Nat.le_trans (mx_sw_a hr rfl) (mx_th_mono hok hr (fun k _ => mx_sw_le0 r k))
theorem mp_G_c (hok : mx_ok rl R) (t k : Nat) (hc : mp_G rl R o lf rt (t + 1 + 1) k < mp_G rl R o lf rt (t + 1) k) : ∃ r, r < R ∧ (rl r).2.1 = 8 ∧ (rl r).1 = k ∧ (rl r).2.2.2.2 + mp_G rl R o lf rt (t + 1 + 1) (rl r).2.2.1 ≤ mp_G rl R o lf rt (t + 1 + 1) k := by
  have hb := mx_sw_b (rl := rl) (o := o) (lf := lf) (rt := rt) (P := fun _ => true) (g0 := mp_G rl R o lf rt (t + 1)) R k
  have hd : mp_G rl R o lf rt (t + 1 + 1) k = mx_sw rl o lf rt (fun _ => true) (mp_G rl R o lf rt (t + 1)) R k := rfl
  cases hb with
  | inl h => omega
  | inr h =>
    obtain ⟨r, hr, -, hm, ht⟩ := h
    by_cases h8 : (rl r).2.1 = 8
    · refine ⟨r, hr, h8, hm, ?_⟩
      rw [mx_th_ch h8] at ht
      have := mx_sw_le (rl := rl) (o := o) (lf := lf) (rt := rt) (P := fun _ => true) (g0 := mp_G rl R o lf rt (t + 1)) (Nat.le_of_lt hr) (rl r).2.2.1
      rw [hd, ht]
      exact Nat.add_le_add_left this _
    · have h1 := mp_G_e (rl := rl) (o := o) (lf := lf) (rt := rt) hok t r hr
      rw [mx_th_op (g' := mx_sw rl o lf rt (fun _ => true) (mp_G rl R o lf rt (t + 1)) r) h8, hm] at h1
      omega
theorem mp_G_at (hok : mx_ok rl R) (t k : Nat) : mp_G rl R o lf rt t k = mx_far ∨ ∃ r, r < R ∧ (rl r).1 = k ∧ mx_th rl o lf rt (mp_G rl R o lf rt t) r ≤ mp_G rl R o lf rt t k := by
  induction t with
  | zero => exact Or.inl rfl
  | succ t ih =>
    have hb := mx_sw_b (rl := rl) (o := o) (lf := lf) (rt := rt) (P := fun _ => true) (g0 := mp_G rl R o lf rt t) R k
    have hd : mp_G rl R o lf rt (t + 1) k = mx_sw rl o lf rt (fun _ => true) (mp_G rl R o lf rt t) R k := rfl
    cases hb with
    | inl h =>
      cases ih with
      | inl i => exact Or.inl (by omega)
      | inr i =>
        obtain ⟨r, hr, hm, ht⟩ := i
        refine Or.inr ⟨r, hr, hm, ?_⟩
        rw [hd, h]
        exact Nat.le_trans (mx_th_mono hok hr (fun k _ => mp_G_le t k)) ht
    | inr h =>
      obtain ⟨r, hr, -, hm, ht⟩ := h
      refine Or.inr ⟨r, hr, hm, ?_⟩
      rw [hd, ht]
      exact mx_th_mono hok hr (fun k _ => mx_sw_le (Nat.le_of_lt hr) k)
theorem mp_G_far (t k : Nat) : mp_G rl R o lf rt t k ≤ mx_far := by
  induction t with
  | zero => exact Nat.le_refl _
  | succ t ih => exact Nat.le_trans (mp_G_le t k) ih
/-- the reference's five turns -/
theorem mp_ref (hok : mx_ok rl R) : mx_Sol rl R o lf rt (mp_G rl R o lf rt 5) := by
  have st : ∀ k, k < 4 → mp_G rl R o lf rt 5 k = mp_G rl R o lf rt 4 k := mx_stop hok
    (fun k _ => mp_G_le 1 k) (fun k _ => mp_G_le 2 k) (fun k _ => mp_G_le 3 k) (fun k _ => mp_G_le 4 k)
    (fun r hr h8 => by rw [← mx_th_ch (o := o) (lf := lf) (rt := rt) h8]; exact mp_G_e hok 1 r hr)
    (fun r hr h8 => by rw [← mx_th_ch (o := o) (lf := lf) (rt := rt) h8]; exact mp_G_e hok 2 r hr)
    (fun r hr h8 => by rw [← mx_th_ch (o := o) (lf := lf) (rt := rt) h8]; exact mp_G_e hok 3 r hr)
    (fun k _ h => mp_G_c hok 0 k h) (fun k _ h => mp_G_c hok 1 k h) (fun k _ h => mp_G_c hok 2 k h) (fun k _ h => mp_G_c hok 3 k h)
  have cl : ∀ r, r < R → mp_G rl R o lf rt 5 (rl r).1 ≤ mx_th rl o lf rt (mp_G rl R o lf rt 5) r := fun r hr => by
    rw [mx_th_congr hok hr st]
    exact mp_G_e hok 4 r hr
  refine ⟨fun k _ => mp_G_far 5 k, cl, fun k hk hf => ?_⟩
  cases mp_G_at (rl := rl) (R := R) (o := o) (lf := lf) (rt := rt) hok 5 k with
  | inl h => omega
  | inr h =>
    obtain ⟨r, hr, hm, ht⟩ := h
    have := cl r hr
    rw [hm] at this
    exact ⟨r, hr, hm, by omega⟩
/-- the reference's choices: from the last rule down, the one that gives the least cost is taken -/
def mp_pk (rl : mx_R) (o : Nat) (lf rt g : Nat → Nat) (R : Nat) : Nat → Nat → Nat
  | 0 => fun _ => 24
  | n + 1 => fun k => if k = (rl (R - 1 - n)).1 ∧ g k < mx_far ∧ mx_th rl o lf rt g (R - 1 - n) = g k then R - 1 - n else mp_pk rl o lf rt g R n k
theorem mp_pk_s (n k : Nat) : mp_pk rl o lf rt g R (n + 1) k = if k = (rl (R - 1 - n)).1 ∧ g k < mx_far ∧ mx_th rl o lf rt g (R - 1 - n) = g k then R - 1 - n else mp_pk rl o lf rt g R n k := rfl
theorem mp_pk_is (n : Nat) (hn : n ≤ R) (k : Nat) : (mp_pk rl o lf rt g R n k = 24 ∧ ∀ r, R - n ≤ r → r < R → (rl r).1 = k → g k < mx_far → mx_th rl o lf rt g r ≠ g k) ∨ (R - n ≤ mp_pk rl o lf rt g R n k ∧ mp_pk rl o lf rt g R n k < R ∧ (rl (mp_pk rl o lf rt g R n k)).1 = k ∧ g k < mx_far ∧ mx_th rl o lf rt g (mp_pk rl o lf rt g R n k) = g k ∧ ∀ r, R - n ≤ r → r < R → (rl r).1 = k → mx_th rl o lf rt g r = g k → mp_pk rl o lf rt g R n k ≤ r) := by
  induction n with
  | zero => exact Or.inl ⟨rfl, fun r h1 h2 => by omega⟩
  | succ n ih =>
    have ih := ih (by omega)
    rw [mp_pk_s]
    split
    · rename_i hc
      refine Or.inr ⟨by omega, by omega, hc.1.symm, hc.2.1, hc.2.2, fun r h1 h2 h3 h4 => by omega⟩
    · rename_i hc
      cases ih with
      | inl i =>
        refine Or.inl ⟨i.1, fun r h1 h2 h3 h4 h5 => ?_⟩
        by_cases e : r = R - 1 - n
        · subst e
          exact hc ⟨h3.symm, h4, h5⟩
        · exact i.2 r (by omega) h2 h3 h4 h5
      | inr i =>
        obtain ⟨i1, i2, i3, i4, i5, i6⟩ := i
        refine Or.inr ⟨by omega, i2, i3, i4, i5, fun r h1 h2 h3 h4 => ?_⟩
        by_cases e : r = R - 1 - n
        · subst e
          exact absurd ⟨h3.symm, i4, h4⟩ hc
        · exact i6 r (by omega) h2 h3 h4
theorem mp_ref_lab (hs : mx_Sol rl R o lf rt g) : mx_Lab rl R o lf rt g (mp_pk rl o lf rt g R R) := by
  refine ⟨hs, fun k hk => ⟨fun hf => ?_, fun hf => ?_⟩⟩
  · obtain ⟨r, hr, hm, ht⟩ := hs.2.2 k hk hf
    cases mp_pk_is (rl := rl) (o := o) (lf := lf) (rt := rt) (g := g) (R := R) R (Nat.le_refl R) k with
    | inl i => exact absurd ht (i.2 r (by omega) hr hm hf)
    | inr i =>
      obtain ⟨i1, i2, i3, i4, i5, i6⟩ := i
      exact ⟨i2, i3, i5, fun r hr hm ht => i6 r (by omega) hr hm ht⟩
  · cases mp_pk_is (rl := rl) (o := o) (lf := lf) (rt := rt) (g := g) (R := R) R (Nat.le_refl R) k with
    | inl i => exact i.1
    | inr i => exact absurd i.2.2.2.1 hf
/-- the class's offers: costs and choices -/
abbrev mp_of (rl : mx_R) (o : Nat) (lf rt : Nat → Nat) (s : (Nat → Nat) × (Nat → Nat)) (r : Nat) : Prop := mx_th rl o lf rt s.1 r < mx_far ∧ (mx_th rl o lf rt s.1 r < s.1 (rl r).1 ∨ mx_th rl o lf rt s.1 r = s.1 (rl r).1 ∧ r < s.2 (rl r).1)
def mp_st (rl : mx_R) (o : Nat) (lf rt : Nat → Nat) (s : (Nat → Nat) × (Nat → Nat)) (r : Nat) : (Nat → Nat) × (Nat → Nat) := (va_up s.1 (rl r).1 (mx_th rl o lf rt s.1 r), va_up s.2 (rl r).1 r)
def mp_sw (rl : mx_R) (o : Nat) (lf rt : Nat → Nat) (P : Nat → Bool) (s0 : (Nat → Nat) × (Nat → Nat)) : Nat → (Nat → Nat) × (Nat → Nat)
  | 0 => s0
  | n + 1 => if P n = true ∧ mp_of rl o lf rt (mp_sw rl o lf rt P s0 n) n then mp_st rl o lf rt (mp_sw rl o lf rt P s0 n) n else mp_sw rl o lf rt P s0 n
variable {s0 : (Nat → Nat) × (Nat → Nat)}
theorem mp_sw_skip {a b : Nat} (h : a ≤ b) (hP : ∀ r, a ≤ r → r < b → P r = false) : mp_sw rl o lf rt P s0 b = mp_sw rl o lf rt P s0 a := by
  induction h with
  | refl => rfl
  | step h ih =>
    rename_i n
    have hn : P n = false := hP n h (Nat.lt_succ_self n)
    have hc : ¬ (P n = true ∧ mp_of rl o lf rt (mp_sw rl o lf rt P s0 n) n) := fun x => by rw [hn] at x; exact absurd x.1 (by decide)
    rw [mp_sw, if_neg hc]
    exact ih (fun r h1 h2 => hP r h1 (Nat.lt_succ_of_lt h2))
theorem mp_up_s {f : Nat → Nat} {k v : Nat} : va_up f k v k = v := by rw [va_up, if_pos rfl]
theorem mp_up_n {f : Nat → Nat} {k v j : Nat} (h : j ≠ k) : va_up f k v j = f j := by rw [va_up, if_neg h]
theorem mp_fst (h0 : ∀ k, s0.1 k ≤ mx_far) (n : Nat) : (mp_sw rl o lf rt P s0 n).1 = mx_sw rl o lf rt P s0.1 n := by
  induction n with
  | zero => rfl
  | succ n ih =>
    funext k
    have hle : mx_sw rl o lf rt P s0.1 n k ≤ mx_far := Nat.le_trans (mx_sw_le0 n k) (h0 k)
    rw [mp_sw, mx_sw_s]
    by_cases hc : P n = true ∧ mp_of rl o lf rt (mp_sw rl o lf rt P s0 n) n
    · rw [if_pos hc, mp_st]
      show va_up (mp_sw rl o lf rt P s0 n).1 (rl n).1 (mx_th rl o lf rt (mp_sw rl o lf rt P s0 n).1 n) k = _
      obtain ⟨h1, h2, h3⟩ := hc
      rw [ih] at h2 h3 ⊢
      by_cases hk : k = (rl n).1
      · rw [hk, mp_up_s]
        rw [hk] at hle
        split
        · rfl
        · rename_i hn
          have : ¬ mx_th rl o lf rt (mx_sw rl o lf rt P s0.1 n) n < mx_sw rl o lf rt P s0.1 n (rl n).1 := fun x => hn ⟨h1, rfl, x⟩
          omega
      · rw [mp_up_n hk, if_neg (fun x => hk x.2.1)]
    · rw [if_neg hc, ih]
      split
      · rename_i hn
        exfalso
        apply hc
        rw [mp_of, ih]
        refine ⟨hn.1, by omega, Or.inl ?_⟩
        rw [← hn.2.1]
        exact hn.2.2
      · rfl
theorem mp_dec (n k : Nat) : (mp_sw rl o lf rt P s0 (n + 1)).1 k ≤ (mp_sw rl o lf rt P s0 n).1 k := by
  rw [mp_sw]
  split
  · rename_i hc
    show va_up _ _ _ k ≤ _
    by_cases hk : k = (rl n).1
    · rw [hk, mp_up_s]
      have := hc.2.2
      omega
    · rw [mp_up_n hk]
      exact Nat.le_refl _
  · exact Nat.le_refl _
theorem mp_le {n n' : Nat} (h : n ≤ n') (k : Nat) : (mp_sw rl o lf rt P s0 n').1 k ≤ (mp_sw rl o lf rt P s0 n).1 k := by
  induction h with
  | refl => exact Nat.le_refl _
  | step _ ih => exact Nat.le_trans (mp_dec _ k) ih
/-- a choice falls while its cost stays -/
theorem mp_q_dec (n k : Nat) (h : (mp_sw rl o lf rt P s0 (n + 1)).1 k = (mp_sw rl o lf rt P s0 n).1 k) : (mp_sw rl o lf rt P s0 (n + 1)).2 k ≤ (mp_sw rl o lf rt P s0 n).2 k := by
  rw [mp_sw] at h ⊢
  split
  · rename_i hc
    rw [if_pos hc] at h
    have h : va_up (mp_sw rl o lf rt P s0 n).1 (rl n).1 (mx_th rl o lf rt (mp_sw rl o lf rt P s0 n).1 n) k = (mp_sw rl o lf rt P s0 n).1 k := h
    show va_up _ _ _ k ≤ _
    by_cases hk : k = (rl n).1
    · rw [hk, mp_up_s] at h ⊢
      have := hc.2.2
      omega
    · rw [mp_up_n hk]
      exact Nat.le_refl _
  · exact Nat.le_refl _
theorem mp_q_le {n n' : Nat} (hn : n ≤ n') (k : Nat) (h : (mp_sw rl o lf rt P s0 n').1 k = (mp_sw rl o lf rt P s0 n).1 k) : (mp_sw rl o lf rt P s0 n').2 k ≤ (mp_sw rl o lf rt P s0 n).2 k := by
  revert h
  induction hn with
  | refl => exact fun _ => Nat.le_refl _
  | step hm ih =>
    rename_i j
    intro h
    have h : (mp_sw rl o lf rt P s0 (j + 1)).1 k = (mp_sw rl o lf rt P s0 n).1 k := h
    have a1 := mp_dec (rl := rl) (o := o) (lf := lf) (rt := rt) (P := P) (s0 := s0) j k
    have a2 := mp_le (rl := rl) (o := o) (lf := lf) (rt := rt) (P := P) (s0 := s0) hm k
    exact Nat.le_trans (mp_q_dec j k (by omega)) (ih (by omega))
/-- a rule whose offer was the last cost is no lower than the choice -/
theorem mp_min {n r : Nat} (hr : r < n) (hP : P r = true) (ht : mx_th rl o lf rt (mp_sw rl o lf rt P s0 r).1 r = (mp_sw rl o lf rt P s0 n).1 (rl r).1) (hf : (mp_sw rl o lf rt P s0 n).1 (rl r).1 < mx_far) : (mp_sw rl o lf rt P s0 n).2 (rl r).1 ≤ r := by
  have a1 := mp_le (rl := rl) (o := o) (lf := lf) (rt := rt) (P := P) (s0 := s0) (show r + 1 ≤ n from hr) (rl r).1
  have a2 := mp_dec (rl := rl) (o := o) (lf := lf) (rt := rt) (P := P) (s0 := s0) r (rl r).1
  have hs : (mp_sw rl o lf rt P s0 (r + 1)).1 (rl r).1 = mx_th rl o lf rt (mp_sw rl o lf rt P s0 r).1 r ∧ (mp_sw rl o lf rt P s0 (r + 1)).2 (rl r).1 ≤ r := by
    rw [mp_sw]
    rw [mp_sw] at a1 a2
    split
    · rename_i hc
      refine ⟨?_, ?_⟩
      · show va_up _ _ _ (rl r).1 = _
        rw [mp_up_s]
      · show va_up _ _ _ (rl r).1 ≤ r
        rw [mp_up_s]
        exact Nat.le_refl _
    · rename_i hc
      rw [if_neg hc] at a1 a2
      have hc2 : ¬ mp_of rl o lf rt (mp_sw rl o lf rt P s0 r) r := fun x => hc ⟨hP, x⟩
      rw [mp_of] at hc2
      omega
  have := mp_q_le (rl := rl) (o := o) (lf := lf) (rt := rt) (P := P) (s0 := s0) (show r + 1 ≤ n from hr) (rl r).1 (by omega)
  omega
/-- the choices are rules that give the costs, or better -/
def mp_I (rl : mx_R) (R o : Nat) (lf rt : Nat → Nat) (s : (Nat → Nat) × (Nat → Nat)) : Prop := ∀ k, k < 4 → s.1 k ≤ mx_far ∧ (s.1 k < mx_far → s.2 k < R ∧ (rl (s.2 k)).1 = k ∧ mx_th rl o lf rt s.1 (s.2 k) ≤ s.1 k) ∧ (¬ s.1 k < mx_far → s.2 k = 24)
theorem mp_I_sw (hok : mx_ok rl R) (h0 : mp_I rl R o lf rt s0) (n : Nat) (hn : n ≤ R) : mp_I rl R o lf rt (mp_sw rl o lf rt P s0 n) := by
  induction n with
  | zero => exact h0
  | succ n ih =>
    have ih := ih (by omega)
    have hd : ∀ k, k < 4 → (mp_sw rl o lf rt P s0 (n + 1)).1 k ≤ (mp_sw rl o lf rt P s0 n).1 k := fun k _ => mp_dec n k
    rw [mp_sw] at hd ⊢
    split
    · rename_i hc
      rw [if_pos hc] at hd
      intro k hk
      have hi := ih k hk
      show va_up _ _ _ k ≤ _ ∧ (va_up _ _ _ k < _ → va_up _ _ _ k < R ∧ (rl (va_up _ _ _ k)).1 = k ∧ mx_th rl o lf rt _ (va_up _ _ _ k) ≤ va_up _ _ _ k) ∧ (¬ va_up _ _ _ k < _ → va_up _ _ _ k = 24)
      by_cases e : k = (rl n).1
      · subst e
        rw [mp_up_s, mp_up_s]
        refine ⟨Nat.le_of_lt hc.2.1, fun _ => ⟨by omega, rfl, ?_⟩, fun h => absurd hc.2.1 h⟩
        exact mx_th_mono hok (by omega) hd
      · rw [mp_up_n e, mp_up_n e]
        refine ⟨hi.1, fun h => ?_, hi.2.2⟩
        obtain ⟨i1, i2, i3⟩ := hi.2.1 h
        exact ⟨i1, i2, Nat.le_trans (mx_th_mono hok i1 hd) i3⟩
    · exact ih
def mp_s0 : (Nat → Nat) × (Nat → Nat) := (fun _ => mx_far, fun _ => 24)
def mp_po (rl : mx_R) (o : Nat) : Nat → Bool := fun r => decide ((rl r).2.1 = o)
/-- the class: the operator's rules, then t turns over the chain rules -/
def mp_C (rl : mx_R) (R o : Nat) (lf rt : Nat → Nat) : Nat → (Nat → Nat) × (Nat → Nat)
  | 0 => mp_sw rl o lf rt (mp_po rl o) mp_s0 R
  | t + 1 => mp_sw rl o lf rt (mp_po rl 8) (mp_C rl R o lf rt t) R
theorem mp_C_I (hok : mx_ok rl R) (t : Nat) : mp_I rl R o lf rt (mp_C rl R o lf rt t) := by
  induction t with
  | zero => exact mp_I_sw hok (fun k _ => ⟨Nat.le_refl _, fun h => absurd h (Nat.lt_irrefl _), fun _ => rfl⟩) R (Nat.le_refl R)
  | succ t ih => exact mp_I_sw hok ih R (Nat.le_refl R)
theorem mp_C_le (t k : Nat) : (mp_C rl R o lf rt (t + 1)).1 k ≤ (mp_C rl R o lf rt t).1 k := mp_le (Nat.zero_le R) k
theorem mp_C_far (t k : Nat) : (mp_C rl R o lf rt t).1 k ≤ mx_far := by
  induction t with
  | zero => exact mp_le (s0 := mp_s0) (Nat.zero_le R) k
  | succ t ih => exact Nat.le_trans (mp_C_le t k) ih
theorem mp_C_eq (t : Nat) : (mp_C rl R o lf rt (t + 1)).1 = mx_sw rl o lf rt (mp_po rl 8) (mp_C rl R o lf rt t).1 R := mp_fst (fun k => mp_C_far t k) R
theorem mp_C_e (hok : mx_ok rl R) (t r : Nat) (hr : r < R) (h8 : (rl r).2.1 = 8) : (mp_C rl R o lf rt (t + 1)).1 (rl r).1 ≤ (rl r).2.2.2.2 + (mp_C rl R o lf rt t).1 (rl r).2.2.1 := by
  rw [← mx_th_ch (o := o) (lf := lf) (rt := rt) h8, mp_C_eq]
  exact Nat.le_trans (mx_sw_a hr (by rw [mp_po, h8]; rfl)) (mx_th_mono hok hr (fun k _ => mx_sw_le0 r k))
theorem mp_C_c (t k : Nat) (hc : (mp_C rl R o lf rt (t + 1)).1 k < (mp_C rl R o lf rt t).1 k) : ∃ r, r < R ∧ (rl r).2.1 = 8 ∧ (rl r).1 = k ∧ (rl r).2.2.2.2 + (mp_C rl R o lf rt (t + 1)).1 (rl r).2.2.1 ≤ (mp_C rl R o lf rt (t + 1)).1 k := by
  rw [mp_C_eq] at hc ⊢
  cases mx_sw_b (rl := rl) (o := o) (lf := lf) (rt := rt) (P := mp_po rl 8) (g0 := (mp_C rl R o lf rt t).1) R k with
  | inl h => omega
  | inr h =>
    obtain ⟨r, hr, hP, hm, ht⟩ := h
    have h8 : (rl r).2.1 = 8 := of_decide_eq_true hP
    refine ⟨r, hr, h8, hm, ?_⟩
    rw [mx_th_ch h8] at ht
    rw [ht]
    exact Nat.add_le_add_left (mx_sw_le (Nat.le_of_lt hr) _) _
theorem mp_C_stop (hok : mx_ok rl R) (k : Nat) (hk : k < 4) : (mp_C rl R o lf rt 4).1 k = (mp_C rl R o lf rt 3).1 k :=
  mx_stop hok (fun k _ => mp_C_le 0 k) (fun k _ => mp_C_le 1 k) (fun k _ => mp_C_le 2 k) (fun k _ => mp_C_le 3 k) (fun r hr h8 => mp_C_e hok 0 r hr h8) (fun r hr h8 => mp_C_e hok 1 r hr h8) (fun r hr h8 => mp_C_e hok 2 r hr h8) (fun k _ h => mp_C_c 0 k h) (fun k _ h => mp_C_c 1 k h) (fun k _ h => mp_C_c 2 k h) (fun k _ h => mp_C_c 3 k h) k hk
theorem mp_C_op (t r : Nat) (hr : r < R) (ho : (rl r).2.1 = o) (h8 : (rl r).2.1 ≠ 8) : (mp_C rl R o lf rt t).1 (rl r).1 ≤ mx_th rl o lf rt g r := by
  induction t with
  | zero =>
    have h1 : (mp_C rl R o lf rt 0).1 = mx_sw rl o lf rt (mp_po rl o) (fun _ => mx_far) R := mp_fst (s0 := mp_s0) (fun k => Nat.le_refl _) R
    rw [h1, mx_th_op (g' := mx_sw rl o lf rt (mp_po rl o) (fun _ => mx_far) r) h8]
    exact mx_sw_a hr (by rw [mp_po, ho]; exact decide_eq_true rfl)
  | succ t ih => exact Nat.le_trans (mp_C_le t _) ih
/-- the class's label -/
theorem mp_cls (hok : mx_ok rl R) (ho : o < 8) : mx_Lab rl R o lf rt (mp_C rl R o lf rt 3).1 (mp_C rl R o lf rt 3).2 := by
  have hI := mp_C_I (rl := rl) (o := o) (lf := lf) (rt := rt) hok 3
  have cl : ∀ r, r < R → (mp_C rl R o lf rt 3).1 (rl r).1 ≤ mx_th rl o lf rt (mp_C rl R o lf rt 3).1 r := fun r hr => by
    by_cases h8 : (rl r).2.1 = 8
    · rw [mx_th_ch h8, ← mp_C_stop hok _ (hok r hr).1]
      exact mp_C_e hok 3 r hr h8
    · by_cases h : (rl r).2.1 = o
      · exact mp_C_op 3 r hr h h8
      · rw [mx_th, if_neg h8, if_neg h]
        exact mp_C_far 3 _
  have sol : mx_Sol rl R o lf rt (mp_C rl R o lf rt 3).1 := ⟨fun k _ => mp_C_far 3 k, cl, fun k hk hf => by
    obtain ⟨i1, i2, i3⟩ := (hI k hk).2.1 hf
    have := cl _ i1
    rw [i2] at this
    exact ⟨_, i1, i2, by omega⟩⟩
  refine ⟨sol, fun k hk => ⟨fun hf => ?_, (hI k hk).2.2⟩⟩
  obtain ⟨i1, i2, i3⟩ := (hI k hk).2.1 hf
  have i4 := cl _ i1
  rw [i2] at i4
  refine ⟨i1, i2, by omega, fun r hr hm ht => ?_⟩
  by_cases h8 : (rl r).2.1 = 8
  · have hj := (hok r hr).2.2.1
    have hp := (hok r hr).2.2.2.2.2 h8
    have ht' := ht
    rw [mx_th_ch h8] at ht'
    have l3 : (mp_C rl R o lf rt 3).1 (rl r).2.2.1 ≤ (mp_C rl R o lf rt 2).1 (rl r).2.2.1 := mp_C_le 2 _
    by_cases hc : (mp_C rl R o lf rt 3).1 (rl r).2.2.1 < (mp_C rl R o lf rt 2).1 (rl r).2.2.1
    · exact (mx_top hok (fun k _ => mp_C_le 0 k) (fun k _ => mp_C_le 1 k) (fun k _ => mp_C_le 2 k) (fun r hr h8 => mp_C_e hok 0 r hr h8) (fun r hr h8 => mp_C_e hok 1 r hr h8) (d0 := (mp_C rl R o lf rt 0).1) (d1 := (mp_C rl R o lf rt 1).1) (d2 := (mp_C rl R o lf rt 2).1) (d3 := (mp_C rl R o lf rt 3).1) (fun k _ h => mp_C_c 0 k h) (fun k _ h => mp_C_c 1 k h) (fun k _ h => mp_C_c 2 k h) hj hk hc (by omega)).elim
    · have b1 := mp_le (rl := rl) (o := o) (lf := lf) (rt := rt) (P := mp_po rl 8) (s0 := mp_C rl R o lf rt 2) (Nat.zero_le r) (rl r).2.2.1
      have b2 := mp_le (rl := rl) (o := o) (lf := lf) (rt := rt) (P := mp_po rl 8) (s0 := mp_C rl R o lf rt 2) (Nat.le_of_lt hr) (rl r).2.2.1
      have e2 : (mp_sw rl o lf rt (mp_po rl 8) (mp_C rl R o lf rt 2) R).1 = (mp_C rl R o lf rt 3).1 := rfl
      have e0 : (mp_sw rl o lf rt (mp_po rl 8) (mp_C rl R o lf rt 2) 0).1 = (mp_C rl R o lf rt 2).1 := rfl
      rw [e2] at b2
      rw [e0] at b1
      have := mp_min (rl := rl) (o := o) (lf := lf) (rt := rt) (P := mp_po rl 8) (s0 := mp_C rl R o lf rt 2) hr (by rw [mp_po, h8]; rfl) (by rw [mx_th_ch h8, e2, hm]; omega) (by rw [e2, hm]; exact hf)
      rw [hm] at this
      exact this
  · have h : (rl r).2.1 = o := by
      by_cases h : (rl r).2.1 = o
      · exact h
      · rw [mx_th, if_neg h8, if_neg h] at ht
        omega
    have c0 := mp_C_op (rl := rl) (R := R) (o := o) (lf := lf) (rt := rt) (g := (mp_C rl R o lf rt 3).1) 0 r hr h h8
    rw [hm] at c0
    have l1 : (mp_C rl R o lf rt 1).1 k ≤ (mp_C rl R o lf rt 0).1 k := mp_C_le 0 k
    have l2 : (mp_C rl R o lf rt 2).1 k ≤ (mp_C rl R o lf rt 1).1 k := mp_C_le 1 k
    have l3 : (mp_C rl R o lf rt 3).1 k ≤ (mp_C rl R o lf rt 2).1 k := mp_C_le 2 k
    have m0 : (mp_C rl R o lf rt 0).2 k ≤ r := by
      have := mp_min (rl := rl) (o := o) (lf := lf) (rt := rt) (P := mp_po rl o) (s0 := mp_s0) hr (by rw [mp_po, h]; exact decide_eq_true rfl) (by
        rw [mx_th_op (g' := (mp_C rl R o lf rt 3).1) h8, hm]
        show _ = (mp_C rl R o lf rt 0).1 k
        omega) (by rw [hm]; show (mp_C rl R o lf rt 0).1 k < _; omega)
      rw [hm] at this
      exact this
    have m1 : (mp_C rl R o lf rt 1).2 k ≤ (mp_C rl R o lf rt 0).2 k := mp_q_le (s0 := mp_C rl R o lf rt 0) (Nat.zero_le R) k (by show (mp_C rl R o lf rt 1).1 k = (mp_C rl R o lf rt 0).1 k; omega)
    have m2 : (mp_C rl R o lf rt 2).2 k ≤ (mp_C rl R o lf rt 1).2 k := mp_q_le (s0 := mp_C rl R o lf rt 1) (Nat.zero_le R) k (by show (mp_C rl R o lf rt 2).1 k = (mp_C rl R o lf rt 1).1 k; omega)
    have m3 : (mp_C rl R o lf rt 3).2 k ≤ (mp_C rl R o lf rt 2).2 k := mp_q_le (s0 := mp_C rl R o lf rt 2) (Nat.zero_le R) k (by show (mp_C rl R o lf rt 3).1 k = (mp_C rl R o lf rt 2).1 k; omega)
    omega
/-- where a turn changes nothing, no later one does -/
theorem mp_C_same {t : Nat} (h : mp_C rl R o lf rt (t + 1) = mp_C rl R o lf rt t) (d : Nat) : mp_C rl R o lf rt (t + d) = mp_C rl R o lf rt t := by
  induction d with
  | zero => rfl
  | succ d ih =>
    show mp_sw rl o lf rt (mp_po rl 8) (mp_C rl R o lf rt (t + d)) R = _
    rw [ih]
    exact h
end MP
