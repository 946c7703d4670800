/-! The rules in the class's cells, and the turns over them. -/
def xb_ok (S : zz_S) (rl : mx_R) (R : Nat) (sz : Nat → Nat) (nb : Nat → Nat → Nat) : Prop :=
  S.1 1 7 = nI R ∧ R ≤ 24 ∧ mx_ok rl R ∧ (∀ r, r < R → S.1 2 r = nI (rl r).1 ∧ S.1 3 r = nI (rl r).2.1 ∧ S.1 4 r = nI (rl r).2.2.1 ∧ S.1 5 r = nI (rl r).2.2.2.1 ∧ S.1 6 r = nI (rl r).2.2.2.2) ∧
  (∀ o, o < 9 → S.1 8 o = nI (sz o) ∧ sz o ≤ R ∧ (∀ i, i < sz o → S.1 (9 + o) i = nI (nb o i) ∧ nb o i < R ∧ (rl (nb o i)).2.1 = o ∧ ∀ i', i' < i → nb o i' < nb o i) ∧ ∀ r, r < R → (rl r).2.1 = o → ∃ i, i < sz o ∧ nb o i = r)
def xb_bd (R : Nat) (sz : Nat → Nat) (nb : Nat → Nat → Nat) (o i : Nat) : Nat := if i < sz o then nb o i else R
theorem xb_keep {S S1 : zz_S} {rl : mx_R} {R : Nat} {sz : Nat → Nat} {nb : Nat → Nat → Nat} (h : xb_ok S rl R sz nb) (hk : ∀ c, 1 ≤ c → c < 18 → S1.1 c = S.1 c) : xb_ok S1 rl R sz nb := by
  obtain ⟨h1, h2, h3, h4, h5⟩ := h
  refine ⟨by rw [hk 1 (by omega) (by omega)]; exact h1, h2, h3, fun r hr => ?_, fun o ho => ?_⟩
  · rw [hk 2 (by omega) (by omega), hk 3 (by omega) (by omega), hk 4 (by omega) (by omega), hk 5 (by omega) (by omega), hk 6 (by omega) (by omega)]
    exact h4 r hr
  · rw [hk 8 (by omega) (by omega), hk (9 + o) (by omega) (by omega)]
    exact h5 o ho
theorem xb_off {S S1 : zz_S} {rl : mx_R} {R j : Nat} {sz : Nat → Nat} {nb : Nat → Nat → Nat} (h : xb_ok S rl R sz nb) (ho : zz_off (xl_X j) S S1) : xb_ok S1 rl R sz nb :=
  xb_keep h (fun c _ h2 => (ho c (fun hx => by rcases hx with hx | hx <;> omega)).1)
section XB
variable {S : zz_S} {rl : mx_R} {R o o' : Nat} {sz lf rt : Nat → Nat} {nb : Nat → Nat → Nat} {s0 : (Nat → Nat) × (Nat → Nat)}
theorem xb_first (h : xb_ok S rl R sz nb) (ho : o < 9) : mp_sw rl o' lf rt (mp_po rl o) s0 (xb_bd R sz nb o 0) = s0 := by
  obtain ⟨h1, h2, h3, h4⟩ := h.2.2.2.2 o ho
  refine (mp_sw_skip (Nat.zero_le _) (fun r _ hr => ?_)).trans rfl
  rw [mp_po]
  refine decide_eq_false (fun he => ?_)
  have hb : xb_bd R sz nb o 0 ≤ R := by
    unfold xb_bd
    split
    · rename_i h0
      exact Nat.le_of_lt (h3 0 h0).2.1
    · exact Nat.le_refl _
  obtain ⟨i, hi, e⟩ := h4 r (by omega) he
  rw [xb_bd, if_pos (show 0 < sz o by omega)] at hr
  by_cases e0 : i = 0
  · rw [e0] at e
    omega
  · have := (h3 i hi).2.2.2 0 (by omega)
    omega
theorem xb_next (h : xb_ok S rl R sz nb) (ho : o < 9) {i : Nat} (hi : i < sz o) : mp_sw rl o' lf rt (mp_po rl o) s0 (xb_bd R sz nb o (i + 1)) = mp_sw rl o' lf rt (mp_po rl o) s0 (nb o i + 1) := by
  obtain ⟨h1, h2, h3, h4⟩ := h.2.2.2.2 o ho
  have hlt : nb o i + 1 ≤ xb_bd R sz nb o (i + 1) ∧ xb_bd R sz nb o (i + 1) ≤ R := by
    unfold xb_bd
    split
    · rename_i h0
      have a1 := (h3 (i + 1) h0).2.2.2 i (by omega)
      have a2 := (h3 (i + 1) h0).2.1
      omega
    · have a2 := (h3 i hi).2.1
      omega
  refine mp_sw_skip hlt.1 (fun r hr1 hr2 => ?_)
  rw [mp_po]
  refine decide_eq_false (fun he => ?_)
  obtain ⟨i', hi', e⟩ := h4 r (by omega) he
  rcases Nat.lt_trichotomy i' i with h | h | h
  · have := (h3 i hi).2.2.2 i' h
    omega
  · rw [h] at e
    omega
  · rw [xb_bd, if_pos (show i + 1 < sz o by omega)] at hr2
    by_cases e1 : i' = i + 1
    · rw [e1] at e
      omega
    · have := (h3 i' hi').2.2.2 (i + 1) (by omega)
      omega
theorem xb_last {i : Nat} (hi : ¬ i < sz o) : xb_bd R sz nb o i = R := if_neg hi
theorem xb_at {i : Nat} (hi : i < sz o) : xb_bd R sz nb o i = nb o i := if_pos hi
/-- the costs stay far below 'no cover' in the turns -/
theorem xb_bnd {P : Nat → Bool} {B M : Nat} (hok : mx_ok rl R) (hl : ∀ k, k < 4 → lf k < mx_far → lf k ≤ M) (hr : ∀ k, k < 4 → rt k < mx_far → rt k ≤ M) (h0 : ∀ k, k < 4 → s0.1 k < mx_far → s0.1 k ≤ B) (hB : 2 * M + 9 ≤ B) (n : Nat) (hn : n ≤ R) : ∀ k, k < 4 → (mp_sw rl o lf rt P s0 n).1 k < mx_far → (mp_sw rl o lf rt P s0 n).1 k ≤ B + 9 * n := by
  induction n with
  | zero => exact h0
  | succ n ih =>
    have ih := ih (by omega)
    intro k hk hf
    rw [mp_sw] at hf ⊢
    split
    · rename_i hc
      rw [if_pos hc] at hf
      have hf : va_up (mp_sw rl o lf rt P s0 n).1 (rl n).1 (mx_th rl o lf rt (mp_sw rl o lf rt P s0 n).1 n) k < mx_far := hf
      show va_up (mp_sw rl o lf rt P s0 n).1 (rl n).1 (mx_th rl o lf rt (mp_sw rl o lf rt P s0 n).1 n) k ≤ _
      by_cases e : k = (rl n).1
      · rw [e, mp_up_s] at hf ⊢
        have hb := hok n (by omega)
        have hp := hb.2.2.2.2.1
        by_cases h8 : (rl n).2.1 = 8
        · rw [mx_th_ch h8] at hf ⊢
          have := ih _ hb.2.2.1 (by omega)
          omega
        · by_cases ho : (rl n).2.1 = o
          · rw [mx_th, if_neg h8, if_pos ho] at hf ⊢
            have a1 := hl _ hb.2.2.1
            have a2 := hr _ hb.2.2.2.1
            split at hf <;> split at hf <;> (rename_i c1 c2; first | rw [if_pos c1] | rw [if_neg c1]) <;> (first | rw [if_pos c2] | rw [if_neg c2]) <;> omega
          · rw [mx_th, if_neg h8, if_neg ho] at hf
            omega
      · rw [mp_up_n e] at hf ⊢
        have := ih k hk hf
        omega
    · rename_i hc
      rw [if_neg hc] at hf
      have := ih k hk hf
      omega
theorem xb_bndC {M : Nat} (hok : mx_ok rl R) (hR : R ≤ 24) (hl : ∀ k, k < 4 → lf k < mx_far → lf k ≤ M) (hr : ∀ k, k < 4 → rt k < mx_far → rt k ≤ M) (t : Nat) : ∀ k, k < 4 → (mp_C rl R o lf rt t).1 k < mx_far → (mp_C rl R o lf rt t).1 k ≤ 2 * M + 9 + 216 * (t + 1) := by
  induction t with
  | zero =>
    intro k hk hf
    have := xb_bnd (s0 := mp_s0) (P := mp_po rl o) (B := 2 * M + 9) hok hl hr (fun k _ h => absurd h (Nat.lt_irrefl _)) (Nat.le_refl _) R (Nat.le_refl R) k hk hf
    show (mp_sw rl o lf rt (mp_po rl o) mp_s0 R).1 k ≤ _
    omega
  | succ t ih =>
    intro k hk hf
    have := xb_bnd (s0 := mp_C rl R o lf rt t) (P := mp_po rl 8) (B := 2 * M + 9 + 216 * (t + 1)) hok hl hr ih (by omega) R (Nat.le_refl R) k hk hf
    show (mp_sw rl o lf rt (mp_po rl 8) (mp_C rl R o lf rt t) R).1 k ≤ _
    omega
end XB
