/-! The turns over the rules of one operator, rule by rule, as the class's loops go. -/
def xb_s (rl : mx_R) (R o : Nat) (lf rt : Nat → Nat) (sz : Nat → Nat) (nb : Nat → Nat → Nat) (o' : Nat) (s0 : (Nat → Nat) × (Nat → Nat)) (i : Nat) : (Nat → Nat) × (Nat → Nat) := mp_sw rl o lf rt (mp_po rl o') s0 (xb_bd R sz nb o' i)
section XT
variable {S : zz_S} {rl : mx_R} {R o o' i : Nat} {sz lf rt : Nat → Nat} {nb : Nat → Nat → Nat} {s0 : (Nat → Nat) × (Nat → Nat)}
theorem xb_s0 (h : xb_ok S rl R sz nb) (ho : o' < 9) : xb_s rl R o lf rt sz nb o' s0 0 = s0 := xb_first h ho
theorem xb_sE (hi : ¬ i < sz o') : xb_s rl R o lf rt sz nb o' s0 i = mp_sw rl o lf rt (mp_po rl o') s0 R := by rw [xb_s, xb_last hi]
theorem xb_s_no (h : xb_ok S rl R sz nb) (ho : o' < 9) (hi : i < sz o') (hc : ¬ mp_of rl o lf rt (xb_s rl R o lf rt sz nb o' s0 i) (nb o' i)) : xb_s rl R o lf rt sz nb o' s0 (i + 1) = xb_s rl R o lf rt sz nb o' s0 i := by
  rw [xb_s, xb_at hi] at hc
  rw [xb_s, xb_s, xb_next h ho hi, xb_at hi, mp_sw, if_neg (fun x => hc x.2)]
theorem xb_s_yes (h : xb_ok S rl R sz nb) (ho : o' < 9) (hi : i < sz o') (hc : mp_of rl o lf rt (xb_s rl R o lf rt sz nb o' s0 i) (nb o' i)) : xb_s rl R o lf rt sz nb o' s0 (i + 1) = mp_st rl o lf rt (xb_s rl R o lf rt sz nb o' s0 i) (nb o' i) := by
  have hp : mp_po rl o' (nb o' i) = true := decide_eq_true ((h.2.2.2.2 o' ho).2.2.1 i hi).2.2.1
  rw [xb_s, xb_at hi] at hc
  rw [xb_s, xb_s, xb_next h ho hi, xb_at hi, mp_sw, if_pos ⟨hp, hc⟩]
theorem xb_sI (h : xb_ok S rl R sz nb) (hI : mp_I rl R o lf rt s0) (ho : o' < 9) (i : Nat) : mp_I rl R o lf rt (xb_s rl R o lf rt sz nb o' s0 i) := by
  refine mp_I_sw h.2.2.1 hI _ ?_
  unfold xb_bd
  split
  · rename_i hi
    exact Nat.le_of_lt ((h.2.2.2.2 o' ho).2.2.1 i hi).2.1
  · exact Nat.le_refl _
theorem xb_sB (h : xb_ok S rl R sz nb) {M B : Nat} (hl : ∀ k, k < 4 → lf k < mx_far → lf k ≤ M) (hr : ∀ k, k < 4 → rt k < mx_far → rt k ≤ M) (h0 : ∀ k, k < 4 → s0.1 k < mx_far → s0.1 k ≤ B) (hB : 2 * M + 9 ≤ B) (ho : o' < 9) (i k : Nat) (hk : k < 4) (hf : (xb_s rl R o lf rt sz nb o' s0 i).1 k < mx_far) : (xb_s rl R o lf rt sz nb o' s0 i).1 k ≤ B + 216 := by
  have hb : xb_bd R sz nb o' i ≤ R := by
    unfold xb_bd
    split
    · rename_i hi
      exact Nat.le_of_lt ((h.2.2.2.2 o' ho).2.2.1 i hi).2.1
    · exact Nat.le_refl _
  have := xb_bnd (P := mp_po rl o') h.2.2.1 hl hr h0 hB _ hb k hk hf
  have := h.2.1
  show (mp_sw rl o lf rt (mp_po rl o') s0 (xb_bd R sz nb o' i)).1 k ≤ _
  omega
/-- what an offer needs to know of the label -/
theorem xb_lab {j : Nat} {s : (Nat → Nat) × (Nat → Nat)} (hR : R ≤ 24) (hI : mp_I rl R o lf rt s) (hx : xl_ok S j s.1 s.2) {k : Nat} (hk : k < 4) : S.2 (42 + 3 * j + 1) k = vw_c (s.1 k) ∧ (s.1 k < mx_far → S.1 (42 + 3 * j + 2) k = nI (s.2 k) ∧ s.2 k < 24) := by
  refine ⟨(hx k hk).1, fun hf => ?_⟩
  have h1 := ((hI k hk).2.1 hf).1
  refine ⟨?_, by omega⟩
  rw [(hx k hk).2, vw_p_in (by omega)]
theorem xb_I0 (rl : mx_R) (R o : Nat) (lf rt : Nat → Nat) : mp_I rl R o lf rt mp_s0 := fun k _ => ⟨Nat.le_refl _, fun h => absurd h (Nat.lt_irrefl _), fun _ => rfl⟩
end XT
