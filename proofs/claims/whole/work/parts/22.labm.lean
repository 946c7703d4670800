/-! Labels: costs as the class keeps them (-1: no cover), choices (-3: none). -/
def vw_c (x : Nat) : Int64 := if x < mx_far then lN x else -1
def vw_p (x : Nat) : Int32 := if x < 24 then nI x else -3
theorem vw_far : mx_far = 1125899906842624 := rfl
theorem vw_c_in {x : Nat} (h : x < mx_far) : vw_c x = lN x := if_pos h
theorem vw_c_out {x : Nat} (h : ¬ x < mx_far) : vw_c x = -1 := if_neg h
theorem vw_ne {x : Nat} (h : x < mx_far) : lN x ≠ -1 := fun e => by
  have hf := vw_far
  have h1 : (lN x).toInt = (x : Int) := pk_lT (by omega)
  rw [e] at h1
  have h2 : (-1 : Int64).toInt = -1 := rfl
  omega
theorem vw_c_m1 {x : Nat} (h : vw_c x = -1) : ¬ x < mx_far := fun hx => vw_ne hx ((vw_c_in hx).symm.trans h)
theorem vw_c_n1 {x : Nat} (h : ¬ vw_c x = -1) : x < mx_far := by
  by_cases hx : x < mx_far
  · exact hx
  · exact absurd (vw_c_out hx) h
theorem vw_c_inj {x y : Nat} (hx : x ≤ mx_far) (hy : y ≤ mx_far) (h : vw_c x = vw_c y) : x = y := by
  have hf := vw_far
  by_cases h1 : x < mx_far
  · by_cases h2 : y < mx_far
    · rw [vw_c_in h1, vw_c_in h2] at h
      exact (pk_lEQ (by omega) (by omega)).mp h
    · rw [vw_c_in h1, vw_c_out h2] at h
      exact absurd h (vw_ne h1)
  · by_cases h2 : y < mx_far
    · rw [vw_c_out h1, vw_c_in h2] at h
      exact absurd h.symm (vw_ne h2)
    · omega
theorem vw_p_in {x : Nat} (h : x < 24) : vw_p x = nI x := if_pos h
theorem vw_p_inj {x y : Nat} (hx : x ≤ 24) (hy : y ≤ 24) (h : vw_p x = vw_p y) : x = y := by
  have hn : ∀ z, z < 24 → nI z ≠ -3 := fun z hz e => by
    have h1 : (nI z).toInt = (z : Int) := nI_toInt (by omega)
    rw [e] at h1
    have h2 : (-3 : Int32).toInt = -3 := rfl
    omega
  by_cases h1 : x < 24
  · by_cases h2 : y < 24
    · rw [vw_p_in h1, vw_p_in h2] at h
      exact (nI_eq (by omega) (by omega)).mp h
    · rw [vw_p_in h1, vw_p, if_neg h2] at h
      exact absurd h (hn x h1)
  · by_cases h2 : y < 24
    · rw [vw_p, if_neg h1, vw_p_in h2] at h
      exact absurd h.symm (hn y h2)
    · omega
def xl_ok (S : zz_S) (j : Nat) (g q : Nat → Nat) : Prop := ∀ k, k < 4 → S.2 (42 + 3 * j + 1) k = vw_c (g k) ∧ S.1 (42 + 3 * j + 2) k = vw_p (q k)
/-- the cells of label j's rows -/
abbrev xl_X (j : Nat) : Nat → Prop := fun c => c = 42 + 3 * j + 1 ∨ c = 42 + 3 * j + 2
def xl_set (S : zz_S) (j k : Nat) (v : Int64) (r : Int32) : zz_S := zz_u (zz_v S (42 + 3 * j + 1) k v) (42 + 3 * j + 2) k r
theorem xl_set1 {S : zz_S} {j k : Nat} {v : Int64} {r : Int32} : (xl_set S j k v r).2 (42 + 3 * j + 1) = vp_updL (S.2 (42 + 3 * j + 1)) k v := zz_v2s S _ k v
theorem xl_set2 {S : zz_S} {j k : Nat} {v : Int64} {r : Int32} : (xl_set S j k v r).1 (42 + 3 * j + 2) = upd (S.1 (42 + 3 * j + 2)) k r := zz_u1s _ _ k r
theorem xl_set_off {S : zz_S} {j k : Nat} {v : Int64} {r : Int32} : zz_off (xl_X j) S (xl_set S j k v r) := fun c hc => by
  have h1 : c ≠ 42 + 3 * j + 1 := fun h => hc (Or.inl h)
  have h2 : c ≠ 42 + 3 * j + 2 := fun h => hc (Or.inr h)
  exact ⟨zz_u1 _ _ k r c h2, zz_v2 S _ k v c h1⟩
theorem zz_off_rf {X : Nat → Prop} {S : zz_S} : zz_off X S S := fun _ _ => ⟨rfl, rfl⟩
theorem zz_off_tr {X : Nat → Prop} {S S1 S2 : zz_S} (h : zz_off X S S1) (h2 : zz_off X S1 S2) : zz_off X S S2 := fun c hc => ⟨(h2 c hc).1.trans (h c hc).1, (h2 c hc).2.trans (h c hc).2⟩
theorem zz_off_mono {X Y : Nat → Prop} {S S1 : zz_S} (h : zz_off X S S1) (hXY : ∀ c, X c → Y c) : zz_off Y S S1 := fun c hc => h c (fun x => hc (hXY c x))
theorem xl_ok_set {S : zz_S} {j k v r : Nat} {g q : Nat → Nat} (h : xl_ok S j g q) (hv : v < mx_far) (hr : r < 24) : xl_ok (xl_set S j k (lN v) (nI r)) j (va_up g k v) (va_up q k r) := fun i hi => by
  rw [xl_set1, xl_set2]
  by_cases e : i = k
  · rw [e, pk_uLs, pk_us, mp_up_s, mp_up_s, vw_c_in hv, vw_p_in hr]
    exact ⟨rfl, rfl⟩
  · rw [pk_uLn e, pk_un e, mp_up_n e, mp_up_n e]
    exact h i hi
/-- the least of the first k -/
def xl_lo (g : Nat → Nat) : Nat → Nat
  | 0 => mx_far
  | k + 1 => min (xl_lo g k) (g k)
theorem xl_lo4 {g : Nat → Nat} (h : ∀ k, k < 4 → g k ≤ mx_far) : xl_lo g 4 = ns_low g := by
  have h0 := h 0 (by omega)
  show min (min (min (min mx_far (g 0)) (g 1)) (g 2)) (g 3) = min (min (g 0) (g 1)) (min (g 2) (g 3))
  omega
theorem xl_lo_le (g : Nat → Nat) : ∀ k, xl_lo g k ≤ mx_far
  | 0 => Nat.le_refl _
  | k + 1 => by
    have := xl_lo_le g k
    show min (xl_lo g k) (g k) ≤ mx_far
    omega
