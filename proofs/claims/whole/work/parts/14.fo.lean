/-! The rules of a node's cover: from the kind that is wanted along the choices down to the operator's rule. -/
def fo_path (rl : mx_R) (q : Nat → Nat) : Nat → List Nat → Prop
  | _, [] => False
  | k, [r] => r = q k ∧ (rl r).2.1 ≠ 8
  | k, r :: L => r = q k ∧ (rl r).2.1 = 8 ∧ fo_path rl q (rl r).2.2.1 L
section FO
variable {rl : mx_R} {R o : Nat} {lf rt g q : Nat → Nat}
theorem fo_cons {k r r2 : Nat} {L : List Nat} (h : fo_path rl q k (r :: r2 :: L)) : r = q k ∧ (rl r).2.1 = 8 ∧ fo_path rl q (rl r).2.2.1 (r2 :: L) := h
theorem fo_ex (hok : mx_ok rl R) (h : mx_Lab rl R o lf rt g q) : ∀ n k, k < 4 → g k < mx_far → ns_rk g (g k) ≤ n → ∃ L, fo_path rl q k L ∧ L.length ≤ n + 1 := by
  intro n
  induction n with
  | zero =>
    intro k hk hf hn
    obtain ⟨x1, x2, x3, x4⟩ := (h.2 k hk).1 hf
    by_cases h8 : (rl (q k)).2.1 = 8
    · exfalso
      rw [mx_th_ch h8] at x3
      have hb := hok _ x1
      have hp := hb.2.2.2.2.2 h8
      have := ns_rk_lt (g := g) (v := g (rl (q k)).2.2.1) (w := g k) hb.2.2.1 rfl (by omega)
      omega
    · exact ⟨[q k], ⟨rfl, h8⟩, by simp⟩
  | succ n ih =>
    intro k hk hf hn
    obtain ⟨x1, x2, x3, x4⟩ := (h.2 k hk).1 hf
    by_cases h8 : (rl (q k)).2.1 = 8
    · rw [mx_th_ch h8] at x3
      have hb := hok _ x1
      have hp := hb.2.2.2.2.2 h8
      have := ns_rk_lt (g := g) (v := g (rl (q k)).2.2.1) (w := g k) hb.2.2.1 rfl (by omega)
      obtain ⟨L, hL, hl⟩ := ih _ hb.2.2.1 (by omega) (by omega)
      cases L with
      | nil => exact absurd hL id
      | cons r2 L => exact ⟨q k :: r2 :: L, ⟨rfl, h8, hL⟩, by simp at hl ⊢; omega⟩
    · exact ⟨[q k], ⟨rfl, h8⟩, by simp⟩
/-- a kind with a cover has a path of at most four rules -/
theorem fo_four (hok : mx_ok rl R) (h : mx_Lab rl R o lf rt g q) {k : Nat} (hk : k < 4) (hf : g k < mx_far) : ∃ L, fo_path rl q k L ∧ L.length ≤ 4 :=
  fo_ex hok h 3 k hk hf (ns_rk_le (g k) k hk rfl)
/-- its last rule is one of the operator's, over kids that have covers -/
theorem fo_last (hok : mx_ok rl R) (h : mx_Lab rl R o lf rt g q) : ∀ (L : List Nat) (k : Nat), k < 4 → g k < mx_far → fo_path rl q k L → ∃ r, L.getLast? = some r ∧ r < R ∧ (rl r).2.1 = o ∧ (0 < zz_kd o → lf (rl r).2.2.1 < mx_far) ∧ (1 < zz_kd o → rt (rl r).2.2.2.1 < mx_far)
  | [], _, _, _, hp => absurd hp id
  | [r], k, hk, hf, hp => by
    obtain ⟨rfl, h8⟩ := hp
    obtain ⟨x1, x2, x3, x4⟩ := (h.2 k hk).1 hf
    rw [mx_th, if_neg h8] at x3
    by_cases ho : (rl (q k)).2.1 = o
    · rw [if_pos ho] at x3
      refine ⟨q k, rfl, x1, ho, fun h => ?_, fun h => ?_⟩
      · rw [if_pos h] at x3; omega
      · rw [if_pos h] at x3; omega
    · rw [if_neg ho] at x3
      omega
  | r :: r2 :: L, k, hk, hf, hp => by
    obtain ⟨rfl, h8, hp⟩ := fo_cons hp
    obtain ⟨x1, x2, x3, x4⟩ := (h.2 k hk).1 hf
    rw [mx_th_ch h8] at x3
    have hb := hok _ x1
    obtain ⟨r', e, he⟩ := fo_last hok h (r2 :: L) (rl (q k)).2.2.1 hb.2.2.1 (by omega) hp
    exact ⟨r', by rw [List.getLast?_cons_cons]; exact e, he⟩
theorem fo_uniq : ∀ (L M : List Nat) (k : Nat), fo_path rl q k L → fo_path rl q k M → L = M
  | [], _, _, h, _ => absurd h id
  | _, [], _, _, h => absurd h id
  | [r], [r'], k, h, h' => by rw [h.1, h'.1]
  | [r], r' :: r2 :: M, k, h, h' => by
    obtain ⟨e, h8, _⟩ := fo_cons h'
    rw [e, ← h.1] at h8
    exact absurd h8 h.2
  | r :: r2 :: L, [r'], k, h, h' => by
    obtain ⟨e, h8, _⟩ := fo_cons h
    rw [e, ← h'.1] at h8
    exact absurd h8 h'.2
  | r :: r2 :: L, r' :: r2' :: M, k, h, h' => by
    obtain ⟨e, _, h1⟩ := fo_cons h
    obtain ⟨e', _, h1'⟩ := fo_cons h'
    rw [e'.trans e.symm] at h1'
    rw [fo_uniq (r2 :: L) (r2' :: M) _ h1 h1', e, e']
end FO
