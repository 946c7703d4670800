/-! The code: instructions are put behind one another. (how many, rule, node, op, number, sources, last use); 1000 stands for 'no source'. -/
abbrev cd_T : Type := Nat × (Nat → Nat) × (Nat → Nat) × (Nat → Nat) × (Nat → Int32) × (Nat → Nat) × (Nat → Nat) × (Nat → Nat)
def cd_un (un : Nat → Nat) (n a : Nat) : Nat → Nat := if a < 1000 then va_up un a n else un
def cd_ap (s : cd_T) (r nd o : Nat) (nu : Int32) (a b : Nat) : cd_T :=
  (s.1 + 1, va_up s.2.1 s.1 r, va_up s.2.2.1 s.1 nd, va_up s.2.2.2.1 s.1 o, upd s.2.2.2.2.1 s.1 nu, va_up s.2.2.2.2.2.1 s.1 a, va_up s.2.2.2.2.2.2.1 s.1 b, cd_un (cd_un (va_up s.2.2.2.2.2.2.2 s.1 s.1) s.1 a) s.1 b)
def cd_0 : cd_T := (0, fun _ => 0, fun _ => 0, fun _ => 0, fun _ => 0, fun _ => 0, fun _ => 0, fun _ => 0)
/-- the chain rules, the first of the list first -/
def cd_ch (nd : Nat) : List Nat → cd_T → cd_T
  | [], s => s
  | r :: L, s => cd_ch nd L (cd_ap s r nd 8 0 (s.1 - 1) 1000)
def cd_ok (s : cd_T) : Prop := ∀ i, i < s.1 → i ≤ s.2.2.2.2.2.2.2 i ∧ s.2.2.2.2.2.2.2 i < s.1 ∧ (s.2.2.2.2.2.1 i < 1000 → s.2.2.2.2.2.1 i < i ∧ i ≤ s.2.2.2.2.2.2.2 (s.2.2.2.2.2.1 i)) ∧ (s.2.2.2.2.2.2.1 i < 1000 → s.2.2.2.2.2.2.1 i < i ∧ i ≤ s.2.2.2.2.2.2.2 (s.2.2.2.2.2.2.1 i))
section CD
theorem cd_un_le {un : Nat → Nat} {n a j : Nat} (h : un j ≤ n) : un j ≤ cd_un un n a j ∧ cd_un un n a j ≤ n := by
  rw [cd_un]
  split
  · by_cases e : j = a
    · rw [e, mp_up_s]
      rw [e] at h
      omega
    · rw [mp_up_n e]
      omega
  · omega
theorem cd_un_at {un : Nat → Nat} {n a : Nat} (h : a < 1000) : cd_un un n a a = n := by
  rw [cd_un, if_pos h, mp_up_s]
theorem cd_ok_ap {s : cd_T} {r nd o a b : Nat} {nu : Int32} (h : cd_ok s) (ha : a < 1000 → a < s.1) (hb : b < 1000 → b < s.1) : cd_ok (cd_ap s r nd o nu a b) := by
  obtain ⟨n, cr, cn, co, cm, sa, sb, un⟩ := s
  have h : ∀ i, i < n → i ≤ un i ∧ un i < n ∧ (sa i < 1000 → sa i < i ∧ i ≤ un (sa i)) ∧ (sb i < 1000 → sb i < i ∧ i ≤ un (sb i)) := h
  have ha : a < 1000 → a < n := ha
  have hb : b < 1000 → b < n := hb
  intro i hi
  have hi : i < n + 1 := hi
  show i ≤ cd_un (cd_un (va_up un n n) n a) n b i ∧ cd_un (cd_un (va_up un n n) n a) n b i < n + 1 ∧ (va_up sa n a i < 1000 → va_up sa n a i < i ∧ i ≤ cd_un (cd_un (va_up un n n) n a) n b (va_up sa n a i)) ∧ (va_up sb n b i < 1000 → va_up sb n b i < i ∧ i ≤ cd_un (cd_un (va_up un n n) n a) n b (va_up sb n b i))
  have v : ∀ j, j < n + 1 → va_up un n n j ≤ cd_un (cd_un (va_up un n n) n a) n b j ∧ cd_un (cd_un (va_up un n n) n a) n b j ≤ n := fun j hj => by
    have h0 : va_up un n n j ≤ n := by
      by_cases e : j = n
      · rw [e, mp_up_s]; exact Nat.le_refl _
      · rw [mp_up_n e]
        exact Nat.le_of_lt (h j (by omega)).2.1
    have h1 := cd_un_le (a := a) h0
    have h2 := cd_un_le (a := b) h1.2
    omega
  have vi := v i hi
  by_cases e : i = n
  · subst e
    rw [mp_up_s] at vi
    rw [mp_up_s, mp_up_s]
    refine ⟨by omega, by omega, fun h1 => ⟨ha h1, ?_⟩, fun h1 => ⟨hb h1, ?_⟩⟩
    · have hk := cd_un_at (un := va_up un i i) (n := i) h1
      have := cd_un_le (un := cd_un (va_up un i i) i a) (n := i) (a := b) (j := a) (by omega)
      omega
    · rw [cd_un_at h1]
      exact Nat.le_refl _
  · rw [mp_up_n e] at vi
    rw [mp_up_n e, mp_up_n e]
    obtain ⟨x1, x2, x3, x4⟩ := h i (by omega)
    refine ⟨by omega, by omega, fun h1 => ?_, fun h1 => ?_⟩
    · have := x3 h1
      have w := v (sa i) (by omega)
      rw [mp_up_n (show sa i ≠ n by omega)] at w
      omega
    · have := x4 h1
      have w := v (sb i) (by omega)
      rw [mp_up_n (show sb i ≠ n by omega)] at w
      omega
theorem cd_ok_0 : cd_ok cd_0 := fun i hi => absurd hi (Nat.not_lt_zero _)
end CD
