/-! Which kind each node is covered as, and the code that is written for it. -/
def fo_fn (rl : mx_R) (q : Nat → Nat) : Nat → Nat → List Nat
  | 0, _ => []
  | n + 1, k => if (rl (q k)).2.1 = 8 then q k :: fo_fn rl q n (rl (q k)).2.2.1 else [q k]
theorem fo_fn_eq {rl : mx_R} {q : Nat → Nat} : ∀ (L : List Nat) (n k : Nat), fo_path rl q k L → L.length ≤ n → fo_fn rl q n k = L
  | [], _, _, h, _ => absurd h id
  | r :: L, 0, _, _, h => absurd h (by simp)
  | [r], n + 1, k, h, _ => by
    obtain ⟨rfl, h8⟩ := h
    rw [fo_fn, if_neg h8]
  | r :: r2 :: L, n + 1, k, h, hl => by
    obtain ⟨rfl, h8, hp⟩ := fo_cons h
    rw [fo_fn, if_pos h8, fo_fn_eq (r2 :: L) n _ hp (by simp at hl ⊢; omega)]
def wr_path (rl : mx_R) (qs : Nat → Nat → Nat) (W : Nat → Nat) (i : Nat) : List Nat := fo_fn rl (qs i) 4 (W i)
def wr_last (rl : mx_R) (qs : Nat → Nat → Nat) (W : Nat → Nat) (i : Nat) : Nat := (wr_path rl qs W i).getD ((wr_path rl qs W i).length - 1) 0
/-- the kinds that a cover of the top tree wants of its nodes -/
def wk_node (rl : mx_R) (op sz : Nat → Nat) (gs qs : Nat → Nat → Nat) (W : Nat → Nat) (i : Nat) : Prop := W i < 4 ∧ gs i (W i) < mx_far ∧ (0 < zz_kd (op i) → W (tr_fa op sz i) = (rl (wr_last rl qs W i)).2.2.1) ∧ (zz_kd (op i) = 2 → W (i - 1) = (rl (wr_last rl qs W i)).2.2.2.1)
def wk_ok (rl : mx_R) (op sz : Nat → Nat) (gs qs : Nat → Nat → Nat) (W : Nat → Nat) (fm m : Nat) : Prop := W (m - 1) = 0 ∧ ∀ i, fm ≤ i → i < m → wk_node rl op sz gs qs W i
section WR
variable {rl : mx_R} {R : Nat} {op sz : Nat → Nat} {gs qs : Nat → Nat → Nat} {W W' : Nat → Nat} {m fm i p c : Nat}
/-- a node's path: at most four rules, the last one its operator's over kids with covers -/
theorem wr_ok (hok : mx_ok rl R) (hl : xq_lab rl R op sz gs qs i) (hW : W i < 4) (hf : gs i (W i) < mx_far) : fo_path rl (qs i) (W i) (wr_path rl qs W i) ∧ (wr_path rl qs W i).length ≤ 4 ∧ 1 ≤ (wr_path rl qs W i).length ∧ wr_last rl qs W i < R ∧ (rl (wr_last rl qs W i)).2.1 = op i ∧ (0 < zz_kd (op i) → gs (tr_fa op sz i) (rl (wr_last rl qs W i)).2.2.1 < mx_far) ∧ (1 < zz_kd (op i) → gs (i - 1) (rl (wr_last rl qs W i)).2.2.2.1 < mx_far) := by
  obtain ⟨L, h1, h2⟩ := fo_four hok hl.1 hW hf
  have e : wr_path rl qs W i = L := fo_fn_eq L 4 _ h1 h2
  obtain ⟨r, hr1, hr2, hr3, hr4, hr5⟩ := fo_last hok hl.1 L _ hW hf h1
  have hne : L ≠ [] := fun h => by rw [h] at h1; exact h1
  have hlen : 1 ≤ L.length := by
    cases L with
    | nil => exact absurd rfl hne
    | cons a b => simp
  have el : wr_last rl qs W i = r := by
    rw [wr_last, e]
    rw [List.getLast?_eq_getElem?] at hr1
    rw [List.getD, hr1]
    rfl
  rw [e, el]
  exact ⟨h1, h2, hlen, hr2, hr3, hr4, hr5⟩
theorem wr_cW (h : W i = W' i) : wr_path rl qs W i = wr_path rl qs W' i ∧ wr_last rl qs W i = wr_last rl qs W' i := by
  have e : wr_path rl qs W i = wr_path rl qs W' i := by rw [wr_path, wr_path, h]
  exact ⟨e, by rw [wr_last, wr_last, e]⟩
theorem tr_cut (ht : tr_ok op sz m) {b : Nat} (hb : b ≤ m) : tr_ok op sz b := fun i hi => ht i (by omega)
/-- a node has one parent -/
theorem tr_par (ht : tr_ok op sz m) (hpi : p < i) (hi : i < m) (hp0 : 0 < zz_kd (op p)) (hi0 : 0 < zz_kd (op i)) (hcp : c = p - 1 ∨ c = tr_fa op sz p) (hci : c = i - 1 ∨ c = tr_fa op sz i) : False := by
  obtain ⟨a1, a2, a3, a4, a5, a6⟩ := ht p (by omega)
  obtain ⟨b1, b2, b3, b4, b5, b6⟩ := ht i hi
  have hlow : p + 1 ≤ c + sz p ∧ c < p := by
    rcases tr_kd (op p) with h | h | h
    · omega
    · have := a5 h
      have := (ht (p - 1) (by omega)).2.1
      rw [tr_fa, if_neg (by omega)] at hcp
      omega
    · have := a6 h
      have := (ht (p - 1) (by omega)).2.1
      have := (ht (p - 1 - sz (p - 1)) (by omega)).2.1
      rw [tr_fa, if_pos h] at hcp
      omega
  rcases tr_kd (op i) with h | h | h
  · omega
  · rw [tr_fa, if_neg (by omega)] at hci
    omega
  · have h6 := b6 h
    rw [tr_fa, if_pos h] at hci
    have hc : c = i - 1 - sz (i - 1) := by omega
    have := (tr_in (fm := c + 1) (m := i) (tr_cut ht (by omega)) (by omega) (by omega) (show c + 1 ≤ p by omega) hpi).1
    omega
/-- the kinds that are wanted are settled from the root down -/
theorem wk_uniq (hok : mx_ok rl R) (ht : tr_ok op sz m) (hm : 0 < m) (hf : fm + sz (m - 1) = m) {gs' qs' : Nat → Nat → Nat} (hq : ∀ i, fm ≤ i → i < m → ∀ k, k < 4 → qs i k = qs' i k) (hl : ∀ i, fm ≤ i → i < m → xq_lab rl R op sz gs qs i) (h : wk_ok rl op sz gs qs W fm m) (h' : wk_ok rl op sz gs' qs' W' fm m) (hl' : ∀ i, fm ≤ i → i < m → xq_lab rl R op sz gs' qs' i) : ∀ d x, x + d = m → fm ≤ x → (∃ L, tr_fr sz (fun p => W p = W' p) fm x L) ∧ ∀ i, x ≤ i → i < m → W i = W' i ∧ wr_path rl qs W i = wr_path rl qs' W' i := by
  intro d
  induction d with
  | zero =>
    intro x hx hfx
    have e : x = m := by omega
    subst e
    refine ⟨⟨[x - 1], by omega, by omega, by show W (x - 1) = W' (x - 1); rw [h.1, h'.1], by show x - sz (x - 1) = fm; omega⟩, fun i h1 h2 => absurd h2 (by omega)⟩
  | succ d ih =>
    intro x hx hfx
    obtain ⟨⟨L, hL⟩, hall⟩ := ih (x + 1) (by omega) (by omega)
    have hk := tr_kid ht (show x < m by omega) hL hfx
    have e : W x = W' x := hk.1
    obtain ⟨w1, w2, w3, w4⟩ := h.2 x hfx (by omega)
    obtain ⟨w1', w2', w3', w4'⟩ := h'.2 x hfx (by omega)
    obtain ⟨r1, r2, r3, r4, r5, r6, r7⟩ := wr_ok hok (hl x hfx (by omega)) w1 w2
    obtain ⟨s1, s2, s3, s4, s5, s6, s7⟩ := wr_ok hok (hl' x hfx (by omega)) w1' w2'
    have hpe : ∀ (L : List Nat) (k : Nat), k < 4 → gs x k < mx_far → fo_path rl (qs x) k L → fo_path rl (qs' x) k L := by
      intro L
      induction L with
      | nil => exact fun k _ _ hh => absurd hh id
      | cons r L ihL =>
        intro k hk4 hkf hh
        cases L with
        | nil => exact ⟨by rw [← hq x hfx (by omega) k hk4]; exact hh.1, hh.2⟩
        | cons r2 L =>
          obtain ⟨e1, e2, e3⟩ := fo_cons hh
          obtain ⟨y1, y2, y3, y4⟩ := ((hl x hfx (by omega)).1.2 k hk4).1 hkf
          rw [← e1] at y1 y3
          rw [mx_th_ch e2] at y3
          exact ⟨by rw [← hq x hfx (by omega) k hk4]; exact e1, e2, ihL _ (hok r y1).2.2.1 (by omega) e3⟩
    have epath : wr_path rl qs W x = wr_path rl qs' W' x := by
      have h9 := hpe _ _ w1 w2 r1
      rw [e] at h9
      exact fo_uniq _ _ _ h9 s1
    have elast : wr_last rl qs W x = wr_last rl qs' W' x := by rw [wr_last, wr_last, epath]
    refine ⟨?_, fun i h1 h2 => ?_⟩
    · refine tr_fr_step ht (by omega) hL hfx (fun h1 => ?_) (fun h1 => ?_) (fun i _ _ hh => hh)
      · have a := w3 (by omega)
        have b := w3' (by omega)
        rw [tr_fa, if_neg (by omega)] at a b
        rw [a, b, elast]
      · exact ⟨by rw [w4 h1, w4' h1, elast], by rw [w3 (by omega), w3' (by omega), elast]⟩
    · by_cases ei : i = x
      · subst ei
        exact ⟨e, epath⟩
      · exact hall i (by omega) h2
end WR
/-- the code of the first d nodes of the tree from fm on, and the latest instruction of each node -/
def wr_st (rl : mx_R) (op : Nat → Nat) (nu : Nat → Int32) (sz : Nat → Nat) (qs : Nat → Nat → Nat) (W : Nat → Nat) (fm : Nat) : Nat → cd_T × (Nat → Nat)
  | 0 => (cd_0, fun _ => 0)
  | d + 1 => (cd_ch d ((wr_path rl qs W (fm + d)).dropLast.reverse) (cd_ap (wr_st rl op nu sz qs W fm d).1 (wr_last rl qs W (fm + d)) d (op (fm + d)) (nu (fm + d)) (if 0 < zz_kd (op (fm + d)) then (wr_st rl op nu sz qs W fm d).2 (tr_fa op sz (fm + d)) else 1000) (if zz_kd (op (fm + d)) = 2 then (wr_st rl op nu sz qs W fm d).2 (fm + d - 1) else 1000)),
    va_up (wr_st rl op nu sz qs W fm d).2 (fm + d) ((cd_ch d ((wr_path rl qs W (fm + d)).dropLast.reverse) (cd_ap (wr_st rl op nu sz qs W fm d).1 (wr_last rl qs W (fm + d)) d (op (fm + d)) (nu (fm + d)) (if 0 < zz_kd (op (fm + d)) then (wr_st rl op nu sz qs W fm d).2 (tr_fa op sz (fm + d)) else 1000) (if zz_kd (op (fm + d)) = 2 then (wr_st rl op nu sz qs W fm d).2 (fm + d - 1) else 1000))).1 - 1))
theorem cd_ch_app (nd : Nat) : ∀ (A B : List Nat) (s : cd_T), cd_ch nd (A ++ B) s = cd_ch nd B (cd_ch nd A s)
  | [], _, _ => rfl
  | r :: A, B, s => cd_ch_app nd A B (cd_ap s r nd 8 0 (s.1 - 1) 1000)
theorem cd_ch_len (nd : Nat) : ∀ (A : List Nat) (s : cd_T), (cd_ch nd A s).1 = s.1 + A.length
  | [], _ => rfl
  | r :: A, s => by
    show (cd_ch nd A (cd_ap s r nd 8 0 (s.1 - 1) 1000)).1 = _
    rw [cd_ch_len nd A]
    show s.1 + 1 + A.length = s.1 + (A.length + 1)
    omega
theorem cd_ch_ok (nd : Nat) : ∀ (A : List Nat) (s : cd_T), 0 < s.1 → cd_ok s → cd_ok (cd_ch nd A s)
  | [], _, _, h => h
  | r :: A, s, h0, h => cd_ch_ok nd A _ (Nat.succ_pos _) (cd_ok_ap h (fun _ => by omega) (fun h => absurd h (by omega)))
section WS
variable {rl : mx_R} {R : Nat} {op sz : Nat → Nat} {nu : Nat → Int32} {gs qs : Nat → Nat → Nat} {W : Nat → Nat} {m fm : Nat}
/-- how long the code is, that its sources are right, where the latest ones are -/
theorem wr_inv (hok : mx_ok rl R) (ht : tr_ok op sz m) (hm : 0 < m) (hf : fm + sz (m - 1) = m) (hl : ∀ i, fm ≤ i → i < m → xq_lab rl R op sz gs qs i) (hw : wk_ok rl op sz gs qs W fm m) : ∀ d, fm + d ≤ m → d ≤ (wr_st rl op nu sz qs W fm d).1.1 ∧ (wr_st rl op nu sz qs W fm d).1.1 ≤ 4 * d ∧ cd_ok (wr_st rl op nu sz qs W fm d).1 ∧ ∀ c, fm ≤ c → c < fm + d → (wr_st rl op nu sz qs W fm d).2 c < (wr_st rl op nu sz qs W fm d).1.1 := by
  intro d
  induction d with
  | zero => exact fun _ => ⟨Nat.le_refl _, Nat.le_refl _, cd_ok_0, fun c h1 h2 => absurd h2 (by omega)⟩
  | succ d ih =>
    intro hd
    obtain ⟨i1, i2, i3, i4⟩ := ih (by omega)
    obtain ⟨w1, w2, w3, w4⟩ := hw.2 (fm + d) (by omega) (by omega)
    obtain ⟨r1, r2, r3, r4, r5, r6, r7⟩ := wr_ok hok (hl _ (by omega) (by omega)) w1 w2
    have hin := (tr_in ht hm hf (show fm ≤ fm + d by omega) (show fm + d < m by omega)).2
    rw [wr_st]
    generalize wr_st rl op nu sz qs W fm d = s at *
    have hA : ∀ a b, (a < 1000 → a < s.1.1) → (b < 1000 → b < s.1.1) → cd_ok (cd_ap s.1 (wr_last rl qs W (fm + d)) d (op (fm + d)) (nu (fm + d)) a b) := fun a b ha hb => cd_ok_ap i3 ha hb
    have ha : (if 0 < zz_kd (op (fm + d)) then s.2 (tr_fa op sz (fm + d)) else 1000) < 1000 → (if 0 < zz_kd (op (fm + d)) then s.2 (tr_fa op sz (fm + d)) else 1000) < s.1.1 := by
      split
      · rename_i hk
        exact fun _ => i4 _ (hin hk).2.2.1 (by have := (hin hk).2.2.2; omega)
      · intro h; omega
    have hb : (if zz_kd (op (fm + d)) = 2 then s.2 (fm + d - 1) else 1000) < 1000 → (if zz_kd (op (fm + d)) = 2 then s.2 (fm + d - 1) else 1000) < s.1.1 := by
      split
      · rename_i hk
        exact fun _ => i4 _ (hin (by omega)).1 (by have := (hin (by omega)).2.1; omega)
      · intro h; omega
    have hc := hA _ _ ha hb
    generalize (if 0 < zz_kd (op (fm + d)) then s.2 (tr_fa op sz (fm + d)) else 1000) = a at *
    generalize (if zz_kd (op (fm + d)) = 2 then s.2 (fm + d - 1) else 1000) = b at *
    have hlen := cd_ch_len d ((wr_path rl qs W (fm + d)).dropLast.reverse) (cd_ap s.1 (wr_last rl qs W (fm + d)) d (op (fm + d)) (nu (fm + d)) a b)
    have h1 : (cd_ap s.1 (wr_last rl qs W (fm + d)) d (op (fm + d)) (nu (fm + d)) a b).1 = s.1.1 + 1 := rfl
    rw [h1, List.length_reverse, List.length_dropLast] at hlen
    refine ⟨?_, ?_, ?_, fun c hc1 hc2 => ?_⟩
    · show d + 1 ≤ (cd_ch d _ _).1
      rw [hlen]; omega
    · show (cd_ch d _ _).1 ≤ 4 * (d + 1)
      rw [hlen]; omega
    · exact cd_ch_ok d _ _ (Nat.succ_pos _) hc
    · show va_up s.2 (fm + d) _ c < (cd_ch d _ _).1
      rw [hlen]
      by_cases e : c = fm + d
      · rw [e, mp_up_s]
        omega
      · rw [mp_up_n e]
        have := i4 c hc1 (by omega)
        omega
end WS
theorem wr_drop {L t : List Nat} {n r : Nat} (h : L.drop n = r :: t) : L.getD n 0 = r ∧ L.drop (n + 1) = t := by
  have h1 : (L.drop n)[0]? = some r := by rw [h]; rfl
  have h2 : (L.drop n).drop 1 = t := by rw [h]; rfl
  rw [List.getElem?_drop, Nat.add_zero] at h1
  rw [List.drop_drop] at h2
  refine ⟨by rw [List.getD, h1]; rfl, ?_⟩
  first | exact h2 | (rw [Nat.add_comm]; exact h2)
