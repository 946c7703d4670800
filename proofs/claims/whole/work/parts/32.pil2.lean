/-! Labels of the nodes, and the values of trees. -/
theorem tr_all {op sz : Nat → Nat} {m fm : Nat} (ht : tr_ok op sz m) (hm : 0 < m) (hf : fm + sz (m - 1) = m) : ∀ d x, x + d = m → fm ≤ x → ∃ L, tr_fr sz (fun _ => True) fm x L := by
  intro d
  induction d with
  | zero =>
    intro x hx hfx
    refine ⟨[m - 1], ?_⟩
    have : x = m := by omega
    subst this
    exact ⟨by omega, by omega, trivial, by show x - sz (x - 1) = fm; omega⟩
  | succ d ih =>
    intro x hx hfx
    obtain ⟨L, hL⟩ := ih (x + 1) (by omega) (by omega)
    exact tr_fr_step ht (by omega) hL (by omega) (fun _ => trivial) (fun _ => ⟨trivial, trivial⟩) (fun _ _ _ _ => trivial)
/-- every node of the top tree has its own tree within it -/
theorem tr_in {op sz : Nat → Nat} {m fm i : Nat} (ht : tr_ok op sz m) (hm : 0 < m) (hf : fm + sz (m - 1) = m) (h1 : fm ≤ i) (h2 : i < m) : fm + sz i ≤ i + 1 ∧ (0 < zz_kd (op i) → fm ≤ i - 1 ∧ 1 ≤ i ∧ fm ≤ tr_fa op sz i ∧ tr_fa op sz i < i) := by
  obtain ⟨L, hL⟩ := tr_all ht hm hf (m - (i + 1)) (i + 1) (by omega) (by omega)
  refine ⟨?_, (tr_kid ht h2 hL h1).2⟩
  cases L with
  | nil =>
    have hL : i + 1 = fm := hL
    omega
  | cons p L =>
    obtain ⟨a1, a2, a3, a4⟩ := hL
    have e : p = i := by omega
    rw [e] at a2
    omega
def xq_lab (rl : mx_R) (R : Nat) (op sz : Nat → Nat) (gs qs : Nat → Nat → Nat) (i : Nat) : Prop := mx_Lab rl R (op i) (gs (tr_fa op sz i)) (gs (i - 1)) (gs i) (qs i) ∧ ∀ k, k < 4 → gs i k < mx_far → gs i k + 36 ≤ 36 * 2 ^ (i + 1)
def xq_ok (S : zz_S) (rl : mx_R) (R : Nat) (op sz : Nat → Nat) (gs qs : Nat → Nat → Nat) (n : Nat) : Prop := ∀ i, i < n → xl_ok S i (gs i) (qs i) ∧ xq_lab rl R op sz gs qs i
abbrev xq_X : Nat → Prop := fun c => 42 ≤ c ∧ c < 162
theorem xq_up {gs : Nat → Nat → Nat} {i j : Nat} {g : Nat → Nat} (h : j ≠ i) : va_up gs i g j = gs j := by rw [va_up, if_neg h]
theorem xq_us {gs : Nat → Nat → Nat} {i : Nat} {g : Nat → Nat} : va_up gs i g i = g := by rw [va_up, if_pos rfl]
/-- one more node has its label -/
theorem xq_add {S S1 : zz_S} {rl : mx_R} {R : Nat} {op sz : Nat → Nat} {gs qs : Nat → Nat → Nat} {i m : Nat} {g y : Nat → Nat} (hok : mx_ok rl R) (ht : tr_ok op sz m) (hi : i < m) (h : xq_ok S rl R op sz gs qs i) (ho : zz_off (xl_X i) S S1) (hx : xl_ok S1 i g y) (hl : mx_Lab rl R (op i) (gs (tr_fa op sz i)) (gs (i - 1)) g y) (hb : ∀ k, k < 4 → g k < mx_far → g k + 36 ≤ 36 * 2 ^ (i + 1)) : xq_ok S1 rl R op sz (va_up gs i g) (va_up qs i y) (i + 1) := by
  intro j hj
  obtain ⟨t1, t2, t3, t4, t5, t6⟩ := ht j (by omega)
  have hkid : 0 < zz_kd (op j) → tr_fa op sz j ≠ i ∧ j - 1 ≠ i := fun hk => by
    rcases tr_kd (op j) with h0 | h0 | h0
    · omega
    · have := t5 h0
      rw [tr_fa, if_neg (by omega)]
      omega
    · have := t6 h0
      rw [tr_fa, if_pos h0]
      omega
  by_cases e : j = i
  · subst e
    rw [xq_us, xq_us]
    refine ⟨hx, ?_, by rw [xq_us]; exact hb⟩
    rw [xq_us, xq_us]
    refine sk_lab hok (fun hk k _ => ?_) (fun hk k _ => ?_) hl
    · rw [xq_up (hkid hk).1]
    · rw [xq_up (hkid (by omega)).2]
  · rw [xq_up e, xq_up e]
    obtain ⟨h1, h2, h3⟩ := h j (by omega)
    refine ⟨fun k hk => ?_, ?_, by rw [xq_up e]; exact h3⟩
    · rw [(ho (42 + 3 * j + 1) (fun h => by rcases h with h | h <;> omega)).2, (ho (42 + 3 * j + 2) (fun h => by rcases h with h | h <;> omega)).1]
      exact h1 k hk
    · rw [xq_up e, xq_up e]
      refine sk_lab hok (fun hk k _ => ?_) (fun hk k _ => ?_) h2
      · rw [xq_up (hkid hk).1]
      · rw [xq_up (hkid (by omega)).2]
/-- labels are what the rules give them: two rows of them agree -/
theorem xq_uniq {rl : mx_R} {R : Nat} {op sz : Nat → Nat} {gs qs gs' qs' : Nat → Nat → Nat} {m a : Nat} (hok : mx_ok rl R) (ht : tr_ok op sz m) (h : ∀ i, a ≤ i → i < m → xq_lab rl R op sz gs qs i) (h' : ∀ i, a ≤ i → i < m → xq_lab rl R op sz gs' qs' i) (hin : ∀ i, a ≤ i → i < m → 0 < zz_kd (op i) → a ≤ i - 1 ∧ 1 ≤ i ∧ a ≤ tr_fa op sz i ∧ tr_fa op sz i < i) : ∀ i, a ≤ i → i < m → ∀ k, k < 4 → gs i k = gs' i k ∧ qs i k = qs' i k := by
  intro i
  induction i using Nat.strongRecOn with
  | ind i ih =>
    intro h1 h2 k hk
    have hi := hin i h1 h2
    have e1 : 0 < zz_kd (op i) → ∀ k, k < 4 → gs (tr_fa op sz i) k = gs' (tr_fa op sz i) k := fun hk0 k hk => (ih _ (hi hk0).2.2.2 (hi hk0).2.2.1 (by have := (hi hk0).2.2.2; omega) k hk).1
    have e2 : 1 < zz_kd (op i) → ∀ k, k < 4 → gs (i - 1) k = gs' (i - 1) k := fun hk0 k hk => (ih (i - 1) (by have := (hi (by omega)).2.1; omega) (hi (by omega)).1 (by omega) k hk).1
    exact mx_lab_uniq hok (sk_lab hok e1 e2 (h i h1 h2).1) (h' i h1 h2).1 k hk
/-- the values of the nodes -/
def xe_ok (vr : Nat → Int32) (op : Nat → Nat) (nu : Nat → Int32) (sz : Nat → Nat) (vl : Nat → Int32) (a b : Nat) : Prop := ∀ i, a ≤ i → i < b → vl i = ex_cal vr (op i) (nu i) (if 0 < zz_kd (op i) then vl (tr_fa op sz i) else 0) (if zz_kd (op i) = 2 then vl (i - 1) else 0)
def xn_ok (op : Nat → Nat) (nu : Nat → Int32) (m : Nat) : Prop := ∀ i, i < m → op i = 1 → nu i = nI (nu i).toNatClampNeg ∧ (nu i).toNatClampNeg < 8
theorem xq_keep {S S1 : zz_S} {rl : mx_R} {R : Nat} {op sz : Nat → Nat} {gs qs : Nat → Nat → Nat} {n : Nat} (h : xq_ok S rl R op sz gs qs n) (hn : n ≤ 40) (hk : ∀ c, 42 ≤ c → c < 162 → S1.1 c = S.1 c ∧ S1.2 c = S.2 c) : xq_ok S1 rl R op sz gs qs n := fun i hi => ⟨fun k hk4 => by
  rw [(hk (42 + 3 * i + 1) (by omega) (by omega)).2, (hk (42 + 3 * i + 2) (by omega) (by omega)).1]
  exact (h i hi).1 k hk4, (h i hi).2⟩
theorem ex_cv {vr vr' : Nat → Int32} {o : Nat} {v a b : Int32} (h : ∀ k, k < 8 → vr' k = vr k) (hv : o = 1 → v = nI v.toNatClampNeg ∧ v.toNatClampNeg < 8) : ex_cal vr' o v a b = ex_cal vr o v a b := by
  rw [ex_cal, ex_cal]
  split
  · rfl
  · split
    · rename_i h1
      exact h _ (hv h1).2
    · rfl
/-- the end of a method that answers a cell's reference -/
def zz_Qr (post : Nat → zz_S → Prop) (G : zz_G) : Array Value → State → Outcome → State → Prop := va_Qr (fun u : Nat × zz_S => post u.1 u.2) (fun u a t => a = zz_ad G u.1 ∧ zz_P G u.2 t) (zz_A G)
section ZQ
variable {p : Program} {l : Launch} {e : Env} {R : Room} {s : State} {m : MethodId} {args : Array Value} {below : List Frame} {meth : Method} {c : Code} {H : Heap} {locs : List Loc} {cells slots : Nat} {Q : State → Prop} {cc : ByteArray} {maxL : Nat} {ret : Option FieldType} {own : String} {pc : Nat} {ls : Array Slot} {rest st0 : List Value} {G : zz_G} {S : zz_S}
theorem zz_aretQ {post : Nat → zz_S → Prop} {q : Nat} {C : String} (hC : zz_C p s m args meth c cc maxL ret own) (hK : zz_K G s s.heap) (hZ : zz_Z G S s.heap H locs) (hret : ret = some (.object C)) (hdg : decode cc pc = .ok (.areturn, 1)) (hp : post q S) : W p l e R s m args below meth c H locs 0 0 (MQ below (zz_Qr post G) args s 0 0 (zz_A G)) (F0 m pc ls [.ref (zz_ad G q)]) := zz_aret hC hK hZ hret hdg hp
theorem zz_crQ {post : Nat → zz_S → Prop} {a : Array Value} (hr : va_Run p l e R s m args below meth c H locs cells slots 0 0 (F0 m pc ls st0) rest (zz_Qr post G a) (zz_A G)) (hZ : zz_Z G S s.heap H locs) (kk : ∀ (q : Nat) (S1 : zz_S) (H1 : Heap) (locs1 : List Loc), post q S1 → zz_Z G S1 s.heap H1 locs1 → W p l e R s m args below meth c H1 locs1 cells slots Q (F0 m (pc + 3) ls (.ref (zz_ad G q) :: rest))) : W p l e R s m args below meth c H locs cells slots Q (F0 m pc ls st0) := zz_cr (post := post) hr hZ kk
end ZQ
