/-! The reference's code. -/
def mk_cd (S : zz_S) (cs : cd_T) : Prop := S.1 0 22 = nI cs.1 ∧ cs.1 ≤ 160 ∧ ∀ i, i < cs.1 → S.1 19 i = nI (cs.2.1 i) ∧ S.1 20 i = nI (cs.2.2.1 i) ∧ S.1 21 i = nI (cs.2.2.2.1 i) ∧ S.1 22 i = cs.2.2.2.2.1 i ∧ S.1 23 i = vw_s (cs.2.2.2.2.2.1 i) ∧ S.1 24 i = vw_s (cs.2.2.2.2.2.2.1 i) ∧ S.1 25 i = nI (cs.2.2.2.2.2.2.2 i)
theorem mk_cdk {S S1 : zz_S} {cs : cd_T} (h : mk_cd S cs) (h0 : S1.1 0 22 = S.1 0 22) (hk : ∀ c, 19 ≤ c → c ≤ 25 → S1.1 c = S.1 c) : mk_cd S1 cs := by
  unfold mk_cd
  rw [h0, hk 19 (by omega) (by omega), hk 20 (by omega) (by omega), hk 21 (by omega) (by omega), hk 22 (by omega) (by omega), hk 23 (by omega) (by omega), hk 24 (by omega) (by omega), hk 25 (by omega) (by omega)]
  exact h
theorem vw_sge {x : Nat} : 0 ≤ (vw_s x).toInt ↔ x < 1000 := by
  unfold vw_s
  by_cases h : x < 1000
  · rw [if_pos h, nI_toInt (by omega)]
    omega
  · rw [if_neg h]
    have : (-3 : Int32).toInt = -3 := rfl
    omega
theorem mr_ex {vr : Nat → Int32} {s : cd_T} {res : Nat → Int32} {i : Nat} {v : Int32} (hs : ∀ j, j < i + 1 → (s.2.2.2.2.2.1 j < 1000 → s.2.2.2.2.2.1 j < j) ∧ (s.2.2.2.2.2.2.1 j < 1000 → s.2.2.2.2.2.2.1 j < j)) (h : ∀ j, j < i → res j = ex_cal vr (s.2.2.2.1 j) (s.2.2.2.2.1 j) (ex_src res (s.2.2.2.2.2.1 j)) (ex_src res (s.2.2.2.2.2.2.1 j))) (hv : v = ex_cal vr (s.2.2.2.1 i) (s.2.2.2.2.1 i) (ex_src res (s.2.2.2.2.2.1 i)) (ex_src res (s.2.2.2.2.2.2.1 i))) : ∀ j, j < i + 1 → upd res i v j = ex_cal vr (s.2.2.2.1 j) (s.2.2.2.2.1 j) (ex_src (upd res i v) (s.2.2.2.2.2.1 j)) (ex_src (upd res i v) (s.2.2.2.2.2.2.1 j)) := fun j hj => by
  have e1 : ∀ x, (x < 1000 → x < j) → ex_src (upd res i v) x = ex_src res x := fun x hx => by
    unfold ex_src
    by_cases hc : x < 1000
    · have := hx hc
      rw [if_pos hc, if_pos hc, pk_un (by omega)]
    · rw [if_neg hc, if_neg hc]
  rw [e1 _ (hs j hj).1, e1 _ (hs j hj).2]
  by_cases e : j = i
  · rw [e, pk_us, hv]
  · rw [pk_un e]
    exact h j (by omega)
theorem mv_step {vr : Nat → Int32} {op : Nat → Nat} {nu : Nat → Int32} {sz : Nat → Nat} {vl : Nat → Int32} {a i : Nat} {v : Int32} (hin : ∀ j, a ≤ j → j < i + 1 → 0 < zz_kd (op j) → a ≤ j - 1 ∧ 1 ≤ j ∧ a ≤ tr_fa op sz j ∧ tr_fa op sz j < j) (h : xe_ok vr op nu sz vl a i) (hv : v = ex_cal vr (op i) (nu i) (if 0 < zz_kd (op i) then vl (tr_fa op sz i) else 0) (if zz_kd (op i) = 2 then vl (i - 1) else 0)) : xe_ok vr op nu sz (upd vl i v) a (i + 1) := fun j h1 h2 => by
  have e1 : (if 0 < zz_kd (op j) then upd vl i v (tr_fa op sz j) else 0) = (if 0 < zz_kd (op j) then vl (tr_fa op sz j) else 0) := by
    by_cases hc : 0 < zz_kd (op j)
    · have := hin j h1 h2 hc
      rw [if_pos hc, if_pos hc, pk_un (by omega)]
    · rw [if_neg hc, if_neg hc]
  have e2 : (if zz_kd (op j) = 2 then upd vl i v (j - 1) else 0) = (if zz_kd (op j) = 2 then vl (j - 1) else 0) := by
    by_cases hc : zz_kd (op j) = 2
    · have := hin j h1 h2 (by omega)
      rw [if_pos hc, if_pos hc, pk_un (by omega)]
    · rw [if_neg hc, if_neg hc]
  rw [e1, e2]
  by_cases e : j = i
  · rw [e, pk_us, hv]
  · rw [pk_un e]
    exact h j h1 (by omega)
