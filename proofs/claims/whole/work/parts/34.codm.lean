/-! The code in the class's cells. -/
def vw_s (x : Nat) : Int32 := if x < 1000 then nI x else -3
theorem vw_s_in {x : Nat} (h : x < 1000) : vw_s x = nI x := if_pos h
theorem vw_s_out {x : Nat} (h : ¬ x < 1000) : vw_s x = -3 := if_neg h
theorem vw_s_eq {x : Nat} (h : (vw_s x).toInt = (-3 : Int32).toInt) : ¬ x < 1000 := fun hx => by
  rw [vw_s_in hx, nI_toInt (by omega), show (-3 : Int32).toInt = -3 from rfl] at h
  omega
theorem vw_s_ne {x : Nat} (h : (vw_s x).toInt ≠ (-3 : Int32).toInt) : x < 1000 := by
  by_cases hx : x < 1000
  · exact hx
  · rw [vw_s_out hx] at h
    exact absurd rfl h
def xk_ok (S : zz_S) (cs : cd_T) : Prop := S.1 27 13 = nI cs.1 ∧ cs.1 ≤ 160 ∧ ∀ i, i < cs.1 → S.1 28 i = nI (cs.2.1 i) ∧ S.1 29 i = nI (cs.2.2.1 i) ∧ S.1 30 i = nI (cs.2.2.2.1 i) ∧ S.1 31 i = cs.2.2.2.2.1 i ∧ S.1 32 i = vw_s (cs.2.2.2.2.2.1 i) ∧ S.1 33 i = vw_s (cs.2.2.2.2.2.2.1 i) ∧ S.1 34 i = nI (cs.2.2.2.2.2.2.2 i)
abbrev xk_X : Nat → Prop := fun c => 27 ≤ c ∧ c ≤ 34
/-- the seven rows at place n -/
def xk_b (S : zz_S) (n r nd o : Nat) (nu : Int32) (a b : Nat) : zz_S := zz_u (zz_u (zz_u (zz_u (zz_u (zz_u (zz_u S 28 n (nI r)) 29 n (nI nd)) 30 n (nI o)) 31 n nu) 32 n (vw_s a)) 33 n (vw_s b)) 34 n (nI n)
theorem xk_upN {f : Nat → Int32} {g : Nat → Nat} {n k v : Nat} (h : ∀ j, j < n → f j = nI (g j)) : ∀ j, j < n + 1 → upd f n (nI v) j = nI (va_up g n v j) := fun j hj => by
  by_cases e : j = n
  · rw [e, pk_us, mp_up_s]
  · rw [pk_un e, mp_up_n e]
    exact h j (by omega)
theorem xk_upS {f : Nat → Int32} {g : Nat → Nat} {n v : Nat} (h : ∀ j, j < n → f j = vw_s (g j)) : ∀ j, j < n + 1 → upd f n (vw_s v) j = vw_s (va_up g n v j) := fun j hj => by
  by_cases e : j = n
  · rw [e, pk_us, mp_up_s]
  · rw [pk_un e, mp_up_n e]
    exact h j (by omega)
theorem xk_un_no {un : Nat → Nat} {n a : Nat} (h : ¬ a < 1000) : cd_un un n a = un := by rw [cd_un, if_neg h]
theorem xk_un_yes {un : Nat → Nat} {n a : Nat} (h : a < 1000) : cd_un un n a = va_up un a n := by rw [cd_un, if_pos h]
theorem xk_upU {f : Nat → Int32} {g : Nat → Nat} {n a m : Nat} (ha : a < 1000) (h : ∀ j, j < m → f j = nI (g j)) : ∀ j, j < m → upd f a (nI n) j = nI (cd_un g n a j) := fun j hj => by
  rw [xk_un_yes ha]
  by_cases e : j = a
  · rw [e, pk_us, mp_up_s]
  · rw [pk_un e, mp_up_n e]
    exact h j hj
/-- an instruction more -/
theorem xk_ap {S So : zz_S} {cs : cd_T} {r nd o a b : Nat} {nu : Int32} (h : xk_ok S cs) (hn : cs.1 < 160) (ho : zz_off (fun c => c = 34) (xk_b S cs.1 r nd o nu a b) So) (h34 : ∀ j, j < cs.1 + 1 → So.1 34 j = nI (cd_un (cd_un (va_up cs.2.2.2.2.2.2.2 cs.1 cs.1) cs.1 a) cs.1 b j)) : xk_ok (zz_u So 27 13 (nI (cs.1 + 1))) (cd_ap cs r nd o nu a b) := by
  obtain ⟨h1, h2, h3⟩ := h
  refine ⟨rfl, by show cs.1 + 1 ≤ 160; omega, fun i hi => ?_⟩
  have hi : i < cs.1 + 1 := hi
  have e : ∀ c, c ≠ 27 → c ≠ 34 → (zz_u So 27 13 (nI (cs.1 + 1))).1 c = (xk_b S cs.1 r nd o nu a b).1 c := fun c c1 c2 => by rw [zz_u1 So 27 13 _ c c1]; exact (ho c c2).1
  rw [e 28 (by omega) (by omega), e 29 (by omega) (by omega), e 30 (by omega) (by omega), e 31 (by omega) (by omega), e 32 (by omega) (by omega), e 33 (by omega) (by omega), zz_u1 So 27 13 _ 34 (by omega)]
  refine ⟨xk_upN (k := 0) (fun j hj => (h3 j hj).1) i hi, xk_upN (k := 0) (fun j hj => (h3 j hj).2.1) i hi, xk_upN (k := 0) (fun j hj => (h3 j hj).2.2.1) i hi, ?_, xk_upS (fun j hj => (h3 j hj).2.2.2.2.1) i hi, xk_upS (fun j hj => (h3 j hj).2.2.2.2.2.1) i hi, h34 i hi⟩
  show upd (S.1 31) cs.1 nu i = upd cs.2.2.2.2.1 cs.1 nu i
  by_cases e2 : i = cs.1
  · rw [e2, pk_us, pk_us]
  · rw [pk_un e2, pk_un e2]
    exact (h3 i (by omega)).2.2.2.1
theorem xk_boff {S So : zz_S} {n r nd o a b : Nat} {nu v : Int32} (ho : zz_off (fun c => c = 34) (xk_b S n r nd o nu a b) So) : zz_off xk_X S (zz_u So 27 13 v) := fun c hc => by
  have h1 : c ≠ 27 := fun h => hc (by rw [h]; decide)
  have h2 : c ≠ 34 := fun h => hc (by rw [h]; decide)
  refine ⟨?_, ?_⟩
  · rw [zz_u1 So 27 13 _ c h1, (ho c h2).1]
    unfold xk_b
    rw [zz_u1 _ 34 _ _ c h2, zz_u1 _ 33 _ _ c (fun h => hc (by rw [h]; decide)), zz_u1 _ 32 _ _ c (fun h => hc (by rw [h]; decide)), zz_u1 _ 31 _ _ c (fun h => hc (by rw [h]; decide)), zz_u1 _ 30 _ _ c (fun h => hc (by rw [h]; decide)), zz_u1 _ 29 _ _ c (fun h => hc (by rw [h]; decide)), zz_u1 _ 28 _ _ c (fun h => hc (by rw [h]; decide))]
  · show So.2 c = S.2 c
    rw [(ho c h2).2]
    rfl
def xk_tell (cs : cd_T) (pl : Nat → Nat) (i w : Nat) : Int32 := if w = 0 then nI (cs.2.1 i) else if w = 1 then nI (cs.2.2.1 i) else if w = 2 then nI (pl i) else if w = 3 then (if cs.2.2.2.2.2.1 i < 1000 then nI (pl (cs.2.2.2.2.2.1 i)) else -3) else (if cs.2.2.2.2.2.2.1 i < 1000 then nI (pl (cs.2.2.2.2.2.2.1 i)) else -3)
theorem ex_src_c {res : Nat → Int32} {i s : Nat} {v : Int32} (h : s < 1000 → s < i) : ex_src (upd res i v) s = ex_src res s := by
  rw [ex_src, ex_src]
  split
  · rename_i hs
    have := h hs
    exact pk_un (by omega)
  · rfl
/-- one instruction is run -/
theorem ex_go {vr : Nat → Int32} {cs : cd_T} {res mem : Nat → Int32} {i reg sc : Nat} {pl : Nat → Nat} {v : Int32} (hcd : cd_ok cs) (hi : i < cs.1) (hplo : pl_ok reg cs.2.2.2.2.2.2.2 cs.1 pl sc) (he : ∀ j, j < i → res j = ex_cal vr (cs.2.2.2.1 j) (cs.2.2.2.2.1 j) (ex_src res (cs.2.2.2.2.2.1 j)) (ex_src res (cs.2.2.2.2.2.2.1 j))) (hm : ex_mem cs.2.2.2.2.2.2.2 pl res mem i) (hv : v = ex_cal vr (cs.2.2.2.1 i) (cs.2.2.2.2.1 i) (ex_src res (cs.2.2.2.2.2.1 i)) (ex_src res (cs.2.2.2.2.2.2.1 i))) : (∀ j, j < i + 1 → upd res i v j = ex_cal vr (cs.2.2.2.1 j) (cs.2.2.2.2.1 j) (ex_src (upd res i v) (cs.2.2.2.2.2.1 j)) (ex_src (upd res i v) (cs.2.2.2.2.2.2.1 j))) ∧ ex_mem cs.2.2.2.2.2.2.2 pl (upd res i v) (upd mem (pl i) v) (i + 1) := by
  refine ⟨fun j hj => ?_, ?_⟩
  · obtain ⟨x1, x2, x3, x4⟩ := hcd j (by omega)
    rw [ex_src_c (fun h => by have := (x3 h).1; omega), ex_src_c (fun h => by have := (x4 h).1; omega)]
    by_cases e : j = i
    · rw [e, pk_us]
      exact hv
    · rw [pk_un e]
      exact he j (by omega)
  · have hm2 : ex_mem cs.2.2.2.2.2.2.2 pl (upd res i v) mem i := ⟨fun j hj hu => by rw [pk_un (by omega)]; exact hm.1 j hj hu, fun h => by rw [pk_un (by omega)]; exact hm.2 h⟩
    have := ex_mem_s hplo hi hm2
    rw [pk_us] at this
    exact this
