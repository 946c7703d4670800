/-! Class and reference as they are made. -/
def lj_F : zz_S := (fun c k => if c = 0 ∧ k = 5 then nI 3 else nI 0, fun _ _ => lN 0)
def lj_M : zz_S := (fun c k => if c = 0 ∧ k = 24 then nI 3 else nI 0, fun _ _ => lN 0)
theorem lj_F0 {c k : Nat} (h : ¬ (c = 0 ∧ k = 5)) : lj_F.1 c k = nI 0 := if_neg h
theorem lj_M0 {c k : Nat} (h : ¬ (c = 0 ∧ k = 24)) : lj_M.1 c k = nI 0 := if_neg h
theorem lj_F5 : lj_F.1 0 5 = nI 3 := rfl
theorem lj_M5 : lj_M.1 0 24 = nI 3 := rfl
theorem lj_start : lj_ok lj_F lj_M := by
  refine ⟨fun _ => (0, 0, 0, 0, 0), 0, fun _ => 0, fun _ => 0, fun _ => 0, fun _ => 0, 0, 0, fun _ => 0, 3, fun _ => nI 0, cd_0, fun _ => 0, 0, ?_, ?_, fun i hi => absurd hi (Nat.not_lt_zero i), ?_, by omega, by omega⟩
  · refine ⟨⟨fun _ => 0, fun _ _ => 0, ?_⟩, ?_, ?_, ?_, ?_, ?_, ?_, ?_⟩
    · refine ⟨lj_F0 (by omega), by omega, fun r hr => absurd hr (Nat.not_lt_zero r), fun r hr => absurd hr (Nat.not_lt_zero r), fun x hx => ⟨lj_F0 (by omega), Nat.le_refl _, fun i hi => absurd hi (Nat.not_lt_zero i), fun r hr => absurd hr (Nat.not_lt_zero r)⟩⟩
    · exact ⟨lj_F0 (by omega), lj_F0 (by omega), by omega, by omega, fun i hi => absurd hi (Nat.not_lt_zero i), fun i hi => absurd hi (Nat.not_lt_zero i), fun _ => rfl⟩
    · exact ⟨0, fun _ _ => 0, fun _ _ => 0, lj_F0 (by omega), Nat.le_refl _, fun i hi => absurd hi (Nat.not_lt_zero i)⟩
    · intro k hk
      have e : vw_c 0 = lN 0 := by
        unfold vw_c
        rw [if_pos (by rw [vw_far]; omega)]
      rw [e]
      exact ⟨rfl, rfl⟩
    · exact Or.inl (lj_F0 (by omega))
    · exact lj_F5
    · exact fun k hk => lj_F0 (by omega)
    · exact ⟨⟨lj_F0 (by omega), Nat.zero_le _, fun i hi => absurd hi (Nat.not_lt_zero i)⟩, lj_F0 (by omega), fun i hi => absurd hi (Nat.not_lt_zero i)⟩
  · refine ⟨⟨lj_M0 (by omega), by omega, fun r hr => absurd hr (Nat.not_lt_zero r), fun r hr => absurd hr (Nat.not_lt_zero r)⟩, ⟨lj_M0 (by omega), lj_M0 (by omega), by omega, by omega, fun i hi => absurd hi (Nat.not_lt_zero i), fun i hi => absurd hi (Nat.not_lt_zero i), fun _ => rfl, ⟨rfl, rfl, fun j hj => absurd hj (Nat.not_lt_zero j)⟩, fun j hj => absurd hj (Nat.not_lt_zero j)⟩, lj_M5, fun k hk => lj_M0 (by omega), ⟨lj_M0 (by omega), Nat.zero_le _, fun i hi => absurd hi (Nat.not_lt_zero i)⟩, lj_M0 (by omega), fun i hi => absurd hi (Nat.not_lt_zero i)⟩
  · exact ⟨cd_ok_0, Nat.zero_le _, ⟨3, by omega, by omega, pl_ok_at (by omega) 0 ⟨rfl, rfl⟩⟩, fun i hi => absurd hi (Nat.not_lt_zero i)⟩
