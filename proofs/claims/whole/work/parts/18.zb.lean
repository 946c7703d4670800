section ZB
variable {p : Program} {l : Launch} {e : Env} {R : Room} {s : State} {m : MethodId} {args : Array Value} {below : List Frame} {meth : Method} {c : Code} {H : Heap} {locs : List Loc} {cells slots : Nat} {Q : State → Prop} {cc : ByteArray} {maxL : Nat} {ret : Option FieldType} {own : String} {pc : Nat} {ls : Array Slot} {rest : List Value} {off : Int} {tgt : Nat}
theorem zz_beq {P : Prop} [Decidable P] (hC : zz_C p s m args meth c cc maxL ret own) (hdg : decode cc pc = .ok (.ifCond .eq off, 3)) (ht : (pc : Int) + off = (tgt : Int)) (kt : ¬ P → W p l e R s m args below meth c H locs cells slots Q (F0 m tgt ls rest)) (kf : P → W p l e R s m args below meth c H locs cells slots Q (F0 m (pc + 3) ls rest)) : W p l e R s m args below meth c H locs cells slots Q (F0 m pc ls (.int (nI (if P then 1 else 0)) :: rest)) := by
  by_cases h : P
  · rw [if_pos h]
    exact zz_ieq hC hdg ht (by decide) (fun h2 => absurd h2 (by decide)) (fun _ => kf h)
  · rw [if_neg h]
    exact zz_ieq hC hdg ht (by decide) (fun _ => kt h) (fun h2 => absurd rfl h2)
theorem zz_bne {P : Prop} [Decidable P] (hC : zz_C p s m args meth c cc maxL ret own) (hdg : decode cc pc = .ok (.ifCond .ne off, 3)) (ht : (pc : Int) + off = (tgt : Int)) (kt : P → W p l e R s m args below meth c H locs cells slots Q (F0 m tgt ls rest)) (kf : ¬ P → W p l e R s m args below meth c H locs cells slots Q (F0 m (pc + 3) ls rest)) : W p l e R s m args below meth c H locs cells slots Q (F0 m pc ls (.int (nI (if P then 1 else 0)) :: rest)) := by
  by_cases h : P
  · rw [if_pos h]
    exact zz_ine hC hdg ht (by decide) (fun _ => kt h) (fun h2 => absurd h2 (by decide))
  · rw [if_neg h]
    exact zz_ine hC hdg ht (by decide) (fun h2 => absurd rfl h2) (fun _ => kf h)
theorem zz_narb {P : Prop} [Decidable P] : narrow .boolean (.int (nI (if P then 1 else 0))) = .int (nI (if P then 1 else 0)) := by
  by_cases h : P
  · rw [if_pos h]; rfl
  · rw [if_neg h]; rfl
end ZB
