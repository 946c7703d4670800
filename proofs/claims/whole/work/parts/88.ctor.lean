/-! Rows for the constructors: a new array of the one class that its name has. -/
section NEWA
variable {p : Program} {l : Launch} {e : Env} {R : Room} {s : State} {m : MethodId} {args : Array Value} {below : List Frame} {meth : Method} {c : Code} {H H0 : Heap} {locs : List Loc} {cells slots : Nat} {Q : State → Prop} {cc : ByteArray} {pc : Nat} {ls : Array Slot} {rest : List Value} {D : va_G} {cl : List vw_C} {ws : va_W} {A : Nat → Prop}
theorem zz_newa (hexec : p.tables.exec = Jvm.exec) (hb : c.code = cc) {atype : ArrayType} (harr : (Cond.arrayClass (newarray.typeOf atype)).before args s = true) {cI : ClassId} (hfc : s.vm.findClass ("[" ++ (newarray.typeOf atype).toString) = some cI) (hP : va_P D cl ws H) (hD : va_D A ws) (hS : va_S A H0 H locs) (hA : ∀ q, H0.size ≤ q → A q) {n : Int32} {N : Nat} {a0 : vp_A} (ha : vp_cell cI a0 = arrV cI N (fun _ => defaultValue (newarray.typeOf atype))) (hn : ¬ n < 0) (hN : n.toNatClampNeg = N) (hby : N * componentBytes (newarray.typeOf atype) ≤ 536870912) (hce : cells + 1 ≤ R.cells) (hsl : slots + N ≤ R.slots) (hdg : decode cc pc = .ok (.newarray atype, 2)) (kk : ∀ (H1 : Heap), H1.size = H.size + 1 → va_P D cl (ws ++ [(H.size, .inl (cI, a0))]) H1 → va_D A (ws ++ [(H.size, .inl (cI, a0))]) → va_S A H0 H1 locs → W p l e R s m args below meth c H1 locs (cells + 1) (slots + N) Q (F0 m (pc + 2) ls (.ref H.size :: rest))) : W p l e R s m args below meth c H locs cells slots Q (F0 m pc ls (.int n :: rest)) := by
  refine va_newaK hexec hb harr rfl hdg rfl hn hN hby hce hsl rfl fun H1 cA e1 z1 o1 _ hNm => ?_
  rw [hfc] at hNm
  cases hNm
  have hold : va_P D cl ws H1 := hP.kept (fun k x hx => o1 x.1 ((hP k x hx).lt))
  have hnew : va_P D cl [(H.size, .inl (cI, a0))] H1 := fun k x hx => by
    cases k with
    | zero =>
      cases hx
      show H1[H.size]? = some (vp_cell cI a0)
      rw [ha]
      exact e1
    | succ k => cases hx
  exact kk H1 z1 (hold.app hnew) (hD.push hP rfl (hA _ hS.1)) ⟨Nat.le_trans hS.1 (by omega), fun x h1 h2 => (o1 x (Nat.lt_of_lt_of_le h1 hS.1)).trans (hS.2.1 x h1 h2), hS.2.2⟩
end NEWA
