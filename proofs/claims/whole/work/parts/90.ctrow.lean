/-! Rows for the constructors: the cells of a new object lie side by side, from its own address on. -/
def ct_w (b n : Nat) (Y : Nat → va_E) : va_W := (List.range n).map (fun i => (b + i, Y i))
theorem ct_w_at {b n : Nat} {Y : Nat → va_E} {i : Nat} (h : i < n) : (ct_w b n Y)[i]? = some (b + i, Y i) := by
  simp [ct_w, h]
theorem ct_w_inv {b n : Nat} {Y : Nat → va_E} {k : Nat} {x : Nat × va_E} (h : (ct_w b n Y)[k]? = some x) : k < n ∧ x = (b + k, Y k) := by
  by_cases hk : k < n
  · rw [ct_w_at hk] at h
    exact ⟨hk, (Option.some.inj h).symm⟩
  · rw [ct_w, List.getElem?_eq_none (by simp only [List.length_map, List.length_range]; omega)] at h
    cases h
def ct_P (D : va_G) (cl : List vw_C) (b n : Nat) (Y : Nat → va_E) (H : Heap) : Prop := ∀ i, i < n → va_at D cl (b + i, Y i) H
theorem ct_P.P {D : va_G} {cl : List vw_C} {b n : Nat} {Y : Nat → va_E} {H : Heap} (h : ct_P D cl b n Y H) : va_P D cl (ct_w b n Y) H := fun k x hx => by
  obtain ⟨h1, rfl⟩ := ct_w_inv hx
  exact h k h1
def ct_Z (D : va_G) (cl : List vw_C) (b n : Nat) (Y : Nat → va_E) (H0 H : Heap) (locs : List Loc) : Prop := H.size = b + n ∧ ct_P D cl b n Y H ∧ va_S (fun x => b ≤ x) H0 H locs
theorem ct_Z.congr {D : va_G} {cl : List vw_C} {b n : Nat} {Y Y' : Nat → va_E} {H0 H : Heap} {locs : List Loc} (h : ct_Z D cl b n Y H0 H locs) (he : ∀ i, i < n → Y i = Y' i) : ct_Z D cl b n Y' H0 H locs := ⟨h.1, fun i hi => by rw [← he i hi]; exact h.2.1 i hi, h.2.2⟩
theorem ct_grow {D : va_G} {cl : List vw_C} {b n : Nat} {Y : Nat → va_E} {H0 H H1 : Heap} {locs : List Loc} (hZ : ct_Z D cl b n Y H0 H locs) (he : va_at D cl (b + n, Y n) H1) (hz : H1.size = H.size + 1) (ho : ∀ x, x < H.size → H1[x]? = H[x]?) : ct_Z D cl b (n + 1) Y H0 H1 locs := by
  refine ⟨by rw [hz, hZ.1]; omega, fun i hi => ?_, ⟨by rw [hz]; exact Nat.le_succ_of_le hZ.2.2.1, fun x h1 h2 => (ho x (Nat.lt_of_lt_of_le h1 hZ.2.2.1)).trans (hZ.2.2.2.1 x h1 h2), hZ.2.2.2.2⟩⟩
  by_cases h : i < n
  · exact (hZ.2.1 i h).kept (ho _ (by show b + i < _; rw [hZ.1]; omega))
  · rw [show i = n by omega]
    exact he
theorem ct_arr {cA : ClassId} {N : Nat} {f g : Nat → Option Nat} (h : ∀ i, i < N → f i = g i) : vp_cell cA (N, .inr (.inr (.inr (.inr f)))) = vp_cell cA (N, .inr (.inr (.inr (.inr g)))) := by
  rw [vp_cell_q, vp_cell_q]
  have e : (fun j : Fin N => va_rf (f j.val)) = fun j : Fin N => va_rf (g j.val) := funext fun j => by rw [h j.val j.isLt]
  unfold arrV
  rw [e]
theorem ct_arrat {D : va_G} {cl : List vw_C} {H : Heap} {a : Nat} {cA : ClassId} {N : Nat} {f g : Nat → Option Nat} (h : va_at D cl (a, .inl (cA, N, .inr (.inr (.inr (.inr f))))) H) (he : ∀ i, i < N → f i = g i) : va_at D cl (a, .inl (cA, N, .inr (.inr (.inr (.inr g))))) H := by
  show H[a]? = some (vp_cell cA (N, .inr (.inr (.inr (.inr g)))))
  rw [← ct_arr he]
  exact h
/-- the object's own fields, and the other cells -/
def ct_y (ci : Nat) (fs : List Value) (Z : Nat → va_E) : Nat → va_E := fun i => if i = 0 then .inr (ci, fs) else Z i
theorem ct_y0 {ci : Nat} {fs : List Value} {Z : Nat → va_E} : ct_y ci fs Z 0 = .inr (ci, fs) := if_pos rfl
theorem ct_yi {ci : Nat} {fs : List Value} {Z : Nat → va_E} {i : Nat} (h : i ≠ 0) : ct_y ci fs Z i = Z i := if_neg h
/-- the tables' words that a constructor carries -/
def ct_AA (U : State) : Prop := (Cond.arrayOver (.array .int)).before #[] U = true
theorem ct_AA.moved {u U : State} (hvm : u.vm.Alike U.vm) (h : ct_AA u) : ct_AA U := by
  obtain ⟨comp, c, k, h1, h2, h3, h4, h5⟩ := arrayOverA_spec h
  obtain ⟨k', hk', he⟩ := hvm.2.2 _ _ h3
  have hb : u.vm.bare = U.vm.bare := by first | exact hvm.bare_eq | exact hvm.bare_eq.symm
  have hu := (va_idx_bare u.vm comp).trans h2
  rw [hb] at hu
  have hi : (U.vm.classes.findIdx? fun (x : Class) => match x.kind with | .array component _ => component == comp | _ => false) = some c := (va_idx_bare U.vm comp).symm.trans hu
  have hkind : k'.kind = .array comp (.array .int) := by rw [he]; exact h4
  have f1 : U.vm.findClass (FieldType.array .int).toString = some comp := by rw [hvm.findClass]; exact h1
  have f2 : U.vm.findClass ("[" ++ (FieldType.array .int).toString) = some c := by rw [hvm.findClass]; exact h5
  unfold ct_AA Cond.before Cond.holds
  simp only [Cond.value]
  rw [f1, Option.bind_some]
  refine (congrArg (fun o : Option Nat => (o.bind (fun c => (U.vm.classes[c]?).map fun (k : Class) => match k.kind with | .array _ ty => decide (ty = FieldType.array .int) && decide (U.vm.findClass ("[" ++ (FieldType.array .int).toString) = some c) | _ => false) == some true)) hi).trans ?_
  simp [hk', hkind, f2]
def ct_K (q : xg_T) (U : State) : Prop := va_K q.1 xg_cl (xg_ty q) U ∧ va_AO R_Label U ∧ ct_AA U ∧ zz_N U
theorem ct_K.warm {q : xg_T} {u U : State} (hW : u.WarmedH U.vm) (h : ct_K q u) : ct_K q U := ⟨va_K.moved hW.alike h.1, va_AO.moved hW.alike h.2.1, ct_AA.moved hW.alike h.2.2.1, zz_N.warm hW h.2.2.2⟩
theorem ct_K.same {q : xg_T} {u U : State} (hv : u.vm = U.vm) (hvm : u.vm.Alike U.vm) (h : ct_K q u) : ct_K q U := ⟨va_K.moved hvm h.1, va_AO.moved hvm h.2.1, ct_AA.moved hvm h.2.2.1, zz_N.same hv h.2.2.2⟩
theorem ct_K.fI {q : xg_T} {U : State} (h : ct_K q U) : U.vm.findClass ("[" ++ FieldType.int.toString) = some q.2.2.1 := (h.1.2 0 _ rfl).2
theorem ct_K.fJ {q : xg_T} {U : State} (h : ct_K q U) : U.vm.findClass ("[" ++ FieldType.long.toString) = some q.2.2.2.1 := (h.1.2 1 _ rfl).2
theorem ct_K.fL {q : xg_T} {U : State} (h : ct_K q U) : U.vm.findClass ("[" ++ (FieldType.object R_Label).toString) = some q.2.2.2.2.1 := by
  obtain ⟨kA, comp, -, -, -, h4⟩ := (h.1.2 2 _ rfl).2
  exact h4
theorem ct_K.fA {q : xg_T} {U : State} (h : ct_K q U) : U.vm.findClass ("[" ++ (FieldType.array .int).toString) = some q.2.2.2.2.2.1 := (h.1.2 3 _ rfl).2
/-- a constructor: from the object with its fields as they are born to the block of w cells -/
def ct_pre (q : xg_T) (b ci : Nat) (fs : List Value) (U : State) : Prop := U.heap.size = b + 1 ∧ va_at q.1 xg_cl (b, .inr (ci, fs)) U.heap ∧ ct_K q U
def ct_post (q : xg_T) (b w : Nat) (Y : Nat → va_E) (_ : Unit) (t : State) : Prop := t.heap.size = b + w ∧ ct_P q.1 xg_cl b w Y t.heap
abbrev ct_M (l : Launch) (y : MethodName) (cc : ByteArray) (maxL : Nat) (rm : Room) (q : xg_T) (b ci : Nat) (fs : List Value) (w : Nat) (Y : Nat → va_E) : Prop := Met l y (Cond.code y cc maxL none :: zz_tbl) rm (va_Pc [.ref b] (ct_pre q b ci fs)) (va_Qv (fun _ : Unit => True) (ct_post q b w Y) (fun x => b ≤ x)) rm.cells rm.slots (fun x => b ≤ x)
theorem ct_blind {q : xg_T} {b ci : Nat} {fs : List Value} : FrameBlind (va_Pc [.ref b] (ct_pre q b ci fs)) := fun a U g mk h => by
  obtain ⟨h0, h1, h2, h3⟩ := h
  exact ⟨h0, h1, h2, ct_K.same (u := U) (U := U.calling g mk a) rfl (Vm.Alike.refl U.vm) h3⟩
theorem ct_met {l : Launch} {y : MethodName} {cc : ByteArray} {maxL : Nat} {rm : Room} {q : xg_T} {b ci : Nat} {fs : List Value} {w : Nat} {Y : Nat → va_E} (hy : plainName y.cls = true) (hyn : y.name = "<init>") (hlen : 1 ≤ maxL)
    (body : ∀ (p : Program) (e : Env) (s : State) (m : MethodId) (below : List Frame) (meth : Method) (c : Code) (ls : Array Slot), zz_C p s m [Value.ref b].toArray meth c cc maxL none y.cls → meth.name = "<init>" → ct_K q s → s.heap.size = b + 1 → ct_Z q.1 xg_cl b 1 (fun _ => .inr (ci, fs)) s.heap s.heap [] → lv_has ls maxL [(0, .ref b)] → W p l e rm s m [Value.ref b].toArray below meth c s.heap [] 0 0 (MQ below (va_Qv (fun _ : Unit => True) (ct_post q b w Y) (fun x => b ≤ x)) [Value.ref b].toArray s rm.cells rm.slots (fun x => b ≤ x)) (F0 m 0 ls [])) :
    ct_M l y cc maxL rm q b ci fs w Y := by
  refine Met.ofW (cc := cc) (maxL := maxL) (ret := none) hy rfl ?_
  intro p e s m args' below meth c s₁ B hml hv
  obtain ⟨rfl, hs, hP, hK⟩ := hv
  have hts := atoms_spec (ws := Cond.code y cc maxL none :: zz_tbl) B.pre
  rw [lg_entry_eq]
  exact body p e s m below meth c _ ⟨B.exec, B.bytes, hml, findClass_of_methodNamed B.named, fun w hw => hts w (List.mem_cons_of_mem _ hw), B.returns, B.notSynchronized⟩ ((name_of_methodNamed B.named B.method).1.trans hyn) hK hs ⟨hs, fun i hi => by rw [show i = 0 by omega]; exact hP, va_S.rf⟩ (lv_entry [.ref b] hlen)
def ct_Y (y : MethodName) (bytes : ByteArray) (mL : Nat) : Prop := Cond.code y bytes mL none ∈ zz_tbl ∧ Cond.initialized y.cls ∈ zz_tbl ∧ Cond.instanceMethod y ∈ zz_tbl ∧ y.name = "<init>" ∧ (y.cls ≠ "java/lang/invoke/MethodHandle" ∧ y.cls ≠ "java/lang/invoke/VarHandle" ∧ (parseMethodDescriptor y.desc).map (fun d => d.parameters.length) = some 0)
section CT
variable {p : Program} {l : Launch} {e : Env} {R : Room} {s : State} {m : MethodId} {args : Array Value} {below : List Frame} {meth : Method} {c : Code} {H : Heap} {locs : List Loc} {cells slots : Nat} {Q : State → Prop}
variable {cc bytes : ByteArray} {maxL mL : Nat} {ret : Option FieldType} {own : String} {pc : Nat} {ls : Array Slot} {rest : List Value} {D : va_G} {cl : List vw_C} {tys : List (ClassId × FieldType)} {b n : Nat} {Y : Nat → va_E} {q : xg_T} {y : MethodName} {rm : Room}
theorem ct_ret {a : Array Value} {w : Nat} (hC : zz_C p s m a meth c cc maxL ret own) (hret : ret = none) (hZ : ct_Z q.1 xg_cl b w Y s.heap H locs) (hdg : decode cc pc = .ok (.return_, 1)) : W p l e R s m a below meth c H locs cells slots (MQ below (va_Qv (fun _ : Unit => True) (ct_post q b w Y) (fun x => b ≤ x)) a s cells slots (fun x => b ≤ x)) (F0 m pc ls []) :=
  W.vret hC.1 hC.2.1 (hC.2.2.2.2.2.1.trans hret) (fun t ht _ => ⟨⟨(), rfl, trivial, by rw [ht]; exact hZ.1, by rw [ht]; exact hZ.2.1⟩, hZ.2.2.F ht⟩) hZ.2.2.2.2 hdg hC.2.2.2.2.2.2
theorem ct_obj {a : Nat} {lv : List (Nat × Value)} (hC : zz_C p s m args meth c cc maxL ret own) (hl : lv_has ls maxL lv) (h0 : lv[0]? = some (0, .ref a)) {idx : Nat} (hlink : Cond.methodLink own idx objectInit ∈ zz_tbl) (hi : Cond.instanceMethod objectInit ∈ zz_tbl) (hc : Cond.code objectInit ⟨#[0xb1]⟩ 1 none ∈ zz_tbl) (hd1 : decode cc 0 = .ok (.aload_n 0, 1)) (hd2 : decode cc 1 = .ok (.invokespecial idx, 3)) (hfr : 1 ≤ R.frames) (hlo : 12 ≤ R.locals) (kk : W p l e R s m args below meth c H locs cells slots Q (F0 m 4 ls [])) : W p l e R s m args below meth c H locs cells slots Q (F0 m 0 ls []) := by
  refine lv_aload_n hC.1 hC.2.1 hd1 rfl (lv_at hl 0 h0) ?_
  refine W.objInit hC.1 hC.2.1 hC.2.2.2.1 (hC.2.2.2.2.1 _ hlink) (hC.2.2.2.2.1 _ hi) (hC.2.2.2.2.1 _ hc) rfl (by rw [hC.2.2.1]; exact hl.1) rfl hd2 hfr (by show 2 * 0 + 0 + 12 ≤ R.locals; omega) ?_
  exact W.eq (g2 := F0 m 4 ls []) rfl kk
theorem ct_newa (hC : zz_C p s m args meth c cc maxL ret own) (hZ : ct_Z D cl b n Y s.heap H locs) {atype : ArrayType} (harr : Cond.arrayClass (newarray.typeOf atype) ∈ zz_tbl) {cA : ClassId} (hfc : s.vm.findClass ("[" ++ (newarray.typeOf atype).toString) = some cA) {N : Nat} {a0 : vp_A} {v : Int32} (hv : v = nI N) (hN : N < 1000) (ha : vp_cell cA a0 = arrV cA N (fun _ => defaultValue (newarray.typeOf atype))) (hby : componentBytes (newarray.typeOf atype) ≤ 8) (hY : Y n = .inl (cA, a0)) {cells1 slots1 n1 : Nat} (hn1 : n + 1 = n1) (hc1 : cells + 1 = cells1) (hs1 : slots + N = slots1) (hR1 : cells1 ≤ R.cells) (hR2 : slots1 ≤ R.slots) (hdg : decode cc pc = .ok (.newarray atype, 2)) (kk : ∀ H1, ct_Z D cl b n1 Y s.heap H1 locs → W p l e R s m args below meth c H1 locs cells1 slots1 Q (F0 m (pc + 2) ls (.ref (b + n) :: rest))) : W p l e R s m args below meth c H locs cells slots Q (F0 m pc ls (.int v :: rest)) := by
  subst hv
  subst hn1
  subst hc1
  subst hs1
  refine va_newaK hC.1 hC.2.1 (hC.2.2.2.2.1 _ harr) rfl hdg rfl (nI_pos (by omega)) (nI_clamp (by omega)) (Nat.le_trans (Nat.mul_le_mul (Nat.le_of_lt hN) hby) (by decide)) hR1 hR2 hZ.1 fun H1 cB e1 z1 o1 _ hNm => ?_
  rw [hfc] at hNm
  cases hNm
  refine kk H1 (ct_grow hZ ?_ (by rw [z1, hZ.1]) (fun x hx => o1 x (by rw [← hZ.1]; exact hx)))
  rw [hY]
  show H1[b + n]? = some (vp_cell _ _)
  rw [ha]
  exact e1
theorem ct_anew (hC : zz_C p s m args meth c cc maxL ret own) (hK : ct_K q s) (hZ : ct_Z D cl b n Y s.heap H locs) {index : Nat} (hcl : Cond.classLink own index R_Label ∈ zz_tbl) {N : Nat} {f : Nat → Option Nat} {v : Int32} (hv : v = nI N) (hN : N < 1000) (hf : ∀ i, i < N → f i = none) (hY : Y n = .inl (q.2.2.2.2.1, N, .inr (.inr (.inr (.inr f))))) {cells1 slots1 n1 : Nat} (hn1 : n + 1 = n1) (hc1 : cells + 1 = cells1) (hs1 : slots + N = slots1) (hR1 : cells1 ≤ R.cells) (hR2 : slots1 ≤ R.slots) (hdg : decode cc pc = .ok (.anewarray index, 3)) (kk : ∀ H1, ct_Z D cl b n1 Y s.heap H1 locs → W p l e R s m args below meth c H1 locs cells1 slots1 Q (F0 m (pc + 3) ls (.ref (b + n) :: rest))) : W p l e R s m args below meth c H locs cells slots Q (F0 m pc ls (.int v :: rest)) := by
  subst hv
  subst hn1
  subst hc1
  subst hs1
  have hcn : (nI N).toNatClampNeg = N := nI_clamp (by omega)
  refine W.anew hC.1 hC.2.1 hC.2.2.2.1 (hC.2.2.2.2.1 _ hcl) (va_AO.use hK.2.1) rfl hdg rfl (nI_pos (by omega)) (by rw [hcn]; omega) hR1 (by rw [hcn]; exact hR2) fun cA kA comp f1 f2 f3 f4 => ?_
  rw [hK.fL] at f1
  cases f1
  rw [hcn]
  generalize hH1 : H.push ({ cls := q.2.2.2.2.1, slots := Array.replicate N .null, vm := .none } : Cell) = H1
  have z1 : H1.size = H.size + 1 := by rw [← hH1, Array.size_push]
  have e1 : H1[H.size]? = some (arrV q.2.2.2.2.1 N (fun _ => .null)) := by rw [← hH1, Array.getElem?_push_size, ← arrV_new]
  have o1 : ∀ x : Nat, x < H.size → H1[x]? = H[x]? := fun x hx => by rw [← hH1, Array.getElem?_push, if_neg (Nat.ne_of_lt hx)]
  rw [hZ.1] at e1 ⊢
  refine kk H1 (ct_grow hZ ?_ z1 o1)
  rw [hY]
  refine ct_arrat (f := fun _ => none) ?_ (fun i hi => (hf i hi).symm)
  show H1[b + n]? = some (vp_cell _ _)
  rw [e1]
  rfl
theorem ct_mna (hC : zz_C p s m args meth c cc maxL ret own) (hK : ct_K q s) (hZ : ct_Z D cl b n Y s.heap H locs) {index : Nat} (hcl : Cond.classLink own index "[[I" ∈ zz_tbl) (harr : Cond.arrayClass .int ∈ zz_tbl) {N K : Nat} {v1 v2 : Int32} (hv1 : v1 = nI N) (hv2 : v2 = nI K) (hN : N < 1000) (hKK : K < 1000) {f : Nat → Option Nat} (hY0 : Y n = .inl (q.2.2.2.2.2.1, N, .inr (.inr (.inr (.inr f))))) (hf : ∀ i, i < N → f i = some (b + (n + 1 + i))) (hY1 : ∀ i, i < N → Y (n + 1 + i) = .inl (q.2.2.1, K, .inl (fun _ => nI 0))) {cells1 slots1 n1 : Nat} (hn1 : n + 1 + N = n1) (hc1 : cells + 1 + N = cells1) (hs1 : slots + N + N * K = slots1) (hR1 : cells1 ≤ R.cells) (hR2 : slots1 ≤ R.slots) (hdg : decode cc pc = .ok (.multianewarray index 2, 4)) (kk : ∀ H1, ct_Z D cl b n1 Y s.heap H1 locs → W p l e R s m args below meth c H1 locs cells1 slots1 Q (F0 m (pc + 4) ls (.ref (b + n) :: rest))) : W p l e R s m args below meth c H locs cells slots Q (F0 m pc ls (.int v2 :: .int v1 :: rest)) := by
  subst hv1
  subst hv2
  subst hn1
  subst hc1
  subst hs1
  have hcn : (nI N).toNatClampNeg = N := nI_clamp (by omega)
  have hck : (nI K).toNatClampNeg = K := nI_clamp (by omega)
  have es : ("[" ++ (FieldType.array .int).toString) = "[[I" := by decide +kernel
  have hcl' : (Cond.classLink own index ("[" ++ (FieldType.array .int).toString)).before args s = true := by
    rw [es]
    exact hC.2.2.2.2.1 _ hcl
  intro T hT Xs
  obtain ⟨vm₁, cA, comp, -, fA, fC, -, -, X', step⟩ := Xs.multianewarray2F hC.1 hC.2.2.2.1 hcl' (show (Cond.arrayOver (.array .int)).before args s = true from hK.2.2.1) (hC.2.2.2.2.1 _ harr) (g := F0 m pc ls (.int (nI K) :: .int (nI N) :: rest)) rfl (by rw [hC.2.1]; exact hdg) rfl (nI_pos (by omega)) (nI_pos (by omega)) (by rw [hcn]; omega) (by rw [hck]; show K * 4 ≤ _; omega) (by rw [hck]; omega) rfl rfl (by rw [hcn]; omega) (by rw [hcn, hck]; omega)
  rw [hcn, hck] at X' step
  rw [hK.fA] at fA
  cases fA
  have hfi : s.vm.findClass (FieldType.array .int).toString = some q.2.2.1 := hK.fI
  rw [hfi] at fC
  cases fC
  generalize hF : Jvm.Free.Multi.fill (T.setVm vm₁) q.2.2.2.2.2.1 q.2.2.1 N K (defaultValue .int) N = F at X' step
  have hTh : (T.setVm vm₁).heap = H := hT
  obtain ⟨f1, f2, -, -⟩ := Jvm.Free.Multi.fill_facts (T.setVm vm₁) q.2.2.2.2.2.1 q.2.2.1 N K (defaultValue .int) N
  rw [hF, hTh] at f1 f2
  have hold : ∀ x : Nat, x < H.size → F.heap[x]? = H[x]? := fun x hx => by
    have := Jvm.Free.Multi.fill_old (T.setVm vm₁) q.2.2.2.2.2.1 q.2.2.1 N K (defaultValue .int) (a := x) (by rw [hTh]; exact hx) N
    rw [hF, hTh] at this
    exact this
  have hrow : ∀ j : Nat, j < N → F.heap[H.size + 1 + j]? = some (vp_cell q.2.2.1 (K, .inl (fun _ => nI 0))) := fun j hj => by
    have := Jvm.Free.Multi.fill_inner (T.setVm vm₁) q.2.2.2.2.2.1 q.2.2.1 N K (defaultValue .int) N j hj
    rw [hF, hTh] at this
    rw [this, vp_cell_i]
    exact congrArg some (arrV_new _ _ _)
  have hout : ∀ i : Nat, Jvm.Free.Multi.outerC q.2.2.2.2.2.1 N H.size i = arrV q.2.2.2.2.2.1 N (fun j => va_rf (if j < i then some (H.size + 1 + j) else none)) := by
    intro i
    induction i with
    | zero =>
      show ({ cls := q.2.2.2.2.2.1, slots := Array.replicate N .null, vm := .none } : Cell) = _
      rw [arrV_new]
      refine congrArg (arrV q.2.2.2.2.2.1 N) (funext fun j => ?_)
      simp [va_rf]
    | succ i ih =>
      show (Jvm.Free.Multi.outerC q.2.2.2.2.2.1 N H.size i).setSlot i (.ref (H.size + 1 + i)) = _
      rw [ih, arrV_store]
      refine congrArg (arrV q.2.2.2.2.2.1 N) (funext fun j => ?_)
      by_cases e : j = i
      · subst e
        simp [updV, va_rf]
      · by_cases h : j < i
        · simp [updV, e, h, Nat.lt_succ_of_lt h]
        · simp [updV, e, h, show ¬ j < i + 1 by omega]
  rw [hout N] at f2
  have hzH := hZ.1
  have hZ1 : ct_Z D cl b (n + 1 + N) Y s.heap F.heap locs := by
    refine ⟨by rw [f1, hzH]; omega, fun i hi => ?_, ⟨by rw [f1]; exact Nat.le_trans hZ.2.2.1 (by omega), fun x h1 h2 => (hold x (Nat.lt_of_lt_of_le h1 hZ.2.2.1)).trans (hZ.2.2.2.1 x h1 h2), hZ.2.2.2.2⟩⟩
    by_cases h : i < n
    · exact (hZ.2.1 i h).kept (hold _ (by show b + i < _; omega))
    · by_cases h2 : i = n
      · subst h2
        rw [hY0]
        refine ct_arrat (f := fun j => if j < N then some (H.size + 1 + j) else none) ?_ (fun j hj => by
          show (if j < N then some (H.size + 1 + j) else none) = f j
          rw [if_pos hj, hf j hj, hzH]
          exact congrArg some (by omega))
        show F.heap[b + i]? = some (vp_cell _ _)
        rw [← hzH]
        exact f2
      · have e : i = n + 1 + (i - (n + 1)) := by omega
        rw [e, hY1 _ (by omega)]
        show F.heap[b + (n + 1 + (i - (n + 1)))]? = some (vp_cell _ _)
        have e2 : b + (n + 1 + (i - (n + 1))) = H.size + 1 + (i - (n + 1)) := by omega
        rw [e2]
        exact hrow _ (by omega)
  obtain ⟨t, a1, b1⟩ := kk F.heap hZ1 F rfl X'
  refine ⟨t, step t ?_, b1⟩
  have e3 : T.heap.size = b + n := by rw [hT, hzH]
  rw [e3]
  exact a1
theorem ct_put {ref C : String} {T : u_T} {N ci index : Nat} {fs : List Value} {Z : Nat → va_E} (hC : zz_C p s m args meth c cc maxL ret own) (hK : va_K D cl tys s) (hZ : ct_Z D cl b n (ct_y ci fs Z) s.heap H locs) (h0 : 0 < n) (hc : cl[ci]? = some (C, T, N)) (hin : ∀ w ∈ u_ws C T N, w ∈ zz_tbl) (ty0 : Nat → FieldType) (hty : ∀ k, k < N → parseFieldDescriptor (T k).2.2.1 = some (ty0 k)) (hnm : ∀ a, a < N → ∀ b, b < N → a ≠ b → (T a).2.1 ≠ (T b).2.1) (k : Nat) (hk : k < N) (hlink : Cond.fieldLink own index ref (T k).2.1 (T k).2.2.1 ∈ zz_tbl) (hT : (T k).1 = ref) (hfin : (T k).2.2.2 = false ∨ ((T k).2.2.2 = true ∧ meth.name = "<init>" ∧ (T k).1 = own)) {ty : FieldType} {v : Value} (hd : parseFieldDescriptor (T k).2.2.1 = some ty) (hn : narrow ty v = v) (hfit : fits ty v = true) (hl : k < fs.length) (hdg : decode cc pc = .ok (.putfield index, 3)) (kk : ∀ (H1 : Heap) (locs1 : List Loc), ct_Z D cl b n (ct_y ci (fs.set k v) Z) s.heap H1 locs1 → W p l e R s m args below meth c H1 locs1 cells slots Q (F0 m (pc + 3) ls rest)) : W p l e R s m args below meth c H locs cells slots Q (F0 m pc ls (v :: .ref b :: rest)) := by
  subst hT
  have hts := hC.2.2.2.2.1
  have hap := va_apart (own := own) hts hin ty0 hty hnm hK hc
  have he : va_at D cl (b, .inr (ci, fs)) H := hZ.2.1 0 h0
  obtain ⟨r, h1, cell, q1, q2, q3, q4⟩ := he
  have hr : r = (C, T, N) := Option.some.inj (h1.symm.trans hc)
  subst hr
  obtain ⟨hS, hfc, kC, hkC, hkind⟩ := hK.1 ci _ hc
  obtain ⟨cf, kf, fi, f, hi, hsl⟩ := hS k hk
  have hlay := hts _ (hin _ (u_in_lay hk))
  unfold u_lay at hlay
  have hst := (u_facts hfc hkC (u_lays hts hin hk) hi).1
  have fin : ∀ (H1 : Heap) (j : Nat), H1[b]? = some (cell.setSlot (D.2 ci k) v) → H1.size = H.size → (∀ x, x ≠ b → H1[x]? = H[x]?) → ct_Z D cl b n (ct_y ci (fs.set k v) Z) s.heap H1 (locs ++ [⟨b, j⟩]) := by
    intro H1 j e1 e2 e3
    refine ⟨by rw [e2]; exact hZ.1, fun i hi => ?_, hZ.2.2.put e2 e3 (Nat.le_refl b)⟩
    by_cases h : i = 0
    · subst h
      exact ⟨_, hc, t_OB.to (V := updV (vp_V fs) k v) ⟨_, e1, q2, q3, t_set q4 hap hk v⟩ (fun j _ => vp_updV_set hl v j)⟩
    · have h2 := hZ.2.1 i hi
      rw [ct_yi h] at h2
      rw [ct_yi h]
      exact h2.kept (e3 _ (by show b + i ≠ b; omega))
  rcases hfin with hfin | ⟨hfin, hin2, hdecl⟩
  · rw [if_neg (by rw [hfin]; decide)] at hlay
    have h6 := u_store hfc hkC hkind hlay hi hd hn hfit
    refine W.putK hC.1 hC.2.1 (f := f) ⟨hC.2.2.2.1, hts _ hlink, ⟨_, _, _, hi⟩, hst⟩ (by rw [q2]; exact h6) q1 q3 (by rw [hsl]; exact k2_hasslot (q4 k hk)) rfl rfl hdg fun H' e1 e2 e3 => ?_
    rw [hsl] at e1 ⊢
    exact kk H' _ (fin H' _ e1 e2 e3)
  · rw [if_pos hfin] at hlay
    have hcf : m.cls = cf := by
      obtain ⟨_, _, c', _, _, _, -, -, hf', -, -, -, hown2, -⟩ := Cond.laysFinal_spec hlay
      have e1 : c' = cf := by have := hi.symm.trans hf'; simp at this; exact this.1.symm
      rw [hdecl] at hown2
      rw [← e1]; exact Option.some.inj (hC.2.2.2.1.symm.trans hown2)
    have h6 := u_fits hfc hkC hkind (Or.inr hlay) hi hd hn hfit
    refine W.putFinK hC.1 hC.2.1 hC.2.2.2.1 (hts _ hlink) hi hst hcf hin2 (by rw [q2]; exact h6) q1 q3 (by rw [hsl]; exact k2_hasslot (q4 k hk)) rfl rfl hdg fun H' e1 e2 e3 => ?_
    rw [hsl] at e1 ⊢
    exact kk H' _ (fin H' _ e1 e2 e3)
theorem ct_get {ref C : String} {T : u_T} {N ci index : Nat} {fs : List Value} {Z : Nat → va_E} (hC : zz_C p s m args meth c cc maxL ret own) (hK : va_K D cl tys s) (hZ : ct_Z D cl b n (ct_y ci fs Z) s.heap H locs) (h0 : 0 < n) (hc : cl[ci]? = some (C, T, N)) (hin : ∀ w ∈ u_ws C T N, w ∈ zz_tbl) (k : Nat) (hk : k < N) (hlink : Cond.fieldLink own index ref (T k).2.1 (T k).2.2.1 ∈ zz_tbl) (hT : (T k).1 = ref) {v : Value} (hv : fs[k]? = some v) (hdg : decode cc pc = .ok (.getfield index, 3)) (kk : W p l e R s m args below meth c H locs cells slots Q (F0 m (pc + 3) ls (v :: rest))) : W p l e R s m args below meth c H locs cells slots Q (F0 m pc ls (.ref b :: rest)) :=
  va_get (D := D) hC.1 hC.2.1 hC.2.2.2.2.1 hin hC.2.2.2.1 hK hZ.2.1.P 0 (ct_w_at h0) hc k hk (hC.2.2.2.2.1 _ hlink) (fun x h => by rw [← hT]; exact h) hv hdg kk
theorem ct_alen {x : vp_A} {cA : ClassId} {ty : FieldType} (hC : zz_C p s m args meth c cc maxL ret own) (hK : va_K D cl tys s) (hZ : ct_Z D cl b n Y s.heap H locs) (k t0 : Nat) (hk : k < n) (hY : Y k = .inl (cA, x)) (ht : tys[t0]? = some (cA, ty)) (hdg : decode cc pc = .ok (.arraylength, 1)) (kk : W p l e R s m args below meth c H locs cells slots Q (F0 m (pc + 1) ls (.int (nI x.1) :: rest))) : W p l e R s m args below meth c H locs cells slots Q (F0 m pc ls (.ref (b + k) :: rest)) :=
  va_alen hC.1 hC.2.1 hK hZ.2.1.P k t0 (by rw [ct_w_at hk, hY]) ht rfl hdg kk
/-- one element of an array of labels is set -/
theorem ct_aast {N k vv ci : Nat} {fs : List Value} {r : vw_C} {cA : ClassId} {f g : Nat → Option Nat} {Y' : Nat → va_E} (hC : zz_C p s m args meth c cc maxL ret own) (hK : va_K D cl tys s) (hZ : ct_Z D cl b n Y s.heap H locs) (k0 t0 kv : Nat) (hk0 : k0 < n) (hY : Y k0 = .inl (cA, N, .inr (.inr (.inr (.inr f))))) (ht : tys[t0]? = some (cA, .object r.1)) (hkv : kv < n) (hYv : Y kv = .inr (ci, fs)) (hc : cl[ci]? = some r) (hvv : vv = b + kv) {i : Int32} (hi : i = nI k) (hk : k < N) (hN : N < 1000) (hY' : Y' k0 = .inl (cA, N, .inr (.inr (.inr (.inr g))))) (hg : ∀ j, j < N → g j = if j = k then some vv else f j) (hYo : ∀ j, j ≠ k0 → Y' j = Y j) (hdg : decode cc pc = .ok (.aastore, 1)) (kk : ∀ (H1 : Heap) (locs1 : List Loc), ct_Z D cl b n Y' s.heap H1 locs1 → W p l e R s m args below meth c H1 locs1 cells slots Q (F0 m (pc + 1) ls rest)) : W p l e R s m args below meth c H locs cells slots Q (F0 m pc ls (.ref vv :: .int i :: .ref (b + k0) :: rest)) := by
  subst hi
  subst hvv
  have hcn : (nI k).toNatClampNeg = k := nI_clamp (by omega)
  have ha := hZ.2.1 k0 hk0
  rw [hY] at ha
  have hv := hZ.2.1 kv hkv
  rw [hYv] at hv
  obtain ⟨r', hr', cellV, g1, g2, g3, -⟩ := hv
  have hcls := (hK.1 ci r hc).2
  obtain ⟨kA, comp, k1, k2, k3, -⟩ := (hK.2 t0 _ ht).2
  have hcomp : comp = D.1 ci := Option.some.inj (k3.symm.trans hcls.1)
  subst hcomp
  obtain ⟨kC, hkC, -⟩ := hcls.2
  refine W.aast hC.1 hC.2.1 ha (fun q h => by cases h) (fun h => by cases h) k1 k2 rfl hkC ⟨nI_pos (by omega), by show _ < (arrV _ _ _).slots.size; rw [arrV_size, hcn]; exact hk⟩ g1 (fun q h => by rw [g3] at h; cases h) (by rw [g2]; exact hkC) (by rw [g2]; exact va_assign hcls) rfl rfl hdg fun H1 e1 z oq => ?_
  refine kk H1 _ ⟨by rw [z]; exact hZ.1, fun j hj => ?_, hZ.2.2.put z oq (Nat.le_add_right b k0)⟩
  by_cases h : j = k0
  · subst h
    rw [hY']
    refine ct_arrat (f := fun j => if j = k then some (b + kv) else f j) ?_ (fun j hj => (hg j hj).symm)
    show H1[b + j]? = some (vp_cell _ _)
    rw [e1, vp_cell_q, vp_cell_q, arrV_store, hcn]
    refine congrArg (fun z => some (arrV cA N z)) (funext fun x => ?_)
    by_cases hx : x = k
    · subst hx
      simp [updV, va_rf]
    · simp [updV, hx]
  · rw [hYo j h]
    exact (hZ.2.1 j hj).kept (oq _ (by show b + j ≠ b + k0; omega))
theorem ct_run {n2 ci w : Nat} {fs : List Value} {Y' : Nat → va_E} {index2 : Nat} {H1 : Heap} {st0 : List Value} (hC : zz_C p s m args meth c cc maxL ret own) (hK : ct_K q s) (hM : ct_M l y bytes mL rm q n2 ci fs w Y') (hY : ct_Y y bytes mL) (hlk : Cond.methodLink own index2 y ∈ zz_tbl ∨ ∃ host, Cond.methodLinkNest own index2 y host ∈ lw_tbl) (hrm : rm.frames + 1 ≤ R.frames ∧ 8 + (mL + 11) + rm.locals ≤ R.locals) (hz : H1.size = n2 + 1) (hobj : va_at q.1 xg_cl (n2, .inr (ci, fs)) H1) (hsz : ls.size = maxL) (hst : st0 = .ref n2 :: rest) (hW : (rest.map fun v => v.category).sum ≤ 8) (hdg : decode cc pc = .ok (.invokespecial index2, 3)) (hf : cells + rm.cells ≤ R.cells ∧ slots + rm.slots ≤ R.slots) : va_Run p l e R s m args below meth c H1 locs cells slots rm.cells rm.slots (F0 m pc ls st0) rest (va_Qv (fun _ : Unit => True) (ct_post q n2 w Y') (fun x => n2 ≤ x) [Value.ref n2].toArray) (fun x => n2 ≤ x) := by
  subst hst
  have hp : PreS s H1 (va_Pc [.ref n2] (ct_pre q n2 ci fs)) (.ref n2 :: []) := ⟨ct_blind, fun U hU hWm => ⟨rfl, by rw [hU]; exact hz, by rw [hU]; exact hobj, ct_K.warm hWm hK⟩⟩
  rcases hlk with wl | ⟨host, wl⟩
  · exact va_runI (Ts := zz_tbl) (own := own) (cc := cc) (nL := maxL) (As := []) (n := 0) ⟨hC.1, hC.2.1, hC.2.2.1, hC.2.2.2.1, hC.2.2.2.2.1⟩ hM (cwI 0 hC.2.2.2.2.1 (zz_good hY.1) rfl rfl rfl (hC.2.2.2.2.1 _ hY.2.1) (hC.2.2.2.2.1 _ wl) (hC.2.2.2.2.1 _ hY.2.2.1) hY.2.2.2.1 hY.2.2.2.2 hrm) hp rfl rfl hsz rfl (lv_room hW) hdg hf
  · exact va_runIN (Ts := zz_tbl) (own := own) (cc := cc) (nL := maxL) (As := []) (n := 0) ⟨hC.1, hC.2.1, hC.2.2.1, hC.2.2.2.1, hC.2.2.2.2.1⟩ hM ⟨va_cnB 0 hC.2.2.2.2.1 (zz_good hY.1) rfl rfl rfl (hK.2.2.2 _ wl rfl) (hC.2.2.2.2.1 _ hY.2.1) hY.2.2.2.2 hrm, hY.2.2.2.1, hC.2.2.2.2.1 _ hY.2.2.1⟩ hp rfl rfl hsz rfl (lv_room hW) hdg hf
/-- new, dup, invokespecial of the constructor -/
theorem ct_make {C : String} {T : u_T} {N ci index index2 w : Nat} {fs : List Value} {Y' : Nat → va_E} (hC : zz_C p s m args meth c cc maxL ret own) (hK : ct_K q s) (hZ : ct_Z q.1 xg_cl b n Y s.heap H locs) (hin : ∀ w ∈ u_ws C T N, w ∈ zz_tbl) (ty : Nat → FieldType) (hty : ∀ k, k < N → parseFieldDescriptor (T k).2.2.1 = some (ty k)) (hcl : Cond.classLink own index C ∈ zz_tbl) (hinst : Cond.instantiable C N ∈ zz_tbl) (hini : Cond.initialized C ∈ zz_tbl) (hc : xg_cl[ci]? = some (C, T, N)) (hfs : ∀ j, j < N → defaultValue (ty j) = vp_V fs j) (hM : ct_M l y bytes mL rm q (b + n) ci fs w Y') (hY1 : ct_Y y bytes mL) (hlk : Cond.methodLink own index2 y ∈ zz_tbl ∨ ∃ host, Cond.methodLinkNest own index2 y host ∈ lw_tbl) (hrm : rm.frames + 1 ≤ R.frames ∧ 8 + (mL + 11) + rm.locals ≤ R.locals) (hYY : ∀ i, i < w → Y (n + i) = Y' i) {cells1 slots1 n1 : Nat} (hn1 : n + w = n1) (hc1 : cells + 1 + rm.cells = cells1) (hs1 : slots + N + rm.slots = slots1) (hR1 : cells1 ≤ R.cells) (hR2 : slots1 ≤ R.slots) (hsz : ls.size = maxL) (hW : (rest.map fun v => v.category).sum ≤ 6) (d1 : decode cc pc = .ok (.new index, 3)) (d2 : decode cc (pc + 3) = .ok (.dup, 1)) (d3 : decode cc (pc + 4) = .ok (.invokespecial index2, 3)) (kk : ∀ (H1 : Heap) (locs1 : List Loc), ct_Z q.1 xg_cl b n1 Y s.heap H1 locs1 → W p l e R s m args below meth c H1 locs1 cells1 slots1 Q (F0 m (pc + 7) ls (.ref (b + n) :: rest))) : W p l e R s m args below meth c H locs cells slots Q (F0 m pc ls rest) := by
  subst hn1
  subst hc1
  subst hs1
  have hKn := hK.1.1 ci _ hc
  refine W.newcK hC.1 hC.2.1 hC.2.2.2.1 (hC.2.2.2.2.1 _ hcl) (hC.2.2.2.2.1 _ hinst) (hC.2.2.2.2.1 _ hini) rfl d1 (by omega) (by omega) hKn.2.1 hZ.1 fun H1 kC hkC e1 z1 o1 => ?_
  have hobj : va_at q.1 xg_cl (b + n, .inr (ci, fs)) H1 := ⟨_, hc, (u_born ty hC.2.2.2.2.1 hin hKn hkC e1 hty).to hfs⟩
  have hzH := hZ.1
  have hS1 : va_S (fun x => b ≤ x) s.heap H1 locs := ⟨Nat.le_trans hZ.2.2.1 (by omega), fun x h1 h2 => (o1 x (by have := hZ.2.2.1; omega)).trans (hZ.2.2.2.1 x h1 h2), hZ.2.2.2.2⟩
  refine W.eq (g2 := F0 m (pc + 3) ls (.ref (b + n) :: rest)) rfl ?_
  refine lv_dup (va := .ref (b + n)) hC.1 hC.2.1 d2 rfl ?_
  refine va_callv (ct_run (st0 := .ref (b + n) :: .ref (b + n) :: rest) (rest := .ref (b + n) :: rest) hC hK hM hY1 hlk hrm z1 hobj hsz rfl (by rw [List.map_cons, List.sum_cons]; show 1 + _ ≤ 8; omega) d3 ⟨hR1, hR2⟩) hS1 (fun x _ h => Nat.le_trans (Nat.le_add_right b n) h) (fun x h => Nat.le_trans (Nat.le_add_right b n) h) (fun u t H2 locs2 ht hvm _ hB hz hk hS2 => ?_)
  obtain ⟨hB1, hB2⟩ := hB
  rw [ht] at hB1 hB2
  refine kk H2 locs2 ⟨by rw [hB1]; omega, fun i hi => ?_, hS2⟩
  by_cases h : i < n
  · exact (hZ.2.1 i h).kept ((hk (b + i) (by omega) (by omega)).trans (o1 _ (by omega)))
  · have h3 := hB2 (i - n) (by omega)
    rw [← hYY (i - n) (by omega), show n + (i - n) = i by omega, show b + n + (i - n) = b + i by omega] at h3
    exact h3
end CT
