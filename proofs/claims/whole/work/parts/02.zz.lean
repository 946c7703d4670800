/-! The world as a function: every cell has a number c, an address ad c, and ints and longs S.1 c, S.2 c; what it looks like is its layout y c. No call after the constructors makes a cell, so a method turns S into another S and leaves the rest. -/
abbrev zz_S : Type := (Nat → Nat → Int32) × (Nat → Nat → Int64)
abbrev zz_Y : Type := Nat → (Nat → Int32) → (Nat → Int64) → va_E
def zz_u (S : zz_S) (c k : Nat) (v : Int32) : zz_S := (va_up S.1 c (upd (S.1 c) k v), S.2)
def zz_v (S : zz_S) (c k : Nat) (v : Int64) : zz_S := (S.1, va_up S.2 c (vp_updL (S.2 c) k v))
def zz_w (n : Nat) (ad : Nat → Nat) (y : zz_Y) (S : zz_S) : va_W := (List.range n).map (fun c => (ad c, y c (S.1 c) (S.2 c)))
theorem zz_w_at {n : Nat} {ad : Nat → Nat} {y : zz_Y} {S : zz_S} {c : Nat} (h : c < n) : (zz_w n ad y S)[c]? = some (ad c, y c (S.1 c) (S.2 c)) := by
  simp [zz_w, h]
theorem zz_w_none {n : Nat} {ad : Nat → Nat} {y : zz_Y} {S : zz_S} {c : Nat} (h : ¬ c < n) : (zz_w n ad y S)[c]? = none := by
  apply List.getElem?_eq_none
  simp only [zz_w, List.length_map, List.length_range]
  omega
theorem zz_w_inv {n : Nat} {ad : Nat → Nat} {y : zz_Y} {S : zz_S} {k : Nat} {q : Nat × va_E} (h : (zz_w n ad y S)[k]? = some q) : k < n ∧ q = (ad k, y k (S.1 k) (S.2 k)) := by
  by_cases hk : k < n
  · rw [zz_w_at hk] at h
    exact ⟨hk, (Option.some.inj h).symm⟩
  · rw [zz_w_none hk] at h
    cases h
theorem zz_w_set {n : Nat} {ad : Nat → Nat} {y : zz_Y} {S S' : zz_S} {c : Nat} {e : va_E} (h : c < n) (h1 : ∀ d, d ≠ c → S'.1 d = S.1 d) (h2 : ∀ d, d ≠ c → S'.2 d = S.2 d) (he : y c (S'.1 c) (S'.2 c) = e) : (zz_w n ad y S).set c (ad c, e) = zz_w n ad y S' := by
  apply List.ext_getElem?
  intro k
  have hlen : (zz_w n ad y S).length = n := by simp only [zz_w, List.length_map, List.length_range]
  by_cases hk : k < n
  · by_cases hc : c = k
    · subst hc
      rw [zz_w_at h, List.getElem?_set_self (by omega), he]
    · rw [List.getElem?_set_ne hc, zz_w_at hk, zz_w_at hk, h1 k (fun x => hc x.symm), h2 k (fun x => hc x.symm)]
  · rw [zz_w_none hk, List.getElem?_eq_none (by rw [List.length_set]; omega)]
theorem zz_u1 (S : zz_S) (c k : Nat) (v : Int32) (d : Nat) (h : d ≠ c) : (zz_u S c k v).1 d = S.1 d := by
  show va_up S.1 c _ d = S.1 d
  rw [va_up, if_neg h]
theorem zz_u1s (S : zz_S) (c k : Nat) (v : Int32) : (zz_u S c k v).1 c = upd (S.1 c) k v := by
  show va_up S.1 c _ c = _
  rw [va_up, if_pos rfl]
theorem zz_v2 (S : zz_S) (c k : Nat) (v : Int64) (d : Nat) (h : d ≠ c) : (zz_v S c k v).2 d = S.2 d := by
  show va_up S.2 c _ d = S.2 d
  rw [va_up, if_neg h]
theorem zz_v2s (S : zz_S) (c k : Nat) (v : Int64) : (zz_v S c k v).2 c = vp_updL (S.2 c) k v := by
  show va_up S.2 c _ c = _
  rw [va_up, if_pos rfl]
/-- what the tables and the cells of one side are: classes, array classes, how many cells, where, of which layout; and where the class's table of arities is -/
abbrev zz_G : Type := va_G × List vw_C × List (ClassId × FieldType) × Nat × (Nat → Nat) × zz_Y × Nat
abbrev zz_D (G : zz_G) : va_G := G.1
abbrev zz_cl (G : zz_G) : List vw_C := G.2.1
abbrev zz_ty (G : zz_G) : List (ClassId × FieldType) := G.2.2.1
abbrev zz_n (G : zz_G) : Nat := G.2.2.2.1
abbrev zz_ad (G : zz_G) : Nat → Nat := G.2.2.2.2.1
abbrev zz_y (G : zz_G) : zz_Y := G.2.2.2.2.2.1
abbrev zz_t (G : zz_G) : Nat := G.2.2.2.2.2.2
def zz_W (G : zz_G) (S : zz_S) : va_W := zz_w (zz_n G) (zz_ad G) (zz_y G) S
def zz_A (G : zz_G) : Nat → Prop := fun q => ∃ c, c < zz_n G ∧ q = zz_ad G c
def zz_kd (k : Nat) : Nat := if k < 3 then 0 else if k < 5 then 1 else 2
def zz_ar : Nat → Value := fun j => .int (nI (zz_kd j))
def zz_N (U : State) : Prop := ∀ w, w ∈ lw_tbl → zz_isN w = true → va_Nw w U
theorem zz_N.warm {s U : State} (hW : s.WarmedH U.vm) (h : zz_N s) : zz_N U := fun w hw hn => by
  have h1 := h w hw hn
  cases w <;> first | (exact va_Nw.warmM hW h1) | (exact va_Nw.warmF hW h1) | (cases hn)
theorem zz_N.same {s U : State} (hv : s.vm = U.vm) (h : zz_N s) : zz_N U := fun w hw hn => by
  have h1 := h w hw hn
  cases w <;> first | (cases hn; done) | (exact va_Nw.same rfl hv h1)
def zz_K (G : zz_G) (U : State) (H : Heap) : Prop := va_K (zz_D G) (zz_cl G) (zz_ty G) U ∧ va_Z "TreeCoverForge" "ARITIES" "[I" (.ref (zz_t G)) (zz_A G) U H ∧ va_T .int (zz_t G) 8 zz_ar (zz_A G) U H ∧ zz_N U
def zz_P (G : zz_G) (S : zz_S) (U : State) : Prop := va_P (zz_D G) (zz_cl G) (zz_W G S) U.heap ∧ va_D (zz_A G) (zz_W G S) ∧ zz_K G U U.heap
def zz_Z (G : zz_G) (S : zz_S) (H0 H : Heap) (locs : List Loc) : Prop := va_P (zz_D G) (zz_cl G) (zz_W G S) H ∧ va_D (zz_A G) (zz_W G S) ∧ va_S (zz_A G) H0 H locs
def zz_Pc (args : List Value) (G : zz_G) (S : zz_S) : Array Value → State → Prop := va_Pc args (zz_P G S)
theorem zz_K.warm {G : zz_G} {u U : State} {H : Heap} (hW : u.WarmedH U.vm) (h : zz_K G u H) : zz_K G U H := ⟨va_K.moved hW.alike h.1, va_Z.moved hW.alike h.2.1, va_T.moved hW.alike h.2.2.1, zz_N.warm hW h.2.2.2⟩
theorem zz_K.same {G : zz_G} {u U : State} {H : Heap} (hv : u.vm = U.vm) (hvm : u.vm.Alike U.vm) (h : zz_K G u H) : zz_K G U H := ⟨va_K.moved hvm h.1, va_Z.moved hvm h.2.1, va_T.moved hvm h.2.2.1, zz_N.same hv h.2.2.2⟩
theorem zz_K.kept {G : zz_G} {U : State} {H H1 : Heap} (h : zz_K G U H) (hq : ∀ a : Nat, a < H.size → ¬ zz_A G a → H1[a]? = H[a]?) : zz_K G U H1 := ⟨h.1, va_Z.kept h.2.1 hq, va_T.kept h.2.2.1 hq, h.2.2.2⟩
theorem zz_W_at {G : zz_G} {S : zz_S} {c : Nat} (h : c < zz_n G) {e : va_E} (he : zz_y G c (S.1 c) (S.2 c) = e) : (zz_W G S)[c]? = some (zz_ad G c, e) := by
  rw [← he]
  exact zz_w_at h
/-- a method's fixed facts: the machine, its code, its class, the tables' words -/
def zz_C (p : Program) (s : State) (m : MethodId) (args : Array Value) (meth : Method) (c : Code) (cc : ByteArray) (maxL : Nat) (ret : Option FieldType) (own : String) : Prop :=
  p.tables.exec = Jvm.exec ∧ c.code = cc ∧ c.maxLocals = maxL ∧ s.vm.findClass own = some m.cls ∧ (∀ w ∈ zz_tbl, w.before args s = true) ∧ meth.sig.returnType = ret ∧ meth.locks = false
theorem zz_met {l : Launch} {y : MethodName} {cc : ByteArray} {maxL : Nat} {ret : Option FieldType} {rm : Room} {args : List Value} {G : zz_G} {S : zz_S} {Qc : Array Value → State → Outcome → State → Prop} (hy : plainName y.cls = true) (hlen : (lg_sl args).length ≤ maxL)
    (body : ∀ (p : Program) (e : Env) (s : State) (m : MethodId) (below : List Frame) (meth : Method) (c : Code) (ls : Array Slot), zz_C p s m args.toArray meth c cc maxL ret y.cls → zz_K G s s.heap → zz_Z G S s.heap s.heap [] → lv_has ls maxL (lv_args 0 args) → W p l e rm s m args.toArray below meth c s.heap [] 0 0 (MQ below Qc args.toArray s 0 0 (zz_A G)) (F0 m 0 ls [])) :
    Met l y (Cond.code y cc maxL ret :: zz_tbl) rm (zz_Pc args G S) Qc 0 0 (zz_A G) := by
  refine Met.ofW (cc := cc) (maxL := maxL) (ret := ret) hy rfl ?_
  intro p e s m args' below meth c s₁ B hml hv
  obtain ⟨rfl, hP, hD, hK⟩ := hv
  have hts := atoms_spec (ws := Cond.code y cc maxL ret :: zz_tbl) B.pre
  rw [lg_entry_eq]
  exact body p e s m below meth c _ ⟨B.exec, B.bytes, hml, findClass_of_methodNamed B.named, fun w hw => hts w (List.mem_cons_of_mem _ hw), B.returns, B.notSynchronized⟩ hK ⟨hP, hD, va_S.rf⟩ (lv_entry args hlen)
theorem zz_blind {args : List Value} {G : zz_G} {S : zz_S} : FrameBlind (zz_Pc args G S) := fun a U g mk q => by
  obtain ⟨q0, qP, qD, qK⟩ := q
  exact ⟨q0, qP, qD, zz_K.same (u := U) (U := U.calling g mk a) rfl (Vm.Alike.refl U.vm) qK⟩
theorem zz_here {G : zz_G} {S : zz_S} {s U : State} {H : Heap} {locs : List Loc} (hK : zz_K G s s.heap) (hZ : zz_Z G S s.heap H locs) (hU : U.heap = H) (hvm : s.WarmedH U.vm) : zz_P G S U := by
  refine ⟨by rw [hU]; exact hZ.1, hZ.2.1, ?_⟩
  refine zz_K.warm hvm (zz_K.kept hK ?_)
  rw [hU]
  exact hZ.2.2.2.1
section ZR
variable {p : Program} {l : Launch} {e : Env} {R : Room} {s : State} {m : MethodId} {args : Array Value} {below : List Frame} {meth : Method} {c : Code} {H : Heap} {locs : List Loc} {cells slots : Nat} {Q : State → Prop}
variable {cc : ByteArray} {maxL : Nat} {ret : Option FieldType} {own : String} {pc : Nat} {ls : Array Slot} {rest : List Value} {G : zz_G} {S : zz_S}
/-- the ends -/
theorem zz_iret {post : Int32 → zz_S → Prop} {v : Int32} (hC : zz_C p s m args meth c cc maxL ret own) (hK : zz_K G s s.heap) (hZ : zz_Z G S s.heap H locs) (hret : ret = some .int) (hdg : decode cc pc = .ok (.ireturn, 1)) (hp : post v S) : W p l e R s m args below meth c H locs 0 0 (MQ below (va_Qi post (zz_P G) (zz_A G)) args s 0 0 (zz_A G)) (F0 m pc ls [.int v]) :=
  W.iret hC.1 hC.2.1 (hC.2.2.2.2.2.1.trans hret) (fun t ht hW => ⟨⟨v, S, rfl, hp, zz_here hK hZ ht hW⟩, hZ.2.2.F ht⟩) hZ.2.2.2.2 hdg hC.2.2.2.2.2.2
theorem zz_zret {post : Int32 → zz_S → Prop} {v : Int32} (hC : zz_C p s m args meth c cc maxL ret own) (hK : zz_K G s s.heap) (hZ : zz_Z G S s.heap H locs) (hret : ret = some .boolean) (hdg : decode cc pc = .ok (.ireturn, 1)) (hn : narrow .boolean (.int v) = .int v) (hp : post v S) : W p l e R s m args below meth c H locs 0 0 (MQ below (va_Qi post (zz_P G) (zz_A G)) args s 0 0 (zz_A G)) (F0 m pc ls [.int v]) :=
  W.zret hC.1 hC.2.1 (hC.2.2.2.2.2.1.trans hret) hn (fun t ht hW => ⟨⟨v, S, rfl, hp, zz_here hK hZ ht hW⟩, hZ.2.2.F ht⟩) hZ.2.2.2.2 hdg hC.2.2.2.2.2.2
theorem zz_lret {post : Int64 → zz_S → Prop} {v : Int64} (hC : zz_C p s m args meth c cc maxL ret own) (hK : zz_K G s s.heap) (hZ : zz_Z G S s.heap H locs) (hret : ret = some .long) (hdg : decode cc pc = .ok (.lreturn, 1)) (hp : post v S) : W p l e R s m args below meth c H locs 0 0 (MQ below (va_Ql post (zz_P G) (zz_A G)) args s 0 0 (zz_A G)) (F0 m pc ls [.long v]) :=
  W.lret hC.1 hC.2.1 (hC.2.2.2.2.2.1.trans hret) (fun t ht hW => ⟨⟨v, S, rfl, hp, zz_here hK hZ ht hW⟩, hZ.2.2.F ht⟩) hZ.2.2.2.2 hdg hC.2.2.2.2.2.2
theorem zz_vret {post : zz_S → Prop} (hC : zz_C p s m args meth c cc maxL ret own) (hK : zz_K G s s.heap) (hZ : zz_Z G S s.heap H locs) (hret : ret = none) (hdg : decode cc pc = .ok (.return_, 1)) (hp : post S) : W p l e R s m args below meth c H locs 0 0 (MQ below (va_Qv post (zz_P G) (zz_A G)) args s 0 0 (zz_A G)) (F0 m pc ls []) :=
  W.vret hC.1 hC.2.1 (hC.2.2.2.2.2.1.trans hret) (fun t ht hW => ⟨⟨S, rfl, hp, zz_here hK hZ ht hW⟩, hZ.2.2.F ht⟩) hZ.2.2.2.2 hdg hC.2.2.2.2.2.2
/-- a reference to the cell number q is answered -/
theorem zz_aret {post : Nat → zz_S → Prop} {q : Nat} {C : String} (hC : zz_C p s m args meth c cc maxL ret own) (hK : zz_K G s s.heap) (hZ : zz_Z G S s.heap H locs) (hret : ret = some (.object C)) (hdg : decode cc pc = .ok (.areturn, 1)) (hp : post q S) : W p l e R s m args below meth c H locs 0 0 (MQ below (va_Qr (fun u : Nat × zz_S => post u.1 u.2) (fun u a t => a = zz_ad G u.1 ∧ zz_P G u.2 t) (zz_A G)) args s 0 0 (zz_A G)) (F0 m pc ls [.ref (zz_ad G q)]) :=
  W.aret hC.1 hC.2.1 (hC.2.2.2.2.2.1.trans hret) (Or.inl ⟨C, rfl⟩) (Or.inr ⟨_, rfl⟩) (fun t ht hW => ⟨⟨(q, S), zz_ad G q, rfl, hp, rfl, zz_here hK hZ ht hW⟩, hZ.2.2.F ht⟩) hZ.2.2.2.2 hdg hC.2.2.2.2.2.2
/-- fields -/
theorem zz_get {ref C : String} {T : u_T} {N ci index : Nat} (hC : zz_C p s m args meth c cc maxL ret own) (hK : zz_K G s s.heap) (hZ : zz_Z G S s.heap H locs) (c0 k : Nat) {fs : List Value} (hc0 : c0 < zz_n G) (he : zz_y G c0 (S.1 c0) (S.2 c0) = .inr (ci, fs)) (hc : (zz_cl G)[ci]? = some (C, T, N)) (hin : ∀ w ∈ u_ws C T N, w ∈ zz_tbl) (hk : k < N) (hlink : Cond.fieldLink own index ref (T k).2.1 (T k).2.2.1 ∈ zz_tbl) (hT : (T k).1 = ref) {v : Value} (hv : fs[k]? = some v) (hdg : decode cc pc = .ok (.getfield index, 3)) (kk : W p l e R s m args below meth c H locs cells slots Q (F0 m (pc + 3) ls (v :: rest))) : W p l e R s m args below meth c H locs cells slots Q (F0 m pc ls (.ref (zz_ad G c0) :: rest)) :=
  va_get (D := zz_D G) hC.1 hC.2.1 hC.2.2.2.2.1 hin hC.2.2.2.1 hK.1 hZ.1 c0 (zz_W_at hc0 he) hc k hk (hC.2.2.2.2.1 _ hlink) (fun x h => by rw [← hT]; exact h) hv hdg kk
theorem zz_put {ref C : String} {T : u_T} {N ci index : Nat} (hC : zz_C p s m args meth c cc maxL ret own) (hK : zz_K G s s.heap) (hZ : zz_Z G S s.heap H locs) (c0 k : Nat) {fs : List Value} (hc0 : c0 < zz_n G) (he : zz_y G c0 (S.1 c0) (S.2 c0) = .inr (ci, fs)) (hc : (zz_cl G)[ci]? = some (C, T, N)) (hin : ∀ w ∈ u_ws C T N, w ∈ zz_tbl) (ty0 : Nat → FieldType) (hty : ∀ k, k < N → parseFieldDescriptor (T k).2.2.1 = some (ty0 k)) (hnm : ∀ a, a < N → ∀ b, b < N → a ≠ b → (T a).2.1 ≠ (T b).2.1) (hk : k < N) (hlink : Cond.fieldLink own index ref (T k).2.1 (T k).2.2.1 ∈ zz_tbl) (hT : (T k).1 = ref) (hfin : (T k).2.2.2 = false) {v : Int32} (hd : parseFieldDescriptor (T k).2.2.1 = some .int) (hl : k < fs.length) (he' : zz_y G c0 (upd (S.1 c0) k v) (S.2 c0) = .inr (ci, fs.set k (.int v))) (hdg : decode cc pc = .ok (.putfield index, 3)) (kk : ∀ (H1 : Heap) (locs1 : List Loc), zz_Z G (zz_u S c0 k v) s.heap H1 locs1 → W p l e R s m args below meth c H1 locs1 cells slots Q (F0 m (pc + 3) ls rest)) : W p l e R s m args below meth c H locs cells slots Q (F0 m pc ls (.int v :: .ref (zz_ad G c0) :: rest)) := by
  refine va_put (D := zz_D G) hC.1 hC.2.1 hC.2.2.2.2.1 hin ty0 hty hnm hC.2.2.2.1 hK.1 hZ.1 hZ.2.1 hZ.2.2 c0 (zz_W_at hc0 he) hc k hk (hC.2.2.2.2.1 _ hlink) (fun x h => by rw [← hT]; exact h) hfin hd rfl rfl hl hdg (fun H1 locs1 h1 h2 h3 => ?_)
  have hw : (zz_W G S).set c0 (zz_ad G c0, .inr (ci, fs.set k (.int v))) = zz_W G (zz_u S c0 k v) := zz_w_set hc0 (fun d hd => zz_u1 S c0 k v d hd) (fun d _ => rfl) (by rw [zz_u1s]; exact he')
  rw [hw] at h1 h2
  exact kk H1 locs1 ⟨h1, h2, h3⟩
/-- arrays -/
theorem zz_iald {nn : Nat} {cA : ClassId} (hC : zz_C p s m args meth c cc maxL ret own) (hK : zz_K G s s.heap) (hZ : zz_Z G S s.heap H locs) (c0 t0 k : Nat) (hc0 : c0 < zz_n G) (he : zz_y G c0 (S.1 c0) (S.2 c0) = .inl (cA, nn, .inl (S.1 c0))) (ht : (zz_ty G)[t0]? = some (cA, .int)) {i v : Int32} (hi : i = nI k) (hkn : k < nn) (hnn : nn < 2 ^ 31) (hv : S.1 c0 k = v) (hdg : decode cc pc = .ok (.iaload, 1)) (kk : W p l e R s m args below meth c H locs cells slots Q (F0 m (pc + 1) ls (.int v :: rest))) : W p l e R s m args below meth c H locs cells slots Q (F0 m pc ls (.int i :: .ref (zz_ad G c0) :: rest)) := by
  subst hi
  refine va_iald hC.1 hC.2.1 hK.1 hZ.1 c0 t0 (zz_W_at hc0 he) ht (vp_in_nI hkn hnn) hdg ?_
  rw [nI_clamp (by omega), hv]
  exact kk
theorem zz_iast {nn : Nat} {cA : ClassId} (hC : zz_C p s m args meth c cc maxL ret own) (hK : zz_K G s s.heap) (hZ : zz_Z G S s.heap H locs) (c0 t0 k : Nat) (hc0 : c0 < zz_n G) (he : ∀ f, zz_y G c0 f (S.2 c0) = .inl (cA, nn, .inl f)) (ht : (zz_ty G)[t0]? = some (cA, .int)) {i v : Int32} (hi : i = nI k) (hkn : k < nn) (hnn : nn < 2 ^ 31) (hdg : decode cc pc = .ok (.iastore, 1)) (kk : ∀ (H1 : Heap) (locs1 : List Loc), zz_Z G (zz_u S c0 k v) s.heap H1 locs1 → W p l e R s m args below meth c H1 locs1 cells slots Q (F0 m (pc + 1) ls rest)) : W p l e R s m args below meth c H locs cells slots Q (F0 m pc ls (.int v :: .int i :: .ref (zz_ad G c0) :: rest)) := by
  subst hi
  refine va_iast hC.1 hC.2.1 hK.1 hZ.1 hZ.2.1 hZ.2.2 c0 t0 (zz_W_at hc0 (he _)) ht (vp_in_nI hkn hnn) hdg (fun H1 locs1 h1 h2 h3 => ?_)
  rw [nI_clamp (by omega)] at h1 h2
  have hw : (zz_W G S).set c0 (zz_ad G c0, .inl (cA, nn, .inl (upd (S.1 c0) k v))) = zz_W G (zz_u S c0 k v) := zz_w_set hc0 (fun d hd => zz_u1 S c0 k v d hd) (fun d _ => rfl) (by rw [zz_u1s]; exact he _)
  rw [hw] at h1 h2
  exact kk H1 locs1 ⟨h1, h2, h3⟩
theorem zz_lald {nn : Nat} {cA : ClassId} (hC : zz_C p s m args meth c cc maxL ret own) (hK : zz_K G s s.heap) (hZ : zz_Z G S s.heap H locs) (c0 t0 k : Nat) (hc0 : c0 < zz_n G) (he : zz_y G c0 (S.1 c0) (S.2 c0) = .inl (cA, nn, .inr (.inl (S.2 c0)))) (ht : (zz_ty G)[t0]? = some (cA, .long)) {i : Int32} {v : Int64} (hi : i = nI k) (hkn : k < nn) (hnn : nn < 2 ^ 31) (hv : S.2 c0 k = v) (hdg : decode cc pc = .ok (.laload, 1)) (kk : W p l e R s m args below meth c H locs cells slots Q (F0 m (pc + 1) ls (.long v :: rest))) : W p l e R s m args below meth c H locs cells slots Q (F0 m pc ls (.int i :: .ref (zz_ad G c0) :: rest)) := by
  subst hi
  refine va_lald hC.1 hC.2.1 hK.1 hZ.1 c0 t0 (zz_W_at hc0 he) ht (vp_in_nI hkn hnn) hdg ?_
  rw [nI_clamp (by omega), hv]
  exact kk
theorem zz_last {nn : Nat} {cA : ClassId} (hC : zz_C p s m args meth c cc maxL ret own) (hK : zz_K G s s.heap) (hZ : zz_Z G S s.heap H locs) (c0 t0 k : Nat) (hc0 : c0 < zz_n G) (he : ∀ f, zz_y G c0 (S.1 c0) f = .inl (cA, nn, .inr (.inl f))) (ht : (zz_ty G)[t0]? = some (cA, .long)) {i : Int32} {v : Int64} (hi : i = nI k) (hkn : k < nn) (hnn : nn < 2 ^ 31) (hdg : decode cc pc = .ok (.lastore, 1)) (kk : ∀ (H1 : Heap) (locs1 : List Loc), zz_Z G (zz_v S c0 k v) s.heap H1 locs1 → W p l e R s m args below meth c H1 locs1 cells slots Q (F0 m (pc + 1) ls rest)) : W p l e R s m args below meth c H locs cells slots Q (F0 m pc ls (.long v :: .int i :: .ref (zz_ad G c0) :: rest)) := by
  subst hi
  refine va_last hC.1 hC.2.1 hK.1 hZ.1 hZ.2.1 hZ.2.2 c0 t0 (zz_W_at hc0 (he _)) ht (vp_in_nI hkn hnn) hdg (fun H1 locs1 h1 h2 h3 => ?_)
  rw [nI_clamp (by omega)] at h1 h2
  have hw : (zz_W G S).set c0 (zz_ad G c0, .inl (cA, nn, .inr (.inl (vp_updL (S.2 c0) k v)))) = zz_W G (zz_v S c0 k v) := zz_w_set hc0 (fun d _ => rfl) (fun d hd => zz_v2 S c0 k v d hd) (by rw [zz_v2s]; exact he _)
  rw [hw] at h1 h2
  exact kk H1 locs1 ⟨h1, h2, h3⟩
theorem zz_alen {x : vp_A} {cA : ClassId} {ty : FieldType} (hC : zz_C p s m args meth c cc maxL ret own) (hK : zz_K G s s.heap) (hZ : zz_Z G S s.heap H locs) (c0 t0 : Nat) (hc0 : c0 < zz_n G) (he : zz_y G c0 (S.1 c0) (S.2 c0) = .inl (cA, x)) (ht : (zz_ty G)[t0]? = some (cA, ty)) (hdg : decode cc pc = .ok (.arraylength, 1)) (kk : W p l e R s m args below meth c H locs cells slots Q (F0 m (pc + 1) ls (.int (nI x.1) :: rest))) : W p l e R s m args below meth c H locs cells slots Q (F0 m pc ls (.ref (zz_ad G c0) :: rest)) :=
  va_alen hC.1 hC.2.1 hK.1 hZ.1 c0 t0 (zz_W_at hc0 he) ht rfl hdg kk
/-- an array of references: the one at k is the cell number q -/
theorem zz_aald {nn q : Nat} {cA : ClassId} {ty : FieldType} {f : Nat → Option Nat} (hC : zz_C p s m args meth c cc maxL ret own) (hK : zz_K G s s.heap) (hZ : zz_Z G S s.heap H locs) (c0 t0 k : Nat) (hc0 : c0 < zz_n G) (he : zz_y G c0 (S.1 c0) (S.2 c0) = .inl (cA, nn, .inr (.inr (.inr (.inr f))))) (ht : (zz_ty G)[t0]? = some (cA, ty)) (hty : ty.isReference = true) {i : Int32} (hi : i = nI k) (hkn : k < nn) (hnn : nn < 2 ^ 31) (hv : f k = some (zz_ad G q)) (hdg : decode cc pc = .ok (.aaload, 1)) (kk : W p l e R s m args below meth c H locs cells slots Q (F0 m (pc + 1) ls (.ref (zz_ad G q) :: rest))) : W p l e R s m args below meth c H locs cells slots Q (F0 m pc ls (.int i :: .ref (zz_ad G c0) :: rest)) := by
  subst hi
  have hcell : H[zz_ad G c0]? = some (vp_cell cA (nn, .inr (.inr (.inr (.inr f))))) := hZ.1 c0 _ (zz_W_at hc0 he)
  rw [vp_cell_q] at hcell
  refine W.aald hC.1 hC.2.1 (v := .ref (zz_ad G q)) hcell ((hK.1.2 t0 _ ht).1 nn _) hty (by simp [arrV]) ?_ ?_ rfl rfl hdg kk
  · have h1 : vp_in (nI k) nn := vp_in_nI hkn hnn
    simp only [arrV, Array.size_ofFn]
    exact h1
  · rw [nI_clamp (by omega)]
    simp [arrV, hkn, hv, va_rf]
/-- the table of arities -/
theorem zz_ari (hC : zz_C p s m args meth c cc maxL ret own) (hK : zz_K G s s.heap) (hZ : zz_Z G S s.heap H locs) (k : Nat) {i : Int32} (hi : i = nI k) (hk : k < 8) (hdg : decode cc pc = .ok (.iaload, 1)) (kk : W p l e R s m args below meth c H locs cells slots Q (F0 m (pc + 1) ls (.int (nI (zz_kd k)) :: rest))) : W p l e R s m args below meth c H locs cells slots Q (F0 m pc ls (.int i :: .ref (zz_t G) :: rest)) := by
  subst hi
  exact va_ti hC.1 hC.2.1 hK.2.2.1 hZ.2.2 (vp_in_nI hk (by decide)) (by rw [nI_clamp (by omega)]; rfl) hdg kk
theorem zz_gars {ref : String} {index : Nat} (hC : zz_C p s m args meth c cc maxL ret own) (hK : zz_K G s s.heap) (hZ : zz_Z G S s.heap H locs) (hlink : Cond.fieldLink own index "TreeCoverForge" "ARITIES" "[I" ∈ zz_tbl) (hdg : decode cc pc = .ok (.getstatic index, 3)) (kk : W p l e R s m args below meth c H locs cells slots Q (F0 m (pc + 3) ls (.ref (zz_t G) :: rest))) : W p l e R s m args below meth c H locs cells slots Q (F0 m pc ls rest) :=
  va_gets hC.1 hC.2.1 hK.2.1 hZ.2.2 hC.2.2.2.1 (hC.2.2.2.2.1 _ hlink) (fun _ h => h) hdg kk
theorem zz_garsN {host : String} {index : Nat} (hC : zz_C p s m args meth c cc maxL ret own) (hK : zz_K G s s.heap) (hZ : zz_Z G S s.heap H locs) (hlink : Cond.fieldLinkNest own index "TreeCoverForge" "ARITIES" "[I" host ∈ lw_tbl) (hdg : decode cc pc = .ok (.getstatic index, 3)) (kk : W p l e R s m args below meth c H locs cells slots Q (F0 m (pc + 3) ls (.ref (zz_t G) :: rest))) : W p l e R s m args below meth c H locs cells slots Q (F0 m pc ls rest) :=
  va_getsN hC.1 hC.2.1 hK.2.1 hZ.2.2 hC.2.2.2.1 (va_Nw.use rfl (hK.2.2.2 _ hlink rfl)) (fun _ h => h) hdg kk
/-- the top of the stack by another name -/
theorem zz_topi {x y : Int32} (h : x = y) (kk : W p l e R s m args below meth c H locs cells slots Q (F0 m pc ls (.int y :: rest))) : W p l e R s m args below meth c H locs cells slots Q (F0 m pc ls (.int x :: rest)) := by
  rw [h]; exact kk
theorem zz_topl {x y : Int64} (h : x = y) (kk : W p l e R s m args below meth c H locs cells slots Q (F0 m pc ls (.long y :: rest))) : W p l e R s m args below meth c H locs cells slots Q (F0 m pc ls (.long x :: rest)) := by
  rw [h]; exact kk
end ZR
