/-! Rows for the law: a call on one of two worlds leaves the other as it is. -/
section LWR
variable {p : Program} {l : Launch} {e : Env} {R : Room} {s : State} {m : MethodId} {args : Array Value} {below : List Frame} {meth : Method} {c : Code} {H : Heap} {cells slots pc : Nat} {Q : State → Prop} {ls : Array Slot} {rest st0 : List Value} {G G2 : zz_G} {S2 : zz_S} {a : Array Value}
/-- a world at or above the law's entry -/
def lw_Z2 (s : State) (G : zz_G) (S : zz_S) (H : Heap) : Prop := va_P (zz_D G) (zz_cl G) (zz_W G S) H ∧ va_D (zz_A G) (zz_W G S)
abbrev lw_A (s : State) (q : Nat) : Prop := s.heap.size ≤ q
theorem lw_keep {S : zz_S} {H1 : Heap} (h : lw_Z2 s G2 S H) (hk : ∀ q, q < H.size → ¬ zz_A G q → H1[q]? = H[q]?) (hd : ∀ q, zz_A G2 q → ¬ zz_A G q) : lw_Z2 s G2 S H1 :=
  ⟨h.1.kept (fun k x hx => hk x.1 ((h.1 k x hx).lt) (hd _ (h.2.2 k x hx))), h.2⟩
theorem lw_Zof {S : zz_S} (h : lw_Z2 s G S H) (hS : va_S (lw_A s) s.heap H []) : zz_Z G S s.heap H [] :=
  ⟨h.1, h.2, hS.1, fun q h1 _ => hS.2.1 q h1 (by unfold lw_A; omega), fun l hl => absurd hl (List.not_mem_nil)⟩
theorem lw_ci {post : Int32 → zz_S → Prop} (hr : va_Run p l e R s m args below meth c H [] cells slots 0 0 (F0 m pc ls st0) rest (va_Qi post (zz_P G) (zz_A G) a) (zz_A G)) (hS : va_S (lw_A s) s.heap H []) (hA : ∀ q, zz_A G q → lw_A s q) (h2 : lw_Z2 s G2 S2 H) (hd : ∀ q, zz_A G2 q → ¬ zz_A G q) (kk : ∀ (r : Int32) (S1 : zz_S) (H1 : Heap), post r S1 → lw_Z2 s G S1 H1 → lw_Z2 s G2 S2 H1 → va_S (lw_A s) s.heap H1 [] → W p l e R s m args below meth c H1 [] cells slots Q (F0 m (pc + 3) ls (.int r :: rest))) : W p l e R s m args below meth c H [] cells slots Q (F0 m pc ls st0) :=
  va_calli hr hS (fun q _ h => hA q h) hA (fun r u t H1 locs1 ht hvm hp hB hz hk hS1 => va_forget (fun q hq => hS1.2.2 q hq) (kk r u H1 hp ⟨by rw [← ht]; exact hB.1, hB.2.1⟩ (lw_keep h2 hk hd) ⟨hS1.1, hS1.2.1, fun l hl => absurd hl (List.not_mem_nil)⟩))
theorem lw_cv {post : zz_S → Prop} (hr : va_Run p l e R s m args below meth c H [] cells slots 0 0 (F0 m pc ls st0) rest (va_Qv post (zz_P G) (zz_A G) a) (zz_A G)) (hS : va_S (lw_A s) s.heap H []) (hA : ∀ q, zz_A G q → lw_A s q) (h2 : lw_Z2 s G2 S2 H) (hd : ∀ q, zz_A G2 q → ¬ zz_A G q) (kk : ∀ (S1 : zz_S) (H1 : Heap), post S1 → lw_Z2 s G S1 H1 → lw_Z2 s G2 S2 H1 → va_S (lw_A s) s.heap H1 [] → W p l e R s m args below meth c H1 [] cells slots Q (F0 m (pc + 3) ls rest)) : W p l e R s m args below meth c H [] cells slots Q (F0 m pc ls st0) :=
  va_callv hr hS (fun q _ h => hA q h) hA (fun u t H1 locs1 ht hvm hp hB hz hk hS1 => va_forget (fun q hq => hS1.2.2 q hq) (kk u H1 hp ⟨by rw [← ht]; exact hB.1, hB.2.1⟩ (lw_keep h2 hk hd) ⟨hS1.1, hS1.2.1, fun l hl => absurd hl (List.not_mem_nil)⟩))
end LWR
