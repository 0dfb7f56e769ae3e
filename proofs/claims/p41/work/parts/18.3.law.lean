theorem lsel_priv {x0 x : MethodName} {C : String} {s : State} {args : Array Value} (h0 : (Cond.selects C x0 x0).before args s = true) (hx : x.cls = x0.cls) (hy : x.cls ≠ "java/lang/invoke/MethodHandle" ∧ x.cls ≠ "java/lang/invoke/VarHandle") (hpriv : (Cond.privateMethod x).before args s = true) (hinst : (Cond.instanceMethod x).before args s = true) : (Cond.selects C x x).before args s = true := by
  obtain ⟨c, r, m0, hc, hr, hn0, hs0, k, hk, hi⟩ := Cond.selects_spec h0
  obtain ⟨mk, methM, hnamed, hmethM, -, -⟩ := Cond.instanceMethod_spec hinst
  have hfound : s.methodFound? x.cls x.name x.desc = some mk := State.methodFound?_of_named hnamed hy
  have hcls : mk.cls = m0.cls := Option.some.inj ((findClass_of_methodNamed hnamed).symm.trans (by rw [hx]; exact findClass_of_methodNamed hn0))
  have hsel : selectMethod {} s.vm c mk = .method mk := selectMethod_private hmethM (Cond.privateMethod_at hpriv mk methM hnamed hmethM)
  simp only [Cond.before, Cond.holds, Cond.value, hc, hfound, hnamed, hsel, hcls, hk]
  simp; exact hi
def lob (b v : Nat) (n : Int32) : Nat × va_E := (b, .inr (1, [.ref v, .int 0, .int 0, .int n]))
def lby (G : Nat → ClassId) (v cap : Nat) (f : Nat → Int32) : Nat × va_E := (v, .inl (G 5, cap, .inl f))
def lFit (f : Nat → Int32) : Prop := ∀ j, fits .byte (.int (f j)) = true
section
variable {p : Program} {l : Launch} {e : Env} {R : Room} {s : State} {m : MethodId} {args : Array Value} {below : List Frame} {meth : Method} {c : Code} {H : Heap} {locs : List Loc} {cells slots : Nat} {Q : State → Prop} {pc nL : Nat} {ls : Array Slot} {rest : List Value} {cc : ByteArray} {own : String} {D : va_G} {G : Nat → ClassId} {ad : Nat → Nat} {X0 X : va_W}
theorem l_get {a ci N index : Nat} {Cn ref : String} {T : u_T} {fs : List Value} {v : Value} (hC : lCx p c cc nL s m args meth own D G ad X0) (hR : lR D X0 X s H locs) (hm : (a, .inr (ci, fs)) ∈ X) (hc : vwCl[ci]? = some (Cn, T, N)) (hin : ∀ q ∈ u_ws Cn T N, q ∈ lw_gd) (k : Nat) (hk : k < N) (hlink : Cond.fieldLink own index ref (T k).2.1 (T k).2.2.1 ∈ lw_gd) (href : ref = (T k).1) (hv : fs[k]? = some v) (hdg : decode cc pc = .ok (.getfield index, 3))
    (kk : W p l e R s m args below meth c H locs cells slots Q (F0 m (pc + 3) ls (v :: rest))) : W p l e R s m args below meth c H locs cells slots Q (F0 m pc ls (.ref a :: rest)) := by
  obtain ⟨q0, hi⟩ := List.getElem?_of_mem hm
  subst href
  exact va_get hC.1 hC.2.1 hC.2.2.2.2.1 hin hC.2.2.2.1 hC.2.2.2.2.2.2.1 hR.1 q0 hi hc k hk (hC.2.2.2.2.1 _ hlink) (fun _ h => h) hv hdg kk
theorem l_put {C ex g : va_W} {a ci N index : Nat} {Cn ref : String} {T : u_T} {fs : List Value} {v : Value} {ty : FieldType} (hC : lCx p c cc nL s m args meth own D G ad X0) (hR : lR D X0 (lX C ex g) s H locs) (i0 : Nat) (hi : ex[i0]? = some (a, .inr (ci, fs))) (hc : vwCl[ci]? = some (Cn, T, N)) (hin : ∀ q ∈ u_ws Cn T N, q ∈ lw_gd) (t0 : Nat → FieldType) (hty : ∀ k, k < N → parseFieldDescriptor (T k).2.2.1 = some (t0 k)) (hnm : ∀ a, a < N → ∀ b, b < N → a ≠ b → (T a).2.1 ≠ (T b).2.1) (k : Nat) (hk : k < N) (hlink : Cond.fieldLink own index ref (T k).2.1 (T k).2.2.1 ∈ lw_gd) (href : ref = (T k).1) (hfin : (T k).2.2.2 = false) (hd : parseFieldDescriptor (T k).2.2.1 = some ty) (hn : narrow ty v = v) (hfit : fits ty v = true) (hl : k < fs.length) (hdg : decode cc pc = .ok (.putfield index, 3))
    (kk : ∀ (H1 : Heap) (locs1 : List Loc), lR D X0 (lX C (ex.set i0 (a, .inr (ci, fs.set k v))) g) s H1 locs1 → W p l e R s m args below meth c H1 locs1 cells slots Q (F0 m (pc + 3) ls rest)) : W p l e R s m args below meth c H locs cells slots Q (F0 m pc ls (v :: .ref a :: rest)) := by
  subst href
  refine va_put hC.1 hC.2.1 hC.2.2.2.2.1 hin t0 hty hnm hC.2.2.2.1 hC.2.2.2.2.2.2.1 hR.1 hR.2.1 hR.2.2 (C.length + i0) (lX_at hi) hc k hk (hC.2.2.2.2.1 _ hlink) (fun _ h => h) hfin hd hn hfit hl hdg (fun H1 locs1 hP hD hS => kk H1 locs1 ?_)
  rw [lX_set (List.getElem?_eq_some_iff.mp hi).1] at hP hD
  exact ⟨hP, hD, hS⟩
theorem l_putF {C ex g : va_W} {a ci N index : Nat} {Cn ref : String} {T : u_T} {fs : List Value} {v : Value} {ty : FieldType} (hC : lCx p c cc nL s m args meth own D G ad X0) (hR : lR D X0 (lX C ex g) s H locs) (i0 : Nat) (hi : ex[i0]? = some (a, .inr (ci, fs))) (hc : vwCl[ci]? = some (Cn, T, N)) (hin : ∀ q ∈ u_ws Cn T N, q ∈ lw_gd) (t0 : Nat → FieldType) (hty : ∀ k, k < N → parseFieldDescriptor (T k).2.2.1 = some (t0 k)) (hnm : ∀ a, a < N → ∀ b, b < N → a ≠ b → (T a).2.1 ≠ (T b).2.1) (k : Nat) (hk : k < N) (hlink : Cond.fieldLink own index ref (T k).2.1 (T k).2.2.1 ∈ lw_gd) (href : ref = (T k).1) (hfin : (T k).2.2.2 = true) (hin2 : meth.name = "<init>") (hdecl : (T k).1 = own) (hd : parseFieldDescriptor (T k).2.2.1 = some ty) (hn : narrow ty v = v) (hfit : fits ty v = true) (hl : k < fs.length) (hdg : decode cc pc = .ok (.putfield index, 3))
    (kk : ∀ (H1 : Heap) (locs1 : List Loc), lR D X0 (lX C (ex.set i0 (a, .inr (ci, fs.set k v))) g) s H1 locs1 → W p l e R s m args below meth c H1 locs1 cells slots Q (F0 m (pc + 3) ls rest)) : W p l e R s m args below meth c H locs cells slots Q (F0 m pc ls (v :: .ref a :: rest)) := by
  subst href
  refine va_putF hC.1 hC.2.1 hC.2.2.2.2.1 hin t0 hty hnm hC.2.2.2.1 hC.2.2.2.2.2.2.1 hR.1 hR.2.1 hR.2.2 (C.length + i0) (lX_at hi) hc k hk (hC.2.2.2.2.1 _ hlink) (fun _ h => h) hfin hin2 hdecl hd hn hfit hl hdg (fun H1 locs1 hP hD hS => kk H1 locs1 ?_)
  rw [lX_set (List.getElem?_eq_some_iff.mp hi).1] at hP hD
  exact ⟨hP, hD, hS⟩
theorem l_bst {C ex g : va_W} {a n : Nat} {f : Nat → Int32} (hC : lCx p c cc nL s m args meth own D G ad X0) (hR : lR D X0 (lX C ex g) s H locs) (i0 : Nat) (hi : ex[i0]? = some (a, .inl (G 5, n, .inl f))) {i v : Int32} {j : Nat} (hin : vp_in i n) (hj : i.toNatClampNeg = j) (hv : vp_nar .byte v = v) (hdg : decode cc pc = .ok (.bastore, 1))
    (kk : ∀ (H1 : Heap) (locs1 : List Loc), lR D X0 (lX C (ex.set i0 (a, .inl (G 5, n, .inl (upd f j v)))) g) s H1 locs1 → W p l e R s m args below meth c H1 locs1 cells slots Q (F0 m (pc + 1) ls rest)) : W p l e R s m args below meth c H locs cells slots Q (F0 m pc ls (.int v :: .int i :: .ref a :: rest)) := by
  subst hj
  refine va_bast hC.1 hC.2.1 hC.2.2.2.2.2.2.1 hR.1 hR.2.1 hR.2.2 (C.length + i0) 5 (lX_at hi) rfl hin hdg (fun H1 locs1 hP hD hS => kk H1 locs1 ?_)
  rw [hv] at hP hD
  rw [lX_set (List.getElem?_eq_some_iff.mp hi).1] at hP hD
  exact ⟨hP, hD, hS⟩
theorem l_cpy {C ex g : va_W} {a a0 n0 n1 index : Nat} {f h : Nat → Int32} (hC : lCx p c cc nL s m args meth own D G ad X0) (hR : lR D X0 (lX C ex g) s H locs) (i0 i1 : Nat) (hi0 : ex[i0]? = some (a0, .inl (G 5, n0, .inl f))) (hi1 : ex[i1]? = some (a, .inl (G 5, n1, .inl h))) {sp dp n : Int32} (h1 : ¬ sp < 0) (h2 : ¬ dp < 0) (h3 : ¬ n < 0) (h4 : sp.toNatClampNeg + n.toNatClampNeg ≤ n0) (h5 : dp.toNatClampNeg + n.toNatClampNeg ≤ n1) (hfit : lFit f) (hlk : Cond.methodLink own index arraycopyName ∈ lw_gd) (hsz : ls.size = nL) (hframes : 1 ≤ R.frames) (hlocals : (rest.map fun v => v.category).sum + (nativeFrameWords "java/lang/System" "arraycopy" 5 + 11) ≤ R.locals) (hdg : decode cc pc = .ok (.invokestatic index, 3))
    (kk : ∀ (H1 : Heap) (locs1 : List Loc), lR D X0 (lX C (ex.set i1 (a, .inl (G 5, n1, .inl (va_cpy f h sp.toNatClampNeg dp.toNatClampNeg n.toNatClampNeg)))) g) s H1 locs1 → W p l e R s m args below meth c H1 locs1 cells slots Q (F0 m (pc + 3) ls rest)) : W p l e R s m args below meth c H locs cells slots Q (F0 m pc ls (.int n :: .int dp :: .ref a :: .int sp :: .ref a0 :: rest)) := by
  have hts := hC.2.2.2.2.1
  refine va_copyi hC.1 hC.2.1 (hC.2.2.1.trans hsz.symm) hC.2.2.2.1 (hts _ hlk) (hts _ qk_ac1) (hts _ qk_ac2) (hts _ qk_ac3) hC.2.2.2.2.2.2.1 hR.1 hR.2.1 hR.2.2 (C.length + i0) (C.length + i1) 5 5 (lX_at hi0) (lX_at hi1) rfl rfl rfl h1 h2 h3 h4 h5 (fun i _ => hfit _) hframes hlocals hdg (fun H1 locs1 hP hD hS => kk H1 locs1 ?_)
  rw [lX_set (List.getElem?_eq_some_iff.mp hi1).1] at hP hD
  exact ⟨hP, hD, hS⟩
/-- a copy out of a text's bytes -/
theorem l_cpt {C ex g : va_W} {a b0 n0 n1 index : Nat} {f h : Nat → Int32} (hC : lCx p c cc nL s m args meth own D G ad X0) (hR : lR D X0 (lX C ex g) s H locs) (hX : va_T .byte b0 n0 (fun j => .int (f j)) (lA ad X0 s.heap.size) s s.heap) (i1 : Nat) (hi1 : ex[i1]? = some (a, .inl (G 5, n1, .inl h))) {sp dp n : Int32} (h1 : ¬ sp < 0) (h2 : ¬ dp < 0) (h3 : ¬ n < 0) (h4 : sp.toNatClampNeg + n.toNatClampNeg ≤ n0) (h5 : dp.toNatClampNeg + n.toNatClampNeg ≤ n1) (hfit : lFit f) (hlk : Cond.methodLink own index arraycopyName ∈ lw_gd) (hsz : ls.size = nL) (hframes : 1 ≤ R.frames) (hlocals : (rest.map fun v => v.category).sum + (nativeFrameWords "java/lang/System" "arraycopy" 5 + 11) ≤ R.locals) (hdg : decode cc pc = .ok (.invokestatic index, 3))
    (kk : ∀ (H1 : Heap) (locs1 : List Loc), lR D X0 (lX C (ex.set i1 (a, .inl (G 5, n1, .inl (va_cpy f h sp.toNatClampNeg dp.toNatClampNeg n.toNatClampNeg)))) g) s H1 locs1 → W p l e R s m args below meth c H1 locs1 cells slots Q (F0 m (pc + 3) ls rest)) : W p l e R s m args below meth c H locs cells slots Q (F0 m pc ls (.int n :: .int dp :: .ref a :: .int sp :: .ref b0 :: rest)) := by
  have hts := hC.2.2.2.2.1
  refine vk_copyt hC.1 hC.2.1 (hC.2.2.1.trans hsz.symm) hC.2.2.2.1 (hts _ hlk) (hts _ qk_ac1) (hts _ qk_ac2) (hts _ qk_ac3) hC.2.2.2.2.2.2.1 hR.1 hR.2.1 hR.2.2 (hX.narrow (fun q h => Or.inl h)) (C.length + i1) 5 (lX_at hi1) rfl h1 h2 h3 h4 h5 (fun i _ => hfit _) hframes hlocals hdg (fun H1 locs1 hP hD hS => kk H1 locs1 ?_)
  rw [lX_set (List.getElem?_eq_some_iff.mp hi1).1] at hP hD
  exact ⟨hP, hD, hS⟩
theorem l_ofs {ow n d ref : String} {q index : Nat} {v : Value} (hC : lCx p c cc nL s m args meth own D G ad X0) (hR : lR D X0 X s H locs) (hE : va_OF ow n d v q (lA ad X0 s.heap.size) s s.heap) (hlk : Cond.fieldLink own index ref n d ∈ lw_gd) (hrf : ref = ow) (hdg : decode cc pc = .ok (.getfield index, 3))
    (kk : W p l e R s m args below meth c H locs cells slots Q (F0 m (pc + 3) ls (v :: rest))) : W p l e R s m args below meth c H locs cells slots Q (F0 m pc ls (.ref q :: rest)) := by
  subst hrf
  exact vk_getf hC.1 hC.2.1 (hE.narrow (fun q h => Or.inl h)) hR.2.2 hC.2.2.2.1 (hC.2.2.2.2.1 _ hlk) (fun _ h => h) hdg kk
theorem l_compact {index : Nat} (hC : lCx p c cc nL s m args meth own D G ad X0) (hR : lR D X0 X s H locs) (hlk : Cond.fieldLink own index RJ0 "COMPACT_STRINGS" "Z" ∈ lw_gd) (hdg : decode cc pc = .ok (.getstatic index, 3))
    (kk : W p l e R s m args below meth c H locs cells slots Q (F0 m (pc + 3) ls (.int 1 :: rest))) : W p l e R s m args below meth c H locs cells slots Q (F0 m pc ls rest) :=
  va_gets hC.1 hC.2.1 (hC.2.2.2.2.2.2.2.2.1.1.1.1.narrow (fun q h => Or.inl h)) hR.2.2 hC.2.2.2.1 (hC.2.2.2.2.1 _ hlk) (fun _ h => h) hdg kk
theorem l_tlen {t N : Nat} {f : Nat → Value} (hC : lCx p c cc nL s m args meth own D G ad X0) (hR : lR D X0 X s H locs) (hT : va_T .byte t N f (lA ad X0 s.heap.size) s s.heap) {v : Int32} (hv : Int32.ofNat N = v) (hdg : decode cc pc = .ok (.arraylength, 1))
    (kk : W p l e R s m args below meth c H locs cells slots Q (F0 m (pc + 1) ls (.int v :: rest))) : W p l e R s m args below meth c H locs cells slots Q (F0 m pc ls (.ref t :: rest)) := va_tlen hC.1 hC.2.1 (hT.narrow (fun q h => Or.inl h)) hR.2.2 hv hdg kk
theorem l_tb {t N : Nat} {f : Nat → Value} (hC : lCx p c cc nL s m args meth own D G ad X0) (hR : lR D X0 X s H locs) (hT : va_T .byte t N f (lA ad X0 s.heap.size) s s.heap) {i : Int32} (hin : vp_in i N) {v : Value} (hv : f i.toNatClampNeg = v) (hdg : decode cc pc = .ok (.baload, 1))
    (kk : W p l e R s m args below meth c H locs cells slots Q (F0 m (pc + 1) ls (v :: rest))) : W p l e R s m args below meth c H locs cells slots Q (F0 m pc ls (.int i :: .ref t :: rest)) := va_tb hC.1 hC.2.1 (hT.narrow (fun q h => Or.inl h)) hR.2.2 hin hv hdg kk
theorem l_getsq {Cn n d ref : String} {t index : Nat} (hC : lCx p c cc nL s m args meth own D G ad X0) (hR : lR D X0 X s H locs) (hZ : va_Z Cn n d (.ref t) (lA ad X0 s.heap.size) s s.heap) (hlk : Cond.fieldLink own index ref n d ∈ lw_gd) (hrf : ref = Cn) (hdg : decode cc pc = .ok (.getstatic index, 3))
    (kk : W p l e R s m args below meth c H locs cells slots Q (F0 m (pc + 3) ls (.ref t :: rest))) : W p l e R s m args below meth c H locs cells slots Q (F0 m pc ls rest) := by
  subst hrf
  exact va_gets hC.1 hC.2.1 (hZ.narrow (fun q h => Or.inl h)) hR.2.2 hC.2.2.2.1 (hC.2.2.2.2.1 _ hlk) (fun _ h => h) hdg kk
theorem l_callUi {y : MethodName} {bytes : ByteArray} {maxL d mc ms index b : Nat} {ret : Option FieldType} {As st : List Value} {x : MethodName} {r : Int32} {X Xc Xr : va_W} {X1c : va_W} {X1 : va_W} {E : (Nat → Prop) → State → Heap → Prop} {C : String} (hC : lCx p c cc nL s m args meth own D G ad X0) (hR : lR D X0 X s H locs)
    (hM : lCM l D G ad y (Cond.code y bytes maxL ret) d mc ms (.ref b :: As) Xc E (fun st => lQi D Xc X1c st r)) (hXk : qXk E) (hE : E (lA ad X H.size) s H) (hp : X.Perm (Xc ++ Xr)) (hp1 : (X1c ++ Xr).Perm X1) (hrec : ∃ cell : Cell, H[b]? = some cell ∧ cell.vm.isStatics = false ∧ s.vm.findClass C = some cell.cls) (hlk : Cond.methodLink own index x ∈ lw_gd) (hsm : Cond.sameMethod x.cls y.cls x.name x.desc ∈ lw_gd) (hse : (Cond.selects C x y).before args s = true) (hin : Cond.instanceMethod y ∈ lw_gd) (hini : Cond.initialized y.cls ∈ lw_gd) (hcode : Cond.code y bytes maxL ret ∈ lw_gd) (hyx : y = ⟨y.cls, x.name, x.desc⟩)
    (hd : y.cls ≠ "java/lang/invoke/MethodHandle" ∧ y.cls ≠ "java/lang/invoke/VarHandle" ∧ (parseMethodDescriptor x.desc).map (fun d => d.parameters.length) = some As.length) (hroom : d + 1 ≤ R.frames ∧ 8 + (maxL + 11) + 40 * d ≤ R.locals) (hsz : ls.size = nL) (hst : st = As.reverse ++ .ref b :: rest) (hcat : (rest.map fun v => v.category).sum ≤ 8) (hdg : decode cc pc = .ok (.invokevirtual index, 3)) (hf : cells + mc ≤ R.cells ∧ slots + ms ≤ R.slots)
    (kk : ∀ (H1 : Heap) (locs1 : List Loc), lR D X0 X1 s H1 locs1 → lKp ad X H X1 H1 → W p l e R s m args below meth c H1 locs1 (cells + mc) (slots + ms) Q (F0 m (pc + 3) ls (.int r :: rest))) : W p l e R s m args below meth c H locs cells slots Q (F0 m pc ls st) := by
  have hts := hC.2.2.2.2.1
  let sH : State := { s with heap := H }
  have hts2 : ∀ w ∈ Cond.selects C x y :: lw_gd, w.before args s = true := fun w hw => (List.mem_cons.mp hw).elim (fun h => h ▸ hse) (fun h => hts w h)
  have hgi : GoodIn (Cond.selects C x y :: lw_gd) (va_wsU own index C y.cls x y (Cond.code y bytes maxL ret :: lw_gd)) := fun w hw => by
    rcases List.mem_append.mp hw with h | h
    · simp only [List.mem_cons, List.mem_nil_iff, or_false] at h
      rcases h with rfl | rfl | rfl | rfl | rfl
      · exact ⟨List.mem_cons_of_mem _ hlk, good_of_word rfl⟩
      · exact ⟨List.mem_cons_of_mem _ hsm, good_of_word rfl⟩
      · exact ⟨List.mem_cons_self, good_of_word rfl⟩
      · exact ⟨List.mem_cons_of_mem _ hin, good_of_word rfl⟩
      · exact ⟨List.mem_cons_of_mem _ hini, good_of_word rfl⟩
    · exact ⟨List.mem_cons_of_mem _ (q_goodIn hcode w h).1, (q_goodIn hcode w h).2⟩
  have hcB : va_CU R s args own C y.cls index x y bytes maxL ret (Cond.code y bytes maxL ret :: lw_gd) (qrm d mc ms) mc ms As.length := va_cwU As.length hts2 hgi rfl rfl rfl hyx hd hroom
  have hA : ∀ q : Nat, va_A Xc H.size q → va_A X0 s.heap.size q := fun q hq => by
    rcases va_A_iff.mp hq with ⟨z, hz, rfl⟩ | hq
    · exact lD_in hR.2.1 z (hp.mem_iff.mpr (List.mem_append_left _ hz))
    · exact Or.inr (Nat.le_trans hR.2.2.1 hq)
  refine va_calli (va_runU (As := As) (rest := rest) (C := C) (Ts := lw_gd) ⟨hC.1, hC.2.1, hC.2.2.1, hC.2.2.2.1, hts⟩ (hM sH) hcB ⟨lE_blind hXk, hrec, fun U hU hW => ⟨rfl, l_pre hC hR hp hXk hE hU hW⟩⟩ rfl rfl hsz hst (lv_room hcat) hdg hf) hR.2.2 (fun q _ h => hA q h) hA (fun r1 u t H1 locs1 ht hvm hw hB hz1 hk1 hS1 => ?_)
  subst hw
  obtain ⟨hB, hD1⟩ := hB
  rw [ht] at hB
  obtain ⟨h1, h2⟩ := lR_join (ad := ad) hR hp hp1 hz1 hk1 hB hD1 hS1
  exact kk H1 locs1 h1 h2
theorem l_callUr {y : MethodName} {bytes : ByteArray} {maxL d mc ms index b : Nat} {ret : Option FieldType} {As st : List Value} {x : MethodName} {T : Type} {X Xc Xr : va_W} {X1c X1 : T → Nat → va_W} {Y : T → Nat → Prop} {F : T → Nat → (Nat → Prop) → State → Heap → Prop} {E : (Nat → Prop) → State → Heap → Prop} {C : String} (hC : lCx p c cc nL s m args meth own D G ad X0) (hR : lR D X0 X s H locs)
    (hM : lCM l D G ad y (Cond.code y bytes maxL ret) d mc ms (.ref b :: As) Xc E (lQr D ad Xc X1c Y F)) (hXk : qXk E) (hE : E (lA ad X H.size) s H) (hp : X.Perm (Xc ++ Xr)) (hp1 : ∀ u b, (X1c u b ++ Xr).Perm (X1 u b)) (hrec : ∃ cell : Cell, H[b]? = some cell ∧ cell.vm.isStatics = false ∧ s.vm.findClass C = some cell.cls) (hlk : Cond.methodLink own index x ∈ lw_gd) (hsm : Cond.sameMethod x.cls y.cls x.name x.desc ∈ lw_gd) (hse : (Cond.selects C x y).before args s = true) (hin : Cond.instanceMethod y ∈ lw_gd) (hini : Cond.initialized y.cls ∈ lw_gd) (hcode : Cond.code y bytes maxL ret ∈ lw_gd) (hyx : y = ⟨y.cls, x.name, x.desc⟩)
    (hd : y.cls ≠ "java/lang/invoke/MethodHandle" ∧ y.cls ≠ "java/lang/invoke/VarHandle" ∧ (parseMethodDescriptor x.desc).map (fun d => d.parameters.length) = some As.length) (hroom : d + 1 ≤ R.frames ∧ 8 + (maxL + 11) + 40 * d ≤ R.locals) (hsz : ls.size = nL) (hst : st = As.reverse ++ .ref b :: rest) (hcat : (rest.map fun v => v.category).sum ≤ 8) (hdg : decode cc pc = .ok (.invokevirtual index, 3)) (hf : cells + mc ≤ R.cells ∧ slots + ms ≤ R.slots)
    (hYk : ∀ u b, qXk (F u b)) (kk : ∀ (u : T) (a1 : Nat) (H1 : Heap) (locs1 : List Loc), Y u a1 → lR D X0 (X1 u a1) s H1 locs1 → lKp ad X H (X1 u a1) H1 → F u a1 (lA ad (X1 u a1) H1.size) s H1 → W p l e R s m args below meth c H1 locs1 (cells + mc) (slots + ms) Q (F0 m (pc + 3) ls (.ref a1 :: rest))) : W p l e R s m args below meth c H locs cells slots Q (F0 m pc ls st) := by
  have hts := hC.2.2.2.2.1
  let sH : State := { s with heap := H }
  have hts2 : ∀ w ∈ Cond.selects C x y :: lw_gd, w.before args s = true := fun w hw => (List.mem_cons.mp hw).elim (fun h => h ▸ hse) (fun h => hts w h)
  have hgi : GoodIn (Cond.selects C x y :: lw_gd) (va_wsU own index C y.cls x y (Cond.code y bytes maxL ret :: lw_gd)) := fun w hw => by
    rcases List.mem_append.mp hw with h | h
    · simp only [List.mem_cons, List.mem_nil_iff, or_false] at h
      rcases h with rfl | rfl | rfl | rfl | rfl
      · exact ⟨List.mem_cons_of_mem _ hlk, good_of_word rfl⟩
      · exact ⟨List.mem_cons_of_mem _ hsm, good_of_word rfl⟩
      · exact ⟨List.mem_cons_self, good_of_word rfl⟩
      · exact ⟨List.mem_cons_of_mem _ hin, good_of_word rfl⟩
      · exact ⟨List.mem_cons_of_mem _ hini, good_of_word rfl⟩
    · exact ⟨List.mem_cons_of_mem _ (q_goodIn hcode w h).1, (q_goodIn hcode w h).2⟩
  have hcB : va_CU R s args own C y.cls index x y bytes maxL ret (Cond.code y bytes maxL ret :: lw_gd) (qrm d mc ms) mc ms As.length := va_cwU As.length hts2 hgi rfl rfl rfl hyx hd hroom
  have hA : ∀ q : Nat, va_A Xc H.size q → va_A X0 s.heap.size q := fun q hq => by
    rcases va_A_iff.mp hq with ⟨z, hz, rfl⟩ | hq
    · exact lD_in hR.2.1 z (hp.mem_iff.mpr (List.mem_append_left _ hz))
    · exact Or.inr (Nat.le_trans hR.2.2.1 hq)
  refine va_callr (va_runU (As := As) (rest := rest) (C := C) (Ts := lw_gd) ⟨hC.1, hC.2.1, hC.2.2.1, hC.2.2.2.1, hts⟩ (hM sH) hcB ⟨lE_blind hXk, hrec, fun U hU hW => ⟨rfl, l_pre hC hR hp hXk hE hU hW⟩⟩ rfl rfl hsz hst (lv_room hcat) hdg hf) hR.2.2 (fun q _ h => hA q h) hA (fun u a1 t H1 locs1 ht hvm hw hB hz1 hk1 hS1 => ?_)
  obtain ⟨v, hY, hB, hF⟩ := hB
  obtain ⟨hB, hD1⟩ := hB
  rw [ht] at hB
  obtain ⟨h1, h2⟩ := lR_join (ad := ad) hR hp (hp1 v a1) hz1 hk1 hB hD1 hS1
  refine kk v a1 H1 locs1 hY h1 h2 (hYk v a1 _ _ t s t.heap H1 hF hvm.symm (fun a _ _ => by rw [ht]) (fun q hq => ?_))
  rcases hq with hq | hq
  · rcases va_A_iff.mp hq with ⟨z, hz, rfl⟩ | hq
    · rcases List.mem_append.mp ((hp1 v a1).mem_iff.mpr hz) with h | h
      · exact Or.inl (lA_in h)
      · exact Or.inr (lP_in hR.1 z (hp.mem_iff.mpr (List.mem_append_right _ h))).lt
    · exact Or.inl (Or.inl (Or.inr (by rw [ht]; exact hq)))
  · exact Or.inl (Or.inr (by rw [ht]; exact hq))
theorem l_callUv {y : MethodName} {bytes : ByteArray} {maxL d mc ms index b : Nat} {ret : Option FieldType} {As st : List Value} {x : MethodName} {T : Type} {X Xc Xr : va_W} {X1c X1 : T → va_W} {Y : T → Prop} {E : (Nat → Prop) → State → Heap → Prop} {C : String} (hC : lCx p c cc nL s m args meth own D G ad X0) (hR : lR D X0 X s H locs)
    (hM : lCM l D G ad y (Cond.code y bytes maxL ret) d mc ms (.ref b :: As) Xc E (lQv D ad Xc X1c Y)) (hXk : qXk E) (hE : E (lA ad X H.size) s H) (hp : X.Perm (Xc ++ Xr)) (hp1 : ∀ u, (X1c u ++ Xr).Perm (X1 u)) (hrec : ∃ cell : Cell, H[b]? = some cell ∧ cell.vm.isStatics = false ∧ s.vm.findClass C = some cell.cls) (hlk : Cond.methodLink own index x ∈ lw_gd) (hsm : Cond.sameMethod x.cls y.cls x.name x.desc ∈ lw_gd) (hse : (Cond.selects C x y).before args s = true) (hin : Cond.instanceMethod y ∈ lw_gd) (hini : Cond.initialized y.cls ∈ lw_gd) (hcode : Cond.code y bytes maxL ret ∈ lw_gd) (hyx : y = ⟨y.cls, x.name, x.desc⟩)
    (hd : y.cls ≠ "java/lang/invoke/MethodHandle" ∧ y.cls ≠ "java/lang/invoke/VarHandle" ∧ (parseMethodDescriptor x.desc).map (fun d => d.parameters.length) = some As.length) (hroom : d + 1 ≤ R.frames ∧ 8 + (maxL + 11) + 40 * d ≤ R.locals) (hsz : ls.size = nL) (hst : st = As.reverse ++ .ref b :: rest) (hcat : (rest.map fun v => v.category).sum ≤ 8) (hdg : decode cc pc = .ok (.invokevirtual index, 3)) (hf : cells + mc ≤ R.cells ∧ slots + ms ≤ R.slots)
    (kk : ∀ (u : T) (H1 : Heap) (locs1 : List Loc), Y u → lR D X0 (X1 u) s H1 locs1 → lKp ad X H (X1 u) H1 → W p l e R s m args below meth c H1 locs1 (cells + mc) (slots + ms) Q (F0 m (pc + 3) ls rest)) : W p l e R s m args below meth c H locs cells slots Q (F0 m pc ls st) := by
  have hts := hC.2.2.2.2.1
  let sH : State := { s with heap := H }
  have hts2 : ∀ w ∈ Cond.selects C x y :: lw_gd, w.before args s = true := fun w hw => (List.mem_cons.mp hw).elim (fun h => h ▸ hse) (fun h => hts w h)
  have hgi : GoodIn (Cond.selects C x y :: lw_gd) (va_wsU own index C y.cls x y (Cond.code y bytes maxL ret :: lw_gd)) := fun w hw => by
    rcases List.mem_append.mp hw with h | h
    · simp only [List.mem_cons, List.mem_nil_iff, or_false] at h
      rcases h with rfl | rfl | rfl | rfl | rfl
      · exact ⟨List.mem_cons_of_mem _ hlk, good_of_word rfl⟩
      · exact ⟨List.mem_cons_of_mem _ hsm, good_of_word rfl⟩
      · exact ⟨List.mem_cons_self, good_of_word rfl⟩
      · exact ⟨List.mem_cons_of_mem _ hin, good_of_word rfl⟩
      · exact ⟨List.mem_cons_of_mem _ hini, good_of_word rfl⟩
    · exact ⟨List.mem_cons_of_mem _ (q_goodIn hcode w h).1, (q_goodIn hcode w h).2⟩
  have hcB : va_CU R s args own C y.cls index x y bytes maxL ret (Cond.code y bytes maxL ret :: lw_gd) (qrm d mc ms) mc ms As.length := va_cwU As.length hts2 hgi rfl rfl rfl hyx hd hroom
  have hA : ∀ q : Nat, va_A Xc H.size q → va_A X0 s.heap.size q := fun q hq => by
    rcases va_A_iff.mp hq with ⟨z, hz, rfl⟩ | hq
    · exact lD_in hR.2.1 z (hp.mem_iff.mpr (List.mem_append_left _ hz))
    · exact Or.inr (Nat.le_trans hR.2.2.1 hq)
  refine va_callv (va_runU (As := As) (rest := rest) (C := C) (Ts := lw_gd) ⟨hC.1, hC.2.1, hC.2.2.1, hC.2.2.2.1, hts⟩ (hM sH) hcB ⟨lE_blind hXk, hrec, fun U hU hW => ⟨rfl, l_pre hC hR hp hXk hE hU hW⟩⟩ rfl rfl hsz hst (lv_room hcat) hdg hf) hR.2.2 (fun q _ h => hA q h) hA (fun u t H1 locs1 ht hvm hw hB hz1 hk1 hS1 => ?_)
  obtain ⟨v, hY, hB, hD1⟩ := hB
  rw [ht] at hB
  obtain ⟨h1, h2⟩ := lR_join (ad := ad) hR hp (hp1 v) hz1 hk1 hB hD1 hS1
  exact kk v H1 locs1 hY h1 h2
theorem l_callSUi {y : MethodName} {bytes : ByteArray} {maxL d mc ms index b : Nat} {ret : Option FieldType} {As st : List Value} {r : Int32} {X Xc Xr : va_W} {X1c : va_W} {X1 : va_W} {E : (Nat → Prop) → State → Heap → Prop} {C : String} (hC : lCx p c cc nL s m args meth own D G ad X0) (hR : lR D X0 X s H locs)
    (hM : lCM l D G ad y (Cond.code y bytes maxL ret) d mc ms (.ref b :: As) Xc E (fun st => lQi D Xc X1c st r)) (hXk : qXk E) (hE : E (lA ad X H.size) s H) (hp : X.Perm (Xc ++ Xr)) (hp1 : (X1c ++ Xr).Perm X1) (hrec : ∃ cell : Cell, H[b]? = some cell ∧ cell.vm.isStatics = false ∧ s.vm.findClass C = some cell.cls) (hat : ∃ cC, ClassAt s C cC) (hlk : Cond.methodLink own index y ∈ lw_gd) (hsm : Cond.sameMethod y.cls y.cls y.name y.desc ∈ lw_gd) (hsu : Cond.superclass own y.cls ∈ lw_gd) (hin : Cond.instanceMethod y ∈ lw_gd) (hini : Cond.initialized y.cls ∈ lw_gd) (hcode : Cond.code y bytes maxL ret ∈ lw_gd)
    (hd : y.name ≠ "<init>" ∧ (parseMethodDescriptor y.desc).map (fun d => d.parameters.length) = some As.length) (hroom : d + 1 ≤ R.frames ∧ 8 + (maxL + 11) + 40 * d ≤ R.locals) (hsz : ls.size = nL) (hst : st = As.reverse ++ .ref b :: rest) (hcat : (rest.map fun v => v.category).sum ≤ 8) (hdg : decode cc pc = .ok (.invokespecial index, 3)) (hf : cells + mc ≤ R.cells ∧ slots + ms ≤ R.slots)
    (kk : ∀ (H1 : Heap) (locs1 : List Loc), lR D X0 X1 s H1 locs1 → lKp ad X H X1 H1 → W p l e R s m args below meth c H1 locs1 (cells + mc) (slots + ms) Q (F0 m (pc + 3) ls (.int r :: rest))) : W p l e R s m args below meth c H locs cells slots Q (F0 m pc ls st) := by
  have hts := hC.2.2.2.2.1
  let sH : State := { s with heap := H }
  have hgi : GoodIn lw_gd (va_wsSU own index y (Cond.code y bytes maxL ret :: lw_gd)) := fun w hw => by
    rcases List.mem_append.mp hw with h | h
    · simp only [List.mem_cons, List.mem_nil_iff, or_false] at h
      rcases h with rfl | rfl | rfl | rfl | rfl
      · exact ⟨hlk, good_of_word rfl⟩
      · exact ⟨hsm, good_of_word rfl⟩
      · exact ⟨hsu, good_of_word rfl⟩
      · exact ⟨hin, good_of_word rfl⟩
      · exact ⟨hini, good_of_word rfl⟩
    · exact q_goodIn hcode w h
  have hcB : va_CS R s args own index y bytes maxL ret (Cond.code y bytes maxL ret :: lw_gd) (qrm d mc ms) mc ms As.length := va_cwSU As.length hts hgi rfl rfl rfl hd hroom
  obtain ⟨cC, hat⟩ := hat
  have hA : ∀ q : Nat, va_A Xc H.size q → va_A X0 s.heap.size q := fun q hq => by
    rcases va_A_iff.mp hq with ⟨z, hz, rfl⟩ | hq
    · exact lD_in hR.2.1 z (hp.mem_iff.mpr (List.mem_append_left _ hz))
    · exact Or.inr (Nat.le_trans hR.2.2.1 hq)
  refine va_calli (va_runSU (As := As) (rest := rest) (C := C) (Ts := lw_gd) hat ⟨hC.1, hC.2.1, hC.2.2.1, hC.2.2.2.1, hts⟩ (hM sH) hcB ⟨lE_blind hXk, hrec, fun U hU hW => ⟨rfl, l_pre hC hR hp hXk hE hU hW⟩⟩ rfl rfl hsz hst (lv_room hcat) hdg hf) hR.2.2 (fun q _ h => hA q h) hA (fun r1 u t H1 locs1 ht hvm hw hB hz1 hk1 hS1 => ?_)
  subst hw
  obtain ⟨hB, hD1⟩ := hB
  rw [ht] at hB
  obtain ⟨h1, h2⟩ := lR_join (ad := ad) hR hp hp1 hz1 hk1 hB hD1 hS1
  exact kk H1 locs1 h1 h2
theorem l_callSUr {y : MethodName} {bytes : ByteArray} {maxL d mc ms index b : Nat} {ret : Option FieldType} {As st : List Value} {T : Type} {X Xc Xr : va_W} {X1c X1 : T → Nat → va_W} {Y : T → Nat → Prop} {F : T → Nat → (Nat → Prop) → State → Heap → Prop} {E : (Nat → Prop) → State → Heap → Prop} {C : String} (hC : lCx p c cc nL s m args meth own D G ad X0) (hR : lR D X0 X s H locs)
    (hM : lCM l D G ad y (Cond.code y bytes maxL ret) d mc ms (.ref b :: As) Xc E (lQr D ad Xc X1c Y F)) (hXk : qXk E) (hE : E (lA ad X H.size) s H) (hp : X.Perm (Xc ++ Xr)) (hp1 : ∀ u b, (X1c u b ++ Xr).Perm (X1 u b)) (hrec : ∃ cell : Cell, H[b]? = some cell ∧ cell.vm.isStatics = false ∧ s.vm.findClass C = some cell.cls) (hat : ∃ cC, ClassAt s C cC) (hlk : Cond.methodLink own index y ∈ lw_gd) (hsm : Cond.sameMethod y.cls y.cls y.name y.desc ∈ lw_gd) (hsu : Cond.superclass own y.cls ∈ lw_gd) (hin : Cond.instanceMethod y ∈ lw_gd) (hini : Cond.initialized y.cls ∈ lw_gd) (hcode : Cond.code y bytes maxL ret ∈ lw_gd)
    (hd : y.name ≠ "<init>" ∧ (parseMethodDescriptor y.desc).map (fun d => d.parameters.length) = some As.length) (hroom : d + 1 ≤ R.frames ∧ 8 + (maxL + 11) + 40 * d ≤ R.locals) (hsz : ls.size = nL) (hst : st = As.reverse ++ .ref b :: rest) (hcat : (rest.map fun v => v.category).sum ≤ 8) (hdg : decode cc pc = .ok (.invokespecial index, 3)) (hf : cells + mc ≤ R.cells ∧ slots + ms ≤ R.slots)
    (hYk : ∀ u b, qXk (F u b)) (kk : ∀ (u : T) (a1 : Nat) (H1 : Heap) (locs1 : List Loc), Y u a1 → lR D X0 (X1 u a1) s H1 locs1 → lKp ad X H (X1 u a1) H1 → F u a1 (lA ad (X1 u a1) H1.size) s H1 → W p l e R s m args below meth c H1 locs1 (cells + mc) (slots + ms) Q (F0 m (pc + 3) ls (.ref a1 :: rest))) : W p l e R s m args below meth c H locs cells slots Q (F0 m pc ls st) := by
  have hts := hC.2.2.2.2.1
  let sH : State := { s with heap := H }
  have hgi : GoodIn lw_gd (va_wsSU own index y (Cond.code y bytes maxL ret :: lw_gd)) := fun w hw => by
    rcases List.mem_append.mp hw with h | h
    · simp only [List.mem_cons, List.mem_nil_iff, or_false] at h
      rcases h with rfl | rfl | rfl | rfl | rfl
      · exact ⟨hlk, good_of_word rfl⟩
      · exact ⟨hsm, good_of_word rfl⟩
      · exact ⟨hsu, good_of_word rfl⟩
      · exact ⟨hin, good_of_word rfl⟩
      · exact ⟨hini, good_of_word rfl⟩
    · exact q_goodIn hcode w h
  have hcB : va_CS R s args own index y bytes maxL ret (Cond.code y bytes maxL ret :: lw_gd) (qrm d mc ms) mc ms As.length := va_cwSU As.length hts hgi rfl rfl rfl hd hroom
  obtain ⟨cC, hat⟩ := hat
  have hA : ∀ q : Nat, va_A Xc H.size q → va_A X0 s.heap.size q := fun q hq => by
    rcases va_A_iff.mp hq with ⟨z, hz, rfl⟩ | hq
    · exact lD_in hR.2.1 z (hp.mem_iff.mpr (List.mem_append_left _ hz))
    · exact Or.inr (Nat.le_trans hR.2.2.1 hq)
  refine va_callr (va_runSU (As := As) (rest := rest) (C := C) (Ts := lw_gd) hat ⟨hC.1, hC.2.1, hC.2.2.1, hC.2.2.2.1, hts⟩ (hM sH) hcB ⟨lE_blind hXk, hrec, fun U hU hW => ⟨rfl, l_pre hC hR hp hXk hE hU hW⟩⟩ rfl rfl hsz hst (lv_room hcat) hdg hf) hR.2.2 (fun q _ h => hA q h) hA (fun u a1 t H1 locs1 ht hvm hw hB hz1 hk1 hS1 => ?_)
  obtain ⟨v, hY, hB, hF⟩ := hB
  obtain ⟨hB, hD1⟩ := hB
  rw [ht] at hB
  obtain ⟨h1, h2⟩ := lR_join (ad := ad) hR hp (hp1 v a1) hz1 hk1 hB hD1 hS1
  refine kk v a1 H1 locs1 hY h1 h2 (hYk v a1 _ _ t s t.heap H1 hF hvm.symm (fun a _ _ => by rw [ht]) (fun q hq => ?_))
  rcases hq with hq | hq
  · rcases va_A_iff.mp hq with ⟨z, hz, rfl⟩ | hq
    · rcases List.mem_append.mp ((hp1 v a1).mem_iff.mpr hz) with h | h
      · exact Or.inl (lA_in h)
      · exact Or.inr (lP_in hR.1 z (hp.mem_iff.mpr (List.mem_append_right _ h))).lt
    · exact Or.inl (Or.inl (Or.inr (by rw [ht]; exact hq)))
  · exact Or.inl (Or.inr (by rw [ht]; exact hq))
end
