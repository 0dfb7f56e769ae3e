theorem q_goodInW {y : MethodName} {b : ByteArray} {n : Nat} {r : Option FieldType} {hh : List (Nat × Nat × Nat × Nat)} (h : Cond.codeWith y b n r hh ∈ lw_gd) : GoodIn lw_gd (Cond.codeWith y b n r hh :: lw_gd) := fun w hw => by
  rcases List.mem_cons.mp hw with rfl | hw
  · exact ⟨h, good_of_word (List.mem_filter.mp h).2⟩
  · exact ⟨hw, good_of_word (List.mem_filter.mp hw).2⟩
def lCx (p : Program) (c : Code) (cc : ByteArray) (nL : Nat) (s : State) (m : MethodId) (args : Array Value) (meth : Method) (own : String) (D : va_G) (G : Nat → ClassId) (ad : Nat → Nat) (X0 : va_W) : Prop :=
  p.tables.exec = Jvm.exec ∧ c.code = cc ∧ c.maxLocals = nL ∧ s.vm.findClass own = some m.cls ∧ (∀ w ∈ lw_gd, w.before args s = true) ∧ meth.locks = false ∧ va_K D vwCl (qtys G) s ∧ qInj ad ∧ qX ad (lA ad X0 s.heap.size) s s.heap ∧ qNcs s
def lE (D : va_G) (G : Nat → ClassId) (ad : Nat → Nat) (X : va_W) (E : (Nat → Prop) → State → Heap → Prop) (sz : Nat) (U : State) : Prop := U.heap.size = sz ∧ va_P D vwCl X U.heap ∧ va_D (fun _ => True) X ∧ va_K D vwCl (qtys G) U ∧ qX ad (lA ad X sz) U U.heap ∧ qNcs U ∧ E (lA ad X sz) U U.heap
theorem lE_blind {D : va_G} {G : Nat → ClassId} {ad : Nat → Nat} {X : va_W} {sz : Nat} {av : List Value} {E : (Nat → Prop) → State → Heap → Prop} (hk : qXk E) : FrameBlind (va_Pc av (lE D G ad X E sz)) := by
  intro a U g mk h
  obtain ⟨h1, h2, h3, h4, h5, h6, h7, h8⟩ := h
  exact ⟨h1, h2, h3, h4, va_K.moved (u := U) (U := U.calling g mk a) (Vm.Alike.refl U.vm) h5, qX_same (u := U) (U := U.calling g mk a) h6 rfl, qNcs_mv (u := U) (U := U.calling g mk a) (Vm.Alike.refl U.vm) h7, hk _ _ U (U.calling g mk a) U.heap U.heap h8 (Vm.Alike.refl U.vm) (fun _ _ _ => rfl) (fun _ h => h)⟩
def lCM (l : Launch) (D : va_G) (G : Nat → ClassId) (ad : Nat → Nat) (y : MethodName) (hw : Cond) (d mc ms : Nat) (av : List Value) (X : va_W) (E : (Nat → Prop) → State → Heap → Prop) (Q : State → Array Value → State → Outcome → State → Prop) : Prop :=
  ∀ st : State, Met l y (hw :: lw_gd) (qrm d mc ms) (va_Pc av (lE D G ad X E st.heap.size)) (Q st) mc ms (va_A X st.heap.size)
def lB (D : va_G) (Xc : va_W) (sz : Nat) (X1 : va_W) (t : State) : Prop := va_P D vwCl X1 t.heap ∧ va_D (va_A Xc sz) X1
abbrev lQi (D : va_G) (Xc X1 : va_W) (st : State) (r : Int32) : Array Value → State → Outcome → State → Prop := va_Qi (S := Unit) (fun r1 _ => r1 = r) (fun _ t => lB D Xc st.heap.size X1 t) (va_A Xc st.heap.size)
abbrev lQl (D : va_G) (Xc X1 : va_W) (st : State) (r : Int64) : Array Value → State → Outcome → State → Prop := va_Ql (S := Unit) (fun r1 _ => r1 = r) (fun _ t => lB D Xc st.heap.size X1 t) (va_A Xc st.heap.size)
abbrev lQd (D : va_G) (Xc X1 : va_W) (st : State) (r : UInt64) : Array Value → State → Outcome → State → Prop := va_Qd (S := Unit) (fun r1 _ => r1 = r) (fun _ t => lB D Xc st.heap.size X1 t) (va_A Xc st.heap.size)
abbrev lQf (D : va_G) (Xc X1 : va_W) (st : State) (r : UInt32) : Array Value → State → Outcome → State → Prop := va_Qf (S := Unit) (fun r1 _ => r1 = r) (fun _ t => lB D Xc st.heap.size X1 t) (va_A Xc st.heap.size)
abbrev lQv {T : Type} (D : va_G) (ad : Nat → Nat) (Xc : va_W) (X1 : T → va_W) (Y : T → Prop) (st : State) : Array Value → State → Outcome → State → Prop := va_Qv (S := Unit) (fun _ => True) (fun _ t => ∃ u : T, Y u ∧ lB D Xc st.heap.size (X1 u) t) (va_A Xc st.heap.size)
abbrev lQr {T : Type} (D : va_G) (ad : Nat → Nat) (Xc : va_W) (X1 : T → Nat → va_W) (Y : T → Nat → Prop) (F : T → Nat → (Nat → Prop) → State → Heap → Prop) (st : State) : Array Value → State → Outcome → State → Prop := va_Qr (S := Unit) (fun _ => True) (fun _ a t => ∃ u : T, Y u a ∧ lB D Xc st.heap.size (X1 u a) t ∧ F u a (fun q => lA ad (X1 u a) t.heap.size q ∨ q < st.heap.size) t t.heap) (va_A Xc st.heap.size)
theorem lNo_k : qXk (fun _ _ _ => True) := fun _ _ _ _ _ _ _ _ _ _ => trivial
theorem l_start {l : Launch} {D : va_G} {G : Nat → ClassId} {ad : Nat → Nat} {y : MethodName} {cc : ByteArray} {maxL : Nat} {ret : Option FieldType} {d mc ms : Nat} {av : List Value} {X : va_W} {E : (Nat → Prop) → State → Heap → Prop} {Q : State → Array Value → State → Outcome → State → Prop} (own : String) (hown : y.cls = own) (hy : plainName y.cls = true) (hJ : qInj ad) (hQ : ∀ s st : State, s.heap.size = st.heap.size → Q s = Q st) (hlen : (lg_sl av).length ≤ maxL)
    (body : ∀ (p : Program) (e : Env) (s : State) (m : MethodId) (args : Array Value) (below : List Frame) (meth : Method) (c : Code) (ls : Array Slot), lCx p c cc maxL s m args meth own D G ad X → meth.sig.returnType = ret → (y.name = "<init>" → meth.name = "<init>") → E (lA ad X s.heap.size) s s.heap → lR D X X s s.heap [] → lv_has ls maxL (lv_args 0 av) → W p l e (qrm d mc ms) s m args below meth c s.heap [] 0 0 (MQ below (Q s) args s mc ms (va_A X s.heap.size)) (F0 m 0 ls [])) :
    lCM l D G ad y (Cond.code y cc maxL ret) d mc ms av X E Q := by
  intro st
  refine Met.ofW (cc := cc) (maxL := maxL) (ret := ret) hy rfl ?_
  intro p e s m args below meth c s₁ B hml hv
  obtain ⟨rfl, hsz, hP, hD, hK, hX, hN, hE⟩ := hv
  have hts := atoms_spec (ws := Cond.code y cc maxL ret :: lw_gd) B.pre
  have hC : lCx p c cc maxL s m av.toArray meth own D G ad X := ⟨B.exec, B.bytes, hml, by rw [← hown]; exact findClass_of_methodNamed B.named, fun w hw => hts w (List.mem_cons_of_mem _ hw), B.notSynchronized, hK, hJ, by rw [hsz]; exact hX, hN⟩
  have hl := lv_entry av (n := maxL) hlen
  rw [lg_entry_eq]
  have := body p e s m av.toArray below meth c _ hC B.returns (fun hn => (name_of_methodNamed B.named B.method).1.trans hn) (by rw [hsz]; exact hE) ⟨hP, hD.self, va_S.rf⟩ hl
  rw [hQ s st hsz, hsz] at this
  exact this
section
variable {p : Program} {l : Launch} {e : Env} {R : Room} {s : State} {m : MethodId} {args : Array Value} {below : List Frame} {meth : Method} {c : Code} {H : Heap} {locs : List Loc} {cells slots : Nat} {Q : State → Prop} {pc nL : Nat} {ls : Array Slot} {rest : List Value} {cc : ByteArray} {own : String} {D : va_G} {G : Nat → ClassId} {ad : Nat → Nat} {X0 : va_W}
theorem l_qX {Xc X : va_W} (hC : lCx p c cc nL s m args meth own D G ad X0) (hR : lR D X0 X s H locs) (hs : ∀ z ∈ Xc, z ∈ X) {U : State} (hW : s.WarmedH U.vm) : qX ad (lA ad Xc H.size) U H := by
  refine qX_go hC.2.2.2.2.2.2.2.2.1 hW (fun a ha hn => hR.2.2.2.1 a ha (fun h => hn (Or.inl h))) (fun q hq => ?_)
  rcases hq with hq | hq
  · rcases va_A_iff.mp hq with ⟨z, hz, rfl⟩ | hq
    · exact Or.inl (lD_in hR.2.1 z (hs z hz))
    · exact Or.inl (Or.inr (Nat.le_trans hR.2.2.1 hq))
  · exact Or.inr (qAdr_mono hR.2.2.1 q hq)
theorem l_pre {Xc Xr X : va_W} {E : (Nat → Prop) → State → Heap → Prop} (hC : lCx p c cc nL s m args meth own D G ad X0) (hR : lR D X0 X s H locs) (hp : X.Perm (Xc ++ Xr)) (hXk : qXk E) (hE : E (lA ad X H.size) s H) {U : State} (hU : U.heap = H) (hW : s.WarmedH U.vm) : lE D G ad Xc E H.size U := by
  have hs : ∀ z ∈ Xc, z ∈ X := fun z hz => hp.mem_iff.mpr (List.mem_append_left _ hz)
  have hR1 := lR_perm hR hp
  refine ⟨by rw [hU], by rw [hU]; exact lP_of (fun z hz => lP_in hR.1 z (hs z hz)), lD_of ?_ (fun _ _ => trivial), va_K.moved hW.alike hC.2.2.2.2.2.2.1, by rw [hU]; exact l_qX hC hR hs hW, qNcs_mv hW.alike hC.2.2.2.2.2.2.2.2.2, ?_⟩
  · have := lD_nd hR1.2.1
    rw [List.map_append] at this
    exact (List.nodup_append.mp this).1
  · rw [hU]
    exact hXk _ _ s U H H hE hW.alike (fun _ _ _ => rfl) (lA_mo (Nat.le_refl _) (fun z hz => Or.inl ⟨z, hs z hz, rfl⟩))
theorem lR_join {Xc Xr X X1c X1 : va_W} {H1 : Heap} {locs1 : List Loc} (hR : lR D X0 X s H locs) (hp : X.Perm (Xc ++ Xr)) (hp1 : (X1c ++ Xr).Perm X1) (hz : H.size ≤ H1.size) (hk : ∀ q : Nat, q < H.size → ¬ va_A Xc H.size q → H1[q]? = H[q]?) (hP1 : va_P D vwCl X1c H1) (hD1 : va_D (va_A Xc H.size) X1c) (hS1 : va_S (va_A X0 s.heap.size) s.heap H1 locs1) : lR D X0 X1 s H1 locs1 ∧ lKp ad X H X1 H1 := by
  have hR1 := lR_perm hR hp
  have hnd := lD_nd hR1.2.1
  rw [List.map_append] at hnd
  obtain ⟨n1, n2, n3⟩ := List.nodup_append.mp hnd
  have apart : ∀ z ∈ Xr, z.1 < H.size ∧ ¬ va_A Xc H.size z.1 := fun z hz0 => by
    have hl := (lP_in hR1.1 z (List.mem_append_right _ hz0)).lt
    refine ⟨hl, fun h => ?_⟩
    rcases va_A_iff.mp h with ⟨y, hy, e⟩ | h
    · exact n3 y.1 (List.mem_map.mpr ⟨y, hy, rfl⟩) z.1 (List.mem_map.mpr ⟨z, hz0, rfl⟩) e
    · omega
  have hAX : ∀ q, va_A Xc H.size q → va_A X0 s.heap.size q := fun q h => by
    rcases va_A_iff.mp h with ⟨y, hy, rfl⟩ | h
    · exact lD_in hR1.2.1 y (List.mem_append_left _ hy)
    · exact Or.inr (Nat.le_trans hR.2.2.1 h)
  have hR2 : lR D X0 (X1c ++ Xr) s H1 locs1 := by
    refine ⟨lP_of (fun z hz0 => ?_), lD_of ?_ (fun z hz0 => ?_), hS1⟩
    · rcases List.mem_append.mp hz0 with h | h
      · exact lP_in hP1 z h
      · exact (lP_in hR1.1 z (List.mem_append_right _ h)).kept (hk z.1 (apart z h).1 (apart z h).2)
    · rw [List.map_append]
      refine List.nodup_append.mpr ⟨lD_nd hD1, n2, fun a ha b hb e => ?_⟩
      obtain ⟨y, hy, rfl⟩ := List.mem_map.mp ha
      obtain ⟨z, hz0, rfl⟩ := List.mem_map.mp hb
      exact (apart z hz0).2 (e ▸ lD_in hD1 y hy)
    · rcases List.mem_append.mp hz0 with h | h
      · exact hAX _ (lD_in hD1 z h)
      · exact lD_in hR1.2.1 z (List.mem_append_right _ h)
  refine ⟨lR_perm hR2 hp1, lA_mo hz (fun z hz0 => ?_), fun a ha hn => hk a ha (fun h => hn ?_)⟩
  · rcases List.mem_append.mp (hp1.mem_iff.mpr hz0) with h | h
    · rcases va_A_iff.mp (lD_in hD1 z h) with ⟨y, hy, e⟩ | h
      · exact Or.inl ⟨y, hp.mem_iff.mpr (List.mem_append_left _ hy), e⟩
      · exact Or.inr h
    · exact Or.inl ⟨z, hp.mem_iff.mpr (List.mem_append_right _ h), rfl⟩
  · rcases va_A_iff.mp h with ⟨y, hy, rfl⟩ | h
    · exact lA_in (hp.mem_iff.mpr (List.mem_append_left _ hy))
    · exact Or.inl (Or.inr h)
theorem l_recv {X : va_W} {a ci : Nat} {fs : List Value} {q : vw_C} (hC : lCx p c cc nL s m args meth own D G ad X0) (hR : lR D X0 X s H locs) (hm : (a, .inr (ci, fs)) ∈ X) (hc : vwCl[ci]? = some q) : ∃ cell : Cell, H[a]? = some cell ∧ cell.vm.isStatics = false ∧ s.vm.findClass q.1 = some cell.cls := by
  obtain ⟨i, hi⟩ := List.getElem?_of_mem hm
  exact va_recv hC.2.2.2.2.2.2.1 hR.1 hc hi
-- reading
theorem l_ild {X : va_W} {a n : Nat} {f : Nat → Int32} (hC : lCx p c cc nL s m args meth own D G ad X0) (hR : lR D X0 X s H locs) (hm : (a, .inl (G 0, n, .inl f)) ∈ X) {i : Int32} {j : Nat} (hin : qin i n = true) (hj : i.toNatClampNeg = j) (hdg : decode cc pc = .ok (.iaload, 1))
    (kk : W p l e R s m args below meth c H locs cells slots Q (F0 m (pc + 1) ls (.int (f j) :: rest))) : W p l e R s m args below meth c H locs cells slots Q (F0 m pc ls (.int i :: .ref a :: rest)) := by
  obtain ⟨q0, hi⟩ := List.getElem?_of_mem hm
  subst hj
  exact va_iald hC.1 hC.2.1 hC.2.2.2.2.2.2.1 hR.1 q0 0 hi rfl (qin_t hin) hdg kk
theorem l_zld {X : va_W} {a n : Nat} {f : Nat → Int32} (hC : lCx p c cc nL s m args meth own D G ad X0) (hR : lR D X0 X s H locs) (hm : (a, .inl (G 1, n, .inl f)) ∈ X) {i : Int32} {j : Nat} (hin : qin i n = true) (hj : i.toNatClampNeg = j) (hdg : decode cc pc = .ok (.baload, 1))
    (kk : W p l e R s m args below meth c H locs cells slots Q (F0 m (pc + 1) ls (.int (f j) :: rest))) : W p l e R s m args below meth c H locs cells slots Q (F0 m pc ls (.int i :: .ref a :: rest)) := by
  obtain ⟨q0, hi⟩ := List.getElem?_of_mem hm
  subst hj
  exact va_zald hC.1 hC.2.1 hC.2.2.2.2.2.2.1 hR.1 q0 1 hi rfl (qin_t hin) hdg kk
theorem l_jld {X : va_W} {a n : Nat} {f : Nat → Int64} (hC : lCx p c cc nL s m args meth own D G ad X0) (hR : lR D X0 X s H locs) (hm : (a, .inl (G 6, n, .inr (.inl f))) ∈ X) {i : Int32} {j : Nat} (hin : qin i n = true) (hj : i.toNatClampNeg = j) (hdg : decode cc pc = .ok (.laload, 1))
    (kk : W p l e R s m args below meth c H locs cells slots Q (F0 m (pc + 1) ls (.long (f j) :: rest))) : W p l e R s m args below meth c H locs cells slots Q (F0 m pc ls (.int i :: .ref a :: rest)) := by
  obtain ⟨q0, hi⟩ := List.getElem?_of_mem hm
  subst hj
  exact va_lald hC.1 hC.2.1 hC.2.2.2.2.2.2.1 hR.1 q0 6 hi rfl (qin_t hin) hdg kk
theorem l_ald {X : va_W} {a n : Nat} {g : Nat → Nat} (hC : lCx p c cc nL s m args meth own D G ad X0) (hR : lR D X0 X s H locs) (hm : (a, .inl (G 7, n, .inr (.inr (.inr (.inr (fun i => if i < n then some (g i) else none)))))) ∈ X) {i : Int32} {j : Nat} (hin : qin i n = true) (hj : i.toNatClampNeg = j) (hdg : decode cc pc = .ok (.aaload, 1))
    (kk : W p l e R s m args below meth c H locs cells slots Q (F0 m (pc + 1) ls (.ref (g j) :: rest))) : W p l e R s m args below meth c H locs cells slots Q (F0 m pc ls (.int i :: .ref a :: rest)) := by
  obtain ⟨q0, hi⟩ := List.getElem?_of_mem hm
  subst hj
  have hin := qin_t hin
  have hlt : i.toNatClampNeg < n := Nat.not_le.mp fun q => hin (Or.inr q)
  refine W.aald (v := va_rf ((fun i => if i < n then some (g i) else none) i.toNatClampNeg)) (ty := .array .int) hC.1 hC.2.1 (hR.1 q0 _ hi) ((hC.2.2.2.2.2.2.1.2 7 _ rfl).1 n (fun j => va_rf ((fun i => if i < n then some (g i) else none) j))) rfl (fun q => by cases q) (by show ¬ (i < 0 ∨ (arrV _ _ _).slots.size ≤ _); rw [arrV_size]; exact hin) (by show (arrV _ _ _).slots[_]? = _; rw [arrV_read _ _ hlt]) rfl rfl hdg ?_
  show W p l e R s m args below meth c H locs cells slots Q (F0 m (pc + 1) ls (va_rf (if i.toNatClampNeg < n then some (g i.toNatClampNeg) else none) :: rest))
  rw [if_pos hlt]
  exact kk
theorem l_alen {X : va_W} {a t : Nat} {x : vp_A} {ty : FieldType} (hC : lCx p c cc nL s m args meth own D G ad X0) (hR : lR D X0 X s H locs) (hm : (a, .inl (G t, x)) ∈ X) (ht : (qtys G)[t]? = some (G t, ty)) {v : Int32} (hv : Int32.ofNat x.1 = v) (hdg : decode cc pc = .ok (.arraylength, 1))
    (kk : W p l e R s m args below meth c H locs cells slots Q (F0 m (pc + 1) ls (.int v :: rest))) : W p l e R s m args below meth c H locs cells slots Q (F0 m pc ls (.ref a :: rest)) := by
  obtain ⟨q0, hi⟩ := List.getElem?_of_mem hm
  exact va_alen hC.1 hC.2.1 hC.2.2.2.2.2.2.1 hR.1 q0 t hi ht hv hdg kk
-- writing
theorem l_ist {C ex g : va_W} {a n : Nat} {f : Nat → Int32} (hC : lCx p c cc nL s m args meth own D G ad X0) (hR : lR D X0 (lX C ex g) s H locs) (i0 : Nat) (hi : ex[i0]? = some (a, .inl (G 0, n, .inl f))) {i : Int32} {v : Int32} {j : Nat} (hin : qin i n = true) (hj : i.toNatClampNeg = j) (hdg : decode cc pc = .ok (.iastore, 1))
    (kk : ∀ (H1 : Heap) (locs1 : List Loc), lR D X0 (lX C (ex.set i0 (a, .inl (G 0, n, .inl (upd f j v)))) g) s H1 locs1 → W p l e R s m args below meth c H1 locs1 cells slots Q (F0 m (pc + 1) ls rest)) : W p l e R s m args below meth c H locs cells slots Q (F0 m pc ls (.int v :: .int i :: .ref a :: rest)) := by
  subst hj
  refine va_iast hC.1 hC.2.1 hC.2.2.2.2.2.2.1 hR.1 hR.2.1 hR.2.2 (C.length + i0) 0 (lX_at hi) rfl (qin_t hin) hdg (fun H1 locs1 hP hD hS => kk H1 locs1 ?_)
  rw [lX_set (List.getElem?_eq_some_iff.mp hi).1] at hP hD
  exact ⟨hP, hD, hS⟩
theorem l_zst {C ex g : va_W} {a n : Nat} {f : Nat → Int32} (hC : lCx p c cc nL s m args meth own D G ad X0) (hR : lR D X0 (lX C ex g) s H locs) (i0 : Nat) (hi : ex[i0]? = some (a, .inl (G 1, n, .inl f))) {i : Int32} {v : Int32} {j : Nat} (hin : qin i n = true) (hj : i.toNatClampNeg = j) (hv : vp_nar .boolean v = v) (hdg : decode cc pc = .ok (.bastore, 1))
    (kk : ∀ (H1 : Heap) (locs1 : List Loc), lR D X0 (lX C (ex.set i0 (a, .inl (G 1, n, .inl (upd f j v)))) g) s H1 locs1 → W p l e R s m args below meth c H1 locs1 cells slots Q (F0 m (pc + 1) ls rest)) : W p l e R s m args below meth c H locs cells slots Q (F0 m pc ls (.int v :: .int i :: .ref a :: rest)) := by
  subst hj
  refine va_zast hC.1 hC.2.1 hC.2.2.2.2.2.2.1 hR.1 hR.2.1 hR.2.2 (C.length + i0) 1 (lX_at hi) rfl (qin_t hin) hdg (fun H1 locs1 hP hD hS => kk H1 locs1 ?_)
  rw [hv] at hP hD
  rw [lX_set (List.getElem?_eq_some_iff.mp hi).1] at hP hD
  exact ⟨hP, hD, hS⟩
theorem l_jst {C ex g : va_W} {a n : Nat} {f : Nat → Int64} (hC : lCx p c cc nL s m args meth own D G ad X0) (hR : lR D X0 (lX C ex g) s H locs) (i0 : Nat) (hi : ex[i0]? = some (a, .inl (G 6, n, .inr (.inl f)))) {i : Int32} {v : Int64} {j : Nat} (hin : qin i n = true) (hj : i.toNatClampNeg = j) (hdg : decode cc pc = .ok (.lastore, 1))
    (kk : ∀ (H1 : Heap) (locs1 : List Loc), lR D X0 (lX C (ex.set i0 (a, .inl (G 6, n, .inr (.inl (vp_updL f j v))))) g) s H1 locs1 → W p l e R s m args below meth c H1 locs1 cells slots Q (F0 m (pc + 1) ls rest)) : W p l e R s m args below meth c H locs cells slots Q (F0 m pc ls (.long v :: .int i :: .ref a :: rest)) := by
  subst hj
  refine va_last hC.1 hC.2.1 hC.2.2.2.2.2.2.1 hR.1 hR.2.1 hR.2.2 (C.length + i0) 6 (lX_at hi) rfl (qin_t hin) hdg (fun H1 locs1 hP hD hS => kk H1 locs1 ?_)
  rw [lX_set (List.getElem?_eq_some_iff.mp hi).1] at hP hD
  exact ⟨hP, hD, hS⟩
theorem l_rst {C ex : va_W} {gq n jr : Nat} {gr : Nat → Nat} {M : Nat → Nat → Int32} (hC : lCx p c cc nL s m args meth own D G ad X0) (hR : lR D X0 (lX C ex (lgr G gq gr n M)) s H locs) (hr : jr < n) {i v : Int32} {j : Nat} (hin : qin i 7 = true) (hj : i.toNatClampNeg = j) (hdg : decode cc pc = .ok (.iastore, 1))
    (kk : ∀ (H1 : Heap) (locs1 : List Loc), lR D X0 (lX C ex (lgr G gq gr n (quw M jr j v))) s H1 locs1 → W p l e R s m args below meth c H1 locs1 cells slots Q (F0 m (pc + 1) ls rest)) : W p l e R s m args below meth c H locs cells slots Q (F0 m pc ls (.int v :: .int i :: .ref (gr jr) :: rest)) := by
  subst hj
  refine va_iast hC.1 hC.2.1 hC.2.2.2.2.2.2.1 hR.1 hR.2.1 hR.2.2 (C.length + (ex.length + (jr + 1))) 0 (lX_gat (lgr_at hr)) rfl (qin_t hin) hdg (fun H1 locs1 hP hD hS => kk H1 locs1 ?_)
  rw [lX_gset, lgr_set hr] at hP hD
  exact ⟨hP, hD, hS⟩
theorem lgr_m0 {C ex : va_W} {gq n : Nat} {gr : Nat → Nat} {M : Nat → Nat → Int32} : (gq, .inl (G 7, n, .inr (.inr (.inr (.inr (fun i => if i < n then some (gr i) else none)))))) ∈ lX C ex (lgr G gq gr n M) := List.mem_append_right _ (List.mem_append_right _ List.mem_cons_self)
theorem lgr_mr {C ex : va_W} {gq n j : Nat} {gr : Nat → Nat} {M : Nat → Nat → Int32} (h : j < n) : (gr j, .inl (G 0, 7, .inl (M j))) ∈ lX C ex (lgr G gq gr n M) := List.mem_append_right _ (List.mem_append_right _ (List.mem_of_getElem? (lgr_at h)))
theorem lX_mx {C ex g : va_W} {z : Nat × va_E} (i : Nat) (h : ex[i]? = some z) : z ∈ lX C ex g := List.mem_append_right _ (List.mem_append_left _ (List.mem_of_getElem? h))
theorem lX_mc {ex g : va_W} {w : qMem} {k : Nat} (h : k < 238) : (ad k, qshp G ad (w k) k) ∈ lX (qcells G ad w) ex g := List.mem_append_left _ (List.mem_of_getElem? (qat G ad w h))
-- making
theorem lX_new {C ex g : va_W} {z : Nat × va_E} {H1 : Heap} (hR : lR D X0 (lX C ex g) s H locs) (hq : z.1 = H.size) (hz : H1.size = H.size + 1) (ho : ∀ q : Nat, q < H.size → H1[q]? = H[q]?) (he : va_at D vwCl z H1) : lR D X0 (lX C (z :: ex) g) s H1 locs ∧ lKp ad (lX C ex g) H (lX C (z :: ex) g) H1 := by
  have hr : lR D X0 (lX C ex g ++ [z]) s H1 locs := by
    refine ⟨lP_of (fun y hy => ?_), lD_of ?_ (fun y hy => ?_), ⟨Nat.le_trans hR.2.2.1 (by omega), fun x h1 h2 => (ho x (Nat.lt_of_lt_of_le h1 hR.2.2.1)).trans (hR.2.2.2.1 x h1 h2), hR.2.2.2.2⟩⟩
    · rcases List.mem_append.mp hy with h | h
      · exact (lP_in hR.1 y h).kept (ho y.1 (lP_in hR.1 y h).lt)
      · rw [List.mem_singleton.mp h]; exact he
    · rw [List.map_append]
      refine List.nodup_append.mpr ⟨lD_nd hR.2.1, by simp, fun a ha b hb e => ?_⟩
      obtain ⟨y, hy, rfl⟩ := List.mem_map.mp ha
      have := (lP_in hR.1 y hy).lt
      simp only [List.map_cons, List.map_nil, List.mem_singleton] at hb
      omega
    · rcases List.mem_append.mp hy with h | h
      · exact lD_in hR.2.1 y h
      · rw [List.mem_singleton.mp h, hq]; exact Or.inr hR.2.2.1
  refine ⟨lR_perm hr lX_push, lA_mo (by omega) (fun y hy => ?_), fun a ha _ => ho a ha⟩
  rcases List.mem_append.mp (lX_push.mem_iff.mpr hy) with h | h
  · exact Or.inl ⟨y, h, rfl⟩
  · rw [List.mem_singleton.mp h, hq]; exact Or.inr (Nat.le_refl _)
theorem l_newa {C ex g : va_W} {atype : ArrayType} {t N : Nat} {n : Int32} {ty : FieldType} {E : (Nat → Int32) ⊕ (Nat → Int64) ⊕ (Nat → UInt32) ⊕ (Nat → UInt64) ⊕ (Nat → Option Nat)} (hC : lCx p c cc nL s m args meth own D G ad X0) (hR : lR D X0 (lX C ex g) s H locs) (hat : newarray.typeOf atype = ty) (harr : Cond.arrayClass ty ∈ lw_gd) (ht : (qtys G)[t]? = some (G t, ty)) (hz : ∀ cA : ClassId, vp_cell cA (N, E) = arrV cA N (fun _ => defaultValue ty)) (hn : ¬ n < 0) (hN : n.toNatClampNeg = N) (hby : N * componentBytes ty ≤ 536870912) (hcells : cells + 1 ≤ R.cells) (hslots : slots + N ≤ R.slots) (hdg : decode cc pc = .ok (.newarray atype, 2))
    (kk : ∀ (q : Nat) (H1 : Heap), lR D X0 (lX C ((q, .inl (G t, N, E)) :: ex) g) s H1 locs → lKp ad (lX C ex g) H (lX C ((q, .inl (G t, N, E)) :: ex) g) H1 → W p l e R s m args below meth c H1 locs (cells + 1) (slots + N) Q (F0 m (pc + 2) ls (.ref q :: rest))) : W p l e R s m args below meth c H locs cells slots Q (F0 m pc ls (.int n :: rest)) := by
  subst hat
  refine va_newaK hC.1 hC.2.1 (hC.2.2.2.2.1 _ harr) rfl hdg rfl hn hN hby hcells hslots rfl fun H1 cA e1 z1 o1 hAr hNm => ?_
  have hg : s.vm.findClass ("[" ++ (newarray.typeOf atype).toString) = some (G t) := by
    have := (hC.2.2.2.2.2.2.1.2 t _ ht).2
    cases atype <;> exact this
  have hcA : cA = G t := Option.some.inj (hNm.symm.trans hg)
  subst hcA
  obtain ⟨h1, h2⟩ := lX_new (ad := ad) (z := (H.size, .inl (G t, N, E))) hR rfl z1 o1 (by
    show H1[H.size]? = some (vp_cell _ _)
    rw [hz]
    exact e1)
  exact kk H.size H1 h1 h2
theorem l_new {C ex g : va_W} {Cn : String} {T : u_T} {N ci index : Nat} (ty : Nat → FieldType) (hty : ∀ k, k < N → parseFieldDescriptor (T k).2.2.1 = some (ty k)) (hC : lCx p c cc nL s m args meth own D G ad X0) (hR : lR D X0 (lX C ex g) s H locs) (hcl : Cond.classLink own index Cn ∈ lw_gd) (hinst : Cond.instantiable Cn N ∈ lw_gd) (hini : Cond.initialized Cn ∈ lw_gd) (hin : ∀ w ∈ u_ws Cn T N, w ∈ lw_gd) (hc : vwCl[ci]? = some (Cn, T, N)) {fs : List Value} (hfs : ∀ j, j < N → defaultValue (ty j) = vp_V fs j) (hcells : cells + 1 ≤ R.cells) (hslots : slots + N ≤ R.slots) (hdg : decode cc pc = .ok (.new index, 3))
    (kk : ∀ (q : Nat) (H1 : Heap), lR D X0 (lX C ((q, .inr (ci, fs)) :: ex) g) s H1 locs → lKp ad (lX C ex g) H (lX C ((q, .inr (ci, fs)) :: ex) g) H1 → W p l e R s m args below meth c H1 locs (cells + 1) (slots + N) Q (F0 m (pc + 3) ls (.ref q :: rest))) : W p l e R s m args below meth c H locs cells slots Q (F0 m pc ls rest) := by
  have hKn := hC.2.2.2.2.2.2.1.1 ci _ hc
  refine W.newcK hC.1 hC.2.1 hC.2.2.2.1 (hC.2.2.2.2.1 _ hcl) (hC.2.2.2.2.1 _ hinst) (hC.2.2.2.2.1 _ hini) rfl hdg hcells hslots hKn.2.1 rfl fun H1 kC hkC e1 z1 o1 => ?_
  obtain ⟨h1, h2⟩ := lX_new (ad := ad) (z := (H.size, .inr (ci, fs))) hR rfl z1 o1 ⟨_, hc, (u_born ty hC.2.2.2.2.1 hin hKn hkC e1 hty).to hfs⟩
  exact kk H.size H1 h1 h2
theorem l_callVi {y : MethodName} {bytes : ByteArray} {maxL d mc ms index b : Nat} {ret : Option FieldType} {As st : List Value} {r : Int32} {X Xc Xr : va_W} {X1c : va_W} {X1 : va_W} {E : (Nat → Prop) → State → Heap → Prop} {C : String} (hC : lCx p c cc nL s m args meth own D G ad X0) (hR : lR D X0 X s H locs)
    (hM : lCM l D G ad y (Cond.code y bytes maxL ret) d mc ms (.ref b :: As) Xc E (fun st => lQi D Xc X1c st r)) (hXk : qXk E) (hE : E (lA ad X H.size) s H) (hp : X.Perm (Xc ++ Xr)) (hp1 : (X1c ++ Xr).Perm X1) (hrec : ∃ cell : Cell, H[b]? = some cell ∧ cell.vm.isStatics = false ∧ s.vm.findClass C = some cell.cls) (hlk : Cond.methodLink own index y ∈ lw_gd) (hin : Cond.instanceMethod y ∈ lw_gd) (hse : Cond.selects C y y ∈ lw_gd) (hini : Cond.initialized y.cls ∈ lw_gd) (hcode : Cond.code y bytes maxL ret ∈ lw_gd)
    (hd : y.cls ≠ "java/lang/invoke/MethodHandle" ∧ y.cls ≠ "java/lang/invoke/VarHandle" ∧ (parseMethodDescriptor y.desc).map (fun d => d.parameters.length) = some As.length) (hroom : d + 1 ≤ R.frames ∧ 8 + (maxL + 11) + 40 * d ≤ R.locals) (hsz : ls.size = nL) (hst : st = As.reverse ++ .ref b :: rest) (hcat : (rest.map fun v => v.category).sum ≤ 8) (hdg : decode cc pc = .ok (.invokevirtual index, 3)) (hf : cells + mc ≤ R.cells ∧ slots + ms ≤ R.slots)
    (kk : ∀ (H1 : Heap) (locs1 : List Loc), lR D X0 X1 s H1 locs1 → lKp ad X H X1 H1 → W p l e R s m args below meth c H1 locs1 (cells + mc) (slots + ms) Q (F0 m (pc + 3) ls (.int r :: rest))) : W p l e R s m args below meth c H locs cells slots Q (F0 m pc ls st) := by
  have hts := hC.2.2.2.2.1
  have hcB : CallB R s args own index y bytes maxL ret (Cond.code y bytes maxL ret :: lw_gd) (qrm d mc ms) mc ms As.length := callB_of As.length hts (q_goodIn hcode) rfl rfl rfl (hts _ hini) (hts _ hlk) hd hroom
  let sH : State := { s with heap := H }
  have hA : ∀ q : Nat, va_A Xc H.size q → va_A X0 s.heap.size q := fun q hq => by
    rcases va_A_iff.mp hq with ⟨z, hz, rfl⟩ | hq
    · exact lD_in hR.2.1 z (hp.mem_iff.mpr (List.mem_append_left _ hz))
    · exact Or.inr (Nat.le_trans hR.2.2.1 hq)
  refine va_calli (va_runV (As := As) (rest := rest) (C := C) (Ts := lw_gd) ⟨hC.1, hC.2.1, hC.2.2.1, hC.2.2.2.1, hts⟩ (hM sH) ⟨hcB, hts _ hin, hts _ hse⟩ ⟨lE_blind hXk, hrec, fun U hU hW => ⟨rfl, l_pre hC hR hp hXk hE hU hW⟩⟩ rfl rfl hsz hst (lv_room hcat) hdg hf) hR.2.2 (fun q _ h => hA q h) hA (fun r1 u t H1 locs1 ht hvm hw hB hz1 hk1 hS1 => ?_)
  subst hw
  obtain ⟨hB, hD1⟩ := hB
  rw [ht] at hB
  obtain ⟨h1, h2⟩ := lR_join (ad := ad) hR hp hp1 hz1 hk1 hB hD1 hS1
  exact kk H1 locs1 h1 h2
theorem l_callVd {y : MethodName} {bytes : ByteArray} {maxL d mc ms index b : Nat} {ret : Option FieldType} {As st : List Value} {r : UInt64} {X Xc Xr : va_W} {X1c : va_W} {X1 : va_W} {E : (Nat → Prop) → State → Heap → Prop} {C : String} (hC : lCx p c cc nL s m args meth own D G ad X0) (hR : lR D X0 X s H locs)
    (hM : lCM l D G ad y (Cond.code y bytes maxL ret) d mc ms (.ref b :: As) Xc E (fun st => lQd D Xc X1c st r)) (hXk : qXk E) (hE : E (lA ad X H.size) s H) (hp : X.Perm (Xc ++ Xr)) (hp1 : (X1c ++ Xr).Perm X1) (hrec : ∃ cell : Cell, H[b]? = some cell ∧ cell.vm.isStatics = false ∧ s.vm.findClass C = some cell.cls) (hlk : Cond.methodLink own index y ∈ lw_gd) (hin : Cond.instanceMethod y ∈ lw_gd) (hse : Cond.selects C y y ∈ lw_gd) (hini : Cond.initialized y.cls ∈ lw_gd) (hcode : Cond.code y bytes maxL ret ∈ lw_gd)
    (hd : y.cls ≠ "java/lang/invoke/MethodHandle" ∧ y.cls ≠ "java/lang/invoke/VarHandle" ∧ (parseMethodDescriptor y.desc).map (fun d => d.parameters.length) = some As.length) (hroom : d + 1 ≤ R.frames ∧ 8 + (maxL + 11) + 40 * d ≤ R.locals) (hsz : ls.size = nL) (hst : st = As.reverse ++ .ref b :: rest) (hcat : (rest.map fun v => v.category).sum ≤ 8) (hdg : decode cc pc = .ok (.invokevirtual index, 3)) (hf : cells + mc ≤ R.cells ∧ slots + ms ≤ R.slots)
    (kk : ∀ (H1 : Heap) (locs1 : List Loc), lR D X0 X1 s H1 locs1 → lKp ad X H X1 H1 → W p l e R s m args below meth c H1 locs1 (cells + mc) (slots + ms) Q (F0 m (pc + 3) ls (.double r :: rest))) : W p l e R s m args below meth c H locs cells slots Q (F0 m pc ls st) := by
  have hts := hC.2.2.2.2.1
  have hcB : CallB R s args own index y bytes maxL ret (Cond.code y bytes maxL ret :: lw_gd) (qrm d mc ms) mc ms As.length := callB_of As.length hts (q_goodIn hcode) rfl rfl rfl (hts _ hini) (hts _ hlk) hd hroom
  let sH : State := { s with heap := H }
  have hA : ∀ q : Nat, va_A Xc H.size q → va_A X0 s.heap.size q := fun q hq => by
    rcases va_A_iff.mp hq with ⟨z, hz, rfl⟩ | hq
    · exact lD_in hR.2.1 z (hp.mem_iff.mpr (List.mem_append_left _ hz))
    · exact Or.inr (Nat.le_trans hR.2.2.1 hq)
  refine va_calld (va_runV (As := As) (rest := rest) (C := C) (Ts := lw_gd) ⟨hC.1, hC.2.1, hC.2.2.1, hC.2.2.2.1, hts⟩ (hM sH) ⟨hcB, hts _ hin, hts _ hse⟩ ⟨lE_blind hXk, hrec, fun U hU hW => ⟨rfl, l_pre hC hR hp hXk hE hU hW⟩⟩ rfl rfl hsz hst (lv_room hcat) hdg hf) hR.2.2 (fun q _ h => hA q h) hA (fun r1 u t H1 locs1 ht hvm hw hB hz1 hk1 hS1 => ?_)
  subst hw
  obtain ⟨hB, hD1⟩ := hB
  rw [ht] at hB
  obtain ⟨h1, h2⟩ := lR_join (ad := ad) hR hp hp1 hz1 hk1 hB hD1 hS1
  exact kk H1 locs1 h1 h2
theorem l_callVf {y : MethodName} {bytes : ByteArray} {maxL d mc ms index b : Nat} {ret : Option FieldType} {As st : List Value} {r : UInt32} {X Xc Xr : va_W} {X1c : va_W} {X1 : va_W} {E : (Nat → Prop) → State → Heap → Prop} {C : String} (hC : lCx p c cc nL s m args meth own D G ad X0) (hR : lR D X0 X s H locs)
    (hM : lCM l D G ad y (Cond.code y bytes maxL ret) d mc ms (.ref b :: As) Xc E (fun st => lQf D Xc X1c st r)) (hXk : qXk E) (hE : E (lA ad X H.size) s H) (hp : X.Perm (Xc ++ Xr)) (hp1 : (X1c ++ Xr).Perm X1) (hrec : ∃ cell : Cell, H[b]? = some cell ∧ cell.vm.isStatics = false ∧ s.vm.findClass C = some cell.cls) (hlk : Cond.methodLink own index y ∈ lw_gd) (hin : Cond.instanceMethod y ∈ lw_gd) (hse : Cond.selects C y y ∈ lw_gd) (hini : Cond.initialized y.cls ∈ lw_gd) (hcode : Cond.code y bytes maxL ret ∈ lw_gd)
    (hd : y.cls ≠ "java/lang/invoke/MethodHandle" ∧ y.cls ≠ "java/lang/invoke/VarHandle" ∧ (parseMethodDescriptor y.desc).map (fun d => d.parameters.length) = some As.length) (hroom : d + 1 ≤ R.frames ∧ 8 + (maxL + 11) + 40 * d ≤ R.locals) (hsz : ls.size = nL) (hst : st = As.reverse ++ .ref b :: rest) (hcat : (rest.map fun v => v.category).sum ≤ 8) (hdg : decode cc pc = .ok (.invokevirtual index, 3)) (hf : cells + mc ≤ R.cells ∧ slots + ms ≤ R.slots)
    (kk : ∀ (H1 : Heap) (locs1 : List Loc), lR D X0 X1 s H1 locs1 → lKp ad X H X1 H1 → W p l e R s m args below meth c H1 locs1 (cells + mc) (slots + ms) Q (F0 m (pc + 3) ls (.float r :: rest))) : W p l e R s m args below meth c H locs cells slots Q (F0 m pc ls st) := by
  have hts := hC.2.2.2.2.1
  have hcB : CallB R s args own index y bytes maxL ret (Cond.code y bytes maxL ret :: lw_gd) (qrm d mc ms) mc ms As.length := callB_of As.length hts (q_goodIn hcode) rfl rfl rfl (hts _ hini) (hts _ hlk) hd hroom
  let sH : State := { s with heap := H }
  have hA : ∀ q : Nat, va_A Xc H.size q → va_A X0 s.heap.size q := fun q hq => by
    rcases va_A_iff.mp hq with ⟨z, hz, rfl⟩ | hq
    · exact lD_in hR.2.1 z (hp.mem_iff.mpr (List.mem_append_left _ hz))
    · exact Or.inr (Nat.le_trans hR.2.2.1 hq)
  refine va_callf (va_runV (As := As) (rest := rest) (C := C) (Ts := lw_gd) ⟨hC.1, hC.2.1, hC.2.2.1, hC.2.2.2.1, hts⟩ (hM sH) ⟨hcB, hts _ hin, hts _ hse⟩ ⟨lE_blind hXk, hrec, fun U hU hW => ⟨rfl, l_pre hC hR hp hXk hE hU hW⟩⟩ rfl rfl hsz hst (lv_room hcat) hdg hf) hR.2.2 (fun q _ h => hA q h) hA (fun r1 u t H1 locs1 ht hvm hw hB hz1 hk1 hS1 => ?_)
  subst hw
  obtain ⟨hB, hD1⟩ := hB
  rw [ht] at hB
  obtain ⟨h1, h2⟩ := lR_join (ad := ad) hR hp hp1 hz1 hk1 hB hD1 hS1
  exact kk H1 locs1 h1 h2
theorem l_callVr {y : MethodName} {bytes : ByteArray} {maxL d mc ms index b : Nat} {ret : Option FieldType} {As st : List Value} {T : Type} {X Xc Xr : va_W} {X1c X1 : T → Nat → va_W} {Y : T → Nat → Prop} {F : T → Nat → (Nat → Prop) → State → Heap → Prop} {E : (Nat → Prop) → State → Heap → Prop} {C : String} (hC : lCx p c cc nL s m args meth own D G ad X0) (hR : lR D X0 X s H locs)
    (hM : lCM l D G ad y (Cond.code y bytes maxL ret) d mc ms (.ref b :: As) Xc E (lQr D ad Xc X1c Y F)) (hXk : qXk E) (hE : E (lA ad X H.size) s H) (hp : X.Perm (Xc ++ Xr)) (hp1 : ∀ u b, (X1c u b ++ Xr).Perm (X1 u b)) (hrec : ∃ cell : Cell, H[b]? = some cell ∧ cell.vm.isStatics = false ∧ s.vm.findClass C = some cell.cls) (hlk : Cond.methodLink own index y ∈ lw_gd) (hin : Cond.instanceMethod y ∈ lw_gd) (hse : Cond.selects C y y ∈ lw_gd) (hini : Cond.initialized y.cls ∈ lw_gd) (hcode : Cond.code y bytes maxL ret ∈ lw_gd)
    (hd : y.cls ≠ "java/lang/invoke/MethodHandle" ∧ y.cls ≠ "java/lang/invoke/VarHandle" ∧ (parseMethodDescriptor y.desc).map (fun d => d.parameters.length) = some As.length) (hroom : d + 1 ≤ R.frames ∧ 8 + (maxL + 11) + 40 * d ≤ R.locals) (hsz : ls.size = nL) (hst : st = As.reverse ++ .ref b :: rest) (hcat : (rest.map fun v => v.category).sum ≤ 8) (hdg : decode cc pc = .ok (.invokevirtual index, 3)) (hf : cells + mc ≤ R.cells ∧ slots + ms ≤ R.slots)
    (hYk : ∀ u b, qXk (F u b)) (kk : ∀ (u : T) (a1 : Nat) (H1 : Heap) (locs1 : List Loc), Y u a1 → lR D X0 (X1 u a1) s H1 locs1 → lKp ad X H (X1 u a1) H1 → F u a1 (lA ad (X1 u a1) H1.size) s H1 → W p l e R s m args below meth c H1 locs1 (cells + mc) (slots + ms) Q (F0 m (pc + 3) ls (.ref a1 :: rest))) : W p l e R s m args below meth c H locs cells slots Q (F0 m pc ls st) := by
  have hts := hC.2.2.2.2.1
  have hcB : CallB R s args own index y bytes maxL ret (Cond.code y bytes maxL ret :: lw_gd) (qrm d mc ms) mc ms As.length := callB_of As.length hts (q_goodIn hcode) rfl rfl rfl (hts _ hini) (hts _ hlk) hd hroom
  let sH : State := { s with heap := H }
  have hA : ∀ q : Nat, va_A Xc H.size q → va_A X0 s.heap.size q := fun q hq => by
    rcases va_A_iff.mp hq with ⟨z, hz, rfl⟩ | hq
    · exact lD_in hR.2.1 z (hp.mem_iff.mpr (List.mem_append_left _ hz))
    · exact Or.inr (Nat.le_trans hR.2.2.1 hq)
  refine va_callr (va_runV (As := As) (rest := rest) (C := C) (Ts := lw_gd) ⟨hC.1, hC.2.1, hC.2.2.1, hC.2.2.2.1, hts⟩ (hM sH) ⟨hcB, hts _ hin, hts _ hse⟩ ⟨lE_blind hXk, hrec, fun U hU hW => ⟨rfl, l_pre hC hR hp hXk hE hU hW⟩⟩ rfl rfl hsz hst (lv_room hcat) hdg hf) hR.2.2 (fun q _ h => hA q h) hA (fun u a1 t H1 locs1 ht hvm hw hB hz1 hk1 hS1 => ?_)
  obtain ⟨v, hY, hB, hF⟩ := hB
  obtain ⟨hB, hD1⟩ := hB
  rw [ht] at hB
  obtain ⟨h1, h2⟩ := lR_join (ad := ad) hR hp (hp1 v a1) hz1 hk1 hB hD1 hS1
  refine kk v a1 H1 locs1 hY h1 h2 (hYk v a1 _ _ t s t.heap H1 hF hvm.symm (fun a _ _ => by rw [ht]) (fun q hq => ?_))
  rcases hq with hq | hq
  · rcases va_A_iff.mp hq with ⟨z, hz, rfl⟩ | hq
    · rcases List.mem_append.mp ((hp1 v a1).mem_iff.mpr hz) with h | h
      · exact Or.inl (lA_in h)
      · exact Or.inr (lP_in hR.1 z (hp.mem_iff.mpr (List.mem_append_right _ h))).lt
    · exact Or.inl (Or.inl (Or.inr (by rw [ht]; exact hq)))
  · exact Or.inl (Or.inr (by rw [ht]; exact hq))
theorem l_callVv {y : MethodName} {bytes : ByteArray} {maxL d mc ms index b : Nat} {ret : Option FieldType} {As st : List Value} {T : Type} {X Xc Xr : va_W} {X1c X1 : T → va_W} {Y : T → Prop} {E : (Nat → Prop) → State → Heap → Prop} {C : String} (hC : lCx p c cc nL s m args meth own D G ad X0) (hR : lR D X0 X s H locs)
    (hM : lCM l D G ad y (Cond.code y bytes maxL ret) d mc ms (.ref b :: As) Xc E (lQv D ad Xc X1c Y)) (hXk : qXk E) (hE : E (lA ad X H.size) s H) (hp : X.Perm (Xc ++ Xr)) (hp1 : ∀ u, (X1c u ++ Xr).Perm (X1 u)) (hrec : ∃ cell : Cell, H[b]? = some cell ∧ cell.vm.isStatics = false ∧ s.vm.findClass C = some cell.cls) (hlk : Cond.methodLink own index y ∈ lw_gd) (hin : Cond.instanceMethod y ∈ lw_gd) (hse : Cond.selects C y y ∈ lw_gd) (hini : Cond.initialized y.cls ∈ lw_gd) (hcode : Cond.code y bytes maxL ret ∈ lw_gd)
    (hd : y.cls ≠ "java/lang/invoke/MethodHandle" ∧ y.cls ≠ "java/lang/invoke/VarHandle" ∧ (parseMethodDescriptor y.desc).map (fun d => d.parameters.length) = some As.length) (hroom : d + 1 ≤ R.frames ∧ 8 + (maxL + 11) + 40 * d ≤ R.locals) (hsz : ls.size = nL) (hst : st = As.reverse ++ .ref b :: rest) (hcat : (rest.map fun v => v.category).sum ≤ 8) (hdg : decode cc pc = .ok (.invokevirtual index, 3)) (hf : cells + mc ≤ R.cells ∧ slots + ms ≤ R.slots)
    (kk : ∀ (u : T) (H1 : Heap) (locs1 : List Loc), Y u → lR D X0 (X1 u) s H1 locs1 → lKp ad X H (X1 u) H1 → W p l e R s m args below meth c H1 locs1 (cells + mc) (slots + ms) Q (F0 m (pc + 3) ls rest)) : W p l e R s m args below meth c H locs cells slots Q (F0 m pc ls st) := by
  have hts := hC.2.2.2.2.1
  have hcB : CallB R s args own index y bytes maxL ret (Cond.code y bytes maxL ret :: lw_gd) (qrm d mc ms) mc ms As.length := callB_of As.length hts (q_goodIn hcode) rfl rfl rfl (hts _ hini) (hts _ hlk) hd hroom
  let sH : State := { s with heap := H }
  have hA : ∀ q : Nat, va_A Xc H.size q → va_A X0 s.heap.size q := fun q hq => by
    rcases va_A_iff.mp hq with ⟨z, hz, rfl⟩ | hq
    · exact lD_in hR.2.1 z (hp.mem_iff.mpr (List.mem_append_left _ hz))
    · exact Or.inr (Nat.le_trans hR.2.2.1 hq)
  refine va_callv (va_runV (As := As) (rest := rest) (C := C) (Ts := lw_gd) ⟨hC.1, hC.2.1, hC.2.2.1, hC.2.2.2.1, hts⟩ (hM sH) ⟨hcB, hts _ hin, hts _ hse⟩ ⟨lE_blind hXk, hrec, fun U hU hW => ⟨rfl, l_pre hC hR hp hXk hE hU hW⟩⟩ rfl rfl hsz hst (lv_room hcat) hdg hf) hR.2.2 (fun q _ h => hA q h) hA (fun u t H1 locs1 ht hvm hw hB hz1 hk1 hS1 => ?_)
  obtain ⟨v, hY, hB, hD1⟩ := hB
  rw [ht] at hB
  obtain ⟨h1, h2⟩ := lR_join (ad := ad) hR hp (hp1 v) hz1 hk1 hB hD1 hS1
  exact kk v H1 locs1 hY h1 h2
theorem l_callSi {y : MethodName} {bytes : ByteArray} {maxL d mc ms index : Nat} {ret : Option FieldType} {As st : List Value} {r : Int32} {X Xc Xr : va_W} {X1c : va_W} {X1 : va_W} {E : (Nat → Prop) → State → Heap → Prop} (hC : lCx p c cc nL s m args meth own D G ad X0) (hR : lR D X0 X s H locs)
    (hM : lCM l D G ad y (Cond.code y bytes maxL ret) d mc ms As Xc E (fun st => lQi D Xc X1c st r)) (hXk : qXk E) (hE : E (lA ad X H.size) s H) (hp : X.Perm (Xc ++ Xr)) (hp1 : (X1c ++ Xr).Perm X1) (hlk : Cond.methodLink own index y ∈ lw_gd) (hin : Cond.static y ∈ lw_gd) (hini : Cond.initialized y.cls ∈ lw_gd) (hcode : Cond.code y bytes maxL ret ∈ lw_gd)
    (hd : y.cls ≠ "java/lang/invoke/MethodHandle" ∧ y.cls ≠ "java/lang/invoke/VarHandle" ∧ (parseMethodDescriptor y.desc).map (fun d => d.parameters.length) = some As.length) (hroom : d + 1 ≤ R.frames ∧ 8 + (maxL + 11) + 40 * d ≤ R.locals) (hsz : ls.size = nL) (hst : st = As.reverse ++ rest) (hcat : (rest.map fun v => v.category).sum ≤ 8) (hdg : decode cc pc = .ok (.invokestatic index, 3)) (hf : cells + mc ≤ R.cells ∧ slots + ms ≤ R.slots)
    (kk : ∀ (H1 : Heap) (locs1 : List Loc), lR D X0 X1 s H1 locs1 → lKp ad X H X1 H1 → W p l e R s m args below meth c H1 locs1 (cells + mc) (slots + ms) Q (F0 m (pc + 3) ls (.int r :: rest))) : W p l e R s m args below meth c H locs cells slots Q (F0 m pc ls st) := by
  have hts := hC.2.2.2.2.1
  have hcB : CallB R s args own index y bytes maxL ret (Cond.code y bytes maxL ret :: lw_gd) (qrm d mc ms) mc ms As.length := callB_of As.length hts (q_goodIn hcode) rfl rfl rfl (hts _ hini) (hts _ hlk) hd hroom
  let sH : State := { s with heap := H }
  have hA : ∀ q : Nat, va_A Xc H.size q → va_A X0 s.heap.size q := fun q hq => by
    rcases va_A_iff.mp hq with ⟨z, hz, rfl⟩ | hq
    · exact lD_in hR.2.1 z (hp.mem_iff.mpr (List.mem_append_left _ hz))
    · exact Or.inr (Nat.le_trans hR.2.2.1 hq)
  refine va_calli (va_runS (As := As) (rest := rest) (Ts := lw_gd) ⟨hC.1, hC.2.1, hC.2.2.1, hC.2.2.2.1, hts⟩ (hM sH) ⟨hcB, hts _ hin⟩ ⟨lE_blind hXk, fun U hU hW => ⟨rfl, l_pre hC hR hp hXk hE hU hW⟩⟩ rfl rfl hsz hst (lv_room hcat) hdg hf) hR.2.2 (fun q _ h => hA q h) hA (fun r1 u t H1 locs1 ht hvm hw hB hz1 hk1 hS1 => ?_)
  subst hw
  obtain ⟨hB, hD1⟩ := hB
  rw [ht] at hB
  obtain ⟨h1, h2⟩ := lR_join (ad := ad) hR hp hp1 hz1 hk1 hB hD1 hS1
  exact kk H1 locs1 h1 h2
theorem l_callSl {y : MethodName} {bytes : ByteArray} {maxL d mc ms index : Nat} {ret : Option FieldType} {As st : List Value} {r : Int64} {X Xc Xr : va_W} {X1c : va_W} {X1 : va_W} {E : (Nat → Prop) → State → Heap → Prop} (hC : lCx p c cc nL s m args meth own D G ad X0) (hR : lR D X0 X s H locs)
    (hM : lCM l D G ad y (Cond.code y bytes maxL ret) d mc ms As Xc E (fun st => lQl D Xc X1c st r)) (hXk : qXk E) (hE : E (lA ad X H.size) s H) (hp : X.Perm (Xc ++ Xr)) (hp1 : (X1c ++ Xr).Perm X1) (hlk : Cond.methodLink own index y ∈ lw_gd) (hin : Cond.static y ∈ lw_gd) (hini : Cond.initialized y.cls ∈ lw_gd) (hcode : Cond.code y bytes maxL ret ∈ lw_gd)
    (hd : y.cls ≠ "java/lang/invoke/MethodHandle" ∧ y.cls ≠ "java/lang/invoke/VarHandle" ∧ (parseMethodDescriptor y.desc).map (fun d => d.parameters.length) = some As.length) (hroom : d + 1 ≤ R.frames ∧ 8 + (maxL + 11) + 40 * d ≤ R.locals) (hsz : ls.size = nL) (hst : st = As.reverse ++ rest) (hcat : (rest.map fun v => v.category).sum ≤ 8) (hdg : decode cc pc = .ok (.invokestatic index, 3)) (hf : cells + mc ≤ R.cells ∧ slots + ms ≤ R.slots)
    (kk : ∀ (H1 : Heap) (locs1 : List Loc), lR D X0 X1 s H1 locs1 → lKp ad X H X1 H1 → W p l e R s m args below meth c H1 locs1 (cells + mc) (slots + ms) Q (F0 m (pc + 3) ls (.long r :: rest))) : W p l e R s m args below meth c H locs cells slots Q (F0 m pc ls st) := by
  have hts := hC.2.2.2.2.1
  have hcB : CallB R s args own index y bytes maxL ret (Cond.code y bytes maxL ret :: lw_gd) (qrm d mc ms) mc ms As.length := callB_of As.length hts (q_goodIn hcode) rfl rfl rfl (hts _ hini) (hts _ hlk) hd hroom
  let sH : State := { s with heap := H }
  have hA : ∀ q : Nat, va_A Xc H.size q → va_A X0 s.heap.size q := fun q hq => by
    rcases va_A_iff.mp hq with ⟨z, hz, rfl⟩ | hq
    · exact lD_in hR.2.1 z (hp.mem_iff.mpr (List.mem_append_left _ hz))
    · exact Or.inr (Nat.le_trans hR.2.2.1 hq)
  refine va_calll (va_runS (As := As) (rest := rest) (Ts := lw_gd) ⟨hC.1, hC.2.1, hC.2.2.1, hC.2.2.2.1, hts⟩ (hM sH) ⟨hcB, hts _ hin⟩ ⟨lE_blind hXk, fun U hU hW => ⟨rfl, l_pre hC hR hp hXk hE hU hW⟩⟩ rfl rfl hsz hst (lv_room hcat) hdg hf) hR.2.2 (fun q _ h => hA q h) hA (fun r1 u t H1 locs1 ht hvm hw hB hz1 hk1 hS1 => ?_)
  subst hw
  obtain ⟨hB, hD1⟩ := hB
  rw [ht] at hB
  obtain ⟨h1, h2⟩ := lR_join (ad := ad) hR hp hp1 hz1 hk1 hB hD1 hS1
  exact kk H1 locs1 h1 h2
theorem l_callSr {y : MethodName} {bytes : ByteArray} {maxL d mc ms index : Nat} {ret : Option FieldType} {As st : List Value} {T : Type} {X Xc Xr : va_W} {X1c X1 : T → Nat → va_W} {Y : T → Nat → Prop} {F : T → Nat → (Nat → Prop) → State → Heap → Prop} {E : (Nat → Prop) → State → Heap → Prop} (hC : lCx p c cc nL s m args meth own D G ad X0) (hR : lR D X0 X s H locs)
    (hM : lCM l D G ad y (Cond.code y bytes maxL ret) d mc ms As Xc E (lQr D ad Xc X1c Y F)) (hXk : qXk E) (hE : E (lA ad X H.size) s H) (hp : X.Perm (Xc ++ Xr)) (hp1 : ∀ u b, (X1c u b ++ Xr).Perm (X1 u b)) (hlk : Cond.methodLink own index y ∈ lw_gd) (hin : Cond.static y ∈ lw_gd) (hini : Cond.initialized y.cls ∈ lw_gd) (hcode : Cond.code y bytes maxL ret ∈ lw_gd)
    (hd : y.cls ≠ "java/lang/invoke/MethodHandle" ∧ y.cls ≠ "java/lang/invoke/VarHandle" ∧ (parseMethodDescriptor y.desc).map (fun d => d.parameters.length) = some As.length) (hroom : d + 1 ≤ R.frames ∧ 8 + (maxL + 11) + 40 * d ≤ R.locals) (hsz : ls.size = nL) (hst : st = As.reverse ++ rest) (hcat : (rest.map fun v => v.category).sum ≤ 8) (hdg : decode cc pc = .ok (.invokestatic index, 3)) (hf : cells + mc ≤ R.cells ∧ slots + ms ≤ R.slots)
    (hYk : ∀ u b, qXk (F u b)) (kk : ∀ (u : T) (a1 : Nat) (H1 : Heap) (locs1 : List Loc), Y u a1 → lR D X0 (X1 u a1) s H1 locs1 → lKp ad X H (X1 u a1) H1 → F u a1 (lA ad (X1 u a1) H1.size) s H1 → W p l e R s m args below meth c H1 locs1 (cells + mc) (slots + ms) Q (F0 m (pc + 3) ls (.ref a1 :: rest))) : W p l e R s m args below meth c H locs cells slots Q (F0 m pc ls st) := by
  have hts := hC.2.2.2.2.1
  have hcB : CallB R s args own index y bytes maxL ret (Cond.code y bytes maxL ret :: lw_gd) (qrm d mc ms) mc ms As.length := callB_of As.length hts (q_goodIn hcode) rfl rfl rfl (hts _ hini) (hts _ hlk) hd hroom
  let sH : State := { s with heap := H }
  have hA : ∀ q : Nat, va_A Xc H.size q → va_A X0 s.heap.size q := fun q hq => by
    rcases va_A_iff.mp hq with ⟨z, hz, rfl⟩ | hq
    · exact lD_in hR.2.1 z (hp.mem_iff.mpr (List.mem_append_left _ hz))
    · exact Or.inr (Nat.le_trans hR.2.2.1 hq)
  refine va_callr (va_runS (As := As) (rest := rest) (Ts := lw_gd) ⟨hC.1, hC.2.1, hC.2.2.1, hC.2.2.2.1, hts⟩ (hM sH) ⟨hcB, hts _ hin⟩ ⟨lE_blind hXk, fun U hU hW => ⟨rfl, l_pre hC hR hp hXk hE hU hW⟩⟩ rfl rfl hsz hst (lv_room hcat) hdg hf) hR.2.2 (fun q _ h => hA q h) hA (fun u a1 t H1 locs1 ht hvm hw hB hz1 hk1 hS1 => ?_)
  obtain ⟨v, hY, hB, hF⟩ := hB
  obtain ⟨hB, hD1⟩ := hB
  rw [ht] at hB
  obtain ⟨h1, h2⟩ := lR_join (ad := ad) hR hp (hp1 v a1) hz1 hk1 hB hD1 hS1
  refine kk v a1 H1 locs1 hY h1 h2 (hYk v a1 _ _ t s t.heap H1 hF hvm.symm (fun a _ _ => by rw [ht]) (fun q hq => ?_))
  rcases hq with hq | hq
  · rcases va_A_iff.mp hq with ⟨z, hz, rfl⟩ | hq
    · rcases List.mem_append.mp ((hp1 v a1).mem_iff.mpr hz) with h | h
      · exact Or.inl (lA_in h)
      · exact Or.inr (lP_in hR.1 z (hp.mem_iff.mpr (List.mem_append_right _ h))).lt
    · exact Or.inl (Or.inl (Or.inr (by rw [ht]; exact hq)))
  · exact Or.inl (Or.inr (by rw [ht]; exact hq))
theorem l_callSWi {y : MethodName} {bytes : ByteArray} {maxL d mc ms index : Nat} {ret : Option FieldType} {As st : List Value} {r : Int32} {X Xc Xr : va_W} {X1c : va_W} {X1 : va_W} {E : (Nat → Prop) → State → Heap → Prop} {hh : List (Nat × Nat × Nat × Nat)} (hC : lCx p c cc nL s m args meth own D G ad X0) (hR : lR D X0 X s H locs)
    (hM : lCM l D G ad y (Cond.codeWith y bytes maxL ret hh) d mc ms As Xc E (fun st => lQi D Xc X1c st r)) (hXk : qXk E) (hE : E (lA ad X H.size) s H) (hp : X.Perm (Xc ++ Xr)) (hp1 : (X1c ++ Xr).Perm X1) (hlk : Cond.methodLink own index y ∈ lw_gd) (hin : Cond.static y ∈ lw_gd) (hini : Cond.initialized y.cls ∈ lw_gd) (hcode : Cond.codeWith y bytes maxL ret hh ∈ lw_gd)
    (hd : y.cls ≠ "java/lang/invoke/MethodHandle" ∧ y.cls ≠ "java/lang/invoke/VarHandle" ∧ (parseMethodDescriptor y.desc).map (fun d => d.parameters.length) = some As.length) (hroom : d + 1 ≤ R.frames ∧ 8 + (maxL + 11) + 40 * d ≤ R.locals) (hsz : ls.size = nL) (hst : st = As.reverse ++ rest) (hcat : (rest.map fun v => v.category).sum ≤ 8) (hdg : decode cc pc = .ok (.invokestatic index, 3)) (hf : cells + mc ≤ R.cells ∧ slots + ms ≤ R.slots)
    (kk : ∀ (H1 : Heap) (locs1 : List Loc), lR D X0 X1 s H1 locs1 → lKp ad X H X1 H1 → W p l e R s m args below meth c H1 locs1 (cells + mc) (slots + ms) Q (F0 m (pc + 3) ls (.int r :: rest))) : W p l e R s m args below meth c H locs cells slots Q (F0 m pc ls st) := by
  have hts := hC.2.2.2.2.1
  have hcB : vx_CSW R s args own index y bytes maxL ret hh (Cond.codeWith y bytes maxL ret hh :: lw_gd) (qrm d mc ms) mc ms As.length := vx_cwSW (Ts := lw_gd) As.length hts (fun w hw => by
    unfold va_wsS at hw
    rcases List.mem_append.mp hw with h | h
    · have hw2 : w ∈ lw_gd := by
        rcases List.mem_cons.mp h with rfl | h
        · exact hlk
        · rcases List.mem_cons.mp h with rfl | h
          · exact hin
          · rcases List.mem_cons.mp h with rfl | h
            · exact hini
            · cases h
      exact ⟨hw2, good_of_word (List.mem_filter.mp hw2).2⟩
    · exact q_goodInW hcode w h) rfl rfl rfl hd hroom
  let sH : State := { s with heap := H }
  have hA : ∀ q : Nat, va_A Xc H.size q → va_A X0 s.heap.size q := fun q hq => by
    rcases va_A_iff.mp hq with ⟨z, hz, rfl⟩ | hq
    · exact lD_in hR.2.1 z (hp.mem_iff.mpr (List.mem_append_left _ hz))
    · exact Or.inr (Nat.le_trans hR.2.2.1 hq)
  refine va_calli (vx_runSW (As := As) (rest := rest) (Ts := lw_gd) ⟨hC.1, hC.2.1, hC.2.2.1, hC.2.2.2.1, hts⟩ (hM sH) hcB ⟨lE_blind hXk, fun U hU hW => ⟨rfl, l_pre hC hR hp hXk hE hU hW⟩⟩ rfl rfl hsz hst (lv_room hcat) hdg hf) hR.2.2 (fun q _ h => hA q h) hA (fun r1 u t H1 locs1 ht hvm hw hB hz1 hk1 hS1 => ?_)
  subst hw
  obtain ⟨hB, hD1⟩ := hB
  rw [ht] at hB
  obtain ⟨h1, h2⟩ := lR_join (ad := ad) hR hp hp1 hz1 hk1 hB hD1 hS1
  exact kk H1 locs1 h1 h2
theorem l_callIv {y : MethodName} {bytes : ByteArray} {maxL d mc ms index b : Nat} {As st : List Value} {T : Type} {X Xc Xr : va_W} {X1c X1 : T → va_W} {Y : T → Prop} {E : (Nat → Prop) → State → Heap → Prop} (hC : lCx p c cc nL s m args meth own D G ad X0) (hR : lR D X0 X s H locs)
    (hM : lCM l D G ad y (Cond.code y bytes maxL none) d mc ms (.ref b :: As) Xc E (lQv D ad Xc X1c Y)) (hXk : qXk E) (hE : E (lA ad X H.size) s H) (hp : X.Perm (Xc ++ Xr)) (hp1 : ∀ u, (X1c u ++ Xr).Perm (X1 u)) (hlk : Cond.methodLink own index y ∈ lw_gd) (hin : Cond.instanceMethod y ∈ lw_gd) (hni : y.name = "<init>") (hini : Cond.initialized y.cls ∈ lw_gd) (hcode : Cond.code y bytes maxL none ∈ lw_gd)
    (hd : y.cls ≠ "java/lang/invoke/MethodHandle" ∧ y.cls ≠ "java/lang/invoke/VarHandle" ∧ (parseMethodDescriptor y.desc).map (fun d => d.parameters.length) = some As.length) (hroom : d + 1 ≤ R.frames ∧ 8 + (maxL + 11) + 40 * d ≤ R.locals) (hsz : ls.size = nL) (hst : st = As.reverse ++ .ref b :: rest) (hcat : (rest.map fun v => v.category).sum ≤ 8) (hdg : decode cc pc = .ok (.invokespecial index, 3)) (hf : cells + mc ≤ R.cells ∧ slots + ms ≤ R.slots)
    (kk : ∀ (u : T) (H1 : Heap) (locs1 : List Loc), Y u → lR D X0 (X1 u) s H1 locs1 → lKp ad X H (X1 u) H1 → W p l e R s m args below meth c H1 locs1 (cells + mc) (slots + ms) Q (F0 m (pc + 3) ls rest)) : W p l e R s m args below meth c H locs cells slots Q (F0 m pc ls st) := by
  have hts := hC.2.2.2.2.1
  have hcB : CallB R s args own index y bytes maxL none (Cond.code y bytes maxL none :: lw_gd) (qrm d mc ms) mc ms As.length := callB_of As.length hts (q_goodIn hcode) rfl rfl rfl (hts _ hini) (hts _ hlk) hd hroom
  let sH : State := { s with heap := H }
  have hA : ∀ q : Nat, va_A Xc H.size q → va_A X0 s.heap.size q := fun q hq => by
    rcases va_A_iff.mp hq with ⟨z, hz, rfl⟩ | hq
    · exact lD_in hR.2.1 z (hp.mem_iff.mpr (List.mem_append_left _ hz))
    · exact Or.inr (Nat.le_trans hR.2.2.1 hq)
  refine va_callv (va_runI (As := As) (rest := rest) (Ts := lw_gd) ⟨hC.1, hC.2.1, hC.2.2.1, hC.2.2.2.1, hts⟩ (hM sH) ⟨hcB, hni, hts _ hin⟩ ⟨lE_blind hXk, fun U hU hW => ⟨rfl, l_pre hC hR hp hXk hE hU hW⟩⟩ rfl rfl hsz hst (lv_room hcat) hdg hf) hR.2.2 (fun q _ h => hA q h) hA (fun u t H1 locs1 ht hvm hw hB hz1 hk1 hS1 => ?_)
  obtain ⟨v, hY, hB, hD1⟩ := hB
  rw [ht] at hB
  obtain ⟨h1, h2⟩ := lR_join (ad := ad) hR hp (hp1 v) hz1 hk1 hB hD1 hS1
  exact kk v H1 locs1 hY h1 h2
theorem l_iret {X X1 : va_W} {mc ms : Nat} {v r : Int32} (hC : lCx p c cc nL s m args meth own D G ad X0) (hR : lR D X0 X s H locs) {ty : FieldType} (hr : meth.sig.returnType = some ty) (hn : narrow ty (.int v) = .int v) (hv : v = r) (hX : X = X1) (hdg : decode cc pc = .ok (.ireturn, 1)) (hc : cells ≤ mc) (hs : slots ≤ ms) :
    W p l e R s m args below meth c H locs cells slots (MQ below (lQi D X0 X1 s r) args s mc ms (va_A X0 s.heap.size)) (F0 m pc ls [.int v]) := by
  subst hv; subst hX
  exact W.widen hc hs (W.zret hC.1 hC.2.1 hr hn (fun t ht hW => ⟨⟨v, (), rfl, rfl, by rw [ht]; exact hR.1, hR.2.1⟩, hR.2.2.F ht⟩) hR.2.2.2.2 hdg hC.2.2.2.2.2.1)
theorem l_lret {X X1 : va_W} {mc ms : Nat} {v r : Int64} (hC : lCx p c cc nL s m args meth own D G ad X0) (hR : lR D X0 X s H locs) (hr : meth.sig.returnType = some .long) (hv : v = r) (hX : X = X1) (hdg : decode cc pc = .ok (.lreturn, 1)) (hc : cells ≤ mc) (hs : slots ≤ ms) :
    W p l e R s m args below meth c H locs cells slots (MQ below (lQl D X0 X1 s r) args s mc ms (va_A X0 s.heap.size)) (F0 m pc ls [.long v]) := by
  subst hv; subst hX
  exact W.widen hc hs (W.lret hC.1 hC.2.1 hr (fun t ht hW => ⟨⟨v, (), rfl, rfl, by rw [ht]; exact hR.1, hR.2.1⟩, hR.2.2.F ht⟩) hR.2.2.2.2 hdg hC.2.2.2.2.2.1)
theorem l_dret {X X1 : va_W} {mc ms : Nat} {v r : UInt64} (hC : lCx p c cc nL s m args meth own D G ad X0) (hR : lR D X0 X s H locs) (hr : meth.sig.returnType = some .double) (hv : v = r) (hX : X = X1) (hdg : decode cc pc = .ok (.dreturn, 1)) (hc : cells ≤ mc) (hs : slots ≤ ms) :
    W p l e R s m args below meth c H locs cells slots (MQ below (lQd D X0 X1 s r) args s mc ms (va_A X0 s.heap.size)) (F0 m pc ls [.double v]) := by
  subst hv; subst hX
  exact W.widen hc hs (W.dret hC.1 hC.2.1 hr (fun t ht hW => ⟨⟨v, (), rfl, rfl, by rw [ht]; exact hR.1, hR.2.1⟩, hR.2.2.F ht⟩) hR.2.2.2.2 hdg hC.2.2.2.2.2.1)
theorem l_fret {X X1 : va_W} {mc ms : Nat} {v r : UInt32} (hC : lCx p c cc nL s m args meth own D G ad X0) (hR : lR D X0 X s H locs) (hr : meth.sig.returnType = some .float) (hv : v = r) (hX : X = X1) (hdg : decode cc pc = .ok (.freturn, 1)) (hc : cells ≤ mc) (hs : slots ≤ ms) :
    W p l e R s m args below meth c H locs cells slots (MQ below (lQf D X0 X1 s r) args s mc ms (va_A X0 s.heap.size)) (F0 m pc ls [.float v]) := by
  subst hv; subst hX
  exact W.widen hc hs (W.fret hC.1 hC.2.1 hr (fun t ht hW => ⟨⟨v, (), rfl, rfl, by rw [ht]; exact hR.1, hR.2.1⟩, hR.2.2.F ht⟩) hR.2.2.2.2 hdg hC.2.2.2.2.2.1)
theorem l_aret {T : Type} {X : va_W} {X1 : T → Nat → va_W} {Y : T → Nat → Prop} {F : T → Nat → (Nat → Prop) → State → Heap → Prop} {mc ms x : Nat} (u : T) (hC : lCx p c cc nL s m args meth own D G ad X0) (hR : lR D X0 X s H locs) {ty : FieldType} (hr : meth.sig.returnType = some ty) (hty : (∃ n, ty = .object n) ∨ ∃ t, ty = .array t) (hY : Y u x) (hX : X = X1 u x) (hFk : qXk (F u x)) (hF : F u x (fun q => lA ad (X1 u x) H.size q ∨ q < s.heap.size) s H) (hdg : decode cc pc = .ok (.areturn, 1)) (hc : cells ≤ mc) (hs : slots ≤ ms) :
    W p l e R s m args below meth c H locs cells slots (MQ below (lQr D ad X0 X1 Y F s) args s mc ms (va_A X0 s.heap.size)) (F0 m pc ls [.ref x]) := by
  subst hX
  exact W.widen hc hs (W.aret hC.1 hC.2.1 hr hty (Or.inr ⟨_, rfl⟩) (fun t ht hW => ⟨⟨(), x, rfl, trivial, u, hY, ⟨by rw [ht]; exact hR.1, hR.2.1⟩, by rw [ht]; exact hFk _ _ s t H H hF hW.alike (fun _ _ _ => rfl) (fun _ h => h)⟩, hR.2.2.F ht⟩) hR.2.2.2.2 hdg hC.2.2.2.2.2.1)
theorem l_vret {T : Type} {X : va_W} {X1 : T → va_W} {Y : T → Prop} {mc ms : Nat} (u : T) (hC : lCx p c cc nL s m args meth own D G ad X0) (hR : lR D X0 X s H locs) (hr : meth.sig.returnType = none) (hY : Y u) (hX : X = X1 u) (hdg : decode cc pc = .ok (.return_, 1)) (hc : cells ≤ mc) (hs : slots ≤ ms) :
    W p l e R s m args below meth c H locs cells slots (MQ below (lQv D ad X0 X1 Y s) args s mc ms (va_A X0 s.heap.size)) (F0 m pc ls []) := by
  subst hX
  exact W.widen hc hs (W.vret hC.1 hC.2.1 hr (fun t ht hW => ⟨⟨(), rfl, trivial, u, hY, by rw [ht]; exact hR.1, hR.2.1⟩, hR.2.2.F ht⟩) hR.2.2.2.2 hdg hC.2.2.2.2.2.1)
end
