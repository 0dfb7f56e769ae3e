def qasc (t : List Int32) : Bool := decide (t.length < 1000) && t.all (fun x => decide (0 ≤ x) && decide (x ≤ 127))
def qBy (v : Nat) (t : List Int32) (A : Nat → Prop) (U : State) (H : Heap) : Prop := qasc t = true ∧ va_T .byte v t.length (fun j => .int (t.getD j 0)) A U H
/-- a String object outside A, with the letters t -/
def qSt (q : Nat) (t : List Int32) (A : Nat → Prop) (U : State) (H : Heap) : Prop := va_O "java/lang/String" q A U H ∧ va_OF "java/lang/String" "coder" "B" (.int 0) q A U H ∧ ∃ v : Nat, va_OF "java/lang/String" "value" "[B" (.ref v) q A U H ∧ qBy v t A U H
def qXk (X : (Nat → Prop) → State → Heap → Prop) : Prop := ∀ (A B : Nat → Prop) (s U : State) (H H1 : Heap), X A s H → s.vm.Alike U.vm → (∀ a : Nat, a < H.size → ¬ A a → H1[a]? = H[a]?) → (∀ q, B q → A q) → X B U H1
theorem qBy_k {v : Nat} {t : List Int32} : qXk (qBy v t) := fun _ _ _ _ _ _ h ha hq hAB => ⟨h.1, va_T.moved ha ((h.2.kept hq).narrow hAB)⟩
theorem qSt_k {q : Nat} {t : List Int32} : qXk (qSt q t) := fun A B s U H H1 h ha hq hAB => by
  obtain ⟨h1, h2, v, h3, h4⟩ := h
  exact ⟨va_O.moved ha ((h1.kept hq).narrow hAB), va_OF.moved ha ((h2.kept hq).narrow hAB), v, va_OF.moved ha ((h3.kept hq).narrow hAB), qBy_k A B s U H H1 h4 ha hq hAB⟩
theorem qX_now {X : (Nat → Prop) → State → Heap → Prop} (hk : qXk X) {D : va_G} {G : Nat → ClassId} {ad : Nat → Nat} {s : State} {w : qMem} {H : Heap} {locs : List Loc} (h : X (qAdr ad s.heap.size) s s.heap) (hR : qRp D G ad s w H locs) : X (qAdr ad H.size) s H :=
  hk _ _ s s s.heap H h (Vm.Alike.refl _) hR.2.2.1 (qAdr_mono hR.2.1)
theorem qX_on {X : (Nat → Prop) → State → Heap → Prop} (hk : qXk X) {ad : Nat → Nat} {s : State} {H H1 : Heap} (h : X (qAdr ad H.size) s H) (hz : H.size ≤ H1.size) (hq : ∀ a : Nat, a < H.size → ¬ qAdr ad H.size a → H1[a]? = H[a]?) : X (qAdr ad H1.size) s H1 :=
  hk _ _ s s H H1 h (Vm.Alike.refl _) hq (qAdr_mono hz)
theorem qtx_asc : ∀ i : Nat, i < 20 → qasc (qtx.getD i []) = true := by decide +kernel
theorem qSt_of {p : Program} {c : Code} {cc : ByteArray} {nL : Nat} {s : State} {m : MethodId} {args : Array Value} {meth : Method} {own : String} {D : va_G} {G : Nat → ClassId} {ad : Nat → Nat} (hC : qCx p c cc nL s m args meth own D G ad) {i : Nat} (hi : i < 20) : qSt (ad (1000 + i)) (qtx.getD i []) (qAdr ad s.heap.size) s s.heap := by
  obtain ⟨-, -, -, -, -, -, -, -, hX⟩ := hC
  obtain ⟨g1, g2, g3, g4⟩ := hX.1.2 i hi
  exact ⟨g1, g2, _, g3, qtx_asc i hi, g4⟩
theorem qSt_rc {q : Nat} {t : List Int32} {A : Nat → Prop} {s : State} {H : Heap} (h : qSt q t A s H) : ∃ cell : Cell, H[q]? = some cell ∧ cell.vm.isStatics = false ∧ s.vm.findClass "java/lang/String" = some cell.cls := by
  obtain ⟨cell, h1, h2, h3, -⟩ := h.1
  exact ⟨cell, h1, h2, h3⟩
theorem qasc_len {t : List Int32} (h : qasc t = true) : t.length < 1000 := by
  simp only [qasc, Bool.and_eq_true, decide_eq_true_eq] at h
  exact h.1
theorem qasc_at {t : List Int32} (h : qasc t = true) (j : Nat) : ∃ k : Nat, k < 128 ∧ t.getD j 0 = Int32.ofNat k := by
  simp only [qasc, Bool.and_eq_true, List.all_eq_true, decide_eq_true_eq] at h
  by_cases hj : j < t.length
  · have e : t.getD j 0 = t[j] := by simp [List.getD, hj]
    obtain ⟨h1, h2⟩ := h.2 t[j] (List.getElem_mem hj)
    have h0 : ¬ t[j] < 0 := fun q => by
      have a := Int32.le_iff_toInt_le.mp h1
      have b := Int32.lt_iff_toInt_lt.mp q
      omega
    obtain ⟨k, hk, e1⟩ := nI_of2 (M := 127) (n := 127) (by decide) h0 h2
    exact ⟨k, by omega, by rw [e, e1]; rfl⟩
  · exact ⟨0, by omega, by simp [List.getD, hj]⟩
theorem qasc_c0 : ∀ k : Nat, k < 128 → (((Int32.ofNat k &&& 255).toUInt32 % 65536).toInt32 = Int32.ofNat k ∧ narrow .char (.int (Int32.ofNat k)) = .int (Int32.ofNat k)) := by decide +kernel
theorem qasc_c {t : List Int32} (h : qasc t = true) (j : Nat) : ((t.getD j 0 &&& 255).toUInt32 % 65536).toInt32 = t.getD j 0 ∧ narrow .char (.int (t.getD j 0)) = .int (t.getD j 0) := by
  obtain ⟨k, hk, e⟩ := qasc_at h j
  rw [e]
  exact qasc_c0 k hk
def qCY (l : Launch) (D : va_G) (G : Nat → ClassId) (ad : Nat → Nat) (y : MethodName) (cc : ByteArray) (maxL : Nat) (ret : Option FieldType) (d mc ms : Nat) (av : List Value) (w : qMem) (X : (Nat → Prop) → State → Heap → Prop) (Qc : State → Array Value → State → Outcome → State → Prop) : Prop :=
  ∀ st : State, Met l y (Cond.code y cc maxL ret :: lw_gd) (qrm d mc ms) (va_Pc av (fun U => qpre D G ad w st.heap.size U ∧ X (qAdr ad st.heap.size) U U.heap)) (Qc st) mc ms (qAdr ad st.heap.size)
/-- an answer that is an object outside the memory -/
abbrev qQY (D : va_G) (G : Nat → ClassId) (ad : Nat → Nat) (s : State) (w1 : qMem) (Y : Nat → (Nat → Prop) → State → Heap → Prop) : Array Value → State → Outcome → State → Prop := va_Qr (S := Unit) (fun _ => True) (fun _ a t => s.heap.size ≤ a ∧ va_P D vwCl (qcells G ad w1) t.heap ∧ Y a (qAdr ad t.heap.size) t t.heap) (qAdr ad s.heap.size)
theorem qyblind {D : va_G} {G : Nat → ClassId} {ad : Nat → Nat} {w : qMem} {sz : Nat} {av : List Value} {X : (Nat → Prop) → State → Heap → Prop} (hk : qXk X) : FrameBlind (va_Pc av (fun U => qpre D G ad w sz U ∧ X (qAdr ad sz) U U.heap)) := by
  intro a U g mk h
  obtain ⟨h1, ⟨h2, h3, h4, h5⟩, h6⟩ := h
  exact ⟨h1, ⟨h2, h3, va_K.moved (u := U) (U := U.calling g mk a) (Vm.Alike.refl U.vm) h4, qX_same (u := U) (U := U.calling g mk a) h5 rfl⟩, hk _ _ U (U.calling g mk a) U.heap U.heap h6 (Vm.Alike.refl U.vm) (fun _ _ _ => rfl) (fun _ h => h)⟩
theorem q_startY {l : Launch} {D : va_G} {G : Nat → ClassId} {ad : Nat → Nat} {y : MethodName} {cc : ByteArray} {maxL : Nat} {ret : Option FieldType} {d mc ms : Nat} {av : List Value} {w : qMem} {X : (Nat → Prop) → State → Heap → Prop} {Qc : State → Array Value → State → Outcome → State → Prop} (own : String) (hown : y.cls = own) (hy : plainName y.cls = true) (hJ : qInj ad) (hQ : ∀ s st : State, s.heap.size = st.heap.size → Qc s = Qc st) (hlen : (lg_sl av).length ≤ maxL)
    (body : ∀ (p : Program) (e : Env) (s : State) (m : MethodId) (args : Array Value) (below : List Frame) (meth : Method) (c : Code) (ls : Array Slot), qCx p c cc maxL s m args meth own D G ad → meth.sig.returnType = ret → X (qAdr ad s.heap.size) s s.heap → qRp D G ad s w s.heap [] → lv_has ls maxL (lv_args 0 av) → W p l e (qrm d mc ms) s m args below meth c s.heap [] 0 0 (MQ below (Qc s) args s mc ms (qAdr ad s.heap.size)) (F0 m 0 ls [])) :
    qCY l D G ad y cc maxL ret d mc ms av w X Qc := by
  intro st
  refine Met.ofW (cc := cc) (maxL := maxL) (ret := ret) hy rfl ?_
  intro p e s m args below meth c s₁ B hml hv
  obtain ⟨rfl, ⟨hsz, hP, hK, hX⟩, hE⟩ := hv
  have hts := atoms_spec (ws := Cond.code y cc maxL ret :: lw_gd) B.pre
  have hC : qCx p c cc maxL s m av.toArray meth own D G ad := ⟨B.exec, B.bytes, hml, by rw [← hown]; exact findClass_of_methodNamed B.named, fun w hw => hts w (List.mem_cons_of_mem _ hw), B.notSynchronized, hK, hJ, by rw [hsz]; exact hX⟩
  have hl := lv_entry av (n := maxL) hlen
  rw [lg_entry_eq]
  have := body p e s m av.toArray below meth c _ hC B.returns (by rw [hsz]; exact hE) ⟨hP, va_S.rf⟩ hl
  rw [hQ s st hsz, hsz] at this
  exact this
section
variable {p : Program} {l : Launch} {e : Env} {R : Room} {s : State} {m : MethodId} {args : Array Value} {below : List Frame} {meth : Method} {c : Code} {H : Heap} {locs : List Loc} {cells slots : Nat} {Q : State → Prop} {pc nL : Nat} {ls : Array Slot} {rest : List Value} {cc : ByteArray} {own : String} {D : va_G} {G : Nat → ClassId} {ad : Nat → Nat} {w : qMem}
theorem q_callYVi {y : MethodName} {bytes : ByteArray} {maxL d mc ms index a : Nat} {ret : Option FieldType} {As st : List Value} {r : Int32} {w1 : qMem} {X : (Nat → Prop) → State → Heap → Prop} {C : String} (hC : qCx p c cc nL s m args meth own D G ad) (hR : qRp D G ad s w H locs)
    (hM : qCY l D G ad y bytes maxL ret d mc ms (.ref a :: As) w X (fun st => qQI D G ad st w1 r)) (hXk : qXk X) (hE : X (qAdr ad H.size) s H) (hrec : ∃ cell : Cell, H[a]? = some cell ∧ cell.vm.isStatics = false ∧ s.vm.findClass C = some cell.cls) (hlk : Cond.methodLink own index y ∈ lw_gd) (hin : Cond.instanceMethod y ∈ lw_gd) (hse : Cond.selects C y y ∈ lw_gd) (hini : Cond.initialized y.cls ∈ lw_gd) (hcode : Cond.code y bytes maxL ret ∈ lw_gd)
    (hd : y.cls ≠ "java/lang/invoke/MethodHandle" ∧ y.cls ≠ "java/lang/invoke/VarHandle" ∧ (parseMethodDescriptor y.desc).map (fun d => d.parameters.length) = some As.length) (hroom : d + 1 ≤ R.frames ∧ 8 + (maxL + 11) + 40 * d ≤ R.locals) (hsz : ls.size = nL) (hst : st = As.reverse ++ .ref a :: rest) (hcat : (rest.map fun v => v.category).sum ≤ 8) (hdg : decode cc pc = .ok (.invokevirtual index, 3)) (hf : cells + mc ≤ R.cells ∧ slots + ms ≤ R.slots)
    (kk : ∀ (H1 : Heap) (locs1 : List Loc), H.size ≤ H1.size → (∀ a : Nat, a < H.size → ¬ qAdr ad H.size a → H1[a]? = H[a]?) → qRp D G ad s w1 H1 locs1 → W p l e R s m args below meth c H1 locs1 (cells + mc) (slots + ms) Q (F0 m (pc + 3) ls (.int r :: rest))) : W p l e R s m args below meth c H locs cells slots Q (F0 m pc ls st) := by
  obtain ⟨hx1, hb, hml, hown, hts, hlo, hK, hJ, hX⟩ := hC
  have hcB : CallB R s args own index y bytes maxL ret (Cond.code y bytes maxL ret :: lw_gd) (qrm d mc ms) mc ms As.length := callB_of As.length hts (q_goodIn hcode) rfl rfl rfl (hts _ hini) (hts _ hlk) hd hroom
  have hS := hR.2
  let sH : State := { s with heap := H }
  refine va_calli (va_runV (As := As) (rest := rest) (C := C) (Ts := lw_gd) ⟨hx1, hb, hml, hown, hts⟩ (hM sH) ⟨hcB, hts _ hin, hts _ hse⟩ ⟨qyblind hXk, hrec, fun U hU hW => ⟨rfl, ⟨by rw [hU], by rw [hU]; exact hR.1, va_K.moved hW.alike hK, by rw [hU]; exact qX_go hX hW hS.2.1 (qAdr_mono hS.1)⟩, by rw [hU]; exact hXk _ _ s U H H hE hW.alike (fun _ _ _ => rfl) (fun _ h => h)⟩⟩ rfl rfl hsz hst (lv_room hcat) hdg hf) hS (fun q _ h => qAdr_mono hS.1 q h) (qAdr_mono hS.1) (fun r1 u t H1 locs1 ht hvm hw hB hz1 hk1 hS1 => ?_)
  subst hw
  rw [ht] at hB
  exact kk H1 locs1 hz1 hk1 ⟨hB, hS1⟩
theorem q_callYVv {y : MethodName} {bytes : ByteArray} {maxL d mc ms index a : Nat} {ret : Option FieldType} {As st : List Value} {w1 : qMem} {X : (Nat → Prop) → State → Heap → Prop} {C : String} (hC : qCx p c cc nL s m args meth own D G ad) (hR : qRp D G ad s w H locs)
    (hM : qCY l D G ad y bytes maxL ret d mc ms (.ref a :: As) w X (fun st => qQV D G ad st w1)) (hXk : qXk X) (hE : X (qAdr ad H.size) s H) (hrec : ∃ cell : Cell, H[a]? = some cell ∧ cell.vm.isStatics = false ∧ s.vm.findClass C = some cell.cls) (hlk : Cond.methodLink own index y ∈ lw_gd) (hin : Cond.instanceMethod y ∈ lw_gd) (hse : Cond.selects C y y ∈ lw_gd) (hini : Cond.initialized y.cls ∈ lw_gd) (hcode : Cond.code y bytes maxL ret ∈ lw_gd)
    (hd : y.cls ≠ "java/lang/invoke/MethodHandle" ∧ y.cls ≠ "java/lang/invoke/VarHandle" ∧ (parseMethodDescriptor y.desc).map (fun d => d.parameters.length) = some As.length) (hroom : d + 1 ≤ R.frames ∧ 8 + (maxL + 11) + 40 * d ≤ R.locals) (hsz : ls.size = nL) (hst : st = As.reverse ++ .ref a :: rest) (hcat : (rest.map fun v => v.category).sum ≤ 8) (hdg : decode cc pc = .ok (.invokevirtual index, 3)) (hf : cells + mc ≤ R.cells ∧ slots + ms ≤ R.slots)
    (kk : ∀ (H1 : Heap) (locs1 : List Loc), H.size ≤ H1.size → (∀ a : Nat, a < H.size → ¬ qAdr ad H.size a → H1[a]? = H[a]?) → qRp D G ad s w1 H1 locs1 → W p l e R s m args below meth c H1 locs1 (cells + mc) (slots + ms) Q (F0 m (pc + 3) ls rest)) : W p l e R s m args below meth c H locs cells slots Q (F0 m pc ls st) := by
  obtain ⟨hx1, hb, hml, hown, hts, hlo, hK, hJ, hX⟩ := hC
  have hcB : CallB R s args own index y bytes maxL ret (Cond.code y bytes maxL ret :: lw_gd) (qrm d mc ms) mc ms As.length := callB_of As.length hts (q_goodIn hcode) rfl rfl rfl (hts _ hini) (hts _ hlk) hd hroom
  have hS := hR.2
  let sH : State := { s with heap := H }
  refine va_callv (va_runV (As := As) (rest := rest) (C := C) (Ts := lw_gd) ⟨hx1, hb, hml, hown, hts⟩ (hM sH) ⟨hcB, hts _ hin, hts _ hse⟩ ⟨qyblind hXk, hrec, fun U hU hW => ⟨rfl, ⟨by rw [hU], by rw [hU]; exact hR.1, va_K.moved hW.alike hK, by rw [hU]; exact qX_go hX hW hS.2.1 (qAdr_mono hS.1)⟩, by rw [hU]; exact hXk _ _ s U H H hE hW.alike (fun _ _ _ => rfl) (fun _ h => h)⟩⟩ rfl rfl hsz hst (lv_room hcat) hdg hf) hS (fun q _ h => qAdr_mono hS.1 q h) (qAdr_mono hS.1) (fun u t H1 locs1 ht hvm hw hB hz1 hk1 hS1 => ?_)
  rw [ht] at hB
  exact kk H1 locs1 hz1 hk1 ⟨hB, hS1⟩
theorem q_callYVr {y : MethodName} {bytes : ByteArray} {maxL d mc ms index a : Nat} {ret : Option FieldType} {As st : List Value} {w1 : qMem} {X : (Nat → Prop) → State → Heap → Prop} {Y : Nat → (Nat → Prop) → State → Heap → Prop} {C : String} (hC : qCx p c cc nL s m args meth own D G ad) (hR : qRp D G ad s w H locs)
    (hM : qCY l D G ad y bytes maxL ret d mc ms (.ref a :: As) w X (fun st => qQY D G ad st w1 Y)) (hXk : qXk X) (hYk : ∀ b, qXk (Y b)) (hE : X (qAdr ad H.size) s H) (hrec : ∃ cell : Cell, H[a]? = some cell ∧ cell.vm.isStatics = false ∧ s.vm.findClass C = some cell.cls) (hlk : Cond.methodLink own index y ∈ lw_gd) (hin : Cond.instanceMethod y ∈ lw_gd) (hse : Cond.selects C y y ∈ lw_gd) (hini : Cond.initialized y.cls ∈ lw_gd) (hcode : Cond.code y bytes maxL ret ∈ lw_gd)
    (hd : y.cls ≠ "java/lang/invoke/MethodHandle" ∧ y.cls ≠ "java/lang/invoke/VarHandle" ∧ (parseMethodDescriptor y.desc).map (fun d => d.parameters.length) = some As.length) (hroom : d + 1 ≤ R.frames ∧ 8 + (maxL + 11) + 40 * d ≤ R.locals) (hsz : ls.size = nL) (hst : st = As.reverse ++ .ref a :: rest) (hcat : (rest.map fun v => v.category).sum ≤ 8) (hdg : decode cc pc = .ok (.invokevirtual index, 3)) (hf : cells + mc ≤ R.cells ∧ slots + ms ≤ R.slots)
    (kk : ∀ (b : Nat) (H1 : Heap) (locs1 : List Loc), H.size ≤ H1.size → (∀ a : Nat, a < H.size → ¬ qAdr ad H.size a → H1[a]? = H[a]?) → H.size ≤ b → Y b (qAdr ad H1.size) s H1 → qRp D G ad s w1 H1 locs1 → W p l e R s m args below meth c H1 locs1 (cells + mc) (slots + ms) Q (F0 m (pc + 3) ls (.ref b :: rest))) : W p l e R s m args below meth c H locs cells slots Q (F0 m pc ls st) := by
  obtain ⟨hx1, hb, hml, hown, hts, hlo, hK, hJ, hX⟩ := hC
  have hcB : CallB R s args own index y bytes maxL ret (Cond.code y bytes maxL ret :: lw_gd) (qrm d mc ms) mc ms As.length := callB_of As.length hts (q_goodIn hcode) rfl rfl rfl (hts _ hini) (hts _ hlk) hd hroom
  have hS := hR.2
  let sH : State := { s with heap := H }
  refine va_callr (va_runV (As := As) (rest := rest) (C := C) (Ts := lw_gd) ⟨hx1, hb, hml, hown, hts⟩ (hM sH) ⟨hcB, hts _ hin, hts _ hse⟩ ⟨qyblind hXk, hrec, fun U hU hW => ⟨rfl, ⟨by rw [hU], by rw [hU]; exact hR.1, va_K.moved hW.alike hK, by rw [hU]; exact qX_go hX hW hS.2.1 (qAdr_mono hS.1)⟩, by rw [hU]; exact hXk _ _ s U H H hE hW.alike (fun _ _ _ => rfl) (fun _ h => h)⟩⟩ rfl rfl hsz hst (lv_room hcat) hdg hf) hS (fun q _ h => qAdr_mono hS.1 q h) (qAdr_mono hS.1) (fun u b t H1 locs1 ht hvm hw hB hz1 hk1 hS1 => ?_)
  rw [ht] at hB
  obtain ⟨hB0, hB, hY⟩ := hB
  exact kk b H1 locs1 hz1 hk1 hB0 (hYk b _ _ t s H1 H1 hY hvm.symm (fun _ _ _ => rfl) (fun _ h => h)) ⟨hB, hS1⟩
theorem q_callYSi {y : MethodName} {bytes : ByteArray} {maxL d mc ms index : Nat} {ret : Option FieldType} {As st : List Value} {r : Int32} {w1 : qMem} {X : (Nat → Prop) → State → Heap → Prop} (hC : qCx p c cc nL s m args meth own D G ad) (hR : qRp D G ad s w H locs)
    (hM : qCY l D G ad y bytes maxL ret d mc ms As w X (fun st => qQI D G ad st w1 r)) (hXk : qXk X) (hE : X (qAdr ad H.size) s H) (hlk : Cond.methodLink own index y ∈ lw_gd) (hin : Cond.static y ∈ lw_gd) (hini : Cond.initialized y.cls ∈ lw_gd) (hcode : Cond.code y bytes maxL ret ∈ lw_gd)
    (hd : y.cls ≠ "java/lang/invoke/MethodHandle" ∧ y.cls ≠ "java/lang/invoke/VarHandle" ∧ (parseMethodDescriptor y.desc).map (fun d => d.parameters.length) = some As.length) (hroom : d + 1 ≤ R.frames ∧ 8 + (maxL + 11) + 40 * d ≤ R.locals) (hsz : ls.size = nL) (hst : st = As.reverse ++ rest) (hcat : (rest.map fun v => v.category).sum ≤ 8) (hdg : decode cc pc = .ok (.invokestatic index, 3)) (hf : cells + mc ≤ R.cells ∧ slots + ms ≤ R.slots)
    (kk : ∀ (H1 : Heap) (locs1 : List Loc), H.size ≤ H1.size → (∀ a : Nat, a < H.size → ¬ qAdr ad H.size a → H1[a]? = H[a]?) → qRp D G ad s w1 H1 locs1 → W p l e R s m args below meth c H1 locs1 (cells + mc) (slots + ms) Q (F0 m (pc + 3) ls (.int r :: rest))) : W p l e R s m args below meth c H locs cells slots Q (F0 m pc ls st) := by
  obtain ⟨hx1, hb, hml, hown, hts, hlo, hK, hJ, hX⟩ := hC
  have hcB : CallB R s args own index y bytes maxL ret (Cond.code y bytes maxL ret :: lw_gd) (qrm d mc ms) mc ms As.length := callB_of As.length hts (q_goodIn hcode) rfl rfl rfl (hts _ hini) (hts _ hlk) hd hroom
  have hS := hR.2
  let sH : State := { s with heap := H }
  refine va_calli (va_runS (As := As) (rest := rest) (Ts := lw_gd) ⟨hx1, hb, hml, hown, hts⟩ (hM sH) ⟨hcB, hts _ hin⟩ ⟨qyblind hXk, fun U hU hW => ⟨rfl, ⟨by rw [hU], by rw [hU]; exact hR.1, va_K.moved hW.alike hK, by rw [hU]; exact qX_go hX hW hS.2.1 (qAdr_mono hS.1)⟩, by rw [hU]; exact hXk _ _ s U H H hE hW.alike (fun _ _ _ => rfl) (fun _ h => h)⟩⟩ rfl rfl hsz hst (lv_room hcat) hdg hf) hS (fun q _ h => qAdr_mono hS.1 q h) (qAdr_mono hS.1) (fun r1 u t H1 locs1 ht hvm hw hB hz1 hk1 hS1 => ?_)
  subst hw
  rw [ht] at hB
  exact kk H1 locs1 hz1 hk1 ⟨hB, hS1⟩
theorem q_callYSv {y : MethodName} {bytes : ByteArray} {maxL d mc ms index : Nat} {ret : Option FieldType} {As st : List Value} {w1 : qMem} {X : (Nat → Prop) → State → Heap → Prop} (hC : qCx p c cc nL s m args meth own D G ad) (hR : qRp D G ad s w H locs)
    (hM : qCY l D G ad y bytes maxL ret d mc ms As w X (fun st => qQV D G ad st w1)) (hXk : qXk X) (hE : X (qAdr ad H.size) s H) (hlk : Cond.methodLink own index y ∈ lw_gd) (hin : Cond.static y ∈ lw_gd) (hini : Cond.initialized y.cls ∈ lw_gd) (hcode : Cond.code y bytes maxL ret ∈ lw_gd)
    (hd : y.cls ≠ "java/lang/invoke/MethodHandle" ∧ y.cls ≠ "java/lang/invoke/VarHandle" ∧ (parseMethodDescriptor y.desc).map (fun d => d.parameters.length) = some As.length) (hroom : d + 1 ≤ R.frames ∧ 8 + (maxL + 11) + 40 * d ≤ R.locals) (hsz : ls.size = nL) (hst : st = As.reverse ++ rest) (hcat : (rest.map fun v => v.category).sum ≤ 8) (hdg : decode cc pc = .ok (.invokestatic index, 3)) (hf : cells + mc ≤ R.cells ∧ slots + ms ≤ R.slots)
    (kk : ∀ (H1 : Heap) (locs1 : List Loc), H.size ≤ H1.size → (∀ a : Nat, a < H.size → ¬ qAdr ad H.size a → H1[a]? = H[a]?) → qRp D G ad s w1 H1 locs1 → W p l e R s m args below meth c H1 locs1 (cells + mc) (slots + ms) Q (F0 m (pc + 3) ls rest)) : W p l e R s m args below meth c H locs cells slots Q (F0 m pc ls st) := by
  obtain ⟨hx1, hb, hml, hown, hts, hlo, hK, hJ, hX⟩ := hC
  have hcB : CallB R s args own index y bytes maxL ret (Cond.code y bytes maxL ret :: lw_gd) (qrm d mc ms) mc ms As.length := callB_of As.length hts (q_goodIn hcode) rfl rfl rfl (hts _ hini) (hts _ hlk) hd hroom
  have hS := hR.2
  let sH : State := { s with heap := H }
  refine va_callv (va_runS (As := As) (rest := rest) (Ts := lw_gd) ⟨hx1, hb, hml, hown, hts⟩ (hM sH) ⟨hcB, hts _ hin⟩ ⟨qyblind hXk, fun U hU hW => ⟨rfl, ⟨by rw [hU], by rw [hU]; exact hR.1, va_K.moved hW.alike hK, by rw [hU]; exact qX_go hX hW hS.2.1 (qAdr_mono hS.1)⟩, by rw [hU]; exact hXk _ _ s U H H hE hW.alike (fun _ _ _ => rfl) (fun _ h => h)⟩⟩ rfl rfl hsz hst (lv_room hcat) hdg hf) hS (fun q _ h => qAdr_mono hS.1 q h) (qAdr_mono hS.1) (fun u t H1 locs1 ht hvm hw hB hz1 hk1 hS1 => ?_)
  rw [ht] at hB
  exact kk H1 locs1 hz1 hk1 ⟨hB, hS1⟩
theorem q_callYSr {y : MethodName} {bytes : ByteArray} {maxL d mc ms index : Nat} {ret : Option FieldType} {As st : List Value} {w1 : qMem} {X : (Nat → Prop) → State → Heap → Prop} {Y : Nat → (Nat → Prop) → State → Heap → Prop} (hC : qCx p c cc nL s m args meth own D G ad) (hR : qRp D G ad s w H locs)
    (hM : qCY l D G ad y bytes maxL ret d mc ms As w X (fun st => qQY D G ad st w1 Y)) (hXk : qXk X) (hYk : ∀ b, qXk (Y b)) (hE : X (qAdr ad H.size) s H) (hlk : Cond.methodLink own index y ∈ lw_gd) (hin : Cond.static y ∈ lw_gd) (hini : Cond.initialized y.cls ∈ lw_gd) (hcode : Cond.code y bytes maxL ret ∈ lw_gd)
    (hd : y.cls ≠ "java/lang/invoke/MethodHandle" ∧ y.cls ≠ "java/lang/invoke/VarHandle" ∧ (parseMethodDescriptor y.desc).map (fun d => d.parameters.length) = some As.length) (hroom : d + 1 ≤ R.frames ∧ 8 + (maxL + 11) + 40 * d ≤ R.locals) (hsz : ls.size = nL) (hst : st = As.reverse ++ rest) (hcat : (rest.map fun v => v.category).sum ≤ 8) (hdg : decode cc pc = .ok (.invokestatic index, 3)) (hf : cells + mc ≤ R.cells ∧ slots + ms ≤ R.slots)
    (kk : ∀ (b : Nat) (H1 : Heap) (locs1 : List Loc), H.size ≤ H1.size → (∀ a : Nat, a < H.size → ¬ qAdr ad H.size a → H1[a]? = H[a]?) → H.size ≤ b → Y b (qAdr ad H1.size) s H1 → qRp D G ad s w1 H1 locs1 → W p l e R s m args below meth c H1 locs1 (cells + mc) (slots + ms) Q (F0 m (pc + 3) ls (.ref b :: rest))) : W p l e R s m args below meth c H locs cells slots Q (F0 m pc ls st) := by
  obtain ⟨hx1, hb, hml, hown, hts, hlo, hK, hJ, hX⟩ := hC
  have hcB : CallB R s args own index y bytes maxL ret (Cond.code y bytes maxL ret :: lw_gd) (qrm d mc ms) mc ms As.length := callB_of As.length hts (q_goodIn hcode) rfl rfl rfl (hts _ hini) (hts _ hlk) hd hroom
  have hS := hR.2
  let sH : State := { s with heap := H }
  refine va_callr (va_runS (As := As) (rest := rest) (Ts := lw_gd) ⟨hx1, hb, hml, hown, hts⟩ (hM sH) ⟨hcB, hts _ hin⟩ ⟨qyblind hXk, fun U hU hW => ⟨rfl, ⟨by rw [hU], by rw [hU]; exact hR.1, va_K.moved hW.alike hK, by rw [hU]; exact qX_go hX hW hS.2.1 (qAdr_mono hS.1)⟩, by rw [hU]; exact hXk _ _ s U H H hE hW.alike (fun _ _ _ => rfl) (fun _ h => h)⟩⟩ rfl rfl hsz hst (lv_room hcat) hdg hf) hS (fun q _ h => qAdr_mono hS.1 q h) (qAdr_mono hS.1) (fun u b t H1 locs1 ht hvm hw hB hz1 hk1 hS1 => ?_)
  rw [ht] at hB
  obtain ⟨hB0, hB, hY⟩ := hB
  exact kk b H1 locs1 hz1 hk1 hB0 (hYk b _ _ t s H1 H1 hY hvm.symm (fun _ _ _ => rfl) (fun _ h => h)) ⟨hB, hS1⟩
end
