section
variable {p : Program} {l : Launch} {e : Env} {R : Room} {s : State} {m : MethodId} {args : Array Value} {below : List Frame} {meth : Method} {c0 : Code} {H : Heap} {locs : List Loc} {cells slots : Nat} {Q : State → Prop} {pc nL : Nat} {ls : Array Slot} {rest : List Value} {cc : ByteArray} {own : String} {D : va_G} {G : Nat → ClassId} {ad : Nat → Nat} {w : qMem}
theorem qx_ki {y : MethodName} {bytes : ByteArray} {maxL d mc ms index x ci : Nat} {ret : Option FieldType} {As st : List Value} {r : Int32} {w2 : qMem} {code2 : Nat} {fs : List Value} {q : vw_C} (hC : qCx p c0 cc nL s m args meth own D G ad) (hR : qRp D G ad s w H locs)
    (hM : qCX l D G ad y bytes maxL ret d mc ms (.ref (ad x) :: As) w (fun st => qxQI D G ad st code2 r w2) code2 w2) (hx : x < 238) (hs : qshp G ad (w x) x = .inr (ci, fs)) (hc : vwCl[ci]? = some q) (hlk : Cond.methodLink own index y ∈ lw_gd) (hin : Cond.instanceMethod y ∈ lw_gd) (hse : Cond.selects q.1 y y ∈ lw_gd) (hini : Cond.initialized y.cls ∈ lw_gd) (hcode : Cond.code y bytes maxL ret ∈ lw_gd)
    (hd : y.cls ≠ "java/lang/invoke/MethodHandle" ∧ y.cls ≠ "java/lang/invoke/VarHandle" ∧ (parseMethodDescriptor y.desc).map (fun d => d.parameters.length) = some As.length) (hroom : d + 1 ≤ R.frames ∧ 8 + (maxL + 11) + 40 * d ≤ R.locals) (hsz : ls.size = nL) (hst : st = As.reverse ++ .ref (ad x) :: rest) (hcat : (rest.map fun v => v.category).sum ≤ 8) (hdg : decode cc pc = .ok (.invokevirtual index, 3)) (hf : cells + mc ≤ R.cells ∧ slots + ms ≤ R.slots)
    (kx : code2 ≠ 0 → ∀ (H1 : Heap) (locs1 : List Loc) (ce : Cell) (q9 : Addr), H.size ≤ H1.size → (∀ a : Nat, a < H.size → ¬ qAdr ad H.size a → H1[a]? = H[a]?) → qRp D G ad s w2 H1 locs1 → H1[q9]? = some ce → ce.vm = .none → s.vm.findClass (qexn code2) = some ce.cls → vx_W p l e R s m args below meth c0 H1 locs1 (cells + mc) (slots + ms) Q (F0 m pc ls rest) q9)
    (kk : code2 = 0 → ∀ (H1 : Heap) (locs1 : List Loc), H.size ≤ H1.size → (∀ a : Nat, a < H.size → ¬ qAdr ad H.size a → H1[a]? = H[a]?) → qRp D G ad s w2 H1 locs1 → W p l e R s m args below meth c0 H1 locs1 (cells + mc) (slots + ms) Q (F0 m (pc + 3) ls (.int r :: rest))) : W p l e R s m args below meth c0 H locs cells slots Q (F0 m pc ls st) := by
  obtain ⟨hx1, hb, hml, hown, hts, hlo, hK, hJ, hX⟩ := hC
  have hcB : CallB R s args own index y bytes maxL ret (Cond.code y bytes maxL ret :: lw_gd) (qrm d mc ms) mc ms As.length := callB_of As.length hts (q_goodIn hcode) rfl rfl rfl (hts _ hini) (hts _ hlk) hd hroom
  have hS := hR.2
  let sH : State := { s with heap := H }
  refine vx_calli (vx_runV (As := As) (rest := rest) (C := q.1) (Ts := lw_gd) ⟨hx1, hb, hml, hown, hts⟩ (hM sH) ⟨hcB, hts _ hin, hts _ hse⟩ ⟨qpre_blind, va_recv hK hR.1 (ci := ci) (q0 := x) hc (by rw [qat G ad w hx, hs]), fun U hU hW => ⟨rfl, by rw [hU], by rw [hU]; exact hR.1, va_K.moved hW.alike hK, by rw [hU]; exact qX_go hX hW hS.2.1 (qAdr_mono hS.1)⟩⟩ rfl rfl hsz hst (lv_room hcat) hdg hf) hS (fun q _ h => qAdr_mono hS.1 q h) (qAdr_mono hS.1) (fun q _ h => qAdr_mono hS.1 q h) (fun E ce q9 u t H1 locs1 ht hvm hp hB hz1 hk1 hS1 hce hcv hcl => ?_) (fun r1 u t H1 locs1 ht hvm hw hB hz1 hk1 hS1 => ?_)
  · obtain ⟨hE, hB⟩ := hB
    subst hE
    rw [ht] at hB
    exact kx hp H1 locs1 ce q9 hz1 hk1 ⟨hB, hS1⟩ hce hcv hcl
  · obtain ⟨h0, rfl⟩ := hw
    rw [ht] at hB
    exact kk h0 H1 locs1 hz1 hk1 ⟨hB, hS1⟩
theorem q_ki {y : MethodName} {bytes : ByteArray} {maxL d mc ms index x ci : Nat} {ret : Option FieldType} {As st : List Value} {r : Int32} {w2 : qMem} {fs : List Value} {q : vw_C} (hC : qCx p c0 cc nL s m args meth own D G ad) (hR : qRp D G ad s w H locs)
    (hM : qCMi l D G ad y bytes maxL ret d mc ms (.ref (ad x) :: As) w r w2) (hx : x < 238) (hs : qshp G ad (w x) x = .inr (ci, fs)) (hc : vwCl[ci]? = some q) (hlk : Cond.methodLink own index y ∈ lw_gd) (hin : Cond.instanceMethod y ∈ lw_gd) (hse : Cond.selects q.1 y y ∈ lw_gd) (hini : Cond.initialized y.cls ∈ lw_gd) (hcode : Cond.code y bytes maxL ret ∈ lw_gd)
    (hd : y.cls ≠ "java/lang/invoke/MethodHandle" ∧ y.cls ≠ "java/lang/invoke/VarHandle" ∧ (parseMethodDescriptor y.desc).map (fun d => d.parameters.length) = some As.length) (hroom : d + 1 ≤ R.frames ∧ 8 + (maxL + 11) + 40 * d ≤ R.locals) (hsz : ls.size = nL) (hst : st = As.reverse ++ .ref (ad x) :: rest) (hcat : (rest.map fun v => v.category).sum ≤ 8) (hdg : decode cc pc = .ok (.invokevirtual index, 3)) (hf : cells + mc ≤ R.cells ∧ slots + ms ≤ R.slots)
    (kk : ∀ (H1 : Heap) (locs1 : List Loc), H.size ≤ H1.size → (∀ a : Nat, a < H.size → ¬ qAdr ad H.size a → H1[a]? = H[a]?) → qRp D G ad s w2 H1 locs1 → W p l e R s m args below meth c0 H1 locs1 (cells + mc) (slots + ms) Q (F0 m (pc + 3) ls (.int r :: rest))) : W p l e R s m args below meth c0 H locs cells slots Q (F0 m pc ls st) := by
  obtain ⟨hx1, hb, hml, hown, hts, hlo, hK, hJ, hX⟩ := hC
  have hcB : CallB R s args own index y bytes maxL ret (Cond.code y bytes maxL ret :: lw_gd) (qrm d mc ms) mc ms As.length := callB_of As.length hts (q_goodIn hcode) rfl rfl rfl (hts _ hini) (hts _ hlk) hd hroom
  have hS := hR.2
  let sH : State := { s with heap := H }
  refine va_calli (va_runV (As := As) (rest := rest) (C := q.1) (Ts := lw_gd) ⟨hx1, hb, hml, hown, hts⟩ (hM sH) ⟨hcB, hts _ hin, hts _ hse⟩ ⟨qpre_blind, va_recv hK hR.1 (ci := ci) (q0 := x) hc (by rw [qat G ad w hx, hs]), fun U hU hW => ⟨rfl, by rw [hU], by rw [hU]; exact hR.1, va_K.moved hW.alike hK, by rw [hU]; exact qX_go hX hW hS.2.1 (qAdr_mono hS.1)⟩⟩ rfl rfl hsz hst (lv_room hcat) hdg hf) hS (fun q _ h => qAdr_mono hS.1 q h) (qAdr_mono hS.1) (fun r1 u t H1 locs1 ht hvm hw hB hz1 hk1 hS1 => ?_)
  subst hw
  rw [ht] at hB
  exact kk H1 locs1 hz1 hk1 ⟨hB, hS1⟩
end
def qHW (l : Launch) (D : va_G) (G : Nat → ClassId) (ad : Nat → Nat) (y : MethodName) (cc : ByteArray) (maxL : Nat) (hh : List (Nat × Nat × Nat × Nat)) (d mc ms : Nat) (av : List Value) (w : qMem) (r : Int32) (w1 : qMem) : Prop :=
  ∀ st : State, Met l y (Cond.codeWith y cc maxL (some .int) hh :: lw_gd) (qrm d mc ms) (va_Pc av (fun U => qpre D G ad w st.heap.size U ∧ qNcs U)) (qQI D G ad st w1 r) mc ms (qAdr ad st.heap.size)
theorem q_startW {l : Launch} {D : va_G} {G : Nat → ClassId} {ad : Nat → Nat} {y : MethodName} {cc : ByteArray} {maxL : Nat} {hh : List (Nat × Nat × Nat × Nat)} {d mc ms : Nat} {av : List Value} {w w1 : qMem} {r : Int32} (hown : y.cls = RL) (hy : plainName y.cls = true) (hJ : qInj ad) (hlen : (lg_sl av).length ≤ maxL)
    (body : ∀ (p : Program) (e : Env) (s : State) (m : MethodId) (args : Array Value) (below : List Frame) (meth : Method) (c : Code) (ls : Array Slot), qCx p c cc maxL s m args meth RL D G ad → meth.sig.returnType = some .int → c.exceptionTable.toList = tableOf hh → qNcs s → qRp D G ad s w s.heap [] → lv_has ls maxL (lv_args 0 av) → W p l e (qrm d mc ms) s m args below meth c s.heap [] 0 0 (MQ below (qQI D G ad s w1 r) args s mc ms (qAdr ad s.heap.size)) (F0 m 0 ls [])) :
    qHW l D G ad y cc maxL hh d mc ms av w r w1 := by
  intro st
  refine va_MetW (cc := cc) (maxL := maxL) (ret := some .int) (hh := hh) hy rfl ?_
  intro p e s m args below meth c s₁ B hml hv
  obtain ⟨rfl, ⟨hsz, hP, hK, hX⟩, hE⟩ := hv
  have hts := atoms_spec (ws := Cond.codeWith y cc maxL (some .int) hh :: lw_gd) B.pre
  have hC : qCx p c cc maxL s m av.toArray meth RL D G ad := ⟨B.exec, B.bytes, hml, by rw [← hown]; exact findClass_of_methodNamed B.named, fun w hw => hts w (List.mem_cons_of_mem _ hw), B.notSynchronized, hK, hJ, by rw [hsz]; exact hX⟩
  have hl := lv_entry av (n := maxL) hlen
  rw [lg_entry_eq]
  have := body p e s m av.toArray below meth c _ hC B.returns (vx_table (x := y) B (hts _ List.mem_cons_self)) hE ⟨hP, va_S.rf⟩ hl
  rw [qQI, hsz] at this
  rw [qQI]
  exact this
def qlw (es : List Nat) (vs : List Int32) (o : Option (Nat × Int32 × qMem)) : Option (Int32 × qMem) := match o with
  | none => none
  | some (c, r, w) => if c = 0 then some (r, w) else if c = es.getD 0 0 then some (vs.getD 0 0, w) else if c = es.getD 1 0 then some (vs.getD 1 0, w) else if c = es.getD 2 0 then some (vs.getD 2 0, w) else none
theorem qlw_s {es : List Nat} {vs : List Int32} {r : Int32} {o : Option (Nat × Int32 × qMem)} {w : qMem} (h : qlw es vs o = some (r, w)) : ∃ (c : Nat) (r0 : Int32), o = some (c, r0, w) ∧ ((c = 0 ∧ r = r0) ∨ (c ≠ 0 ∧ c = es.getD 0 0 ∧ vs.getD 0 0 = r) ∨ (c ≠ 0 ∧ c = es.getD 1 0 ∧ vs.getD 1 0 = r) ∨ (c ≠ 0 ∧ c = es.getD 2 0 ∧ vs.getD 2 0 = r)) := by
  match o, h with
  | none, h => cases h
  | some (c, r0, w0), h =>
    simp only [qlw] at h
    by_cases h0 : c = 0
    · rw [if_pos h0] at h; cases h; exact ⟨c, r, rfl, Or.inl ⟨h0, rfl⟩⟩
    · rw [if_neg h0] at h
      by_cases h1 : c = es.getD 0 0
      · rw [if_pos h1] at h; cases h; exact ⟨c, r0, rfl, Or.inr (Or.inl ⟨h0, h1, rfl⟩)⟩
      · rw [if_neg h1] at h
        by_cases h2 : c = es.getD 1 0
        · rw [if_pos h2] at h; cases h; exact ⟨c, r0, rfl, Or.inr (Or.inr (Or.inl ⟨h0, h2, rfl⟩))⟩
        · rw [if_neg h2] at h
          by_cases h3 : c = es.getD 2 0
          · rw [if_pos h3] at h; cases h; exact ⟨c, r0, rfl, Or.inr (Or.inr (Or.inr ⟨h0, h3, rfl⟩))⟩
          · rw [if_neg h3] at h; cases h
theorem qAdr_A {G : Nat → ClassId} {ad : Nat → Nat} {w : qMem} {sz : Nat} : qAdr ad sz = va_A (qcells G ad w) sz := by
  funext q
  refine propext ⟨fun h => ?_, fun h => ?_⟩
  · rcases h with ⟨k, hk, rfl⟩ | h
    · exact Or.inl ⟨k, _, qat G ad w hk⟩
    · exact Or.inr h
  · rcases h with ⟨k, e, h⟩ | h
    · have lk : k < 238 := by have := (List.getElem?_eq_some_iff.mp h).1; simpa [qcells] using this
      rw [qat G ad w lk] at h
      cases h
      exact Or.inl ⟨k, lk, rfl⟩
    · exact Or.inr h
theorem lE_q {D : va_G} {G : Nat → ClassId} {ad : Nat → Nat} {w : qMem} {E : (Nat → Prop) → State → Heap → Prop} {sz : Nat} {U : State} (hk : qXk E) (h : lE D G ad (qcells G ad w) E sz U) : qpre D G ad w sz U ∧ qNcs U ∧ E (qAdr ad sz) U U.heap := by
  obtain ⟨h1, h2, h3, h4, h5, h6, h7⟩ := h
  exact ⟨⟨h1, h2, h4, qX_go h5 (State.WarmedH.refl U) (fun _ _ _ => rfl) (fun q hq => Or.inr hq)⟩, h6, hk _ _ U U U.heap U.heap h7 (Vm.Alike.refl _) (fun _ _ _ => rfl) (fun q hq => Or.inr hq)⟩
theorem lB_q {D : va_G} {G : Nat → ClassId} {ad : Nat → Nat} (hJ : qInj ad) {w w1 : qMem} {sz : Nat} {t : State} (h : va_P D vwCl (qcells G ad w1) t.heap) : lB D (qcells G ad w) sz (qcells G ad w1) t := ⟨h, by rw [← qAdr_A]; exact qD G w1 hJ sz⟩
theorem l_ofHW {l : Launch} {D : va_G} {G : Nat → ClassId} {ad : Nat → Nat} {y : MethodName} {cc : ByteArray} {maxL : Nat} {hh : List (Nat × Nat × Nat × Nat)} {d mc ms : Nat} {av : List Value} {w w1 : qMem} {r : Int32} (hJ : qInj ad) (h : qHW l D G ad y cc maxL hh d mc ms av w r w1) : lCM l D G ad y (Cond.codeWith y cc maxL (some .int) hh) d mc ms av (qcells G ad w) (fun _ _ _ => True) (fun st => lQi D (qcells G ad w) (qcells G ad w1) st r) := fun st =>
  lm_mono (h st) (fun a s hp => ⟨hp.1, (lE_q lNo_k hp.2).1, (lE_q lNo_k hp.2).2.1⟩) (fun a s o t hp hq => by
    obtain ⟨⟨r1, u, e1, e2, e3⟩, e4⟩ := hq
    exact ⟨⟨r1, u, e1, e2, lB_q hJ e3⟩, by rw [← qAdr_A]; exact e4⟩) (fun q hq => by rw [← qAdr_A]; exact hq)
theorem l_ofMi {l : Launch} {D : va_G} {G : Nat → ClassId} {ad : Nat → Nat} {y : MethodName} {cc : ByteArray} {maxL : Nat} {ret : Option FieldType} {d mc ms : Nat} {av : List Value} {w w1 : qMem} {r : Int32} (hJ : qInj ad) (h : qCMi l D G ad y cc maxL ret d mc ms av w r w1) : lCM l D G ad y (Cond.code y cc maxL ret) d mc ms av (qcells G ad w) (fun _ _ _ => True) (fun st => lQi D (qcells G ad w) (qcells G ad w1) st r) := fun st =>
  lm_mono (h st) (fun a s hp => ⟨hp.1, (lE_q lNo_k hp.2).1⟩) (fun a s o t hp hq => by
    obtain ⟨⟨r1, u, e1, e2, e3⟩, e4⟩ := hq
    exact ⟨⟨r1, u, e1, e2, lB_q hJ e3⟩, by rw [← qAdr_A]; exact e4⟩) (fun q hq => by rw [← qAdr_A]; exact hq)
theorem l_ofYi {l : Launch} {D : va_G} {G : Nat → ClassId} {ad : Nat → Nat} {y : MethodName} {cc : ByteArray} {maxL : Nat} {ret : Option FieldType} {d mc ms : Nat} {av : List Value} {w w1 : qMem} {r : Int32} {E : (Nat → Prop) → State → Heap → Prop} (hk : qXk E) (hJ : qInj ad) (h : qCY l D G ad y cc maxL ret d mc ms av w E (fun st => qQI D G ad st w1 r)) : lCM l D G ad y (Cond.code y cc maxL ret) d mc ms av (qcells G ad w) E (fun st => lQi D (qcells G ad w) (qcells G ad w1) st r) := fun st =>
  lm_mono (h st) (fun a s hp => ⟨hp.1, (lE_q hk hp.2).1, (lE_q hk hp.2).2.2⟩) (fun a s o t hp hq => by
    obtain ⟨⟨r1, u, e1, e2, e3⟩, e4⟩ := hq
    exact ⟨⟨r1, u, e1, e2, lB_q hJ e3⟩, by rw [← qAdr_A]; exact e4⟩) (fun q hq => by rw [← qAdr_A]; exact hq)
theorem l_ofXi {l : Launch} {D : va_G} {G : Nat → ClassId} {ad : Nat → Nat} {y : MethodName} {cc : ByteArray} {maxL : Nat} {ret : Option FieldType} {d mc ms : Nat} {av : List Value} {w w1 : qMem} {r : Int32} {code : Nat} (hJ : qInj ad) (h : qCX l D G ad y cc maxL ret d mc ms av w (fun st => qxQI D G ad st code r w1) code w1) (h0 : code = 0) : lCM l D G ad y (Cond.code y cc maxL ret) d mc ms av (qcells G ad w) (fun _ _ _ => True) (fun st => lQi D (qcells G ad w) (qcells G ad w1) st r) := fun st =>
  lm_mono (lm_thr (h st) (fun E st t hx => by
    obtain ⟨u, hu, -⟩ := hx
    exact hu h0)) (fun a s hp => ⟨hp.1, (lE_q lNo_k hp.2).1⟩) (fun a s o t hp hq => by
    obtain ⟨⟨r1, u, e1, e2, e3⟩, e4⟩ := hq
    exact ⟨⟨r1, u, e1, e2.2, lB_q hJ e3⟩, by rw [← qAdr_A]; exact e4⟩) (fun q hq => by rw [← qAdr_A]; exact hq)
theorem l_ofXd {l : Launch} {D : va_G} {G : Nat → ClassId} {ad : Nat → Nat} {y : MethodName} {cc : ByteArray} {maxL : Nat} {ret : Option FieldType} {d mc ms : Nat} {av : List Value} {w w1 : qMem} {r : UInt64} {code : Nat} (hJ : qInj ad) (h : qCX l D G ad y cc maxL ret d mc ms av w (fun st => qxQD D G ad st code r w1) code w1) (h0 : code = 0) : lCM l D G ad y (Cond.code y cc maxL ret) d mc ms av (qcells G ad w) (fun _ _ _ => True) (fun st => lQd D (qcells G ad w) (qcells G ad w1) st r) := fun st =>
  lm_mono (lm_thr (h st) (fun E st t hx => by
    obtain ⟨u, hu, -⟩ := hx
    exact hu h0)) (fun a s hp => ⟨hp.1, (lE_q lNo_k hp.2).1⟩) (fun a s o t hp hq => by
    obtain ⟨⟨r1, u, e1, e2, e3⟩, e4⟩ := hq
    exact ⟨⟨r1, u, e1, e2.2, lB_q hJ e3⟩, by rw [← qAdr_A]; exact e4⟩) (fun q hq => by rw [← qAdr_A]; exact hq)
theorem l_ofXf {l : Launch} {D : va_G} {G : Nat → ClassId} {ad : Nat → Nat} {y : MethodName} {cc : ByteArray} {maxL : Nat} {ret : Option FieldType} {d mc ms : Nat} {av : List Value} {w w1 : qMem} {r : UInt32} {code : Nat} (hJ : qInj ad) (h : qCX l D G ad y cc maxL ret d mc ms av w (fun st => qxQF D G ad st code r w1) code w1) (h0 : code = 0) : lCM l D G ad y (Cond.code y cc maxL ret) d mc ms av (qcells G ad w) (fun _ _ _ => True) (fun st => lQf D (qcells G ad w) (qcells G ad w1) st r) := fun st =>
  lm_mono (lm_thr (h st) (fun E st t hx => by
    obtain ⟨u, hu, -⟩ := hx
    exact hu h0)) (fun a s hp => ⟨hp.1, (lE_q lNo_k hp.2).1⟩) (fun a s o t hp hq => by
    obtain ⟨⟨r1, u, e1, e2, e3⟩, e4⟩ := hq
    exact ⟨⟨r1, u, e1, e2.2, lB_q hJ e3⟩, by rw [← qAdr_A]; exact e4⟩) (fun q hq => by rw [← qAdr_A]; exact hq)
