def qNcs (U : State) : Prop := va_Nc "java/lang/UnsupportedOperationException" "java/lang/IllegalArgumentException" U ∧ va_Nc "java/lang/IllegalArgumentException" "java/lang/IndexOutOfBoundsException" U ∧ va_Nc "java/lang/UnsupportedOperationException" "java/lang/IndexOutOfBoundsException" U
/-- the law's own row of one element -/
def qOut (o : Nat) (cA : ClassId) (ty : FieldType) (a : vp_A) (A : Nat → Prop) (U : State) (H : Heap) : Prop := qNcs U ∧ va_K ((fun _ => 0), (fun _ _ => 0)) [] [(cA, ty)] U ∧ H[o]? = some (vp_cell cA a) ∧ ¬ A o
theorem qOut_k {o : Nat} {cA : ClassId} {ty : FieldType} {a : vp_A} : qXk (qOut o cA ty a) := fun A B s U H H1 h ha hq hAB => by
  obtain ⟨⟨h1, h2, h3⟩, h4, h5, h6⟩ := h
  exact ⟨⟨va_Nc.moved ha h1, va_Nc.moved ha h2, va_Nc.moved ha h3⟩, va_K.moved ha h4, by rw [hq o (Array.getElem?_eq_some_iff.mp h5).1 h6]; exact h5, fun h => h6 (hAB o h)⟩
def qAdo (ad : Nat → Nat) (o sz : Nat) : Nat → Prop := fun q => q = o ∨ qAdr ad sz q
def qHL (l : Launch) (D : va_G) (G : Nat → ClassId) (ad : Nat → Nat) (y : MethodName) (cc : ByteArray) (maxL : Nat) (hh : List (Nat × Nat × Nat × Nat)) (d mc ms : Nat) (av : List Value) (w : qMem) (o : Nat) (cA : ClassId) (ty : FieldType) (a : vp_A) (k : Int32) (PA : vp_A → Prop) (w1 : qMem) : Prop :=
  ∀ st : State, Met l y (Cond.codeWith y cc maxL (some .int) hh :: lw_gd) (qrm d mc ms) (va_Pc av (fun U => qpre D G ad w st.heap.size U ∧ qOut o cA ty a (qAdr ad st.heap.size) U U.heap)) (va_Qi (S := Unit) (fun r1 _ => r1 = k) (fun _ t => va_P D vwCl (qcells G ad w1) t.heap ∧ ∃ a1, PA a1 ∧ qOut o cA ty a1 (qAdr ad t.heap.size) t t.heap) (qAdo ad o st.heap.size)) mc ms (qAdo ad o st.heap.size)
def qPL (k : Int32) (v : Int64) (a : vp_A) : Prop := ∃ f : Nat → Int64, a = (1, .inr (.inl f)) ∧ (k = 0 → f 0 = v)
def qPD (k : Int32) (v : UInt64) (a : vp_A) : Prop := ∃ f : Nat → UInt64, a = (1, .inr (.inr (.inr (.inl f)))) ∧ (k = 0 → f 0 = v)
theorem q_goodInW {y : MethodName} {b : ByteArray} {n : Nat} {r : Option FieldType} {hh : List (Nat × Nat × Nat × Nat)} (h : Cond.codeWith y b n r hh ∈ lw_gd) : GoodIn lw_gd (Cond.codeWith y b n r hh :: lw_gd) := fun w hw => by
  rcases List.mem_cons.mp hw with rfl | hw
  · exact ⟨h, good_of_word (List.mem_filter.mp h).2⟩
  · exact ⟨hw, good_of_word (List.mem_filter.mp hw).2⟩
theorem q_startL {l : Launch} {D : va_G} {G : Nat → ClassId} {ad : Nat → Nat} {y : MethodName} {cc : ByteArray} {maxL : Nat} {hh : List (Nat × Nat × Nat × Nat)} {d mc ms : Nat} {av : List Value} {w w1 : qMem} {o : Nat} {cA : ClassId} {ty : FieldType} {a : vp_A} {k : Int32} {PA : vp_A → Prop} (hown : y.cls = RL) (hy : plainName y.cls = true) (hJ : qInj ad) (hlen : (lg_sl av).length ≤ maxL)
    (body : ∀ (p : Program) (e : Env) (s : State) (m : MethodId) (args : Array Value) (below : List Frame) (meth : Method) (c : Code) (ls : Array Slot), qCx p c cc maxL s m args meth RL D G ad → meth.sig.returnType = some .int → c.exceptionTable.toList = tableOf hh → qOut o cA ty a (qAdr ad s.heap.size) s s.heap → qRp D G ad s w s.heap [] → lv_has ls maxL (lv_args 0 av) → W p l e (qrm d mc ms) s m args below meth c s.heap [] 0 0 (MQ below (va_Qi (S := Unit) (fun r1 _ => r1 = k) (fun _ t => va_P D vwCl (qcells G ad w1) t.heap ∧ ∃ a1, PA a1 ∧ qOut o cA ty a1 (qAdr ad t.heap.size) t t.heap) (qAdo ad o s.heap.size)) args s mc ms (qAdo ad o s.heap.size)) (F0 m 0 ls [])) :
    qHL l D G ad y cc maxL hh d mc ms av w o cA ty a k PA w1 := by
  intro st
  refine va_MetW (cc := cc) (maxL := maxL) (ret := some .int) (hh := hh) hy rfl ?_
  intro p e s m args below meth c s₁ B hml hv
  obtain ⟨rfl, ⟨hsz, hP, hK, hX⟩, hE⟩ := hv
  have hts := atoms_spec (ws := Cond.codeWith y cc maxL (some .int) hh :: lw_gd) B.pre
  have hC : qCx p c cc maxL s m av.toArray meth RL D G ad := ⟨B.exec, B.bytes, hml, by rw [← hown]; exact findClass_of_methodNamed B.named, fun w hw => hts w (List.mem_cons_of_mem _ hw), B.notSynchronized, hK, hJ, by rw [hsz]; exact hX⟩
  have hl := lv_entry av (n := maxL) hlen
  rw [lg_entry_eq]
  have := body p e s m av.toArray below meth c _ hC B.returns (vx_table (x := y) B (hts _ List.mem_cons_self)) (by rw [hsz]; exact hE) ⟨hP, va_S.rf⟩ hl
  rw [hsz] at this
  exact this
def qlh {α : Type} (es : List Nat) (z : α) (o : Option (Nat × α × qMem)) : Option (Int32 × α × qMem) := match o with
  | none => none
  | some (c, r, w) => if c = 0 then some (0, r, w) else if c = es.getD 0 0 then some (1, z, w) else if c = es.getD 1 0 then some (2, z, w) else if c = es.getD 2 0 then some (3, z, w) else none
theorem qlh_s {α : Type} {es : List Nat} {z r : α} {o : Option (Nat × α × qMem)} {k : Int32} {w : qMem} (h : qlh es z o = some (k, r, w)) : ∃ (c : Nat) (r0 : α), o = some (c, r0, w) ∧ ((c = 0 ∧ k = 0 ∧ r = r0) ∨ (c ≠ 0 ∧ c = es.getD 0 0 ∧ k = 1) ∨ (c ≠ 0 ∧ c = es.getD 1 0 ∧ k = 2) ∨ (c ≠ 0 ∧ c = es.getD 2 0 ∧ k = 3)) := by
  match o, h with
  | none, h => cases h
  | some (c, r0, w0), h =>
    simp only [qlh] at h
    by_cases h0 : c = 0
    · rw [if_pos h0] at h; cases h; exact ⟨c, r, rfl, Or.inl ⟨h0, rfl, rfl⟩⟩
    · rw [if_neg h0] at h
      by_cases h1 : c = es.getD 0 0
      · rw [if_pos h1] at h; cases h; exact ⟨c, r0, rfl, Or.inr (Or.inl ⟨h0, h1, rfl⟩)⟩
      · rw [if_neg h1] at h
        by_cases h2 : c = es.getD 1 0
        · rw [if_pos h2] at h; cases h; exact ⟨c, r0, rfl, Or.inr (Or.inr (Or.inl ⟨h0, h2, rfl⟩))⟩
        · rw [if_neg h2] at h
          by_cases h3 : c = es.getD 2 0
          · rw [if_pos h3] at h; cases h; exact ⟨c, r0, rfl, Or.inr (Or.inr (Or.inr ⟨h0, h3, rfl⟩))⟩
          · rw [if_neg h3] at h; cases h
theorem qDo {G : Nat → ClassId} {ad : Nat → Nat} (w : qMem) {o sz : Nat} {x : va_E} (hJ : qInj ad) (ho : ∀ k : Nat, k < 247 → o ≠ ad k) : va_D (qAdo ad o sz) (qcells G ad w ++ [(o, x)]) := by
  have hD := qD G w hJ sz
  have key : ∀ (k : Nat) (q : Nat × va_E), (qcells G ad w ++ [(o, x)])[k]? = some q → (k < 247 ∧ (qcells G ad w)[k]? = some q) ∨ (k = 247 ∧ q = (o, x)) := fun k q hk => by
    by_cases hl : k < 247
    · rw [List.getElem?_append_left (by rw [qcells_len]; exact hl)] at hk
      exact Or.inl ⟨hl, hk⟩
    · have h1 : k < 248 := by have := (List.getElem?_eq_some_iff.mp hk).1; simp only [List.length_append, qcells_len, List.length_singleton] at this; omega
      have : k = 247 := by omega
      subst this
      rw [qlast] at hk
      exact Or.inr ⟨rfl, (Option.some.inj hk).symm⟩
  refine ⟨fun i j p q hi hj hpq => ?_, fun k q hk => ?_⟩
  · rcases key i p hi with ⟨li, gi⟩ | ⟨li, gi⟩ <;> rcases key j q hj with ⟨lj, gj⟩ | ⟨lj, gj⟩
    · exact hD.1 i j p q gi gj hpq
    · rw [qat G ad w li] at gi
      cases gi
      subst gj
      exact absurd hpq.symm (ho i li)
    · rw [qat G ad w lj] at gj
      cases gj
      subst gi
      exact absurd hpq (ho j lj)
    · omega
  · rcases key k q hk with ⟨lk, gk⟩ | ⟨lk, gk⟩
    · exact Or.inr (hD.2 k q gk)
    · subst gk
      exact Or.inl rfl
section
variable {p : Program} {l : Launch} {e : Env} {R : Room} {s : State} {m : MethodId} {args : Array Value} {below : List Frame} {meth : Method} {c0 : Code} {H : Heap} {locs : List Loc} {cells slots : Nat} {Q : State → Prop} {pc nL : Nat} {ls : Array Slot} {rest : List Value} {cc : ByteArray} {own : String} {D : va_G} {G : Nat → ClassId} {ad : Nat → Nat} {w : qMem}
theorem qx_ki {y : MethodName} {bytes : ByteArray} {maxL d mc ms index x ci : Nat} {ret : Option FieldType} {As st : List Value} {r : Int32} {w2 : qMem} {code2 : Nat} {fs : List Value} {q : vw_C} (hC : qCx p c0 cc nL s m args meth own D G ad) (hR : qRp D G ad s w H locs)
    (hM : qCX l D G ad y bytes maxL ret d mc ms (.ref (ad x) :: As) w (fun st => qxQI D G ad st code2 r w2) code2 w2) (hx : x < 247) (hs : qshp G ad (w x) x = .inr (ci, fs)) (hc : vwCl[ci]? = some q) (hlk : Cond.methodLink own index y ∈ lw_gd) (hin : Cond.instanceMethod y ∈ lw_gd) (hse : Cond.selects q.1 y y ∈ lw_gd) (hini : Cond.initialized y.cls ∈ lw_gd) (hcode : Cond.code y bytes maxL ret ∈ lw_gd)
    (hd : y.cls ≠ "java/lang/invoke/MethodHandle" ∧ y.cls ≠ "java/lang/invoke/VarHandle" ∧ (parseMethodDescriptor y.desc).map (fun d => d.parameters.length) = some As.length) (hroom : d + 1 ≤ R.frames ∧ 8 + (maxL + 11) + 40 * d ≤ R.locals) (hsz : ls.size = nL) (hst : st = As.reverse ++ .ref (ad x) :: rest) (hcat : (rest.map fun v => v.category).sum ≤ 8) (hdg : decode cc pc = .ok (.invokevirtual index, 3)) (hf : cells + mc ≤ R.cells ∧ slots + ms ≤ R.slots)
    (kx : code2 ≠ 0 → ∀ (H1 : Heap) (locs1 : List Loc) (ce : Cell) (q9 : Addr), H.size ≤ H1.size → (∀ a : Nat, a < H.size → ¬ qAdr ad H.size a → H1[a]? = H[a]?) → qRp D G ad s w2 H1 locs1 → H1[q9]? = some ce → ce.vm = .none → s.vm.findClass (qexn code2) = some ce.cls → vx_W p l e R s m args below meth c0 H1 locs1 (cells + mc) (slots + ms) Q (F0 m pc ls rest) q9)
    (kk : code2 = 0 → ∀ (H1 : Heap) (locs1 : List Loc), H.size ≤ H1.size → (∀ a : Nat, a < H.size → ¬ qAdr ad H.size a → H1[a]? = H[a]?) → qRp D G ad s w2 H1 locs1 → W p l e R s m args below meth c0 H1 locs1 (cells + mc) (slots + ms) Q (F0 m (pc + 3) ls (.int r :: rest))) : W p l e R s m args below meth c0 H locs cells slots Q (F0 m pc ls st) := by
  obtain ⟨hx1, hb, hml, hown, hts, hlo, hK, hJ, hX⟩ := hC
  have hcB : CallB R s args own index y bytes maxL ret (Cond.code y bytes maxL ret :: lw_gd) (qrm d mc ms) mc ms As.length := callB_of As.length hts (q_goodIn hcode) rfl rfl rfl (hts _ hini) (hts _ hlk) hd hroom
  have hS := hR.2
  let sH : State := { s with heap := H }
  refine vx_calli (vx_runV (As := As) (rest := rest) (C := q.1) (Ts := lw_gd) ⟨hx1, hb, hml, hown, hts⟩ (hM sH) ⟨hcB, hts _ hin, hts _ hse⟩ ⟨qpre_blind, va_recv hK hR.1 (ci := ci) (q0 := x) hc (by rw [qat G ad w hx, hs]), fun U hU hW => ⟨rfl, by rw [hU], by rw [hU]; exact hR.1, va_K.moved hW.alike hK, by rw [hU]; exact qX_go hX hW hS.2.1 (qAdr_mono hS.1)⟩⟩ rfl rfl hsz hst (lv_room hcat) hdg hf) hS (fun q _ h => qAdr_mono hS.1 q h) (qAdr_mono hS.1) (fun q _ h => qAdr_mono hS.1 q h) (fun E ce q9 u t H1 locs1 ht hvm hp hB hz1 hk1 hS1 hce hcv hcl => ?_) (fun r1 u t H1 locs1 ht hvm hw hB hz1 hk1 hS1 => ?_)
  · obtain ⟨hE, hB⟩ := hB
    subst hE
    rw [ht] at hB
    exact kx hp H1 locs1 ce q9 hz1 hk1 ⟨hB, hS1⟩ hce hcv hcl
  · obtain ⟨h0, rfl⟩ := hw
    rw [ht] at hB
    exact kk h0 H1 locs1 hz1 hk1 ⟨hB, hS1⟩
theorem qx_kd {y : MethodName} {bytes : ByteArray} {maxL d mc ms index x ci : Nat} {ret : Option FieldType} {As st : List Value} {r : UInt64} {w2 : qMem} {code2 : Nat} {fs : List Value} {q : vw_C} (hC : qCx p c0 cc nL s m args meth own D G ad) (hR : qRp D G ad s w H locs)
    (hM : qCX l D G ad y bytes maxL ret d mc ms (.ref (ad x) :: As) w (fun st => qxQD D G ad st code2 r w2) code2 w2) (hx : x < 247) (hs : qshp G ad (w x) x = .inr (ci, fs)) (hc : vwCl[ci]? = some q) (hlk : Cond.methodLink own index y ∈ lw_gd) (hin : Cond.instanceMethod y ∈ lw_gd) (hse : Cond.selects q.1 y y ∈ lw_gd) (hini : Cond.initialized y.cls ∈ lw_gd) (hcode : Cond.code y bytes maxL ret ∈ lw_gd)
    (hd : y.cls ≠ "java/lang/invoke/MethodHandle" ∧ y.cls ≠ "java/lang/invoke/VarHandle" ∧ (parseMethodDescriptor y.desc).map (fun d => d.parameters.length) = some As.length) (hroom : d + 1 ≤ R.frames ∧ 8 + (maxL + 11) + 40 * d ≤ R.locals) (hsz : ls.size = nL) (hst : st = As.reverse ++ .ref (ad x) :: rest) (hcat : (rest.map fun v => v.category).sum ≤ 8) (hdg : decode cc pc = .ok (.invokevirtual index, 3)) (hf : cells + mc ≤ R.cells ∧ slots + ms ≤ R.slots)
    (kx : code2 ≠ 0 → ∀ (H1 : Heap) (locs1 : List Loc) (ce : Cell) (q9 : Addr), H.size ≤ H1.size → (∀ a : Nat, a < H.size → ¬ qAdr ad H.size a → H1[a]? = H[a]?) → qRp D G ad s w2 H1 locs1 → H1[q9]? = some ce → ce.vm = .none → s.vm.findClass (qexn code2) = some ce.cls → vx_W p l e R s m args below meth c0 H1 locs1 (cells + mc) (slots + ms) Q (F0 m pc ls rest) q9)
    (kk : code2 = 0 → ∀ (H1 : Heap) (locs1 : List Loc), H.size ≤ H1.size → (∀ a : Nat, a < H.size → ¬ qAdr ad H.size a → H1[a]? = H[a]?) → qRp D G ad s w2 H1 locs1 → W p l e R s m args below meth c0 H1 locs1 (cells + mc) (slots + ms) Q (F0 m (pc + 3) ls (.double r :: rest))) : W p l e R s m args below meth c0 H locs cells slots Q (F0 m pc ls st) := by
  obtain ⟨hx1, hb, hml, hown, hts, hlo, hK, hJ, hX⟩ := hC
  have hcB : CallB R s args own index y bytes maxL ret (Cond.code y bytes maxL ret :: lw_gd) (qrm d mc ms) mc ms As.length := callB_of As.length hts (q_goodIn hcode) rfl rfl rfl (hts _ hini) (hts _ hlk) hd hroom
  have hS := hR.2
  let sH : State := { s with heap := H }
  refine vx_calld (vx_runV (As := As) (rest := rest) (C := q.1) (Ts := lw_gd) ⟨hx1, hb, hml, hown, hts⟩ (hM sH) ⟨hcB, hts _ hin, hts _ hse⟩ ⟨qpre_blind, va_recv hK hR.1 (ci := ci) (q0 := x) hc (by rw [qat G ad w hx, hs]), fun U hU hW => ⟨rfl, by rw [hU], by rw [hU]; exact hR.1, va_K.moved hW.alike hK, by rw [hU]; exact qX_go hX hW hS.2.1 (qAdr_mono hS.1)⟩⟩ rfl rfl hsz hst (lv_room hcat) hdg hf) hS (fun q _ h => qAdr_mono hS.1 q h) (qAdr_mono hS.1) (fun q _ h => qAdr_mono hS.1 q h) (fun E ce q9 u t H1 locs1 ht hvm hp hB hz1 hk1 hS1 hce hcv hcl => ?_) (fun r1 u t H1 locs1 ht hvm hw hB hz1 hk1 hS1 => ?_)
  · obtain ⟨hE, hB⟩ := hB
    subst hE
    rw [ht] at hB
    exact kx hp H1 locs1 ce q9 hz1 hk1 ⟨hB, hS1⟩ hce hcv hcl
  · obtain ⟨h0, rfl⟩ := hw
    rw [ht] at hB
    exact kk h0 H1 locs1 hz1 hk1 ⟨hB, hS1⟩
theorem qx_kf {y : MethodName} {bytes : ByteArray} {maxL d mc ms index x ci : Nat} {ret : Option FieldType} {As st : List Value} {r : UInt32} {w2 : qMem} {code2 : Nat} {fs : List Value} {q : vw_C} (hC : qCx p c0 cc nL s m args meth own D G ad) (hR : qRp D G ad s w H locs)
    (hM : qCX l D G ad y bytes maxL ret d mc ms (.ref (ad x) :: As) w (fun st => qxQF D G ad st code2 r w2) code2 w2) (hx : x < 247) (hs : qshp G ad (w x) x = .inr (ci, fs)) (hc : vwCl[ci]? = some q) (hlk : Cond.methodLink own index y ∈ lw_gd) (hin : Cond.instanceMethod y ∈ lw_gd) (hse : Cond.selects q.1 y y ∈ lw_gd) (hini : Cond.initialized y.cls ∈ lw_gd) (hcode : Cond.code y bytes maxL ret ∈ lw_gd)
    (hd : y.cls ≠ "java/lang/invoke/MethodHandle" ∧ y.cls ≠ "java/lang/invoke/VarHandle" ∧ (parseMethodDescriptor y.desc).map (fun d => d.parameters.length) = some As.length) (hroom : d + 1 ≤ R.frames ∧ 8 + (maxL + 11) + 40 * d ≤ R.locals) (hsz : ls.size = nL) (hst : st = As.reverse ++ .ref (ad x) :: rest) (hcat : (rest.map fun v => v.category).sum ≤ 8) (hdg : decode cc pc = .ok (.invokevirtual index, 3)) (hf : cells + mc ≤ R.cells ∧ slots + ms ≤ R.slots)
    (kx : code2 ≠ 0 → ∀ (H1 : Heap) (locs1 : List Loc) (ce : Cell) (q9 : Addr), H.size ≤ H1.size → (∀ a : Nat, a < H.size → ¬ qAdr ad H.size a → H1[a]? = H[a]?) → qRp D G ad s w2 H1 locs1 → H1[q9]? = some ce → ce.vm = .none → s.vm.findClass (qexn code2) = some ce.cls → vx_W p l e R s m args below meth c0 H1 locs1 (cells + mc) (slots + ms) Q (F0 m pc ls rest) q9)
    (kk : code2 = 0 → ∀ (H1 : Heap) (locs1 : List Loc), H.size ≤ H1.size → (∀ a : Nat, a < H.size → ¬ qAdr ad H.size a → H1[a]? = H[a]?) → qRp D G ad s w2 H1 locs1 → W p l e R s m args below meth c0 H1 locs1 (cells + mc) (slots + ms) Q (F0 m (pc + 3) ls (.float r :: rest))) : W p l e R s m args below meth c0 H locs cells slots Q (F0 m pc ls st) := by
  obtain ⟨hx1, hb, hml, hown, hts, hlo, hK, hJ, hX⟩ := hC
  have hcB : CallB R s args own index y bytes maxL ret (Cond.code y bytes maxL ret :: lw_gd) (qrm d mc ms) mc ms As.length := callB_of As.length hts (q_goodIn hcode) rfl rfl rfl (hts _ hini) (hts _ hlk) hd hroom
  have hS := hR.2
  let sH : State := { s with heap := H }
  refine vx_callf (vx_runV (As := As) (rest := rest) (C := q.1) (Ts := lw_gd) ⟨hx1, hb, hml, hown, hts⟩ (hM sH) ⟨hcB, hts _ hin, hts _ hse⟩ ⟨qpre_blind, va_recv hK hR.1 (ci := ci) (q0 := x) hc (by rw [qat G ad w hx, hs]), fun U hU hW => ⟨rfl, by rw [hU], by rw [hU]; exact hR.1, va_K.moved hW.alike hK, by rw [hU]; exact qX_go hX hW hS.2.1 (qAdr_mono hS.1)⟩⟩ rfl rfl hsz hst (lv_room hcat) hdg hf) hS (fun q _ h => qAdr_mono hS.1 q h) (qAdr_mono hS.1) (fun q _ h => qAdr_mono hS.1 q h) (fun E ce q9 u t H1 locs1 ht hvm hp hB hz1 hk1 hS1 hce hcv hcl => ?_) (fun r1 u t H1 locs1 ht hvm hw hB hz1 hk1 hS1 => ?_)
  · obtain ⟨hE, hB⟩ := hB
    subst hE
    rw [ht] at hB
    exact kx hp H1 locs1 ce q9 hz1 hk1 ⟨hB, hS1⟩ hce hcv hcl
  · obtain ⟨h0, rfl⟩ := hw
    rw [ht] at hB
    exact kk h0 H1 locs1 hz1 hk1 ⟨hB, hS1⟩
theorem q_ki {y : MethodName} {bytes : ByteArray} {maxL d mc ms index x ci : Nat} {ret : Option FieldType} {As st : List Value} {r : Int32} {w2 : qMem} {fs : List Value} {q : vw_C} (hC : qCx p c0 cc nL s m args meth own D G ad) (hR : qRp D G ad s w H locs)
    (hM : qCMi l D G ad y bytes maxL ret d mc ms (.ref (ad x) :: As) w r w2) (hx : x < 247) (hs : qshp G ad (w x) x = .inr (ci, fs)) (hc : vwCl[ci]? = some q) (hlk : Cond.methodLink own index y ∈ lw_gd) (hin : Cond.instanceMethod y ∈ lw_gd) (hse : Cond.selects q.1 y y ∈ lw_gd) (hini : Cond.initialized y.cls ∈ lw_gd) (hcode : Cond.code y bytes maxL ret ∈ lw_gd)
    (hd : y.cls ≠ "java/lang/invoke/MethodHandle" ∧ y.cls ≠ "java/lang/invoke/VarHandle" ∧ (parseMethodDescriptor y.desc).map (fun d => d.parameters.length) = some As.length) (hroom : d + 1 ≤ R.frames ∧ 8 + (maxL + 11) + 40 * d ≤ R.locals) (hsz : ls.size = nL) (hst : st = As.reverse ++ .ref (ad x) :: rest) (hcat : (rest.map fun v => v.category).sum ≤ 8) (hdg : decode cc pc = .ok (.invokevirtual index, 3)) (hf : cells + mc ≤ R.cells ∧ slots + ms ≤ R.slots)
    (kk : ∀ (H1 : Heap) (locs1 : List Loc), H.size ≤ H1.size → (∀ a : Nat, a < H.size → ¬ qAdr ad H.size a → H1[a]? = H[a]?) → qRp D G ad s w2 H1 locs1 → W p l e R s m args below meth c0 H1 locs1 (cells + mc) (slots + ms) Q (F0 m (pc + 3) ls (.int r :: rest))) : W p l e R s m args below meth c0 H locs cells slots Q (F0 m pc ls st) := by
  obtain ⟨hx1, hb, hml, hown, hts, hlo, hK, hJ, hX⟩ := hC
  have hcB : CallB R s args own index y bytes maxL ret (Cond.code y bytes maxL ret :: lw_gd) (qrm d mc ms) mc ms As.length := callB_of As.length hts (q_goodIn hcode) rfl rfl rfl (hts _ hini) (hts _ hlk) hd hroom
  have hS := hR.2
  let sH : State := { s with heap := H }
  refine va_calli (va_runV (As := As) (rest := rest) (C := q.1) (Ts := lw_gd) ⟨hx1, hb, hml, hown, hts⟩ (hM sH) ⟨hcB, hts _ hin, hts _ hse⟩ ⟨qpre_blind, va_recv hK hR.1 (ci := ci) (q0 := x) hc (by rw [qat G ad w hx, hs]), fun U hU hW => ⟨rfl, by rw [hU], by rw [hU]; exact hR.1, va_K.moved hW.alike hK, by rw [hU]; exact qX_go hX hW hS.2.1 (qAdr_mono hS.1)⟩⟩ rfl rfl hsz hst (lv_room hcat) hdg hf) hS (fun q _ h => qAdr_mono hS.1 q h) (qAdr_mono hS.1) (fun r1 u t H1 locs1 ht hvm hw hB hz1 hk1 hS1 => ?_)
  subst hw
  rw [ht] at hB
  exact kk H1 locs1 hz1 hk1 ⟨hB, hS1⟩
theorem q_kd {y : MethodName} {bytes : ByteArray} {maxL d mc ms index x ci : Nat} {ret : Option FieldType} {As st : List Value} {r : UInt64} {w2 : qMem} {fs : List Value} {q : vw_C} (hC : qCx p c0 cc nL s m args meth own D G ad) (hR : qRp D G ad s w H locs)
    (hM : qCMd l D G ad y bytes maxL ret d mc ms (.ref (ad x) :: As) w r w2) (hx : x < 247) (hs : qshp G ad (w x) x = .inr (ci, fs)) (hc : vwCl[ci]? = some q) (hlk : Cond.methodLink own index y ∈ lw_gd) (hin : Cond.instanceMethod y ∈ lw_gd) (hse : Cond.selects q.1 y y ∈ lw_gd) (hini : Cond.initialized y.cls ∈ lw_gd) (hcode : Cond.code y bytes maxL ret ∈ lw_gd)
    (hd : y.cls ≠ "java/lang/invoke/MethodHandle" ∧ y.cls ≠ "java/lang/invoke/VarHandle" ∧ (parseMethodDescriptor y.desc).map (fun d => d.parameters.length) = some As.length) (hroom : d + 1 ≤ R.frames ∧ 8 + (maxL + 11) + 40 * d ≤ R.locals) (hsz : ls.size = nL) (hst : st = As.reverse ++ .ref (ad x) :: rest) (hcat : (rest.map fun v => v.category).sum ≤ 8) (hdg : decode cc pc = .ok (.invokevirtual index, 3)) (hf : cells + mc ≤ R.cells ∧ slots + ms ≤ R.slots)
    (kk : ∀ (H1 : Heap) (locs1 : List Loc), H.size ≤ H1.size → (∀ a : Nat, a < H.size → ¬ qAdr ad H.size a → H1[a]? = H[a]?) → qRp D G ad s w2 H1 locs1 → W p l e R s m args below meth c0 H1 locs1 (cells + mc) (slots + ms) Q (F0 m (pc + 3) ls (.double r :: rest))) : W p l e R s m args below meth c0 H locs cells slots Q (F0 m pc ls st) := by
  obtain ⟨hx1, hb, hml, hown, hts, hlo, hK, hJ, hX⟩ := hC
  have hcB : CallB R s args own index y bytes maxL ret (Cond.code y bytes maxL ret :: lw_gd) (qrm d mc ms) mc ms As.length := callB_of As.length hts (q_goodIn hcode) rfl rfl rfl (hts _ hini) (hts _ hlk) hd hroom
  have hS := hR.2
  let sH : State := { s with heap := H }
  refine va_calld (va_runV (As := As) (rest := rest) (C := q.1) (Ts := lw_gd) ⟨hx1, hb, hml, hown, hts⟩ (hM sH) ⟨hcB, hts _ hin, hts _ hse⟩ ⟨qpre_blind, va_recv hK hR.1 (ci := ci) (q0 := x) hc (by rw [qat G ad w hx, hs]), fun U hU hW => ⟨rfl, by rw [hU], by rw [hU]; exact hR.1, va_K.moved hW.alike hK, by rw [hU]; exact qX_go hX hW hS.2.1 (qAdr_mono hS.1)⟩⟩ rfl rfl hsz hst (lv_room hcat) hdg hf) hS (fun q _ h => qAdr_mono hS.1 q h) (qAdr_mono hS.1) (fun r1 u t H1 locs1 ht hvm hw hB hz1 hk1 hS1 => ?_)
  subst hw
  rw [ht] at hB
  exact kk H1 locs1 hz1 hk1 ⟨hB, hS1⟩
theorem q_kf {y : MethodName} {bytes : ByteArray} {maxL d mc ms index x ci : Nat} {ret : Option FieldType} {As st : List Value} {r : UInt32} {w2 : qMem} {fs : List Value} {q : vw_C} (hC : qCx p c0 cc nL s m args meth own D G ad) (hR : qRp D G ad s w H locs)
    (hM : qCMf l D G ad y bytes maxL ret d mc ms (.ref (ad x) :: As) w r w2) (hx : x < 247) (hs : qshp G ad (w x) x = .inr (ci, fs)) (hc : vwCl[ci]? = some q) (hlk : Cond.methodLink own index y ∈ lw_gd) (hin : Cond.instanceMethod y ∈ lw_gd) (hse : Cond.selects q.1 y y ∈ lw_gd) (hini : Cond.initialized y.cls ∈ lw_gd) (hcode : Cond.code y bytes maxL ret ∈ lw_gd)
    (hd : y.cls ≠ "java/lang/invoke/MethodHandle" ∧ y.cls ≠ "java/lang/invoke/VarHandle" ∧ (parseMethodDescriptor y.desc).map (fun d => d.parameters.length) = some As.length) (hroom : d + 1 ≤ R.frames ∧ 8 + (maxL + 11) + 40 * d ≤ R.locals) (hsz : ls.size = nL) (hst : st = As.reverse ++ .ref (ad x) :: rest) (hcat : (rest.map fun v => v.category).sum ≤ 8) (hdg : decode cc pc = .ok (.invokevirtual index, 3)) (hf : cells + mc ≤ R.cells ∧ slots + ms ≤ R.slots)
    (kk : ∀ (H1 : Heap) (locs1 : List Loc), H.size ≤ H1.size → (∀ a : Nat, a < H.size → ¬ qAdr ad H.size a → H1[a]? = H[a]?) → qRp D G ad s w2 H1 locs1 → W p l e R s m args below meth c0 H1 locs1 (cells + mc) (slots + ms) Q (F0 m (pc + 3) ls (.float r :: rest))) : W p l e R s m args below meth c0 H locs cells slots Q (F0 m pc ls st) := by
  obtain ⟨hx1, hb, hml, hown, hts, hlo, hK, hJ, hX⟩ := hC
  have hcB : CallB R s args own index y bytes maxL ret (Cond.code y bytes maxL ret :: lw_gd) (qrm d mc ms) mc ms As.length := callB_of As.length hts (q_goodIn hcode) rfl rfl rfl (hts _ hini) (hts _ hlk) hd hroom
  have hS := hR.2
  let sH : State := { s with heap := H }
  refine va_callf (va_runV (As := As) (rest := rest) (C := q.1) (Ts := lw_gd) ⟨hx1, hb, hml, hown, hts⟩ (hM sH) ⟨hcB, hts _ hin, hts _ hse⟩ ⟨qpre_blind, va_recv hK hR.1 (ci := ci) (q0 := x) hc (by rw [qat G ad w hx, hs]), fun U hU hW => ⟨rfl, by rw [hU], by rw [hU]; exact hR.1, va_K.moved hW.alike hK, by rw [hU]; exact qX_go hX hW hS.2.1 (qAdr_mono hS.1)⟩⟩ rfl rfl hsz hst (lv_room hcat) hdg hf) hS (fun q _ h => qAdr_mono hS.1 q h) (qAdr_mono hS.1) (fun r1 u t H1 locs1 ht hvm hw hB hz1 hk1 hS1 => ?_)
  subst hw
  rw [ht] at hB
  exact kk H1 locs1 hz1 hk1 ⟨hB, hS1⟩
theorem q_outL (hC : qCx p c0 cc nL s m args meth own D G ad) (hR : qRp D G ad s w H locs) {o : Nat} {cA : ClassId} {f : Nat → Int64} {x : Int64} (hO : qOut o cA .long (1, .inr (.inl f)) (qAdr ad H.size) s H) (hdg : decode cc pc = .ok (.lastore, 1))
    (kk : ∀ (H1 : Heap) (locs1 : List Loc), va_P D vwCl (qcells G ad w) H1 → va_S (qAdo ad o s.heap.size) s.heap H1 locs1 → qOut o cA .long (1, .inr (.inl (vp_updL f 0 x))) (qAdr ad H1.size) s H1 → W p l e R s m args below meth c0 H1 locs1 cells slots Q (F0 m (pc + 1) ls rest)) : W p l e R s m args below meth c0 H locs cells slots Q (F0 m pc ls (.long x :: .int 0 :: .ref o :: rest)) := by
  obtain ⟨hn, hK1, ho, hA⟩ := hO
  have hK : va_K D vwCl (qtys G ++ [(cA, .long)]) s := va_K.app hC.2.2.2.2.2.2.1 ⟨hC.2.2.2.2.2.2.1.1, hK1.2⟩
  have hol : o < H.size := (Array.getElem?_eq_some_iff.mp ho).1
  have hoa : ∀ k : Nat, k < 247 → o ≠ ad k := fun k hk e => hA (Or.inl ⟨k, hk, e⟩)
  have hP : va_P D vwCl (qcells G ad w ++ [(o, .inl (cA, 1, .inr (.inl f)))]) H := va_P.app hR.1 (fun k q hk => by
    have hz : k < 1 := (List.getElem?_eq_some_iff.mp hk).1
    rw [show k = 0 by omega] at hk
    cases hk
    exact ho)
  have hS : va_S (qAdo ad o s.heap.size) s.heap H locs := ⟨hR.2.1, fun q h1 h2 => hR.2.2.1 q h1 (fun h => h2 (Or.inr h)), fun z hz => Or.inr (hR.2.2.2 z hz)⟩
  refine va_last hC.1 hC.2.1 hK hP (qDo w (qJ hC) hoa) hS 247 6 qlast rfl (qin_t (n := 1) (by decide)) hdg (fun H1 locs1 hP1 hD1 hS1 => ?_)
  rw [qlastset] at hP1
  have ho1 : H1[o]? = some (vp_cell cA (1, .inr (.inl (vp_updL f 0 x)))) := hP1 247 _ qlast
  exact kk H1 locs1 (qfst hP1) hS1 ⟨hn, hK1, ho1, fun h => h.elim (fun ⟨k, hk, e⟩ => hoa k hk e) (fun h => absurd (Array.getElem?_eq_some_iff.mp ho1).1 (Nat.not_lt.mpr h))⟩
theorem q_outD (hC : qCx p c0 cc nL s m args meth own D G ad) (hR : qRp D G ad s w H locs) {o : Nat} {cA : ClassId} {f : Nat → UInt64} {x : UInt64} (hO : qOut o cA .double (1, .inr (.inr (.inr (.inl f)))) (qAdr ad H.size) s H) (hdg : decode cc pc = .ok (.dastore, 1))
    (kk : ∀ (H1 : Heap) (locs1 : List Loc), va_P D vwCl (qcells G ad w) H1 → va_S (qAdo ad o s.heap.size) s.heap H1 locs1 → qOut o cA .double (1, .inr (.inr (.inr (.inl (vf_upd f 0 x))))) (qAdr ad H1.size) s H1 → W p l e R s m args below meth c0 H1 locs1 cells slots Q (F0 m (pc + 1) ls rest)) : W p l e R s m args below meth c0 H locs cells slots Q (F0 m pc ls (.double x :: .int 0 :: .ref o :: rest)) := by
  obtain ⟨hn, hK1, ho, hA⟩ := hO
  have hK : va_K D vwCl (qtys G ++ [(cA, .double)]) s := va_K.app hC.2.2.2.2.2.2.1 ⟨hC.2.2.2.2.2.2.1.1, hK1.2⟩
  have hol : o < H.size := (Array.getElem?_eq_some_iff.mp ho).1
  have hoa : ∀ k : Nat, k < 247 → o ≠ ad k := fun k hk e => hA (Or.inl ⟨k, hk, e⟩)
  have hP : va_P D vwCl (qcells G ad w ++ [(o, .inl (cA, 1, .inr (.inr (.inr (.inl f)))))]) H := va_P.app hR.1 (fun k q hk => by
    have hz : k < 1 := (List.getElem?_eq_some_iff.mp hk).1
    rw [show k = 0 by omega] at hk
    cases hk
    exact ho)
  have hS : va_S (qAdo ad o s.heap.size) s.heap H locs := ⟨hR.2.1, fun q h1 h2 => hR.2.2.1 q h1 (fun h => h2 (Or.inr h)), fun z hz => Or.inr (hR.2.2.2 z hz)⟩
  refine va_dast hC.1 hC.2.1 hK hP (qDo w (qJ hC) hoa) hS 247 6 qlast rfl (qin_t (n := 1) (by decide)) hdg (fun H1 locs1 hP1 hD1 hS1 => ?_)
  rw [qlastset] at hP1
  have ho1 : H1[o]? = some (vp_cell cA (1, .inr (.inr (.inr (.inl (vf_upd f 0 x)))))) := hP1 247 _ qlast
  exact kk H1 locs1 (qfst hP1) hS1 ⟨hn, hK1, ho1, fun h => h.elim (fun ⟨k, hk, e⟩ => hoa k hk e) (fun h => absurd (Array.getElem?_eq_some_iff.mp ho1).1 (Nat.not_lt.mpr h))⟩
theorem q_endL {mc ms : Nat} {k v : Int32} {w1 : qMem} {o : Nat} {cA : ClassId} {ty : FieldType} {a : vp_A} {PA : vp_A → Prop} (hC : qCx p c0 cc nL s m args meth own D G ad) (hP : va_P D vwCl (qcells G ad w) H) (hS : va_S (qAdo ad o s.heap.size) s.heap H locs) (hO : qOut o cA ty a (qAdr ad H.size) s H) (hPA : PA a) (hw : w = w1) (hr : meth.sig.returnType = some .int) (hv : v = k) (hc : cells ≤ mc) (hs : slots ≤ ms) (hdg : decode cc pc = .ok (.ireturn, 1)) :
    W p l e R s m args below meth c0 H locs cells slots (MQ below (va_Qi (S := Unit) (fun r1 _ => r1 = k) (fun _ t => va_P D vwCl (qcells G ad w1) t.heap ∧ ∃ a1, PA a1 ∧ qOut o cA ty a1 (qAdr ad t.heap.size) t t.heap) (qAdo ad o s.heap.size)) args s mc ms (qAdo ad o s.heap.size)) (F0 m pc ls [.int v]) := by
  subst hw; subst hv
  refine W.widen hc hs ?_
  exact W.zret hC.1 hC.2.1 hr rfl (fun t ht hW => ⟨⟨v, (), rfl, rfl, by rw [ht]; exact hP, a, hPA, by rw [ht]; exact qOut_k _ _ s t H H hO hW.alike (fun _ _ _ => rfl) (fun _ h => h)⟩, hS.F ht⟩) hS.2.2 hdg hC.2.2.2.2.2.1
theorem qS_do {o : Nat} (hR : qRp D G ad s w H locs) : va_S (qAdo ad o s.heap.size) s.heap H locs := ⟨hR.2.1, fun q h1 h2 => hR.2.2.1 q h1 (fun h => h2 (Or.inr h)), fun z hz => Or.inr (hR.2.2.2 z hz)⟩
end
