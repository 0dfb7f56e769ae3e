section
variable {p : Program} {l : Launch} {e : Env} {R : Room} {s : State} {m : MethodId} {args : Array Value} {below : List Frame} {meth : Method} {c : Code} {H : Heap} {locs : List Loc} {cells slots : Nat} {Q : State → Prop}
variable {mc ms : Nat} {free : Addr → Prop} {A0 A1 : Nat → Prop} {H0 : Heap} {a : Array Value} {pc : Nat} {ls : Array Slot} {st0 rest : List Value}
theorem q_xcallr {S SX : Type} {post : S → Prop} {px : SX → Prop} {B : S → Nat → State → Prop} {BX : String → SX → State → Prop} {AX : Nat → Prop} (hr : vx_Run p l e R s m args below meth c H locs cells slots mc ms (F0 m pc ls st0) rest (va_Qr post B A1 a) (vx_X px BX AX) free) (hS : va_S A0 H0 H locs) (hA : ∀ q, q < H.size → A1 q → A0 q) (hf : ∀ q, free q → A0 q) (hAX : ∀ q, q < H.size → AX q → A0 q)
    (kx : ∀ (E : String) (ce : Cell) (q9 : Addr) (u : SX) (t : State) (H1 : Heap) (locs1 : List Loc), t.heap = H1 → s.vm.Alike t.vm → px u → BX E u t → H.size ≤ H1.size → (∀ q : Nat, q < H.size → ¬ AX q → H1[q]? = H[q]?) → va_S A0 H0 H1 locs1 → H1[q9]? = some ce → ce.vm = .none → s.vm.findClass E = some ce.cls → vx_W p l e R s m args below meth c H1 locs1 (cells + mc) (slots + ms) Q (F0 m pc ls rest) q9)
    (kk : ∀ (u : S) (b : Nat) (t : State) (H1 : Heap) (locs1 : List Loc), t.heap = H1 → s.vm.Alike t.vm → post u → B u b t → H.size ≤ H1.size → (∀ q : Nat, q < H.size → ¬ A1 q → H1[q]? = H[q]?) → va_S A0 H0 H1 locs1 → W p l e R s m args below meth c H1 locs1 (cells + mc) (slots + ms) Q (F0 m (pc + 3) ls (.ref b :: rest))) : W p l e R s m args below meth c H locs cells slots Q (F0 m pc ls st0) := by
  intro T hT X
  rcases hr T hT X with ⟨v, st₀, t, T', L, h0, X', hL, e1, e2, ⟨⟨u, b, hv, hp, hb⟩, hF⟩, st⟩ | ⟨q, st₀, t, T', L, E, ce, h0, X', hL, e1, e2, ⟨u, hp, hb, hF⟩, hce, hcv, hcl, st⟩
  · cases hv
    obtain ⟨k1, k2, k3⟩ := vx_keep h0 e1 hS hA hf hL hF
    obtain ⟨t2, a1, b1⟩ := kk u b t T'.heap (locs ++ L) e1.symm (by rw [← e2]; exact X'.warmed.alike) hp hb k1 k2 k3 T' rfl X'
    exact ⟨t2, st t2 a1, b1⟩
  · obtain ⟨k1, k2, k3⟩ := vx_keep h0 e1 hS hAX hf hL hF
    obtain ⟨t2, a1, b1⟩ := kx E ce q u t T'.heap (locs ++ L) e1.symm (by rw [← e2]; exact X'.warmed.alike) hp hb k1 k2 k3 (by rw [e1]; exact hce) hcv hcl T' rfl X'
    exact ⟨t2, st.trans a1, b1⟩
end
def qbd3 {α γ δ β : Type} (o : Option (α × γ × δ)) (k : α → γ → δ → Option β) : Option β := match o with | none => none | some (x, y, z) => k x y z
theorem qbd3_s {α γ δ β : Type} {o : Option (α × γ × δ)} {k : α → γ → δ → Option β} {r : β} (h : qbd3 o k = some r) : ∃ x y z, o = some (x, y, z) ∧ k x y z = some r := by
  match o, h with
  | none, h => cases h
  | some (x, y, z), h => exact ⟨x, y, z, rfl, h⟩
theorem qso3 {α β γ : Type} {a r : α} {b t : β} {c u : γ} (h : some (a, b, c) = some (r, t, u)) : a = r ∧ b = t ∧ c = u := by cases h; exact ⟨rfl, rfl, rfl⟩
/-- the exceptions that the class throws, by their numbers -/
def qexn : Nat → String
  | 1 => "java/lang/IllegalArgumentException"
  | 2 => "java/lang/UnsupportedOperationException"
  | 3 => "java/lang/IndexOutOfBoundsException"
  | 4 => "java/util/NoSuchElementException"
  | 5 => "java/lang/IllegalStateException"
  | _ => "java/lang/ArithmeticException"
def qxw (own : String) (ic : Nat) (E : String) : List Cond := vx_atS own ic E ["java/lang/RuntimeException", "java/lang/Exception"]
def qxwN (own : String) (ic : Nat) (E : String) : List Cond := (q_ownN own ic E "java/lang/RuntimeException" 13 prog_35_method_4_code ["java/lang/Exception"]).filter vx_no
abbrev qXC (D : va_G) (G : Nat → ClassId) (ad : Nat → Nat) (st : State) (code : Nat) (w1 : qMem) : String → State → State → Prop := vx_X (S := Unit) (fun _ => code ≠ 0) (fun E _ t => E = qexn code ∧ va_P D vwCl (qcells G ad w1) t.heap) (qAdr ad st.heap.size)
abbrev qxQI (D : va_G) (G : Nat → ClassId) (ad : Nat → Nat) (s : State) (code : Nat) (r : Int32) (w1 : qMem) : Array Value → State → Outcome → State → Prop := va_Qi (S := Unit) (fun r1 _ => code = 0 ∧ r1 = r) (fun _ t => va_P D vwCl (qcells G ad w1) t.heap) (qAdr ad s.heap.size)
abbrev qxQV (D : va_G) (G : Nat → ClassId) (ad : Nat → Nat) (s : State) (code : Nat) (w1 : qMem) : Array Value → State → Outcome → State → Prop := va_Qv (S := Unit) (fun _ => code = 0) (fun _ t => va_P D vwCl (qcells G ad w1) t.heap) (qAdr ad s.heap.size)
abbrev qxQR (D : va_G) (G : Nat → ClassId) (ad : Nat → Nat) (s : State) (code : Nat) (x : Nat) (w1 : qMem) : Array Value → State → Outcome → State → Prop := va_Qr (S := Unit) (fun _ => code = 0) (fun _ a t => a = ad x ∧ va_P D vwCl (qcells G ad w1) t.heap) (qAdr ad s.heap.size)
abbrev qxQD (D : va_G) (G : Nat → ClassId) (ad : Nat → Nat) (s : State) (code : Nat) (r : UInt64) (w1 : qMem) : Array Value → State → Outcome → State → Prop := va_Qd (S := Unit) (fun r1 _ => code = 0 ∧ r1 = r) (fun _ t => va_P D vwCl (qcells G ad w1) t.heap) (qAdr ad s.heap.size)
abbrev qxQF (D : va_G) (G : Nat → ClassId) (ad : Nat → Nat) (s : State) (code : Nat) (r : UInt32) (w1 : qMem) : Array Value → State → Outcome → State → Prop := va_Qf (S := Unit) (fun r1 _ => code = 0 ∧ r1 = r) (fun _ t => va_P D vwCl (qcells G ad w1) t.heap) (qAdr ad s.heap.size)
def qCX (l : Launch) (D : va_G) (G : Nat → ClassId) (ad : Nat → Nat) (y : MethodName) (cc : ByteArray) (maxL : Nat) (ret : Option FieldType) (d mc ms : Nat) (av : List Value) (w : qMem) (Qc : State → Array Value → State → Outcome → State → Prop) (code : Nat) (w1 : qMem) : Prop :=
  ∀ st : State, vx_Met l y (Cond.code y cc maxL ret :: lw_gd) (qrm d mc ms) (va_Pc av (qpre D G ad w st.heap.size)) (Qc st) (qXC D G ad st code w1) mc ms (qAdr ad st.heap.size)
theorem qP_kept {D : va_G} {G : Nat → ClassId} {ad : Nat → Nat} {w : qMem} {H H1 : Heap} (h : va_P D vwCl (qcells G ad w) H) (hq : ∀ q : Nat, q < H.size → H1[q]? = H[q]?) : va_P D vwCl (qcells G ad w) H1 := fun k q hk => (h k q hk).kept (hq _ (h k q hk).lt)
theorem qx_start {l : Launch} {D : va_G} {G : Nat → ClassId} {ad : Nat → Nat} {y : MethodName} {cc : ByteArray} {maxL : Nat} {ret : Option FieldType} {d mc ms : Nat} {av : List Value} {w w1 : qMem} {code : Nat} {Qc : State → Array Value → State → Outcome → State → Prop} (own : String) (hown : y.cls = own) (hy : plainName y.cls = true) (hJ : qInj ad) (hQ : ∀ s st : State, s.heap.size = st.heap.size → Qc s = Qc st) (hlen : (lg_sl av).length ≤ maxL)
    (body : ∀ (p : Program) (e : Env) (s : State) (m : MethodId) (args : Array Value) (below : List Frame) (meth : Method) (c : Code) (ls : Array Slot), qCx p c cc maxL s m args meth own D G ad → meth.sig.returnType = ret → (∀ x ∈ c.exceptionTable.toList, False) → qRp D G ad s w s.heap [] → lv_has ls maxL (lv_args 0 av) → W p l e (qrm d mc ms) s m args below meth c s.heap [] 0 0 (vx_MQ below (Qc s) (qXC D G ad s code w1) args s mc ms (qAdr ad s.heap.size)) (F0 m 0 ls [])) :
    qCX l D G ad y cc maxL ret d mc ms av w Qc code w1 := by
  intro st
  refine vx_ofW (cc := cc) (maxL := maxL) (ret := ret) hy rfl ?_
  intro p e s m args below meth c s₁ B hml ht hv
  obtain ⟨rfl, hsz, hP, hK, hX⟩ := hv
  have hts := atoms_spec (ws := Cond.code y cc maxL ret :: lw_gd) B.pre
  have hC : qCx p c cc maxL s m av.toArray meth own D G ad := ⟨B.exec, B.bytes, hml, by rw [← hown]; exact findClass_of_methodNamed B.named, fun w hw => hts w (List.mem_cons_of_mem _ hw), B.notSynchronized, hK, hJ, by rw [hsz]; exact hX⟩
  have hl := lv_entry av (n := maxL) hlen
  rw [lg_entry_eq]
  have := body p e s m av.toArray below meth c _ hC B.returns ht ⟨hP, va_S.rf⟩ hl
  rw [hQ s st hsz] at this
  simp only [qXC, hsz] at this ⊢
  exact this
section
variable {p : Program} {l : Launch} {e : Env} {R : Room} {s : State} {m : MethodId} {args : Array Value} {below : List Frame} {meth : Method} {c0 : Code} {H : Heap} {locs : List Loc} {cells slots : Nat} {Q : State → Prop} {pc nL : Nat} {ls : Array Slot} {rest : List Value} {cc : ByteArray} {own : String} {D : va_G} {G : Nat → ClassId} {ad : Nat → Nat} {w w1 : qMem} {code mc ms : Nat}
theorem q_throw (hC : qCx p c0 cc nL s m args meth own D G ad) (hR : qRp D G ad s w H locs) (hl : l.stackTraces = false) (ht : ∀ x ∈ c0.exceptionTable.toList, False) {E text : String} {ik is ic i : Nat} {Qc : Array Value → State → Outcome → State → Prop} (hE : qexn code = E) (h0 : code ≠ 0) (hw : w = w1) (hcls : Bundle.fit E = true) (hk : Cond.classLink own ik E ∈ lw_gd) (hini : Cond.initialized E ∈ lw_gd) (hstr : (own, is, text, i) ∈ qstr)
    (hat : ∀ w ∈ qxw own ic E, w ∈ lw_gd ∨ w ∈ lw_ct) (hsize : ls.size = nL)
    (d0 : decode cc pc = .ok (.new ik, 3)) (d3 : decode cc (pc + 3) = .ok (.dup, 1)) (d4 : decode cc (pc + 4) = .ok (.ldc is, 2)) (d6 : decode cc (pc + 6) = .ok (.invokespecial ic, 3)) (d9 : decode cc (pc + 9) = .ok (.athrow, 1))
    (hRframes : 5 < R.frames) (hRlocals : (rest.map fun v => v.category).sum + 82 ≤ R.locals) (hRcells : cells + 1 ≤ R.cells) (hRslots : slots + 6 ≤ R.slots) (hc : cells + 1 ≤ mc) (hs : slots + 6 ≤ ms) :
    W p l e R s m args below meth c0 H locs cells slots (vx_MQ below Qc (qXC D G ad s code w1) args s mc ms (qAdr ad s.heap.size)) (F0 m pc ls rest) := by
  obtain ⟨hx1, hb, hml, hown, hts, hlo, hK, hJ, hX⟩ := hC
  subst hw
  have hgd : ∀ w ∈ lw_gd, vx_ot w = true := fun w hw => by simp [vx_ot, (List.mem_filter.mp hw).2]
  have hct : ∀ w ∈ lw_ct, vx_ot w = true := fun w hw => by simp [vx_ot, q_kp_tab (List.mem_filter.mp hw).2]
  refine vx_throwS (names := ["java/lang/RuntimeException", "java/lang/Exception"]) (A := qAdr ad s.heap.size) hx1 hb hl hown hcls (by decide) (hts _ hk) (hts _ hini) (hX.2.1 _ hstr) (fun w hw => (hat w hw).elim (hts w) (fun h => va_Nw.use (q_kp_tab (List.mem_filter.mp h).2) (hX.2.2.2.2 w h))) (fun w hw => ?_) hX.2.2.1 hX.2.2.2.1 hR.2 (hsize.trans hml.symm) d0 d3 d4 d6 d9 (fun x hx => (ht x hx).elim) hRframes hRlocals hRcells hRslots hlo (fun t hvm hz hq => ⟨(), h0, ⟨hE.symm, qP_kept hR.1 hq⟩, ⟨Nat.le_trans hR.2.1 hz, fun q h1 h2 => (hq q (Nat.lt_of_lt_of_le h1 hR.2.1)).trans (hR.2.2.1 q h1 h2)⟩⟩) hR.2.2.2 hc hs
  rcases List.mem_cons.mp hw with rfl | hw
  · exact hgd _ hk
  · rcases List.mem_cons.mp hw with rfl | hw
    · exact hgd _ hini
    · exact (hat w hw).elim (hgd w) (hct w)
theorem q_throwW (hC : qCx p c0 cc nL s m args meth own D G ad) (hR : qRp D G ad s w H locs) (hl : l.stackTraces = false) (ht : ∀ x ∈ c0.exceptionTable.toList, False) {E text : String} {ik is ic i : Nat} {Qc : Array Value → State → Outcome → State → Prop} (hE : qexn code = E) (h0 : code ≠ 0) (hw : w = w1) (hcls : Bundle.fit E = true) (hk : Cond.classLink own ik E ∈ lw_gd) (hini : Cond.initialized E ∈ lw_gd) (hstr : (own, is, text, i) ∈ qstr)
    (hat : ∀ w ∈ qxw own ic E, w ∈ lw_gd ∨ w ∈ lw_ct) (hsize : ls.size = nL)
    (d0 : decode cc pc = .ok (.new ik, 3)) (d3 : decode cc (pc + 3) = .ok (.dup, 1)) (d4 : decode cc (pc + 4) = .ok (.ldc_w is, 3)) (d6 : decode cc (pc + 7) = .ok (.invokespecial ic, 3)) (d9 : decode cc (pc + 10) = .ok (.athrow, 1))
    (hRframes : 5 < R.frames) (hRlocals : (rest.map fun v => v.category).sum + 82 ≤ R.locals) (hRcells : cells + 1 ≤ R.cells) (hRslots : slots + 6 ≤ R.slots) (hc : cells + 1 ≤ mc) (hs : slots + 6 ≤ ms) :
    W p l e R s m args below meth c0 H locs cells slots (vx_MQ below Qc (qXC D G ad s code w1) args s mc ms (qAdr ad s.heap.size)) (F0 m pc ls rest) := by
  obtain ⟨hx1, hb, hml, hown, hts, hlo, hK, hJ, hX⟩ := hC
  subst hw
  have hgd : ∀ w ∈ lw_gd, vx_ot w = true := fun w hw => by simp [vx_ot, (List.mem_filter.mp hw).2]
  have hct : ∀ w ∈ lw_ct, vx_ot w = true := fun w hw => by simp [vx_ot, q_kp_tab (List.mem_filter.mp hw).2]
  refine vx_throwSW (names := ["java/lang/RuntimeException", "java/lang/Exception"]) (A := qAdr ad s.heap.size) hx1 hb hl hown hcls (by decide) (hts _ hk) (hts _ hini) (hX.2.1 _ hstr) (fun w hw => (hat w hw).elim (hts w) (fun h => va_Nw.use (q_kp_tab (List.mem_filter.mp h).2) (hX.2.2.2.2 w h))) (fun w hw => ?_) hX.2.2.1 hX.2.2.2.1 hR.2 (hsize.trans hml.symm) d0 d3 d4 d6 d9 (fun x hx => (ht x hx).elim) hRframes hRlocals hRcells hRslots hlo (fun t hvm hz hq => ⟨(), h0, ⟨hE.symm, qP_kept hR.1 hq⟩, ⟨Nat.le_trans hR.2.1 hz, fun q h1 h2 => (hq q (Nat.lt_of_lt_of_le h1 hR.2.1)).trans (hR.2.2.1 q h1 h2)⟩⟩) hR.2.2.2 hc hs
  rcases List.mem_cons.mp hw with rfl | hw
  · exact hgd _ hk
  · rcases List.mem_cons.mp hw with rfl | hw
    · exact hgd _ hini
    · exact (hat w hw).elim (hgd w) (hct w)
theorem q_throwN (hC : qCx p c0 cc nL s m args meth own D G ad) (hR : qRp D G ad s w H locs) (hl : l.stackTraces = false) (ht : ∀ x ∈ c0.exceptionTable.toList, False) {E text : String} {ik is ic i : Nat} {Qc : Array Value → State → Outcome → State → Prop} (hE : qexn code = E) (h0 : code ≠ 0) (hw : w = w1) (hcls : Bundle.fit E = true) (hk : Cond.classLink own ik E ∈ lw_gd) (hini : Cond.initialized E ∈ lw_gd) (hstr : (own, is, text, i) ∈ qstr)
    (hat : ∀ w ∈ qxwN own ic E, w ∈ lw_gd ∨ w ∈ lw_ct) (hsize : ls.size = nL)
    (d0 : decode cc pc = .ok (.new ik, 3)) (d3 : decode cc (pc + 3) = .ok (.dup, 1)) (d4 : decode cc (pc + 4) = .ok (.ldc is, 2)) (d6 : decode cc (pc + 6) = .ok (.invokespecial ic, 3)) (d9 : decode cc (pc + 9) = .ok (.athrow, 1))
    (hRframes : 5 < R.frames) (hRlocals : (rest.map fun v => v.category).sum + 82 ≤ R.locals) (hRcells : cells + 1 ≤ R.cells) (hRslots : slots + 6 ≤ R.slots) (hc : cells + 1 ≤ mc) (hs : slots + 6 ≤ ms) :
    W p l e R s m args below meth c0 H locs cells slots (vx_MQ below Qc (qXC D G ad s code w1) args s mc ms (qAdr ad s.heap.size)) (F0 m pc ls rest) := by
  obtain ⟨hx1, hb, hml, hown, hts, hlo, hK, hJ, hX⟩ := hC
  subst hw
  have hgd : ∀ w ∈ lw_gd, vx_ot w = true := fun w hw => by simp [vx_ot, (List.mem_filter.mp hw).2]
  have hct : ∀ w ∈ lw_ct, vx_ot w = true := fun w hw => by simp [vx_ot, q_kp_tab (List.mem_filter.mp hw).2]
  refine q_throwNS (names := ["java/lang/Exception"]) (A := qAdr ad s.heap.size) hx1 hb hl (YC := "java/lang/RuntimeException") (ix := 13) (rx := prog_35_method_4_code) (by decide +kernel) (by decide +kernel) (by decide +kernel) (by decide +kernel) (by decide) hown hcls (by decide) (hts _ hk) (hts _ hini) (hX.2.1 _ hstr) (fun w hw => (hat w hw).elim (hts w) (fun h => va_Nw.use (q_kp_tab (List.mem_filter.mp h).2) (hX.2.2.2.2 w h))) (fun w hw => ?_) hX.2.2.1 hX.2.2.2.1 hR.2 (hsize.trans hml.symm) d0 d3 d4 d6 d9 (fun x hx => (ht x hx).elim) hRframes hRlocals hRcells hRslots hlo (fun t hvm hz hq => ⟨(), h0, ⟨hE.symm, qP_kept hR.1 hq⟩, ⟨Nat.le_trans hR.2.1 hz, fun q h1 h2 => (hq q (Nat.lt_of_lt_of_le h1 hR.2.1)).trans (hR.2.2.1 q h1 h2)⟩⟩) hR.2.2.2 hc hs
  rcases List.mem_cons.mp hw with rfl | hw
  · exact hgd _ hk
  · rcases List.mem_cons.mp hw with rfl | hw
    · exact hgd _ hini
    · exact (hat w hw).elim (hgd w) (hct w)
theorem q_throwNW (hC : qCx p c0 cc nL s m args meth own D G ad) (hR : qRp D G ad s w H locs) (hl : l.stackTraces = false) (ht : ∀ x ∈ c0.exceptionTable.toList, False) {E text : String} {ik is ic i : Nat} {Qc : Array Value → State → Outcome → State → Prop} (hE : qexn code = E) (h0 : code ≠ 0) (hw : w = w1) (hcls : Bundle.fit E = true) (hk : Cond.classLink own ik E ∈ lw_gd) (hini : Cond.initialized E ∈ lw_gd) (hstr : (own, is, text, i) ∈ qstr)
    (hat : ∀ w ∈ qxwN own ic E, w ∈ lw_gd ∨ w ∈ lw_ct) (hsize : ls.size = nL)
    (d0 : decode cc pc = .ok (.new ik, 3)) (d3 : decode cc (pc + 3) = .ok (.dup, 1)) (d4 : decode cc (pc + 4) = .ok (.ldc_w is, 3)) (d6 : decode cc (pc + 7) = .ok (.invokespecial ic, 3)) (d9 : decode cc (pc + 10) = .ok (.athrow, 1))
    (hRframes : 5 < R.frames) (hRlocals : (rest.map fun v => v.category).sum + 82 ≤ R.locals) (hRcells : cells + 1 ≤ R.cells) (hRslots : slots + 6 ≤ R.slots) (hc : cells + 1 ≤ mc) (hs : slots + 6 ≤ ms) :
    W p l e R s m args below meth c0 H locs cells slots (vx_MQ below Qc (qXC D G ad s code w1) args s mc ms (qAdr ad s.heap.size)) (F0 m pc ls rest) := by
  obtain ⟨hx1, hb, hml, hown, hts, hlo, hK, hJ, hX⟩ := hC
  subst hw
  have hgd : ∀ w ∈ lw_gd, vx_ot w = true := fun w hw => by simp [vx_ot, (List.mem_filter.mp hw).2]
  have hct : ∀ w ∈ lw_ct, vx_ot w = true := fun w hw => by simp [vx_ot, q_kp_tab (List.mem_filter.mp hw).2]
  refine q_throwNSW (names := ["java/lang/Exception"]) (A := qAdr ad s.heap.size) hx1 hb hl (YC := "java/lang/RuntimeException") (ix := 13) (rx := prog_35_method_4_code) (by decide +kernel) (by decide +kernel) (by decide +kernel) (by decide +kernel) (by decide) hown hcls (by decide) (hts _ hk) (hts _ hini) (hX.2.1 _ hstr) (fun w hw => (hat w hw).elim (hts w) (fun h => va_Nw.use (q_kp_tab (List.mem_filter.mp h).2) (hX.2.2.2.2 w h))) (fun w hw => ?_) hX.2.2.1 hX.2.2.2.1 hR.2 (hsize.trans hml.symm) d0 d3 d4 d6 d9 (fun x hx => (ht x hx).elim) hRframes hRlocals hRcells hRslots hlo (fun t hvm hz hq => ⟨(), h0, ⟨hE.symm, qP_kept hR.1 hq⟩, ⟨Nat.le_trans hR.2.1 hz, fun q h1 h2 => (hq q (Nat.lt_of_lt_of_le h1 hR.2.1)).trans (hR.2.2.1 q h1 h2)⟩⟩) hR.2.2.2 hc hs
  rcases List.mem_cons.mp hw with rfl | hw
  · exact hgd _ hk
  · rcases List.mem_cons.mp hw with rfl | hw
    · exact hgd _ hini
    · exact (hat w hw).elim (hgd w) (hct w)
theorem qx_iret {v r : Int32} (hC : qCx p c0 cc nL s m args meth own D G ad) (hR : qRp D G ad s w H locs) {ty : FieldType} (hr : meth.sig.returnType = some ty) (hn : narrow ty (.int v) = .int v) (h0 : code = 0) (hv : v = r) (hw : w = w1) (hdg : decode cc pc = .ok (.ireturn, 1)) (hc : cells ≤ mc) (hs : slots ≤ ms) :
    W p l e R s m args below meth c0 H locs cells slots (vx_MQ below (qxQI D G ad s code r w1) (qXC D G ad s code w1) args s mc ms (qAdr ad s.heap.size)) (F0 m pc ls [.int v]) := by
  subst hv; subst hw
  exact vx_ret (W.widen hc hs (W.zret hC.1 hC.2.1 hr hn (fun t ht hW => ⟨⟨v, (), rfl, ⟨h0, rfl⟩, by show va_P D vwCl (qcells G ad w) t.heap; rw [ht]; exact hR.1⟩, hR.2.F ht⟩) hR.2.2.2 hdg hC.2.2.2.2.2.1))
theorem qx_vret (hC : qCx p c0 cc nL s m args meth own D G ad) (hR : qRp D G ad s w H locs) (hr : meth.sig.returnType = none) (h0 : code = 0) (hw : w = w1) (hdg : decode cc pc = .ok (.return_, 1)) (hc : cells ≤ mc) (hs : slots ≤ ms) :
    W p l e R s m args below meth c0 H locs cells slots (vx_MQ below (qxQV D G ad s code w1) (qXC D G ad s code w1) args s mc ms (qAdr ad s.heap.size)) (F0 m pc ls []) := by
  subst hw
  exact vx_ret (W.widen hc hs (W.vret hC.1 hC.2.1 hr (fun t ht hW => ⟨⟨(), rfl, h0, by show va_P D vwCl (qcells G ad w) t.heap; rw [ht]; exact hR.1⟩, hR.2.F ht⟩) hR.2.2.2 hdg hC.2.2.2.2.2.1))
theorem qx_aret {x x1 : Nat} {n : String} (hC : qCx p c0 cc nL s m args meth own D G ad) (hR : qRp D G ad s w H locs) (hr : meth.sig.returnType = some (.object n)) (h0 : code = 0) (hx : x = x1) (hw : w = w1) (hdg : decode cc pc = .ok (.areturn, 1)) (hc : cells ≤ mc) (hs : slots ≤ ms) :
    W p l e R s m args below meth c0 H locs cells slots (vx_MQ below (qxQR D G ad s code x1 w1) (qXC D G ad s code w1) args s mc ms (qAdr ad s.heap.size)) (F0 m pc ls [.ref (ad x)]) := by
  subst hw; subst hx
  exact vx_ret (W.widen hc hs (W.aret hC.1 hC.2.1 hr (Or.inl ⟨n, rfl⟩) (Or.inr ⟨_, rfl⟩) (fun t ht hW => ⟨⟨(), ad x, rfl, h0, rfl, by show va_P D vwCl (qcells G ad w) t.heap; rw [ht]; exact hR.1⟩, hR.2.F ht⟩) hR.2.2.2 hdg hC.2.2.2.2.2.1))

theorem qx_callVi {y : MethodName} {bytes : ByteArray} {maxL d mc ms index x ci : Nat} {ret : Option FieldType} {As st : List Value} {r : Int32} {w2 : qMem} {code2 : Nat} {fs : List Value} {q : vw_C} (hC : qCx p c0 cc nL s m args meth own D G ad) (hR : qRp D G ad s w H locs)
    (hM : qCX l D G ad y bytes maxL ret d mc ms (.ref (ad x) :: As) w (fun st => qxQI D G ad st code2 r w2) code2 w2) (hx : x < 238) (hs : qshp G ad (w x) x = .inr (ci, fs)) (hc : vwCl[ci]? = some q) (hlk : Cond.methodLink own index y ∈ lw_gd) (hin : Cond.instanceMethod y ∈ lw_gd) (hse : Cond.selects q.1 y y ∈ lw_gd) (hini : Cond.initialized y.cls ∈ lw_gd) (hcode : Cond.code y bytes maxL ret ∈ lw_gd)
    (hd : y.cls ≠ "java/lang/invoke/MethodHandle" ∧ y.cls ≠ "java/lang/invoke/VarHandle" ∧ (parseMethodDescriptor y.desc).map (fun d => d.parameters.length) = some As.length) (hroom : d + 1 ≤ R.frames ∧ 8 + (maxL + 11) + 40 * d ≤ R.locals) (hsz : ls.size = nL) (hst : st = As.reverse ++ .ref (ad x) :: rest) (hcat : (rest.map fun v => v.category).sum ≤ 8) (hdg : decode cc pc = .ok (.invokevirtual index, 3)) (hf : cells + mc ≤ R.cells ∧ slots + ms ≤ R.slots)
    (kx : code2 ≠ 0 → ∀ (H1 : Heap) (locs1 : List Loc) (ce : Cell) (q9 : Addr), qRp D G ad s w2 H1 locs1 → H1[q9]? = some ce → ce.vm = .none → s.vm.findClass (qexn code2) = some ce.cls → vx_W p l e R s m args below meth c0 H1 locs1 (cells + mc) (slots + ms) Q (F0 m pc ls rest) q9)
    (kk : code2 = 0 → ∀ (H1 : Heap) (locs1 : List Loc), qRp D G ad s w2 H1 locs1 → W p l e R s m args below meth c0 H1 locs1 (cells + mc) (slots + ms) Q (F0 m (pc + 3) ls (.int r :: rest))) : W p l e R s m args below meth c0 H locs cells slots Q (F0 m pc ls st) := by
  obtain ⟨hx1, hb, hml, hown, hts, hlo, hK, hJ, hX⟩ := hC
  have hcB : CallB R s args own index y bytes maxL ret (Cond.code y bytes maxL ret :: lw_gd) (qrm d mc ms) mc ms As.length := callB_of As.length hts (q_goodIn hcode) rfl rfl rfl (hts _ hini) (hts _ hlk) hd hroom
  have hS := hR.2
  let sH : State := { s with heap := H }
  refine vx_calli (vx_runV (As := As) (rest := rest) (C := q.1) (Ts := lw_gd) ⟨hx1, hb, hml, hown, hts⟩ (hM sH) ⟨hcB, hts _ hin, hts _ hse⟩ ⟨qpre_blind, va_recv hK hR.1 (ci := ci) (q0 := x) hc (by rw [qat G ad w hx, hs]), fun U hU hW => ⟨rfl, by rw [hU], by rw [hU]; exact hR.1, va_K.moved hW.alike hK, by rw [hU]; exact qX_go hX hW hS.2.1 (qAdr_mono hS.1)⟩⟩ rfl rfl hsz hst (lv_room hcat) hdg hf) hS (fun q _ h => qAdr_mono hS.1 q h) (qAdr_mono hS.1) (fun q _ h => qAdr_mono hS.1 q h) (fun E ce q9 u t H1 locs1 ht hvm hp hB hz1 hk1 hS1 hce hcv hcl => ?_) (fun r1 u t H1 locs1 ht hvm hw hB hz1 hk1 hS1 => ?_)
  · obtain ⟨hE, hB⟩ := hB
    subst hE
    rw [ht] at hB
    exact kx hp H1 locs1 ce q9 ⟨hB, hS1⟩ hce hcv hcl
  · obtain ⟨h0, rfl⟩ := hw
    rw [ht] at hB
    exact kk h0 H1 locs1 ⟨hB, hS1⟩

theorem qx_callVr {y : MethodName} {bytes : ByteArray} {maxL d mc ms index x ci : Nat} {ret : Option FieldType} {As st : List Value} {x1 : Nat} {w2 : qMem} {code2 : Nat} {fs : List Value} {q : vw_C} (hC : qCx p c0 cc nL s m args meth own D G ad) (hR : qRp D G ad s w H locs)
    (hM : qCX l D G ad y bytes maxL ret d mc ms (.ref (ad x) :: As) w (fun st => qxQR D G ad st code2 x1 w2) code2 w2) (hx : x < 238) (hs : qshp G ad (w x) x = .inr (ci, fs)) (hc : vwCl[ci]? = some q) (hlk : Cond.methodLink own index y ∈ lw_gd) (hin : Cond.instanceMethod y ∈ lw_gd) (hse : Cond.selects q.1 y y ∈ lw_gd) (hini : Cond.initialized y.cls ∈ lw_gd) (hcode : Cond.code y bytes maxL ret ∈ lw_gd)
    (hd : y.cls ≠ "java/lang/invoke/MethodHandle" ∧ y.cls ≠ "java/lang/invoke/VarHandle" ∧ (parseMethodDescriptor y.desc).map (fun d => d.parameters.length) = some As.length) (hroom : d + 1 ≤ R.frames ∧ 8 + (maxL + 11) + 40 * d ≤ R.locals) (hsz : ls.size = nL) (hst : st = As.reverse ++ .ref (ad x) :: rest) (hcat : (rest.map fun v => v.category).sum ≤ 8) (hdg : decode cc pc = .ok (.invokevirtual index, 3)) (hf : cells + mc ≤ R.cells ∧ slots + ms ≤ R.slots)
    (kx : code2 ≠ 0 → ∀ (H1 : Heap) (locs1 : List Loc) (ce : Cell) (q9 : Addr), qRp D G ad s w2 H1 locs1 → H1[q9]? = some ce → ce.vm = .none → s.vm.findClass (qexn code2) = some ce.cls → vx_W p l e R s m args below meth c0 H1 locs1 (cells + mc) (slots + ms) Q (F0 m pc ls rest) q9)
    (kk : code2 = 0 → ∀ (H1 : Heap) (locs1 : List Loc), qRp D G ad s w2 H1 locs1 → W p l e R s m args below meth c0 H1 locs1 (cells + mc) (slots + ms) Q (F0 m (pc + 3) ls (.ref (ad x1) :: rest))) : W p l e R s m args below meth c0 H locs cells slots Q (F0 m pc ls st) := by
  obtain ⟨hx1, hb, hml, hown, hts, hlo, hK, hJ, hX⟩ := hC
  have hcB : CallB R s args own index y bytes maxL ret (Cond.code y bytes maxL ret :: lw_gd) (qrm d mc ms) mc ms As.length := callB_of As.length hts (q_goodIn hcode) rfl rfl rfl (hts _ hini) (hts _ hlk) hd hroom
  have hS := hR.2
  let sH : State := { s with heap := H }
  refine q_xcallr (vx_runV (As := As) (rest := rest) (C := q.1) (Ts := lw_gd) ⟨hx1, hb, hml, hown, hts⟩ (hM sH) ⟨hcB, hts _ hin, hts _ hse⟩ ⟨qpre_blind, va_recv hK hR.1 (ci := ci) (q0 := x) hc (by rw [qat G ad w hx, hs]), fun U hU hW => ⟨rfl, by rw [hU], by rw [hU]; exact hR.1, va_K.moved hW.alike hK, by rw [hU]; exact qX_go hX hW hS.2.1 (qAdr_mono hS.1)⟩⟩ rfl rfl hsz hst (lv_room hcat) hdg hf) hS (fun q _ h => qAdr_mono hS.1 q h) (qAdr_mono hS.1) (fun q _ h => qAdr_mono hS.1 q h) (fun E ce q9 u t H1 locs1 ht hvm hp hB hz1 hk1 hS1 hce hcv hcl => ?_) (fun u a t H1 locs1 ht hvm hw hB hz1 hk1 hS1 => ?_)
  · obtain ⟨hE, hB⟩ := hB
    subst hE
    rw [ht] at hB
    exact kx hp H1 locs1 ce q9 ⟨hB, hS1⟩ hce hcv hcl
  · rw [ht] at hB
    obtain ⟨rfl, hB⟩ := hB
    exact kk hw H1 locs1 ⟨hB, hS1⟩

theorem qx_callVv {y : MethodName} {bytes : ByteArray} {maxL d mc ms index x ci : Nat} {ret : Option FieldType} {As st : List Value} {w2 : qMem} {code2 : Nat} {fs : List Value} {q : vw_C} (hC : qCx p c0 cc nL s m args meth own D G ad) (hR : qRp D G ad s w H locs)
    (hM : qCX l D G ad y bytes maxL ret d mc ms (.ref (ad x) :: As) w (fun st => qxQV D G ad st code2 w2) code2 w2) (hx : x < 238) (hs : qshp G ad (w x) x = .inr (ci, fs)) (hc : vwCl[ci]? = some q) (hlk : Cond.methodLink own index y ∈ lw_gd) (hin : Cond.instanceMethod y ∈ lw_gd) (hse : Cond.selects q.1 y y ∈ lw_gd) (hini : Cond.initialized y.cls ∈ lw_gd) (hcode : Cond.code y bytes maxL ret ∈ lw_gd)
    (hd : y.cls ≠ "java/lang/invoke/MethodHandle" ∧ y.cls ≠ "java/lang/invoke/VarHandle" ∧ (parseMethodDescriptor y.desc).map (fun d => d.parameters.length) = some As.length) (hroom : d + 1 ≤ R.frames ∧ 8 + (maxL + 11) + 40 * d ≤ R.locals) (hsz : ls.size = nL) (hst : st = As.reverse ++ .ref (ad x) :: rest) (hcat : (rest.map fun v => v.category).sum ≤ 8) (hdg : decode cc pc = .ok (.invokevirtual index, 3)) (hf : cells + mc ≤ R.cells ∧ slots + ms ≤ R.slots)
    (kx : code2 ≠ 0 → ∀ (H1 : Heap) (locs1 : List Loc) (ce : Cell) (q9 : Addr), qRp D G ad s w2 H1 locs1 → H1[q9]? = some ce → ce.vm = .none → s.vm.findClass (qexn code2) = some ce.cls → vx_W p l e R s m args below meth c0 H1 locs1 (cells + mc) (slots + ms) Q (F0 m pc ls rest) q9)
    (kk : code2 = 0 → ∀ (H1 : Heap) (locs1 : List Loc), qRp D G ad s w2 H1 locs1 → W p l e R s m args below meth c0 H1 locs1 (cells + mc) (slots + ms) Q (F0 m (pc + 3) ls (rest))) : W p l e R s m args below meth c0 H locs cells slots Q (F0 m pc ls st) := by
  obtain ⟨hx1, hb, hml, hown, hts, hlo, hK, hJ, hX⟩ := hC
  have hcB : CallB R s args own index y bytes maxL ret (Cond.code y bytes maxL ret :: lw_gd) (qrm d mc ms) mc ms As.length := callB_of As.length hts (q_goodIn hcode) rfl rfl rfl (hts _ hini) (hts _ hlk) hd hroom
  have hS := hR.2
  let sH : State := { s with heap := H }
  refine vx_callv (vx_runV (As := As) (rest := rest) (C := q.1) (Ts := lw_gd) ⟨hx1, hb, hml, hown, hts⟩ (hM sH) ⟨hcB, hts _ hin, hts _ hse⟩ ⟨qpre_blind, va_recv hK hR.1 (ci := ci) (q0 := x) hc (by rw [qat G ad w hx, hs]), fun U hU hW => ⟨rfl, by rw [hU], by rw [hU]; exact hR.1, va_K.moved hW.alike hK, by rw [hU]; exact qX_go hX hW hS.2.1 (qAdr_mono hS.1)⟩⟩ rfl rfl hsz hst (lv_room hcat) hdg hf) hS (fun q _ h => qAdr_mono hS.1 q h) (qAdr_mono hS.1) (fun q _ h => qAdr_mono hS.1 q h) (fun E ce q9 u t H1 locs1 ht hvm hp hB hz1 hk1 hS1 hce hcv hcl => ?_) (fun u t H1 locs1 ht hvm hw hB hz1 hk1 hS1 => ?_)
  · obtain ⟨hE, hB⟩ := hB
    subst hE
    rw [ht] at hB
    exact kx hp H1 locs1 ce q9 ⟨hB, hS1⟩ hce hcv hcl
  · rw [ht] at hB
    exact kk hw H1 locs1 ⟨hB, hS1⟩

theorem qx_callSv {y : MethodName} {bytes : ByteArray} {maxL d mc ms index : Nat} {ret : Option FieldType} {As st : List Value} {w2 : qMem} {code2 : Nat} (hC : qCx p c0 cc nL s m args meth own D G ad) (hR : qRp D G ad s w H locs)
    (hM : qCX l D G ad y bytes maxL ret d mc ms As w (fun st => qxQV D G ad st code2 w2) code2 w2) (hlk : Cond.methodLink own index y ∈ lw_gd) (hin : Cond.static y ∈ lw_gd) (hini : Cond.initialized y.cls ∈ lw_gd) (hcode : Cond.code y bytes maxL ret ∈ lw_gd)
    (hd : y.cls ≠ "java/lang/invoke/MethodHandle" ∧ y.cls ≠ "java/lang/invoke/VarHandle" ∧ (parseMethodDescriptor y.desc).map (fun d => d.parameters.length) = some As.length) (hroom : d + 1 ≤ R.frames ∧ 8 + (maxL + 11) + 40 * d ≤ R.locals) (hsz : ls.size = nL) (hst : st = As.reverse ++ rest) (hcat : (rest.map fun v => v.category).sum ≤ 8) (hdg : decode cc pc = .ok (.invokestatic index, 3)) (hf : cells + mc ≤ R.cells ∧ slots + ms ≤ R.slots)
    (kx : code2 ≠ 0 → ∀ (H1 : Heap) (locs1 : List Loc) (ce : Cell) (q9 : Addr), qRp D G ad s w2 H1 locs1 → H1[q9]? = some ce → ce.vm = .none → s.vm.findClass (qexn code2) = some ce.cls → vx_W p l e R s m args below meth c0 H1 locs1 (cells + mc) (slots + ms) Q (F0 m pc ls rest) q9)
    (kk : code2 = 0 → ∀ (H1 : Heap) (locs1 : List Loc), qRp D G ad s w2 H1 locs1 → W p l e R s m args below meth c0 H1 locs1 (cells + mc) (slots + ms) Q (F0 m (pc + 3) ls (rest))) : W p l e R s m args below meth c0 H locs cells slots Q (F0 m pc ls st) := by
  obtain ⟨hx1, hb, hml, hown, hts, hlo, hK, hJ, hX⟩ := hC
  have hcB : CallB R s args own index y bytes maxL ret (Cond.code y bytes maxL ret :: lw_gd) (qrm d mc ms) mc ms As.length := callB_of As.length hts (q_goodIn hcode) rfl rfl rfl (hts _ hini) (hts _ hlk) hd hroom
  have hS := hR.2
  let sH : State := { s with heap := H }
  refine vx_callv (vx_runS (As := As) (rest := rest) (Ts := lw_gd) ⟨hx1, hb, hml, hown, hts⟩ (hM sH) ⟨hcB, hts _ hin⟩ ⟨qpre_blind, fun U hU hW => ⟨rfl, by rw [hU], by rw [hU]; exact hR.1, va_K.moved hW.alike hK, by rw [hU]; exact qX_go hX hW hS.2.1 (qAdr_mono hS.1)⟩⟩ rfl rfl hsz hst (lv_room hcat) hdg hf) hS (fun q _ h => qAdr_mono hS.1 q h) (qAdr_mono hS.1) (fun q _ h => qAdr_mono hS.1 q h) (fun E ce q9 u t H1 locs1 ht hvm hp hB hz1 hk1 hS1 hce hcv hcl => ?_) (fun u t H1 locs1 ht hvm hw hB hz1 hk1 hS1 => ?_)
  · obtain ⟨hE, hB⟩ := hB
    subst hE
    rw [ht] at hB
    exact kx hp H1 locs1 ce q9 ⟨hB, hS1⟩ hce hcv hcl
  · rw [ht] at hB
    exact kk hw H1 locs1 ⟨hB, hS1⟩

theorem qx_out {ce : Cell} {q9 : Addr} {Qc : Array Value → State → Outcome → State → Prop} (hC : qCx p c0 cc nL s m args meth own D G ad) (hR : qRp D G ad s w H locs) (ht : ∀ x ∈ c0.exceptionTable.toList, False) {code2 : Nat} (he : code2 = code) (h0 : code2 ≠ 0) (hw : w = w1) (hce : H[q9]? = some ce) (hcv : ce.vm = .none) (hcl : s.vm.findClass (qexn code2) = some ce.cls) (hc : cells ≤ mc) (hs : slots ≤ ms) :
    vx_W p l e R s m args below meth c0 H locs cells slots (vx_MQ below Qc (qXC D G ad s code w1) args s mc ms (qAdr ad s.heap.size)) (F0 m pc ls rest) q9 := by
  subst he; subst hw
  exact vx_out (fun x hx => (ht x hx).elim) hC.2.2.2.2.2.1 hce hcv hcl (fun t h1 h2 => ⟨(), h0, ⟨rfl, by rw [h1]; exact hR.1⟩, hR.2.F h1⟩) hR.2.2.2 hc hs
end
theorem qxw_78 : ∀ w ∈ qxw RX5 78 "java/lang/IllegalArgumentException", w ∈ lw_gd ∨ w ∈ lw_ct := by decide +kernel
theorem qxi_78 : Cond.initialized "java/lang/IllegalArgumentException" ∈ lw_gd := List.mem_filter.mpr ⟨List.mem_of_getElem? (i := 29) (by decide +kernel), by decide +kernel⟩
theorem qxw_83 : ∀ w ∈ qxw RX5 83 "java/lang/UnsupportedOperationException", w ∈ lw_gd ∨ w ∈ lw_ct := by decide +kernel
theorem qxi_83 : Cond.initialized "java/lang/UnsupportedOperationException" ∈ lw_gd := List.mem_filter.mpr ⟨List.mem_of_getElem? (i := 30) (by decide +kernel), by decide +kernel⟩
theorem qxw_71 : ∀ w ∈ qxw RX5 71 "java/lang/IndexOutOfBoundsException", w ∈ lw_gd ∨ w ∈ lw_ct := by decide +kernel
theorem qxi_71 : Cond.initialized "java/lang/IndexOutOfBoundsException" ∈ lw_gd := List.mem_filter.mpr ⟨List.mem_of_getElem? (i := 32) (by decide +kernel), by decide +kernel⟩
theorem qxw_126 : ∀ w ∈ qxwN RX5 126 "java/util/NoSuchElementException", w ∈ lw_gd ∨ w ∈ lw_ct := by decide +kernel
theorem qxi_126 : Cond.initialized "java/util/NoSuchElementException" ∈ lw_gd := List.mem_filter.mpr ⟨List.mem_of_getElem? (i := 31) (by decide +kernel), by decide +kernel⟩
theorem qxw_210 : ∀ w ∈ qxw RX5 210 "java/lang/IllegalStateException", w ∈ lw_gd ∨ w ∈ lw_ct := by decide +kernel
theorem qxi_210 : Cond.initialized "java/lang/IllegalStateException" ∈ lw_gd := List.mem_filter.mpr ⟨List.mem_of_getElem? (i := 46) (by decide +kernel), by decide +kernel⟩
theorem qxw_287 : ∀ w ∈ qxw RX5 287 "java/lang/ArithmeticException", w ∈ lw_gd ∨ w ∈ lw_ct := by decide +kernel
theorem qxi_287 : Cond.initialized "java/lang/ArithmeticException" ∈ lw_gd := List.mem_filter.mpr ⟨List.mem_of_getElem? (i := 37) (by decide +kernel), by decide +kernel⟩
