def qn64 (r : UInt64) : Bool := decide (r &&& 0x7fffffffffffffff ≤ 0x7ff0000000000000)
def qn32 (r : UInt32) : Bool := decide (r &&& 0x7fffffff ≤ 0x7f800000)
theorem qn64_ok {r : UInt64} (h : qn64 r = true) : vf_n64 r := by
  unfold qn64 at h; unfold vf_n64
  exact decide_eq_true_iff.mp h
theorem qn32_ok {r : UInt32} (h : qn32 r = true) : vf_n32 r := by
  unfold qn32 at h; unfold vf_n32
  exact decide_eq_true_iff.mp h
abbrev qQD (D : va_G) (G : Nat → ClassId) (ad : Nat → Nat) (s : State) (w1 : qMem) (r : UInt64) : Array Value → State → Outcome → State → Prop := va_Qd (S := Unit) (fun r1 _ => r1 = r) (fun _ t => va_P D vwCl (qcells G ad w1) t.heap) (qAdr ad s.heap.size)
abbrev qQF (D : va_G) (G : Nat → ClassId) (ad : Nat → Nat) (s : State) (w1 : qMem) (r : UInt32) : Array Value → State → Outcome → State → Prop := va_Qf (S := Unit) (fun r1 _ => r1 = r) (fun _ t => va_P D vwCl (qcells G ad w1) t.heap) (qAdr ad s.heap.size)
abbrev qCMd (l : Launch) (D : va_G) (G : Nat → ClassId) (ad : Nat → Nat) (y : MethodName) (cc : ByteArray) (maxL : Nat) (ret : Option FieldType) (d mc ms : Nat) (av : List Value) (w : qMem) (r : UInt64) (w1 : qMem) : Prop := qCM l D G ad y cc maxL ret d mc ms av w (fun st => qQD D G ad st w1 r)
abbrev qCMf (l : Launch) (D : va_G) (G : Nat → ClassId) (ad : Nat → Nat) (y : MethodName) (cc : ByteArray) (maxL : Nat) (ret : Option FieldType) (d mc ms : Nat) (av : List Value) (w : qMem) (r : UInt32) (w1 : qMem) : Prop := qCM l D G ad y cc maxL ret d mc ms av w (fun st => qQF D G ad st w1 r)
section
variable {p : Program} {l : Launch} {e : Env} {R : Room} {s : State} {m : MethodId} {args : Array Value} {below : List Frame} {meth : Method} {c : Code} {H : Heap} {locs : List Loc} {cells slots : Nat} {Q : State → Prop} {pc nL : Nat} {ls : Array Slot} {rest : List Value} {cc : ByteArray} {own : String} {D : va_G} {G : Nat → ClassId} {ad : Nat → Nat} {w w1 : qMem} {mc ms code : Nat}
theorem q_dret {v r : UInt64} (hC : qCx p c cc nL s m args meth own D G ad) (hR : qRp D G ad s w H locs) (hr : meth.sig.returnType = some .double) (hv : v = r) (hw : w = w1) (hdg : decode cc pc = .ok (.dreturn, 1)) :
    W p l e R s m args below meth c H locs mc ms (MQ below (qQD D G ad s w1 r) args s mc ms (qAdr ad s.heap.size)) (F0 m pc ls [.double v]) := by
  subst hv; subst hw
  exact W.dret hC.1 hC.2.1 hr (fun t ht hW => ⟨⟨v, (), rfl, rfl, by show va_P D vwCl (qcells G ad w) t.heap; rw [ht]; exact hR.1⟩, hR.2.F ht⟩) hR.2.2.2 hdg hC.2.2.2.2.2.1
theorem q_fret {v r : UInt32} (hC : qCx p c cc nL s m args meth own D G ad) (hR : qRp D G ad s w H locs) (hr : meth.sig.returnType = some .float) (hv : v = r) (hw : w = w1) (hdg : decode cc pc = .ok (.freturn, 1)) :
    W p l e R s m args below meth c H locs mc ms (MQ below (qQF D G ad s w1 r) args s mc ms (qAdr ad s.heap.size)) (F0 m pc ls [.float v]) := by
  subst hv; subst hw
  exact W.fret hC.1 hC.2.1 hr (fun t ht hW => ⟨⟨v, (), rfl, rfl, by show va_P D vwCl (qcells G ad w) t.heap; rw [ht]; exact hR.1⟩, hR.2.F ht⟩) hR.2.2.2 hdg hC.2.2.2.2.2.1
theorem qx_dret {v r : UInt64} (hC : qCx p c cc nL s m args meth own D G ad) (hR : qRp D G ad s w H locs) (hr : meth.sig.returnType = some .double) (h0 : code = 0) (hv : v = r) (hw : w = w1) (hdg : decode cc pc = .ok (.dreturn, 1)) (hc : cells ≤ mc) (hs : slots ≤ ms) :
    W p l e R s m args below meth c H locs cells slots (vx_MQ below (qxQD D G ad s code r w1) (qXC D G ad s code w1) args s mc ms (qAdr ad s.heap.size)) (F0 m pc ls [.double v]) := by
  subst hv; subst hw
  exact vx_ret (W.widen hc hs (W.dret hC.1 hC.2.1 hr (fun t ht hW => ⟨⟨v, (), rfl, ⟨h0, rfl⟩, by show va_P D vwCl (qcells G ad w) t.heap; rw [ht]; exact hR.1⟩, hR.2.F ht⟩) hR.2.2.2 hdg hC.2.2.2.2.2.1))
theorem qx_fret {v r : UInt32} (hC : qCx p c cc nL s m args meth own D G ad) (hR : qRp D G ad s w H locs) (hr : meth.sig.returnType = some .float) (h0 : code = 0) (hv : v = r) (hw : w = w1) (hdg : decode cc pc = .ok (.freturn, 1)) (hc : cells ≤ mc) (hs : slots ≤ ms) :
    W p l e R s m args below meth c H locs cells slots (vx_MQ below (qxQF D G ad s code r w1) (qXC D G ad s code w1) args s mc ms (qAdr ad s.heap.size)) (F0 m pc ls [.float v]) := by
  subst hv; subst hw
  exact vx_ret (W.widen hc hs (W.fret hC.1 hC.2.1 hr (fun t ht hW => ⟨⟨v, (), rfl, ⟨h0, rfl⟩, by show va_P D vwCl (qcells G ad w) t.heap; rw [ht]; exact hR.1⟩, hR.2.F ht⟩) hR.2.2.2 hdg hC.2.2.2.2.2.1))
end
/-- the place of the next blank -/
def qfind (t : List Int32) : Nat → Nat → Nat
  | 0, j => j
  | n + 1, j => if t.getD j 0 = 32 then j else qfind t n (j + 1)
theorem qfind_ok (t : List Int32) : ∀ n j : Nat, j ≤ qfind t n j ∧ (∀ i : Nat, j ≤ i → i < qfind t n j → t.getD i 0 ≠ 32) ∧ (qfind t n j < j + n → t.getD (qfind t n j) 0 = 32) := by
  intro n
  induction n with
  | zero => intro j; exact ⟨Nat.le_refl _, fun i h1 h2 => absurd h2 (Nat.not_lt.mpr h1), fun h => absurd h (Nat.lt_irrefl _)⟩
  | succ n ih =>
    intro j
    rw [qfind]
    by_cases h : t.getD j 0 = 32
    · rw [if_pos h]
      exact ⟨Nat.le_refl _, fun i h1 h2 => absurd h2 (Nat.not_lt.mpr h1), fun _ => h⟩
    · rw [if_neg h]
      obtain ⟨h1, h2, h3⟩ := ih (j + 1)
      refine ⟨by omega, fun i g1 g2 => ?_, fun g => h3 (by omega)⟩
      rcases Nat.lt_or_ge j i with q | q
      · exact h2 i q g2
      · rw [show i = j by omega]; exact h
def qidx (t : List Int32) (b : Int32) : Option Int32 := if qin b t.length = true then (if qfind t (t.length - b.toNatClampNeg) b.toNatClampNeg < t.length then some (nI (qfind t (t.length - b.toNatClampNeg) b.toNatClampNeg)) else none) else none
def qsub (t : List Int32) (b e : Int32) : Option (List Int32) := if qin b t.length = true then (if qin e t.length = true then (if b.toNatClampNeg < e.toNatClampNeg ∧ e.toNatClampNeg - b.toNatClampNeg ≤ 8 then some ((t.drop b.toNatClampNeg).take (e.toNatClampNeg - b.toNatClampNeg)) else none) else none) else none
theorem qin_nI {b : Int32} {n : Nat} (h : qin b n = true) (hn : n < 2 ^ 31) : b = nI b.toNatClampNeg ∧ b.toNatClampNeg < n := by
  obtain ⟨j, hj, e⟩ := vp_in_of (qin_t h) hn
  have : b.toNatClampNeg = j := by rw [e]; exact nI_clamp (by omega)
  exact ⟨by rw [this]; exact e, by omega⟩
theorem mJ0_indexOfQ {l : Launch} {D : va_G} {G : Nat → ClassId} {ad : Nat → Nat} (hJ : qInj ad) {w : qMem} {q : Nat} {t : List Int32} {b r : Int32} (hq : qidx t b = some r) : qCY l D G ad yJ0_indexOf_7cf53 cJ0_indexOf_7cf53 3 (some .int) 3 0 0 [.ref q, .int 32, .int b] w (qSt q t) (fun st => qQI D G ad st w r) := by
  intro st
  by_cases ht : qasc t = true
  · unfold qidx at hq
    obtain ⟨h1, hq⟩ := qgd hq
    obtain ⟨h2, hq⟩ := qgd hq
    obtain ⟨e1, e2⟩ := qin_nI h1 (Nat.lt_of_lt_of_le (qasc_len ht) (by decide))
    obtain ⟨g1, g2, g3⟩ := qfind_ok t (t.length - b.toNatClampNeg) b.toNatClampNeg
    have hr := Option.some.inj hq
    rw [← hr]
    have := mJ0_indexOf (l := l) (D := D) (G := G) (q := q) hJ (w := w) (t := t) g1 h2 g2 (g3 (by omega)) st
    rw [← e1] at this
    exact this
  · refine Met.ofW (cc := cJ0_indexOf_7cf53) (maxL := 3) (ret := some .int) (by decide +kernel) rfl ?_
    intro p e s m args below meth c s₁ B hml hv
    obtain ⟨-, -, -, -, v, -, hB⟩ := hv
    exact absurd hB.1 ht
theorem mJ0_substringQ {l : Launch} {D : va_G} {G : Nat → ClassId} {ad : Nat → Nat} (hJ : qInj ad) {w : qMem} {q : Nat} {t t1 : List Int32} {b e : Int32} (hq : qsub t b e = some t1) : qCY l D G ad yJ0_substring_37a41 cJ0_substring_37a41 5 (some (.object "java/lang/String")) 5 2 12 [.ref q, .int b, .int e] w (qSt q t) (fun st => qQY D G ad st w (fun a => qSt a t1)) := by
  intro st
  by_cases ht : qasc t = true
  · unfold qsub at hq
    obtain ⟨h1, hq⟩ := qgd hq
    obtain ⟨h2, hq⟩ := qgd hq
    obtain ⟨h3, hq⟩ := qgd hq
    obtain ⟨e1, e2⟩ := qin_nI h1 (Nat.lt_of_lt_of_le (qasc_len ht) (by decide))
    obtain ⟨e3, e4⟩ := qin_nI h2 (Nat.lt_of_lt_of_le (qasc_len ht) (by decide))
    have hr := Option.some.inj hq
    rw [← hr]
    have := mJ0_substring (l := l) (D := D) (G := G) (q := q) hJ (w := w) (t := t) h3.1 e4 h3.2 st
    rw [← e1, ← e3] at this
    exact this
  · refine Met.ofW (cc := cJ0_substring_37a41) (maxL := 5) (ret := some (.object "java/lang/String")) (by decide +kernel) rfl ?_
    intro p e s m args below meth c s₁ B hml hv
    obtain ⟨-, -, -, -, v, -, hB⟩ := hv
    exact absurd hB.1 ht
section
variable {p : Program} {l : Launch} {e : Env} {R : Room} {s : State} {m : MethodId} {args : Array Value} {below : List Frame} {meth : Method} {c : Code} {H : Heap} {locs : List Loc} {cells slots : Nat} {Q : State → Prop} {pc nL : Nat} {ls : Array Slot} {rest : List Value} {cc : ByteArray} {own : String} {D : va_G} {G : Nat → ClassId} {ad : Nat → Nat} {w : qMem}
theorem q_callSr {y : MethodName} {bytes : ByteArray} {maxL d mc ms index x1 : Nat} {ret : Option FieldType} {As st : List Value} {w1 : qMem} (hC : qCx p c cc nL s m args meth own D G ad) (hR : qRp D G ad s w H locs)
    (hM : qCMr l D G ad y bytes maxL ret d mc ms As w x1 w1) (hlk : Cond.methodLink own index y ∈ lw_gd) (hin : Cond.static y ∈ lw_gd) (hini : Cond.initialized y.cls ∈ lw_gd) (hcode : Cond.code y bytes maxL ret ∈ lw_gd)
    (hd : y.cls ≠ "java/lang/invoke/MethodHandle" ∧ y.cls ≠ "java/lang/invoke/VarHandle" ∧ (parseMethodDescriptor y.desc).map (fun d => d.parameters.length) = some As.length) (hroom : d + 1 ≤ R.frames ∧ 8 + (maxL + 11) + 40 * d ≤ R.locals) (hsz : ls.size = nL) (hst : st = As.reverse ++ rest) (hcat : (rest.map fun v => v.category).sum ≤ 8) (hdg : decode cc pc = .ok (.invokestatic index, 3)) (hf : cells + mc ≤ R.cells ∧ slots + ms ≤ R.slots)
    (kk : ∀ (H1 : Heap) (locs1 : List Loc), qRp D G ad s w1 H1 locs1 → W p l e R s m args below meth c H1 locs1 (cells + mc) (slots + ms) Q (F0 m (pc + 3) ls (.ref (ad x1) :: rest))) : W p l e R s m args below meth c H locs cells slots Q (F0 m pc ls st) := by
  obtain ⟨hx1, hb, hml, hown, hts, hlo, hK, hJ, hX⟩ := hC
  have hcB : CallB R s args own index y bytes maxL ret (Cond.code y bytes maxL ret :: lw_gd) (qrm d mc ms) mc ms As.length := callB_of As.length hts (q_goodIn hcode) rfl rfl rfl (hts _ hini) (hts _ hlk) hd hroom
  have hS := hR.2
  let sH : State := { s with heap := H }
  refine va_callr (va_runS (As := As) (rest := rest) (Ts := lw_gd) ⟨hx1, hb, hml, hown, hts⟩ (hM sH) ⟨hcB, hts _ hin⟩ ⟨qpre_blind, fun U hU hW => ⟨rfl, by rw [hU], by rw [hU]; exact hR.1, va_K.moved hW.alike hK, by rw [hU]; exact qX_go hX hW hS.2.1 (qAdr_mono hS.1)⟩⟩ rfl rfl hsz hst (lv_room hcat) hdg hf) hS (fun q _ h => qAdr_mono hS.1 q h) (qAdr_mono hS.1) (fun u a t H1 locs1 ht hvm hw hB hz1 hk1 hS1 => ?_)
  rw [ht] at hB
  obtain ⟨rfl, hB⟩ := hB
  exact kk H1 locs1 ⟨hB, hS1⟩
end
