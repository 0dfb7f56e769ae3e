def qn64 (r : UInt64) : Bool := decide (r &&& 0x7fffffffffffffff ≤ 0x7ff0000000000000)
def qn32 (r : UInt32) : Bool := decide (r &&& 0x7fffffff ≤ 0x7f800000)
theorem qn64_ok {r : UInt64} (h : qn64 r = true) : vf_n64 r := by
  unfold qn64 at h; unfold vf_n64
  exact decide_eq_true_iff.mp h
theorem qn32_ok {r : UInt32} (h : qn32 r = true) : vf_n32 r := by
  unfold qn32 at h; unfold vf_n32
  exact decide_eq_true_iff.mp h
abbrev qQD (D : va_G) (G : Nat → ClassId) (ad : Nat → Nat) (s : State) (w1 : qMem) (r : UInt64) : Array Value → State → Outcome → State → Prop := va_Qd (S := Unit) (fun r1 _ => r1 = r) (fun _ t => va_P D vwCl (qcells G ad w1) t.heap) (qAdr ad s.heap.size)
abbrev qQF (D : va_G) (G : Nat → ClassId) (ad : Nat → Nat) (s : State) (w1 : qMem) (r : UInt32) : Array Value → State → Outcome → State → Prop := va_Qf (S := Unit) (fun r1 _ => r1 = r) (fun _ t => va_P D vwCl (qcells G ad w1) t.heap) (qAdr ad s.heap.size)
abbrev qCMd (l : Launch) (D : va_G) (G : Nat → ClassId) (ad : Nat → Nat) (y : MethodName) (cc : ByteArray) (maxL : Nat) (ret : Option FieldType) (d mc ms : Nat) (av : List Value) (w : qMem) (r : UInt64) (w1 : qMem) : Prop := qCM l D G ad y cc maxL ret d mc ms av w (fun st => qQD D G ad st w1 r)
abbrev qCMf (l : Launch) (D : va_G) (G : Nat → ClassId) (ad : Nat → Nat) (y : MethodName) (cc : ByteArray) (maxL : Nat) (ret : Option FieldType) (d mc ms : Nat) (av : List Value) (w : qMem) (r : UInt32) (w1 : qMem) : Prop := qCM l D G ad y cc maxL ret d mc ms av w (fun st => qQF D G ad st w1 r)
section
variable {p : Program} {l : Launch} {e : Env} {R : Room} {s : State} {m : MethodId} {args : Array Value} {below : List Frame} {meth : Method} {c : Code} {H : Heap} {locs : List Loc} {cells slots : Nat} {Q : State → Prop} {pc nL : Nat} {ls : Array Slot} {rest : List Value} {cc : ByteArray} {own : String} {D : va_G} {G : Nat → ClassId} {ad : Nat → Nat} {w w1 : qMem} {mc ms code : Nat}
theorem q_dret {v r : UInt64} (hC : qCx p c cc nL s m args meth own D G ad) (hR : qRp D G ad s w H locs) (hr : meth.sig.returnType = some .double) (hv : v = r) (hw : w = w1) (hdg : decode cc pc = .ok (.dreturn, 1)) :
    W p l e R s m args below meth c H locs mc ms (MQ below (qQD D G ad s w1 r) args s mc ms (qAdr ad s.heap.size)) (F0 m pc ls [.double v]) := by
  subst hv; subst hw
  exact W.dret hC.1 hC.2.1 hr (fun t ht hW => ⟨⟨v, (), rfl, rfl, by show va_P D vwCl (qcells G ad w) t.heap; rw [ht]; exact hR.1⟩, hR.2.F ht⟩) hR.2.2.2 hdg hC.2.2.2.2.2.1
theorem q_fret {v r : UInt32} (hC : qCx p c cc nL s m args meth own D G ad) (hR : qRp D G ad s w H locs) (hr : meth.sig.returnType = some .float) (hv : v = r) (hw : w = w1) (hdg : decode cc pc = .ok (.freturn, 1)) :
    W p l e R s m args below meth c H locs mc ms (MQ below (qQF D G ad s w1 r) args s mc ms (qAdr ad s.heap.size)) (F0 m pc ls [.float v]) := by
  subst hv; subst hw
  exact W.fret hC.1 hC.2.1 hr (fun t ht hW => ⟨⟨v, (), rfl, rfl, by show va_P D vwCl (qcells G ad w) t.heap; rw [ht]; exact hR.1⟩, hR.2.F ht⟩) hR.2.2.2 hdg hC.2.2.2.2.2.1
theorem qx_dret {v r : UInt64} (hC : qCx p c cc nL s m args meth own D G ad) (hR : qRp D G ad s w H locs) (hr : meth.sig.returnType = some .double) (h0 : code = 0) (hv : v = r) (hw : w = w1) (hdg : decode cc pc = .ok (.dreturn, 1)) (hc : cells ≤ mc) (hs : slots ≤ ms) :
    W p l e R s m args below meth c H locs cells slots (vx_MQ below (qxQD D G ad s code r w1) (qXC D G ad s code w1) args s mc ms (qAdr ad s.heap.size)) (F0 m pc ls [.double v]) := by
  subst hv; subst hw
  exact vx_ret (W.widen hc hs (W.dret hC.1 hC.2.1 hr (fun t ht hW => ⟨⟨v, (), rfl, ⟨h0, rfl⟩, by show va_P D vwCl (qcells G ad w) t.heap; rw [ht]; exact hR.1⟩, hR.2.F ht⟩) hR.2.2.2 hdg hC.2.2.2.2.2.1))
theorem qx_fret {v r : UInt32} (hC : qCx p c cc nL s m args meth own D G ad) (hR : qRp D G ad s w H locs) (hr : meth.sig.returnType = some .float) (h0 : code = 0) (hv : v = r) (hw : w = w1) (hdg : decode cc pc = .ok (.freturn, 1)) (hc : cells ≤ mc) (hs : slots ≤ ms) :
    W p l e R s m args below meth c H locs cells slots (vx_MQ below (qxQF D G ad s code r w1) (qXC D G ad s code w1) args s mc ms (qAdr ad s.heap.size)) (F0 m pc ls [.float v]) := by
  subst hv; subst hw
  exact vx_ret (W.widen hc hs (W.fret hC.1 hC.2.1 hr (fun t ht hW => ⟨⟨v, (), rfl, ⟨h0, rfl⟩, by show va_P D vwCl (qcells G ad w) t.heap; rw [ht]; exact hR.1⟩, hR.2.F ht⟩) hR.2.2.2 hdg hC.2.2.2.2.2.1))
end
