theorem qjs_o : Cond.methodLink RJ0 1 Lib.objectInit ∈ lw_gd := by decide +kernel
theorem qjs_oi : Cond.instanceMethod Lib.objectInit ∈ lw_gd := by decide +kernel
theorem qjs_oc : Cond.code Lib.objectInit ⟨#[0xb1]⟩ 1 none ∈ lw_gd := by decide +kernel
def qone (q sz : Nat) : Nat → Prop := fun a => a = q ∨ sz ≤ a
def qwc (D : va_G) (G : Nat → ClassId) (U : State) : Prop := va_K D vwCl (qtys G) U ∧ (∀ w ∈ lw_ct, va_Nw w U) ∧ va_AO RX3 U ∧ va_AO RX0 U
theorem qwc_moved {D : va_G} {G : Nat → ClassId} {u U : State} (hW : u.WarmedH U.vm) (h : qwc D G u) : qwc D G U := ⟨va_K.moved hW.alike h.1, fun w hw => q_kp_warm (List.mem_filter.mp hw).2 hW (h.2.1 w hw), va_AO.moved hW.alike h.2.2.1, va_AO.moved hW.alike h.2.2.2⟩
theorem qwc_same {D : va_G} {G : Nat → ClassId} {u U : State} (hv : U.vm = u.vm) (h : qwc D G u) : qwc D G U := by
  have ha : u.vm.Alike U.vm := by rw [hv]; exact Vm.Alike.refl _
  exact ⟨va_K.moved ha h.1, fun w hw => va_Nw.same (q_kp_tab (List.mem_filter.mp hw).2) hv.symm (h.2.1 w hw), va_AO.moved ha h.2.2.1, va_AO.moved ha h.2.2.2⟩
theorem qwl {D : va_G} {ws rest : va_W} {H : Heap} (h : va_P D vwCl (ws ++ rest) H) : va_P D vwCl ws H := fun k q hq => h k q (by rw [List.getElem?_append_left (List.getElem?_eq_some_iff.mp hq).1]; exact hq)
theorem qwr {D : va_G} {ws rest : va_W} {H : Heap} (h : va_P D vwCl (ws ++ rest) H) : va_P D vwCl rest H := fun k q hq => h (ws.length + k) q (by rw [List.getElem?_append_right (Nat.le_add_right _ _), Nat.add_sub_cancel_left]; exact hq)
theorem qwm {D : va_G} {ws : va_W} {H : Heap} (h : va_P D vwCl ws H) {q : Nat × va_E} (hq : q ∈ ws) : va_at D vwCl q H := by
  obtain ⟨k, hk⟩ := List.getElem?_of_mem hq
  exact h k q hk
theorem qend {ws : va_W} {z : Nat × va_E} : (ws ++ [z])[ws.length]? = some z := by simp
/-- a new object's making has ended: the rest stands -/
theorem qjoin {A0 : Nat → Prop} {D : va_G} {wr w1 : va_W} {H H1 : Heap} {h0 : Nat} {x : va_E} (hP : va_P D vwCl (wr ++ [(h0, x)]) H) (hD : va_D A0 (wr ++ [(h0, x)])) (hA : ∀ q, H.size ≤ q → A0 q) (hk : ∀ q : Nat, q < H.size → ¬ qone h0 H.size q → H1[q]? = H[q]?) (hP1 : va_P D vwCl w1 H1) (hD1 : va_D (qone h0 H.size) w1) : va_P D vwCl (wr ++ w1) H1 ∧ va_D A0 (wr ++ w1) := by
  have hne : ∀ (k : Nat) (q : Nat × va_E), wr[k]? = some q → q.1 ≠ h0 ∧ q.1 < H.size := fun k q hq => by
    have hl := (List.getElem?_eq_some_iff.mp hq).1
    have hq2 : (wr ++ [(h0, x)])[k]? = some q := by rw [List.getElem?_append_left hl]; exact hq
    refine ⟨fun e => ?_, (hP k q hq2).lt⟩
    have := hD.1 k wr.length q (h0, x) hq2 qend e
    omega
  have hA0 : A0 h0 := hD.2 wr.length (h0, x) qend
  have hD0 : va_D A0 wr := ⟨fun i j p q hi hj e => hD.1 i j p q (by rw [List.getElem?_append_left (List.getElem?_eq_some_iff.mp hi).1]; exact hi) (by rw [List.getElem?_append_left (List.getElem?_eq_some_iff.mp hj).1]; exact hj) e, fun k q hq => hD.2 k q (by rw [List.getElem?_append_left (List.getElem?_eq_some_iff.mp hq).1]; exact hq)⟩
  refine ⟨va_P.app (fun k q hq => (qwl hP k q hq).kept (hk q.1 (hne k q hq).2 (fun h => h.elim (hne k q hq).1 (fun h => absurd (hne k q hq).2 (Nat.not_lt.mpr h))))) hP1, va_D.app hD0 (hD1.weaken (fun k q _ h => h.elim (fun e => by rw [e]; exact hA0) (hA q.1))) (fun i j x y hx hy e => ?_)⟩
  rcases hD1.2 j y hy with h | h
  · exact (hne i x hx).1 (e.trans h)
  · exact absurd (hne i x hx).2 (Nat.not_lt.mpr (by rw [e]; exact h))
theorem qsame_arr {D : va_G} {G : Nat → ClassId} {s : State} {t : Nat} {cA : ClassId} {ty : FieldType} (hK : va_K D vwCl (qtys G ++ [(cA, ty)]) s) (ht : (qtys G)[t]? = some (G t, ty)) : cA = G t := by
  have h1 := (hK.2 8 (cA, ty) rfl).2
  have h2 := (hK.2 t (G t, ty) (by rw [List.getElem?_append_left (List.getElem?_eq_some_iff.mp ht).1]; exact ht)).2
  cases ty with
  | object C =>
    obtain ⟨kA, comp, -, -, -, h3⟩ := h1
    obtain ⟨kA', comp', -, -, -, h4⟩ := h2
    exact Option.some.inj (h3.symm.trans h4)
  | _ => exact Option.some.inj (Eq.trans (Eq.symm h1) h2)
def qMk (l : Launch) (D : va_G) (G : Nat → ClassId) (y : MethodName) (cc : ByteArray) (maxL d mc ms : Nat) (h0 ci : Nat) (fs : List Value) (PW : va_W → Prop) : Prop :=
  ∀ sz : Nat, Met l y (Cond.code y cc maxL none :: lw_gd) (qrm d mc ms) (va_Pc [.ref h0] (fun U => U.heap.size = sz ∧ va_P D vwCl [(h0, .inr (ci, fs))] U.heap ∧ qwc D G U)) (va_Qv (S := Unit) (fun _ => True) (fun _ t => ∃ W : va_W, PW W ∧ va_P D vwCl W t.heap ∧ va_D (qone h0 sz) W) (qone h0 sz)) mc ms (qone h0 sz)
def qCi (p : Program) (c : Code) (cc : ByteArray) (nL : Nat) (s : State) (m : MethodId) (args : Array Value) (meth : Method) (own : String) (D : va_G) (G : Nat → ClassId) : Prop :=
  p.tables.exec = Jvm.exec ∧ c.code = cc ∧ c.maxLocals = nL ∧ s.vm.findClass own = some m.cls ∧ (∀ w ∈ lw_gd, w.before args s = true) ∧ meth.locks = false ∧ qwc D G s ∧ meth.name = "<init>"
theorem qone_D1 {q sz : Nat} {x : va_E} : va_D (qone q sz) [(q, x)] := by
  refine ⟨fun i j x y hi hj _ => ?_, fun k x hk => ?_⟩
  · have li : i < 1 := (List.getElem?_eq_some_iff.mp hi).1
    have lj : j < 1 := (List.getElem?_eq_some_iff.mp hj).1
    omega
  · have lk : k < 1 := (List.getElem?_eq_some_iff.mp hk).1
    rw [show k = 0 by omega] at hk
    cases hk
    exact Or.inl rfl
theorem q_startC {l : Launch} {D : va_G} {G : Nat → ClassId} {y : MethodName} {cc : ByteArray} {maxL d mc ms h0 ci : Nat} {fs : List Value} {PW : va_W → Prop} (own : String) (hown : y.cls = own) (hy : plainName y.cls = true) (hn : y.name = "<init>") (hlen : (lg_sl [.ref h0]).length ≤ maxL)
    (body : ∀ (p : Program) (e : Env) (s : State) (m : MethodId) (args : Array Value) (below : List Frame) (meth : Method) (c : Code) (ls : Array Slot), qCi p c cc maxL s m args meth own D G → meth.sig.returnType = none → va_P D vwCl [(h0, .inr (ci, fs))] s.heap → lv_has ls maxL (lv_args 0 [.ref h0]) → W p l e (qrm d mc ms) s m args below meth c s.heap [] 0 0 (MQ below (va_Qv (S := Unit) (fun _ => True) (fun _ t => ∃ W : va_W, PW W ∧ va_P D vwCl W t.heap ∧ va_D (qone h0 s.heap.size) W) (qone h0 s.heap.size)) args s mc ms (qone h0 s.heap.size)) (F0 m 0 ls [])) :
    qMk l D G y cc maxL d mc ms h0 ci fs PW := by
  intro sz
  refine Met.ofW (cc := cc) (maxL := maxL) (ret := none) hy rfl ?_
  intro p e s m args below meth c s₁ B hml hv
  obtain ⟨rfl, hsz, hP, hK⟩ := hv
  subst hsz
  have hts := atoms_spec (ws := Cond.code y cc maxL none :: lw_gd) B.pre
  have hin : meth.name = "<init>" := ((name_of_methodNamed B.named B.method).1).trans hn
  have hC : qCi p c cc maxL s m ([.ref h0] : List Value).toArray meth own D G := ⟨B.exec, B.bytes, hml, by rw [← hown]; exact findClass_of_methodNamed B.named, fun w hw => hts w (List.mem_cons_of_mem _ hw), B.notSynchronized, hK, hin⟩
  have hl := lv_entry ([.ref h0]) (n := maxL) hlen
  rw [lg_entry_eq]
  exact body p e s m _ below meth c _ hC B.returns hP hl
section
variable {p : Program} {l : Launch} {e : Env} {R : Room} {s : State} {m : MethodId} {args : Array Value} {below : List Frame} {meth : Method} {c0 : Code} {H : Heap} {locs : List Loc} {cells slots : Nat} {Q : State → Prop} {pc nL : Nat} {ls : Array Slot} {rest : List Value} {cc : ByteArray} {own : String} {D : va_G} {G : Nat → ClassId} {A0 : Nat → Prop} {wr : va_W} {H0 : Heap}
theorem q_mkB {y : MethodName} {bytes : ByteArray} {maxL d mc ms h0 ci : Nat} {fs : List Value} {PW : va_W → Prop} {index : Nat} (hwc : qwc D G s) (hM : qMk l D G y bytes maxL d mc ms h0 ci fs PW) (hP : va_P D vwCl (wr ++ [(h0, .inr (ci, fs))]) H) (hD : va_D A0 (wr ++ [(h0, .inr (ci, fs))])) (hS : va_S A0 H0 H locs) (hA : ∀ q, H0.size ≤ q → A0 q)
    (hrun : Met l y (Cond.code y bytes maxL none :: lw_gd) (qrm d mc ms) (va_Pc [.ref h0] (fun U => U.heap.size = H.size ∧ va_P D vwCl [(h0, .inr (ci, fs))] U.heap ∧ qwc D G U)) (va_Qv (S := Unit) (fun _ => True) (fun _ t => ∃ W : va_W, PW W ∧ va_P D vwCl W t.heap ∧ va_D (qone h0 H.size) W) (qone h0 H.size)) mc ms (qone h0 H.size) → PreS s H (va_Pc [.ref h0] (fun U => U.heap.size = H.size ∧ va_P D vwCl [(h0, .inr (ci, fs))] U.heap ∧ qwc D G U)) [.ref h0] → va_Run p l e R s m args below meth c0 H locs cells slots mc ms (F0 m pc ls (.ref h0 :: rest)) rest (va_Qv (S := Unit) (fun _ => True) (fun _ t => ∃ W : va_W, PW W ∧ va_P D vwCl W t.heap ∧ va_D (qone h0 H.size) W) (qone h0 H.size) ([.ref h0] : List Value).toArray) (qone h0 H.size))
    (kk : ∀ (W1 : va_W) (H1 : Heap) (locs1 : List Loc), PW W1 → va_P D vwCl (wr ++ W1) H1 → va_D A0 (wr ++ W1) → va_S A0 H0 H1 locs1 → W p l e R s m args below meth c0 H1 locs1 (cells + mc) (slots + ms) Q (F0 m (pc + 3) ls rest)) : W p l e R s m args below meth c0 H locs cells slots Q (F0 m pc ls (.ref h0 :: rest)) := by
  have hA0 : A0 h0 := hD.2 wr.length _ qend
  have hAq : ∀ q, H.size ≤ q → A0 q := fun q h => hA q (Nat.le_trans hS.1 h)
  have hPc : va_P D vwCl [(h0, .inr (ci, fs))] H := qwr hP
  have hpre : PreS s H (va_Pc [.ref h0] (fun U => U.heap.size = H.size ∧ va_P D vwCl [(h0, .inr (ci, fs))] U.heap ∧ qwc D G U)) [.ref h0] := ⟨fun a U g mk h => ⟨h.1, h.2.1, h.2.2.1, qwc_same (u := U) (U := U.calling g mk a) rfl h.2.2.2⟩, fun U hU hW => ⟨rfl, by rw [hU], by rw [hU]; exact hPc, qwc_moved hW hwc⟩⟩
  refine va_callv (hrun (hM H.size) hpre) hS (fun q _ h => h.elim (fun e => e ▸ hA0) (hAq q)) (fun q h => h.elim (fun e => e ▸ hA0) (hAq q)) (fun u t H1 locs1 ht hvm hw hB hz1 hk1 hS1 => ?_)
  obtain ⟨W1, hPW, hP1, hD1⟩ := hB
  rw [ht] at hP1
  obtain ⟨hP2, hD2⟩ := qjoin hP hD hAq hk1 hP1 hD1
  exact kk W1 H1 locs1 hPW hP2 hD2 hS1
theorem q_mkI {y : MethodName} {bytes : ByteArray} {maxL d mc ms h0 ci index : Nat} {fs : List Value} {PW : va_W → Prop} (hx1 : p.tables.exec = Jvm.exec) (hb : c0.code = cc) (hml : c0.maxLocals = nL) (hown : s.vm.findClass own = some m.cls) (hts : ∀ w ∈ lw_gd, w.before args s = true) (hwc : qwc D G s) (hM : qMk l D G y bytes maxL d mc ms h0 ci fs PW) (hP : va_P D vwCl (wr ++ [(h0, .inr (ci, fs))]) H) (hD : va_D A0 (wr ++ [(h0, .inr (ci, fs))])) (hS : va_S A0 H0 H locs) (hA : ∀ q, H0.size ≤ q → A0 q)
    (hlk : Cond.methodLink own index y ∈ lw_gd) (hin : Cond.instanceMethod y ∈ lw_gd) (hini : Cond.initialized y.cls ∈ lw_gd) (hcode : Cond.code y bytes maxL none ∈ lw_gd) (hn : y.name = "<init>")
    (hd : y.cls ≠ "java/lang/invoke/MethodHandle" ∧ y.cls ≠ "java/lang/invoke/VarHandle" ∧ (parseMethodDescriptor y.desc).map (fun d => d.parameters.length) = some 0) (hroom : d + 1 ≤ R.frames ∧ 8 + (maxL + 11) + 40 * d ≤ R.locals) (hsz : ls.size = nL) (hcat : (rest.map fun v => v.category).sum ≤ 8) (hdg : decode cc pc = .ok (.invokespecial index, 3)) (hf : cells + mc ≤ R.cells ∧ slots + ms ≤ R.slots)
    (kk : ∀ (W1 : va_W) (H1 : Heap) (locs1 : List Loc), PW W1 → va_P D vwCl (wr ++ W1) H1 → va_D A0 (wr ++ W1) → va_S A0 H0 H1 locs1 → W p l e R s m args below meth c0 H1 locs1 (cells + mc) (slots + ms) Q (F0 m (pc + 3) ls rest)) : W p l e R s m args below meth c0 H locs cells slots Q (F0 m pc ls (.ref h0 :: rest)) := by
  have hcB : CallB R s args own index y bytes maxL none (Cond.code y bytes maxL none :: lw_gd) (qrm d mc ms) mc ms 0 := callB_of 0 hts (q_goodIn hcode) rfl rfl rfl (hts _ hini) (hts _ hlk) hd hroom
  exact q_mkB (index := index) hwc hM hP hD hS hA (fun hm hp => va_runI (As := []) (rest := rest) (Ts := lw_gd) ⟨hx1, hb, hml, hown, hts⟩ hm ⟨hcB, hn, hts _ hin⟩ hp rfl rfl hsz rfl (lv_room hcat) hdg hf) kk
theorem q_mkIN {y : MethodName} {bytes : ByteArray} {maxL d mc ms h0 ci index : Nat} {host : String} {fs : List Value} {PW : va_W → Prop} (hx1 : p.tables.exec = Jvm.exec) (hb : c0.code = cc) (hml : c0.maxLocals = nL) (hown : s.vm.findClass own = some m.cls) (hts : ∀ w ∈ lw_gd, w.before args s = true) (hwc : qwc D G s) (hM : qMk l D G y bytes maxL d mc ms h0 ci fs PW) (hP : va_P D vwCl (wr ++ [(h0, .inr (ci, fs))]) H) (hD : va_D A0 (wr ++ [(h0, .inr (ci, fs))])) (hS : va_S A0 H0 H locs) (hA : ∀ q, H0.size ≤ q → A0 q)
    (hlk : Cond.methodLinkNest own index y host ∈ lw_ct) (hin : Cond.instanceMethod y ∈ lw_gd) (hini : Cond.initialized y.cls ∈ lw_gd) (hcode : Cond.code y bytes maxL none ∈ lw_gd) (hn : y.name = "<init>")
    (hd : y.cls ≠ "java/lang/invoke/MethodHandle" ∧ y.cls ≠ "java/lang/invoke/VarHandle" ∧ (parseMethodDescriptor y.desc).map (fun d => d.parameters.length) = some 0) (hroom : d + 1 ≤ R.frames ∧ 8 + (maxL + 11) + 40 * d ≤ R.locals) (hsz : ls.size = nL) (hcat : (rest.map fun v => v.category).sum ≤ 8) (hdg : decode cc pc = .ok (.invokespecial index, 3)) (hf : cells + mc ≤ R.cells ∧ slots + ms ≤ R.slots)
    (kk : ∀ (W1 : va_W) (H1 : Heap) (locs1 : List Loc), PW W1 → va_P D vwCl (wr ++ W1) H1 → va_D A0 (wr ++ W1) → va_S A0 H0 H1 locs1 → W p l e R s m args below meth c0 H1 locs1 (cells + mc) (slots + ms) Q (F0 m (pc + 3) ls rest)) : W p l e R s m args below meth c0 H locs cells slots Q (F0 m pc ls (.ref h0 :: rest)) := by
  have hcB : va_CN R s args own index y host bytes maxL none (Cond.code y bytes maxL none :: lw_gd) (qrm d mc ms) mc ms 0 := va_cnB 0 hts (q_goodIn hcode) rfl rfl rfl (hwc.2.1 _ hlk) (hts _ hini) hd hroom
  exact q_mkB (index := index) hwc hM hP hD hS hA (fun hm hp => va_runIN (As := []) (rest := rest) (Ts := lw_gd) ⟨hx1, hb, hml, hown, hts⟩ hm ⟨hcB, hn, hts _ hin⟩ hp rfl rfl hsz rfl (lv_room hcat) hdg hf) kk
theorem q_cret {h0 mc ms : Nat} {PW : va_W → Prop} {W0 : va_W} (hC : qCi p c0 cc nL s m args meth own D G) (hr : meth.sig.returnType = none) (hPW : PW W0) (hP : va_P D vwCl W0 H) (hD : va_D (qone h0 s.heap.size) W0) (hS : va_S (qone h0 s.heap.size) s.heap H locs) (hc : cells ≤ mc) (hs : slots ≤ ms) (hdg : decode cc pc = .ok (.return_, 1)) :
    W p l e R s m args below meth c0 H locs cells slots (MQ below (va_Qv (S := Unit) (fun _ => True) (fun _ t => ∃ W : va_W, PW W ∧ va_P D vwCl W t.heap ∧ va_D (qone h0 s.heap.size) W) (qone h0 s.heap.size)) args s mc ms (qone h0 s.heap.size)) (F0 m pc ls []) := by
  refine W.widen hc hs ?_
  exact W.vret hC.1 hC.2.1 hr (fun t ht hW => ⟨⟨(), rfl, trivial, W0, hPW, by rw [ht]; exact hP, hD⟩, hS.F ht⟩) hS.2.2 hdg hC.2.2.2.2.2.1
end
