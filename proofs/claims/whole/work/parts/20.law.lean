section
variable {p : Program} {l : Launch} {e : Env} {R : Room} {s : State} {m : MethodId} {args : Array Value} {below : List Frame} {meth : Method} {c0 : Code} {H : Heap} {locs : List Loc} {cells slots : Nat} {Q : State → Prop} {pc nL : Nat} {ls : Array Slot} {rest : List Value} {cc : ByteArray} {own : String} {D : va_G} {G : Nat → ClassId} {ad : Nat → Nat} {w : qMem}
theorem q_callL {y : MethodName} {bytes : ByteArray} {maxL d mc ms index o : Nat} {hh : List (Nat × Nat × Nat × Nat)} {As st : List Value} {cA : ClassId} {ty : FieldType} {a0 : vp_A} {k : Int32} {PA : vp_A → Prop} {w1 : qMem} (hC : qCx p c0 cc nL s m args meth own D G ad) (hR : qRp D G ad s w H locs)
    (hM : qHL l D G ad y bytes maxL hh d mc ms As w o cA ty a0 k PA w1) (hO : qOut o cA ty a0 (qAdr ad H.size) s H) (hos : s.heap.size ≤ o) (hlk : Cond.methodLink own index y ∈ lw_gd) (hin : Cond.static y ∈ lw_gd) (hini : Cond.initialized y.cls ∈ lw_gd) (hcode : Cond.codeWith y bytes maxL (some .int) hh ∈ lw_gd)
    (hd : y.cls ≠ "java/lang/invoke/MethodHandle" ∧ y.cls ≠ "java/lang/invoke/VarHandle" ∧ (parseMethodDescriptor y.desc).map (fun d => d.parameters.length) = some As.length) (hroom : d + 1 ≤ R.frames ∧ 8 + (maxL + 11) + 40 * d ≤ R.locals) (hsz : ls.size = nL) (hst : st = As.reverse ++ rest) (hcat : (rest.map fun v => v.category).sum ≤ 8) (hdg : decode cc pc = .ok (.invokestatic index, 3)) (hf : cells + mc ≤ R.cells ∧ slots + ms ≤ R.slots)
    (kk : ∀ (a1 : vp_A) (H1 : Heap) (locs1 : List Loc), PA a1 → H.size ≤ H1.size → (∀ a : Nat, a < H.size → ¬ qAdo ad o H.size a → H1[a]? = H[a]?) → qOut o cA ty a1 (qAdr ad H1.size) s H1 → qRp D G ad s w1 H1 locs1 → W p l e R s m args below meth c0 H1 locs1 (cells + mc) (slots + ms) Q (F0 m (pc + 3) ls (.int k :: rest))) : W p l e R s m args below meth c0 H locs cells slots Q (F0 m pc ls st) := by
  obtain ⟨hx1, hb, hml, hown, hts, hlo, hK, hJ, hX⟩ := hC
  have hcB : vx_CSW R s args own index y bytes maxL (some .int) hh (Cond.codeWith y bytes maxL (some .int) hh :: lw_gd) (qrm d mc ms) mc ms As.length := vx_cwSW (Ts := lw_gd) As.length hts (fun w hw => by
    unfold va_wsS at hw
    rcases List.mem_append.mp hw with h | h
    · have hw2 : w ∈ lw_gd := by
        rcases List.mem_cons.mp h with rfl | h
        · exact hlk
        · rcases List.mem_cons.mp h with rfl | h
          · exact hin
          · rcases List.mem_cons.mp h with rfl | h
            · exact hini
            · cases h
      exact ⟨hw2, good_of_word (List.mem_filter.mp hw2).2⟩
    · exact q_goodInW hcode w h) rfl rfl rfl hd hroom
  have hS := hR.2
  let sH : State := { s with heap := H }
  refine va_calli (vx_runSW (As := As) (rest := rest) (Ts := lw_gd) ⟨hx1, hb, hml, hown, hts⟩ (hM sH) hcB ⟨qyblind qOut_k, fun U hU hW => ⟨rfl, ⟨by rw [hU], by rw [hU]; exact hR.1, va_K.moved hW.alike hK, by rw [hU]; exact qX_go hX hW hS.2.1 (qAdr_mono hS.1)⟩, by rw [hU]; exact qOut_k _ _ s U H H hO hW.alike (fun _ _ _ => rfl) (fun _ h => h)⟩⟩ rfl rfl hsz hst (lv_room hcat) hdg hf) hS (fun q _ h => h.elim (fun e => Or.inr (e ▸ hos)) (fun h => qAdr_mono hS.1 q h)) (fun q h => h.elim (fun e => Or.inr (e ▸ hos)) (fun h => qAdr_mono hS.1 q h)) (fun r1 u t H1 locs1 ht hvm hw hB hz1 hk1 hS1 => ?_)
  subst hw
  rw [ht] at hB
  obtain ⟨hB, a1, hPA, hO1⟩ := hB
  exact kk a1 H1 locs1 hPA hz1 hk1 (qOut_k _ _ t s H1 H1 hO1 hvm.symm (fun _ _ _ => rfl) (fun _ h => h)) ⟨hB, hS1⟩
theorem qOut_on2 {o o2 : Nat} {cA : ClassId} {ty : FieldType} {a0 : vp_A} {H1 : Heap} (h : qOut o2 cA ty a0 (qAdr ad H.size) s H) (hne : o2 ≠ o) (hz : H.size ≤ H1.size) (hk : ∀ a : Nat, a < H.size → ¬ qAdo ad o H.size a → H1[a]? = H[a]?) : qOut o2 cA ty a0 (qAdr ad H1.size) s H1 := by
  obtain ⟨h1, h2, h3, h4⟩ := h
  exact ⟨h1, h2, by rw [hk o2 (Array.getElem?_eq_some_iff.mp h3).1 (fun h => h.elim hne h4)]; exact h3, fun h => h4 (qAdr_mono hz o2 h)⟩
theorem q_lald {o : Nat} {cA : ClassId} {f : Nat → Int64} (hC : qCx p c0 cc nL s m args meth own D G ad) (hO : qOut o cA .long (1, .inr (.inl f)) (qAdr ad H.size) s H) {v : Int64} (hv : f 0 = v) (hdg : decode cc pc = .ok (.laload, 1))
    (kk : W p l e R s m args below meth c0 H locs cells slots Q (F0 m (pc + 1) ls (.long v :: rest))) : W p l e R s m args below meth c0 H locs cells slots Q (F0 m pc ls (.int 0 :: .ref o :: rest)) := by
  subst hv
  have hP : va_P ((fun _ => 0), (fun _ _ => 0)) [] [(o, .inl (cA, 1, .inr (.inl f)))] H := fun k q hk => by
    have hz : k < 1 := (List.getElem?_eq_some_iff.mp hk).1
    rw [show k = 0 by omega] at hk
    cases hk
    exact hO.2.2.1
  exact va_lald hC.1 hC.2.1 hO.2.1 hP 0 0 rfl rfl (qin_t (n := 1) (by decide)) hdg kk
theorem q_dald {o : Nat} {cA : ClassId} {f : Nat → UInt64} (hC : qCx p c0 cc nL s m args meth own D G ad) (hO : qOut o cA .double (1, .inr (.inr (.inr (.inl f)))) (qAdr ad H.size) s H) {v : UInt64} (hv : f 0 = v) (hdg : decode cc pc = .ok (.daload, 1))
    (kk : W p l e R s m args below meth c0 H locs cells slots Q (F0 m (pc + 1) ls (.double v :: rest))) : W p l e R s m args below meth c0 H locs cells slots Q (F0 m pc ls (.int 0 :: .ref o :: rest)) := by
  subst hv
  have hP : va_P ((fun _ => 0), (fun _ _ => 0)) [] [(o, .inl (cA, 1, .inr (.inr (.inr (.inl f)))))] H := fun k q hk => by
    have hz : k < 1 := (List.getElem?_eq_some_iff.mp hk).1
    rw [show k = 0 by omega] at hk
    cases hk
    exact hO.2.2.1
  exact va_dald hC.1 hC.2.1 hO.2.1 hP 0 0 rfl rfl (qin_t (n := 1) (by decide)) hdg kk
theorem q_bool {x : Int32} (hx : p.tables.exec = Jvm.exec) (hb : c0.code = cc) (d1 : decode cc pc = .ok (.ifCond .eq 7, 3)) (d2 : decode cc (pc + 3) = .ok (.iconst 1, 1)) (d3 : decode cc (pc + 4) = .ok (.goto 4, 3)) (d4 : decode cc (pc + 7) = .ok (.iconst 0, 1))
    (kk : W p l e R s m args below meth c0 H locs cells slots Q (F0 m (pc + 8) ls (.int (if x = 0 then 0 else 1) :: rest))) : W p l e R s m args below meth c0 H locs cells slots Q (F0 m pc ls (.int x :: rest)) := by
  refine lv_if_eq (tgt := pc + 7) hx hb d1 (by omega) (fun h => ?_) (fun h => ?_)
  · rw [if_pos h] at kk
    exact lv_iconst (v := 0) hx hb d4 (by decide) kk
  · rw [if_neg h] at kk
    exact lv_iconst (v := 1) hx hb d2 (by decide) (lv_goto (tgt := pc + 8) hx hb d3 (by omega) kk)
theorem q_boolL {x : Int32} (hx : p.tables.exec = Jvm.exec) (hb : c0.code = cc) (d1 : decode cc pc = .ok (.ifCond .eq 7, 3)) (d2 : decode cc (pc + 3) = .ok (.lconst 1, 1)) (d3 : decode cc (pc + 4) = .ok (.goto 4, 3)) (d4 : decode cc (pc + 7) = .ok (.lconst 0, 1))
    (kk : W p l e R s m args below meth c0 H locs cells slots Q (F0 m (pc + 8) ls (.long (if x = 0 then 0 else 1) :: rest))) : W p l e R s m args below meth c0 H locs cells slots Q (F0 m pc ls (.int x :: rest)) := by
  refine lv_if_eq (tgt := pc + 7) hx hb d1 (by omega) (fun h => ?_) (fun h => ?_)
  · rw [if_pos h] at kk
    exact lv_lconst (v := 0) hx hb d4 (by decide) kk
  · rw [if_neg h] at kk
    exact lv_lconst (v := 1) hx hb d2 (by decide) (lv_goto (tgt := pc + 8) hx hb d3 (by omega) kk)
end
theorem qcmp0 (x : Int64) : lg_cmp x x = 0 := by simp [lg_cmp]
/-- what the law's walk stands on -/
def qLw (p : Program) (l : Launch) (s : State) (m : MethodId) (args : Array Value) (meth : Method) (c0 : Code) (D : va_G) (G : Nat → ClassId) (ad : Nat → Nat) (b L o oD : Nat) (xs : Nat → Int32) : Prop :=
  qCx p c0 cL_law 9 s m args meth RL D G ad ∧ l.stackTraces = false ∧ va_X b L xs s s.heap ∧ b < s.heap.size ∧ ¬ qAdr ad s.heap.size b ∧ L ≤ 2048 ∧ s.heap.size ≤ o ∧ s.heap.size ≤ oD ∧ oD ≠ o
abbrev qlvs (b o oD i : Nat) (ad : Nat → Nat) : List (Nat × Value) := [(0, .ref b), (1, .ref (ad 228)), (2, .ref (ad 238)), (3, .ref o), (4, .ref oD), (5, .int (nI i))]
def qbdn {α γ δ β : Type} (o : Option (α × γ × δ)) (k : α → γ → δ → Option β) : Option β := match o with | none => none | some (x, y, z) => k x y z
theorem qbdn_s {α γ δ β : Type} {o : Option (α × γ × δ)} {k : α → γ → δ → Option β} {r : β} (h : qbdn o k = some r) : ∃ x y z, o = some (x, y, z) ∧ k x y z = some r := by
  match o, h with
  | none, h => cases h
  | some (x, y, z), h => exact ⟨x, y, z, rfl, h⟩
