/-- the script as drawn's walk has it, with what the addresses agree on -/
def lSA (b L : Nat) (xs : Nat → Int32) (ad ad0 : Nat → Nat) (A : Nat → Prop) (U : State) (H : Heap) : Prop := lSc b L xs A U H ∧ ∀ k : Nat, 1000 ≤ k → ad k = ad0 k
theorem lSA_k {b L : Nat} {xs : Nat → Int32} {ad ad0 : Nat → Nat} : qXk (lSA b L xs ad ad0) := fun A B s U H H1 h ha hq hAB => ⟨lSc_k A B s U H H1 h.1 ha hq hAB, h.2⟩
/-- the script, and what the making asks of the tables -/
def lSO (b L : Nat) (xs : Nat → Int32) (A : Nat → Prop) (U : State) (H : Heap) : Prop := lSc b L xs A U H ∧ va_AO RX3 U ∧ va_AO RX0 U
theorem lSO_k {b L : Nat} {xs : Nat → Int32} : qXk (lSO b L xs) := fun A B s U H H1 h ha hq hAB => ⟨lSc_k A B s U H H1 h.1 ha hq hAB, va_AO.moved ha h.2.1, va_AO.moved ha h.2.2⟩
/-- answers a new object of the class whose cells hold w -/
abbrev lQo (D : va_G) (G : Nat → ClassId) (ad0 : Nat → Nat) (w : qMem) (st : State) : Array Value → State → Outcome → State → Prop := va_Qr (S := Unit) (fun _ => True) (fun _ a t => ∃ ad : Nat → Nat, (∀ k : Nat, 1000 ≤ k → ad k = ad0 k) ∧ qInj ad ∧ a = ad 228 ∧ lB D (lX [] [] []) st.heap.size (lX (qcells G ad w) [] []) t) (va_A (lX [] [] []) st.heap.size)
theorem qX_ad {ad ad0 : Nat → Nat} {A B : Nat → Prop} {U : State} {H : Heap} (h : qX ad0 A U H) (he : ∀ k : Nat, 1000 ≤ k → ad k = ad0 k) (hAB : ∀ q, B q → A q) : qX ad B U H := by
  obtain ⟨h1, h2, h3, h4, h5⟩ := h
  refine ⟨⟨⟨h1.1.1.narrow hAB, h1.1.2.narrow hAB⟩, fun i hi => ?_⟩, fun r hr => ?_, h3.narrow hAB, h4.narrow hAB, h5⟩
  · obtain ⟨g1, g2, g3, g4⟩ := h1.2 i hi
    rw [he (1000 + i) (by omega), he (2000 + i) (by omega)]
    exact ⟨g1.narrow hAB, g2.narrow hAB, g3.narrow hAB, g4.narrow hAB⟩
  · rw [he (1000 + r.2.2.2) (by omega)]
    exact h2 r hr
section
variable {p : Program} {l : Launch} {e : Env} {R : Room} {s : State} {m : MethodId} {args : Array Value} {below : List Frame} {meth : Method} {c : Code} {H : Heap} {locs : List Loc} {cells slots : Nat} {Q : State → Prop} {pc nL : Nat} {ls : Array Slot} {rest : List Value} {cc : ByteArray} {own : String} {D : va_G} {G : Nat → ClassId} {ad ad0 : Nat → Nat}
theorem l_oret {mc ms : Nat} {w wF : qMem} (hC : lCx p c cc nL s m args meth own D G ad (lX [] [] [])) (hR : lR D (lX [] [] []) (lX (qcells G ad w) [] []) s H locs) {ty : FieldType} (hr : meth.sig.returnType = some ty) (hty : ∃ n, ty = .object n) (he : ∀ k : Nat, 1000 ≤ k → ad k = ad0 k) (hJ : qInj ad) (hw : w = wF) (hdg : decode cc pc = .ok (.areturn, 1)) (hc : cells ≤ mc) (hs : slots ≤ ms) :
    W p l e R s m args below meth c H locs cells slots (MQ below (lQo D G ad0 wF s) args s mc ms (va_A (lX [] [] []) s.heap.size)) (F0 m pc ls [.ref (ad 228)]) := by
  subst hw
  exact W.widen hc hs (W.aret hC.1 hC.2.1 hr (Or.inl hty) (Or.inr ⟨_, rfl⟩) (fun t ht hW => ⟨⟨(), ad 228, rfl, trivial, ad, he, hJ, rfl, by rw [ht]; exact hR.1, hR.2.1⟩, hR.2.2.F ht⟩) hR.2.2.2.2 hdg hC.2.2.2.2.2.1)
theorem lR_J {w : qMem} (hD : va_D (va_A (lX [] [] []) s.heap.size) (qcells G ad w)) : qInj ad ∧ ∀ k : Nat, k < 238 → s.heap.size ≤ ad k := by
  refine ⟨fun i j hi hj e => hD.1 i j (ad i, qshp G ad (w i) i) (ad j, qshp G ad (w j) j) (qat G ad w hi) (qat G ad w hj) e, fun k hk => ?_⟩
  rcases va_A_iff.mp (hD.2 k (ad k, qshp G ad (w k) k) (qat G ad w hk)) with ⟨z, hz, -⟩ | h
  · exact absurd hz (by simp [lX])
  · exact h
/-- another object's addresses in place of the first ones -/
theorem lCx_ad (hC : lCx p c cc nL s m args meth own D G ad0 (lX [] [] [])) (he : ∀ k : Nat, 1000 ≤ k → ad k = ad0 k) (hJ : qInj ad) (hs : ∀ k : Nat, k < 238 → s.heap.size ≤ ad k) : lCx p c cc nL s m args meth own D G ad (lX [] [] []) ∧ ∀ q, lA ad (lX [] [] []) s.heap.size q → lA ad0 (lX [] [] []) s.heap.size q := by
  have hA : ∀ q, lA ad (lX [] [] []) s.heap.size q → lA ad0 (lX [] [] []) s.heap.size q := fun q hq => by
    rcases hq with hq | hq
    · exact Or.inl hq
    · rcases hq with ⟨k, hk, rfl⟩ | hq
      · exact Or.inr (Or.inr (hs k hk))
      · exact Or.inr (Or.inr hq)
  exact ⟨⟨hC.1, hC.2.1, hC.2.2.1, hC.2.2.2.1, hC.2.2.2.2.1, hC.2.2.2.2.2.1, hC.2.2.2.2.2.2.1, hJ, qX_ad hC.2.2.2.2.2.2.2.2.1 he hA, hC.2.2.2.2.2.2.2.2.2⟩, hA⟩
theorem l_callSo {y : MethodName} {bytes : ByteArray} {maxL d mc ms index : Nat} {ret : Option FieldType} {As st : List Value} {w : qMem} {E : (Nat → Prop) → State → Heap → Prop} (hC : lCx p c cc nL s m args meth own D G ad0 (lX [] [] [])) (hR : lR D (lX [] [] []) (lX [] [] []) s H locs)
    (hM : lCM l D G ad0 y (Cond.code y bytes maxL ret) d mc ms As (lX [] [] []) E (lQo D G ad0 w)) (hXk : qXk E) (hE : E (lA ad0 (lX [] [] []) H.size) s H) (hlk : Cond.methodLink own index y ∈ lw_gd) (hin : Cond.static y ∈ lw_gd) (hini : Cond.initialized y.cls ∈ lw_gd) (hcode : Cond.code y bytes maxL ret ∈ lw_gd)
    (hd : y.cls ≠ "java/lang/invoke/MethodHandle" ∧ y.cls ≠ "java/lang/invoke/VarHandle" ∧ (parseMethodDescriptor y.desc).map (fun d => d.parameters.length) = some As.length) (hroom : d + 1 ≤ R.frames ∧ 8 + (maxL + 11) + 40 * d ≤ R.locals) (hsz : ls.size = nL) (hst : st = As.reverse ++ rest) (hcat : (rest.map fun v => v.category).sum ≤ 8) (hdg : decode cc pc = .ok (.invokestatic index, 3)) (hf : cells + mc ≤ R.cells ∧ slots + ms ≤ R.slots)
    (kk : ∀ (ad : Nat → Nat) (H1 : Heap) (locs1 : List Loc), (∀ k : Nat, 1000 ≤ k → ad k = ad0 k) → lCx p c cc nL s m args meth own D G ad (lX [] [] []) → (∀ q, lA ad (lX [] [] []) s.heap.size q → lA ad0 (lX [] [] []) s.heap.size q) → lR D (lX [] [] []) (lX (qcells G ad w) [] []) s H1 locs1 → W p l e R s m args below meth c H1 locs1 (cells + mc) (slots + ms) Q (F0 m (pc + 3) ls (.ref (ad 228) :: rest))) : W p l e R s m args below meth c H locs cells slots Q (F0 m pc ls st) := by
  have hts := hC.2.2.2.2.1
  have hcB : CallB R s args own index y bytes maxL ret (Cond.code y bytes maxL ret :: lw_gd) (qrm d mc ms) mc ms As.length := callB_of As.length hts (q_goodIn hcode) rfl rfl rfl (hts _ hini) (hts _ hlk) hd hroom
  let sH : State := { s with heap := H }
  have hA : ∀ q : Nat, va_A (lX [] [] []) H.size q → va_A (lX [] [] []) s.heap.size q := fun q hq => by
    rcases va_A_iff.mp hq with ⟨z, hz, rfl⟩ | hq
    · exact absurd hz (by simp [lX])
    · exact Or.inr (Nat.le_trans hR.2.2.1 hq)
  have hp : (lX [] [] [] : va_W).Perm (lX [] [] [] ++ []) := List.Perm.refl _
  refine va_callr (va_runS (As := As) (rest := rest) (Ts := lw_gd) ⟨hC.1, hC.2.1, hC.2.2.1, hC.2.2.2.1, hts⟩ (hM sH) ⟨hcB, hts _ hin⟩ ⟨lE_blind hXk, fun U hU hW => ⟨rfl, l_pre hC hR hp hXk hE hU hW⟩⟩ rfl rfl hsz hst (lv_room hcat) hdg hf) hR.2.2 (fun q _ h => hA q h) hA (fun u a1 t H1 locs1 ht hvm hw hB hz1 hk1 hS1 => ?_)
  obtain ⟨ad, he, hJ, ha, hB, hD1⟩ := hB
  rw [ht] at hB
  subst ha
  have hD2 : va_D (va_A (lX [] [] []) s.heap.size) (lX (qcells G ad w) [] []) := lD_of (lD_nd hD1) (fun z hz => hA _ (lD_in hD1 z hz))
  have e1 : lX (qcells G ad w) [] [] = qcells G ad w := by unfold lX; simp
  obtain ⟨-, hsz2⟩ := lR_J (G := G) (ad := ad) (w := w) (by rw [← e1]; exact hD2)
  obtain ⟨hC1, hA1⟩ := lCx_ad hC he hJ hsz2
  exact kk ad H1 locs1 he hC1 hA1 ⟨hB, hD2, hS1⟩
end
