/-- the script as a fact that is kept: L ints xs at the cell b, outside A -/
def lSc (b L : Nat) (xs : Nat → Int32) (A : Nat → Prop) (U : State) (H : Heap) : Prop := va_X b L xs U H ∧ b < H.size ∧ ¬ A b
theorem lSc_k {b L : Nat} {xs : Nat → Int32} : qXk (lSc b L xs) := fun A B s U H H1 h ha hq hAB => by
  have h1 : va_X b L xs U H1 := va_X.moved ha (h.1.kept (hq b h.2.1 h.2.2))
  refine ⟨h1, ?_, fun h2 => h.2.2 (hAB b h2)⟩
  obtain ⟨scr, g, -⟩ := h1
  exact (Array.getElem?_eq_some_iff.mp g).1
theorem lso4 {α β γ δ : Type} {a r : α} {b t : β} {c u : γ} {d v : δ} (h : some (a, b, c, d) = some (r, t, u, v)) : a = r ∧ b = t ∧ c = u ∧ d = v := by cases h; exact ⟨rfl, rfl, rfl, rfl⟩
section
variable {p : Program} {l : Launch} {e : Env} {R : Room} {s : State} {m : MethodId} {args : Array Value} {below : List Frame} {meth : Method} {c : Code} {H : Heap} {locs : List Loc} {cells slots : Nat} {Q : State → Prop} {pc nL : Nat} {ls : Array Slot} {rest : List Value} {cc : ByteArray} {own : String} {D : va_G} {G : Nat → ClassId} {ad : Nat → Nat} {X0 X : va_W}
theorem l_now {E : (Nat → Prop) → State → Heap → Prop} (hk : qXk E) (hR : lR D X0 X s H locs) (h : E (lA ad X0 s.heap.size) s s.heap) : E (lA ad X H.size) s H := by
  refine hk _ _ s s s.heap H h (Vm.Alike.refl _) (fun a ha hn => hR.2.2.2.1 a ha (fun h => hn (Or.inl h))) (fun q hq => ?_)
  rcases hq with hq | hq
  · rcases va_A_iff.mp hq with ⟨z, hz, rfl⟩ | hq
    · exact Or.inl (lD_in hR.2.1 z hz)
    · exact Or.inl (Or.inr (Nat.le_trans hR.2.2.1 hq))
  · exact Or.inr (qAdr_mono hR.2.2.1 q hq)
theorem lSt_of (hC : lCx p c cc nL s m args meth own D G ad X0) {i : Nat} (hi : i < 20) : qSt (ad (1000 + i)) (qtx.getD i []) (lA ad X0 s.heap.size) s s.heap := by
  obtain ⟨-, -, -, -, -, -, -, -, hX, -⟩ := hC
  obtain ⟨g1, g2, g3, g4⟩ := hX.1.2 i hi
  exact ⟨g1, g2, _, g3, qtx_asc i hi, g4⟩
theorem l_sld {b L : Nat} {xs : Nat → Int32} (hC : lCx p c cc nL s m args meth own D G ad X0) (hR : lR D X0 X s H locs) (hE : lSc b L xs (lA ad X0 s.heap.size) s s.heap) {i : Int32} {j : Nat} (hin : qin i L = true) (hj : i.toNatClampNeg = j) (hdg : decode cc pc = .ok (.iaload, 1))
    (kk : W p l e R s m args below meth c H locs cells slots Q (F0 m (pc + 1) ls (.int (xs j) :: rest))) : W p l e R s m args below meth c H locs cells slots Q (F0 m pc ls (.int i :: .ref b :: rest)) := by
  subst hj
  exact va_sld hC.1 hC.2.1 hE.1 hE.2.1 (fun h => hE.2.2 (Or.inl h)) hR.2.2 (qin_t hin) hdg kk
theorem l_slen {b L : Nat} {xs : Nat → Int32} (hC : lCx p c cc nL s m args meth own D G ad X0) (hR : lR D X0 X s H locs) (hE : lSc b L xs (lA ad X0 s.heap.size) s s.heap) (hdg : decode cc pc = .ok (.arraylength, 1))
    (kk : W p l e R s m args below meth c H locs cells slots Q (F0 m (pc + 1) ls (.int (Int32.ofNat L) :: rest))) : W p l e R s m args below meth c H locs cells slots Q (F0 m pc ls (.ref b :: rest)) := va_slen hC.1 hC.2.1 hE.1 hE.2.1 (fun h => hE.2.2 (Or.inl h)) hR.2.2 hdg kk
theorem l_mna {C ex : va_W} {index N : Nat} {n : Int32} (hC : lCx p c cc nL s m args meth own D G ad X0) (hR : lR D X0 (lX C ex []) s H locs) (hcl : Cond.classLink own index "[[I" ∈ lw_gd) (harr : Cond.arrayClass .int ∈ lw_gd) (hn : ¬ n < 0) (hN : n.toNatClampNeg = N) (hb : N ≤ 100) (hcells : cells + (1 + N) ≤ R.cells) (hslots : slots + (N + N * 7) ≤ R.slots) (hdg : decode cc pc = .ok (.multianewarray index 2, 4))
    (kk : ∀ (q : Nat) (r : Nat → Nat) (H1 : Heap), lR D X0 (lX C ex (lgr G q r N (fun _ _ => 0))) s H1 locs → W p l e R s m args below meth c H1 locs (cells + 1 + N) (slots + N + N * 7) Q (F0 m (pc + 4) ls (.ref q :: rest))) : W p l e R s m args below meth c H locs cells slots Q (F0 m pc ls (.int 7 :: .int n :: rest)) := by
  obtain ⟨hx, hb1, hml, hown, hts, hlo, hK, hJ, hX, hN4⟩ := hC
  have hg0 : s.vm.findClass (FieldType.array .int).toString = some (G 0) := (hK.2 0 _ rfl).2
  have hg7 : s.vm.findClass ("[" ++ (FieldType.array .int).toString) = some (G 7) := (hK.2 7 _ rfl).2
  have hP : va_P D vwCl (lX C ex [] ++ va_pl [] (fun _ => .inr (0, []))) H := by rw [show va_pl [] (fun _ => (.inr (0, []) : va_E)) = [] from rfl, List.append_nil]; exact hR.1
  have hD : va_D (va_A X0 s.heap.size) (lX C ex [] ++ va_pl [] (fun _ => .inr (0, []))) := by rw [show va_pl [] (fun _ => (.inr (0, []) : va_E)) = [] from rfl, List.append_nil]; exact hR.2.1
  refine va_mna (ty := .int) (cy := G 0) (z := (7, .inl (fun _ => 0))) hx hb1 hown (hts _ hcl) hN4.2.2.2.1 (hts _ harr) hg0 hK hP hD hR.2.2 (fun q h => Or.inr h) hn (by decide) hN (K' := 7) (by decide) (by omega) (by decide) (by decide) (by decide) (by decide) hcells hslots (fun cA => ?_) hdg (fun q r cA H1 hr _ hK9 hP1 hD1 hS1 => ?_)
  · exact (arrV_new cA 7 (.int 0))
  · have hcA : cA = G 7 := by
      have h9 := (hK9.2 8 (cA, .array .int) rfl).2
      exact Option.some.inj (h9.symm.trans hg7)
    subst hcA
    have e1 : va_pl ([] ++ (List.range N).map r) (vr_up (fun _ => (.inr (0, []) : va_E)) ((List.range N).map r) (.inl (G 0, 7, .inl (fun _ => 0)))) = (List.range N).map (fun j => (r j, .inl (G 0, 7, .inl (fun _ => 0)))) := by
      rw [List.nil_append]
      unfold va_pl
      rw [List.map_map]
      apply List.map_congr_left
      intro j hj
      show (r j, vr_up _ _ _ (r j)) = _
      rw [vr_up_in (List.mem_map.mpr ⟨j, hj, rfl⟩)]
    rw [e1] at hP1 hD1
    have e2 : ∀ Y : va_W, (lX C ex [] ++ [(q, .inl (G 7, N, .inr (.inr (.inr (.inr (fun i => if i < N then some (r i) else none))))))]) ++ Y = lX C ex ((q, .inl (G 7, N, .inr (.inr (.inr (.inr (fun i => if i < N then some (r i) else none)))))) :: Y) := fun Y => by
      simp [lX]
    rw [e2] at hP1 hD1
    exact kk q r H1 ⟨hP1, hD1, hS1⟩
end
