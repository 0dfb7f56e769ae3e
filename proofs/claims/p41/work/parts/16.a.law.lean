/-! the law's own worlds: the class's cells (or none), then rows and builders that the law makes, then a grid (or none) -/
theorem lm_mono {l : Launch} {y : MethodName} {ws : List Cond} {rm : Room} {Pc Pc1 : Array Value → State → Prop} {Qc Qc1 : Array Value → State → Outcome → State → Prop} {mc ms : Nat} {free free1 : Addr → Prop} (h : Met l y ws rm Pc Qc mc ms free) (hP : ∀ a s, Pc1 a s → Pc a s) (hQ : ∀ a s o t, Pc1 a s → Qc a s o t → Qc1 a s o t) (hf : ∀ q, free q → free1 q) : Met l y ws rm Pc1 Qc1 mc ms free1 := by
  intro p e h1 h2 h3 s m args below h4 h5 h6 h7
  obtain ⟨n, o, g1, g2, g3, g4, L, g5, g6⟩ := h p e h1 h2 h3 s m args below h4 h5 (hP _ _ h6) h7
  exact ⟨n, o, g1, g2, g3, hQ _ _ _ _ h6 g4, L, g5, fun q hq => hf _ (g6 q hq)⟩
theorem lm_thr {l : Launch} {y : MethodName} {ws : List Cond} {rm : Room} {Pc : Array Value → State → Prop} {Qc : Array Value → State → Outcome → State → Prop} {XC : String → State → State → Prop} {mc ms : Nat} {free : Addr → Prop} (h : vx_Met l y ws rm Pc Qc XC mc ms free) (hx : ∀ E st t, ¬ XC E st t) : Met l y ws rm Pc Qc mc ms free := by
  intro p e h1 h2 h3 s m args below h4 h5 h6 h7
  obtain ⟨n, o, g1, g2, g3, g4⟩ := h p e h1 h2 h3 s m args below h4 h5 h6 h7
  rcases g4 with g4 | ⟨q, ho, E, ce, L, hX, -⟩
  · exact ⟨n, o, g1, g2, g3, g4⟩
  · exact absurd hX (hx _ _ _)
theorem lD_nd {A : Nat → Prop} {X : va_W} (h : va_D A X) : (X.map Prod.fst).Nodup := by
  refine List.pairwise_iff_getElem.mpr (fun i j hi hj hij e => ?_)
  rw [List.length_map] at hi hj
  rw [List.getElem_map, List.getElem_map] at e
  have := h.1 i j X[i] X[j] (List.getElem?_eq_getElem hi) (List.getElem?_eq_getElem hj) e
  omega
theorem lD_in {A : Nat → Prop} {X : va_W} (h : va_D A X) : ∀ z ∈ X, A z.1 := fun z hz => by
  obtain ⟨i, hi⟩ := List.getElem?_of_mem hz
  exact h.2 i z hi
theorem lD_of {A : Nat → Prop} {X : va_W} (h : (X.map Prod.fst).Nodup) (hA : ∀ z ∈ X, A z.1) : va_D A X := by
  refine ⟨fun i j p q hi hj hpq => ?_, fun k q hk => hA q (List.mem_of_getElem? hk)⟩
  obtain ⟨li, ei⟩ := List.getElem?_eq_some_iff.mp hi
  obtain ⟨lj, ej⟩ := List.getElem?_eq_some_iff.mp hj
  have hp := List.pairwise_iff_getElem.mp h
  rcases Nat.lt_trichotomy i j with hl | hl | hl
  · exact absurd (by rw [List.getElem_map, List.getElem_map, ei, ej]; exact hpq) (hp i j (by rw [List.length_map]; exact li) (by rw [List.length_map]; exact lj) hl)
  · exact hl
  · exact absurd (by rw [List.getElem_map, List.getElem_map, ei, ej]; exact hpq.symm) (hp j i (by rw [List.length_map]; exact lj) (by rw [List.length_map]; exact li) hl)
theorem lP_in {D : va_G} {X : va_W} {H : Heap} (h : va_P D vwCl X H) : ∀ z ∈ X, va_at D vwCl z H := fun z hz => by
  obtain ⟨i, hi⟩ := List.getElem?_of_mem hz
  exact h i z hi
theorem lP_of {D : va_G} {X : va_W} {H : Heap} (h : ∀ z ∈ X, va_at D vwCl z H) : va_P D vwCl X H := fun k q hk => h q (List.mem_of_getElem? hk)
def lX (C ex g : va_W) : va_W := C ++ (ex ++ g)
def lgr (G : Nat → ClassId) (gq : Nat) (gr : Nat → Nat) (n : Nat) (M : Nat → Nat → Int32) : va_W := (gq, .inl (G 7, n, .inr (.inr (.inr (.inr (fun i => if i < n then some (gr i) else none)))))) :: (List.range n).map (fun j => (gr j, .inl (G 0, 7, .inl (M j))))
def lA (ad : Nat → Nat) (X : va_W) (sz : Nat) : Nat → Prop := fun q => va_A X sz q ∨ qAdr ad sz q
def lR (D : va_G) (X0 X : va_W) (s : State) (H : Heap) (locs : List Loc) : Prop := va_P D vwCl X H ∧ va_D (va_A X0 s.heap.size) X ∧ va_S (va_A X0 s.heap.size) s.heap H locs
def lKp (ad : Nat → Nat) (X : va_W) (H : Heap) (X1 : va_W) (H1 : Heap) : Prop := (∀ q, lA ad X1 H1.size q → lA ad X H.size q) ∧ ∀ a : Nat, a < H.size → ¬ lA ad X H.size a → H1[a]? = H[a]?
theorem lAOA_mv {t : FieldType} {u U : State} (hvm : u.vm.Alike U.vm) (h : va_AOA t u) : va_AOA t U :=
  (show (Cond.arrayOver (.array t)).before #[] U = (Cond.arrayOver (.array t)).before #[] (u.setVm U.vm) from rfl).trans ((Cond.arrayOver_setVmC (args := #[]) (s := u) hvm (.array t)).trans h)
def lPv (x : MethodName) (U : State) : Prop := (Cond.privateMethod x).before #[] U = true
theorem lPv_mv {x : MethodName} {u U : State} (hvm : u.vm.Alike U.vm) (h : lPv x u) : lPv x U :=
  (show (Cond.privateMethod x).before #[] U = (Cond.privateMethod x).before #[] (u.setVm U.vm) from rfl).trans ((Cond.privateMethod_setVm (args := #[]) (s := u) hvm x).trans h)
/-- the builder's own methods that its texts call -/
def lpvs : List MethodName := [yJ5_ensureCapacityInternal_d00df, yJ5_newCapacity_0f7a4, yJ5_putStringAt_47b60, yJ5_inflateIfNeededFor_a7421]
/-- what the tables say that isn't among the good words: which exceptions are no others, that rows of rows can be made, which methods are private -/
def qNcs (U : State) : Prop := va_Nc "java/lang/UnsupportedOperationException" "java/lang/IllegalArgumentException" U ∧ va_Nc "java/lang/IllegalArgumentException" "java/lang/IndexOutOfBoundsException" U ∧ va_Nc "java/lang/UnsupportedOperationException" "java/lang/IndexOutOfBoundsException" U ∧ va_AOA .int U ∧ ∀ x ∈ lpvs, lPv x U
theorem qNcs_mv {u U : State} (ha : u.vm.Alike U.vm) (h : qNcs u) : qNcs U := ⟨va_Nc.moved ha h.1, va_Nc.moved ha h.2.1, va_Nc.moved ha h.2.2.1, lAOA_mv ha h.2.2.2.1, fun x hx => lPv_mv ha (h.2.2.2.2 x hx)⟩
theorem lA_in {ad : Nat → Nat} {X : va_W} {sz : Nat} {z : Nat × va_E} (h : z ∈ X) : lA ad X sz z.1 := by
  obtain ⟨i, hi⟩ := List.getElem?_of_mem h
  exact Or.inl (Or.inl ⟨i, z.2, hi⟩)
theorem va_A_iff {X : va_W} {sz q : Nat} : va_A X sz q ↔ (∃ z ∈ X, z.1 = q) ∨ sz ≤ q := by
  constructor
  · rintro (⟨k, e, h⟩ | h)
    · exact Or.inl ⟨(q, e), List.mem_of_getElem? h, rfl⟩
    · exact Or.inr h
  · rintro (⟨z, hz, rfl⟩ | h)
    · obtain ⟨i, hi⟩ := List.getElem?_of_mem hz
      exact Or.inl ⟨i, z.2, hi⟩
    · exact Or.inr h
theorem lA_mo {ad : Nat → Nat} {X X1 : va_W} {sz sz1 : Nat} (hz : sz ≤ sz1) (h : ∀ z ∈ X1, (∃ y ∈ X, y.1 = z.1) ∨ sz ≤ z.1) : ∀ q, lA ad X1 sz1 q → lA ad X sz q := by
  rintro q (h1 | h1)
  · rcases va_A_iff.mp h1 with ⟨z, hz1, rfl⟩ | h1
    · rcases h z hz1 with ⟨y, hy, e⟩ | h2
      · rw [← e]; exact lA_in hy
      · exact Or.inl (Or.inr h2)
    · exact Or.inl (Or.inr (Nat.le_trans hz h1))
  · exact Or.inr (qAdr_mono hz q h1)
theorem lKp.rf {ad : Nat → Nat} {X X1 : va_W} {H : Heap} (h : ∀ z ∈ X1, ∃ y ∈ X, y.1 = z.1) : lKp ad X H X1 H := ⟨lA_mo (Nat.le_refl _) (fun z hz => Or.inl (h z hz)), fun _ _ _ => rfl⟩
theorem lK_on {E : (Nat → Prop) → State → Heap → Prop} (hk : qXk E) {ad : Nat → Nat} {X X1 : va_W} {s : State} {H H1 : Heap} (h : E (lA ad X H.size) s H) (k : lKp ad X H X1 H1) : E (lA ad X1 H1.size) s H1 := hk _ _ s s H H1 h (Vm.Alike.refl _) k.2 k.1
theorem lR_perm {D : va_G} {X0 X Y : va_W} {s : State} {H : Heap} {locs : List Loc} (h : lR D X0 X s H locs) (hp : X.Perm Y) : lR D X0 Y s H locs := by
  refine ⟨lP_of (fun z hz => lP_in h.1 z (hp.mem_iff.mpr hz)), lD_of ?_ (fun z hz => lD_in h.2.1 z (hp.mem_iff.mpr hz)), h.2.2⟩
  exact (hp.map Prod.fst).nodup_iff.mp (lD_nd h.2.1)
theorem lR_pick {D : va_G} {X0 C ex g : va_W} {s : State} {H : Heap} {locs : List Loc} (h : lR D X0 (lX C ex g) s H locs) (is : List Nat) {ex1 g1 : va_W} (hn : va_nd is = true) (hs : is.map (fun i => ex[i]?) = ex1.map some) (hg : g1 = g ∨ g1 = []) : lR D X0 (lX C ex1 g1) s H locs := by
  have hx : ∀ z ∈ ex1, z ∈ ex := fun z hz => by
    have h1 : some z ∈ ex1.map some := List.mem_map.mpr ⟨z, hz, rfl⟩
    rw [← hs] at h1
    obtain ⟨i, -, hi⟩ := List.mem_map.mp h1
    exact List.mem_of_getElem? hi
  have hgm : ∀ z ∈ g1, z ∈ g := fun z hz => by
    rcases hg with rfl | rfl
    · exact hz
    · cases hz
  have hm : ∀ z ∈ lX C ex1 g1, z ∈ lX C ex g := fun z hz => by
    rcases List.mem_append.mp hz with h1 | h1
    · exact List.mem_append_left _ h1
    · rcases List.mem_append.mp h1 with h1 | h1
      · exact List.mem_append_right _ (List.mem_append_left _ (hx z h1))
      · exact List.mem_append_right _ (List.mem_append_right _ (hgm z h1))
  have hnd := lD_nd h.2.1
  simp only [lX, List.map_append] at hnd
  obtain ⟨n1, n2, n3⟩ := List.nodup_append.mp hnd
  obtain ⟨n4, n5, n6⟩ := List.nodup_append.mp n2
  have hdx : va_D (fun _ => True) ex := lD_of n4 (fun _ _ => trivial)
  have n4' := lD_nd (hdx.sub is hn hs)
  have hmx : ∀ a ∈ ex1.map Prod.fst, a ∈ ex.map Prod.fst := fun a ha => by
    obtain ⟨z, hz, rfl⟩ := List.mem_map.mp ha
    exact List.mem_map.mpr ⟨z, hx z hz, rfl⟩
  have hmg : ∀ a ∈ g1.map Prod.fst, a ∈ g.map Prod.fst := fun a ha => by
    obtain ⟨z, hz, rfl⟩ := List.mem_map.mp ha
    exact List.mem_map.mpr ⟨z, hgm z hz, rfl⟩
  refine ⟨lP_of (fun z hz => lP_in h.1 z (hm z hz)), lD_of ?_ (fun z hz => lD_in h.2.1 z (hm z hz)), h.2.2⟩
  simp only [lX, List.map_append]
  refine List.nodup_append.mpr ⟨n1, List.nodup_append.mpr ⟨n4', ?_, fun a ha b hb => n6 a (hmx a ha) b (hmg b hb)⟩, fun a ha b hb => ?_⟩
  · rcases hg with rfl | rfl
    · exact n5
    · exact List.nodup_nil
  · rcases List.mem_append.mp hb with hb | hb
    · exact n3 a ha b (List.mem_append_left _ (hmx b hb))
    · exact n3 a ha b (List.mem_append_right _ (hmg b hb))
theorem lK_pick {ad : Nat → Nat} {C ex g : va_W} {H : Heap} (is : List Nat) {ex1 g1 : va_W} (hs : is.map (fun i => ex[i]?) = ex1.map some) (hg : g1 = g ∨ g1 = []) : lKp ad (lX C ex g) H (lX C ex1 g1) H := by
  refine lKp.rf (fun z hz => ⟨z, ?_, rfl⟩)
  rcases List.mem_append.mp hz with h1 | h1
  · exact List.mem_append_left _ h1
  · rcases List.mem_append.mp h1 with h1 | h1
    · refine List.mem_append_right _ (List.mem_append_left _ ?_)
      have h1 : some z ∈ ex1.map some := List.mem_map.mpr ⟨z, h1, rfl⟩
      rw [← hs] at h1
      obtain ⟨i, -, hi⟩ := List.mem_map.mp h1
      exact List.mem_of_getElem? hi
    · refine List.mem_append_right _ (List.mem_append_right _ ?_)
      rcases hg with rfl | rfl
      · exact h1
      · cases h1
theorem lX_push {C ex g : va_W} {z : Nat × va_E} : (lX C ex g ++ [z]).Perm (lX C (z :: ex) g) := by
  unfold lX
  rw [List.append_assoc]
  exact List.Perm.append_left C (List.perm_append_singleton z (ex ++ g))
theorem lX_at {C ex g : va_W} {i : Nat} {z : Nat × va_E} (h : ex[i]? = some z) : (lX C ex g)[C.length + i]? = some z := by
  have hl : i < ex.length := (List.getElem?_eq_some_iff.mp h).1
  unfold lX
  rw [List.getElem?_append_right (by omega), Nat.add_sub_cancel_left, List.getElem?_append_left hl]
  exact h
theorem lX_set {C ex g : va_W} {i : Nat} {y : Nat × va_E} (hl : i < ex.length) : (lX C ex g).set (C.length + i) y = lX C (ex.set i y) g := by
  unfold lX
  rw [List.set_append_right _ _ (by omega), Nat.add_sub_cancel_left, List.set_append_left _ _ hl]
theorem lX_gat {C ex g : va_W} {i : Nat} {z : Nat × va_E} (h : g[i]? = some z) : (lX C ex g)[C.length + (ex.length + i)]? = some z := by
  unfold lX
  rw [List.getElem?_append_right (by omega), Nat.add_sub_cancel_left, List.getElem?_append_right (by omega), Nat.add_sub_cancel_left]
  exact h
theorem lX_gset {C ex g : va_W} {i : Nat} {y : Nat × va_E} : (lX C ex g).set (C.length + (ex.length + i)) y = lX C ex (g.set i y) := by
  unfold lX
  rw [List.set_append_right _ _ (by omega), Nat.add_sub_cancel_left, List.set_append_right _ _ (by omega), Nat.add_sub_cancel_left]
theorem lgr_at {G : Nat → ClassId} {gq n j : Nat} {gr : Nat → Nat} {M : Nat → Nat → Int32} (h : j < n) : (lgr G gq gr n M)[j + 1]? = some (gr j, .inl (G 0, 7, .inl (M j))) := by
  unfold lgr
  rw [List.getElem?_cons_succ, List.getElem?_map, List.getElem?_range h]
  rfl
theorem lgr_set {G : Nat → ClassId} {gq n j : Nat} {gr : Nat → Nat} {M : Nat → Nat → Int32} (h : j < n) (r : Nat → Int32) : (lgr G gq gr n M).set (j + 1) (gr j, .inl (G 0, 7, .inl r)) = lgr G gq gr n (qur M j r) := by
  unfold lgr
  rw [List.set_cons_succ]
  congr 1
  apply List.ext_getElem?
  intro i
  by_cases e : i = j
  · subst e
    rw [List.getElem?_set_self (by simpa using h), List.getElem?_map, List.getElem?_range h]
    simp [qur]
  · rw [List.getElem?_set_ne (fun x => e x.symm), List.getElem?_map, List.getElem?_map]
    by_cases hi : i < n
    · rw [List.getElem?_range hi]
      simp [qur, e]
    · rw [List.getElem?_eq_none (by simpa using hi)]
      rfl
-- perms of worlds
theorem lp_C {C ex g : va_W} : (lX C ex g).Perm (C ++ (ex ++ g)) := List.Perm.refl _
theorem lp_C0 {C : va_W} : (lX C [] []).Perm C := by
  unfold lX
  rw [List.append_nil, List.append_nil]
theorem lp_C1 {C C1 ex g : va_W} (h : (C1 : va_W) = C) : (C1 ++ (ex ++ g)).Perm (lX C ex g) := by subst h; exact List.Perm.refl _
theorem lp_G {C ex g : va_W} : (lX C ex g).Perm (g ++ (C ++ ex)) := by
  unfold lX
  rw [← List.append_assoc]
  exact List.perm_append_comm
theorem lp_G1 {C ex g : va_W} : (g ++ (C ++ ex)).Perm (lX C ex g) := lp_G.symm
theorem lp_Gz {C ex g : va_W} {z : Nat × va_E} : (lX [] [z] g ++ (C ++ ex)).Perm (lX C (z :: ex) g) := by
  have h : (z :: (g ++ (C ++ ex))).Perm (z :: (C ++ (ex ++ g))) := List.Perm.cons z lp_G1
  exact h.trans List.perm_middle.symm
theorem lp_CG {C ex g : va_W} : (lX C ex g).Perm (lX C [] g ++ ex) := by
  show (C ++ (ex ++ g)).Perm ((C ++ g) ++ ex)
  rw [List.append_assoc]
  exact List.Perm.append_left C List.perm_append_comm
theorem lp_CGz {C ex g : va_W} {z : Nat × va_E} : (lX C [z] g ++ ex).Perm (lX C (z :: ex) g) := by
  show ((C ++ (z :: g)) ++ ex).Perm (C ++ (z :: (ex ++ g)))
  rw [List.append_assoc]
  exact List.Perm.append_left C (List.Perm.cons z List.perm_append_comm)
theorem lp_CP {C ex : va_W} : (lX C ex []).Perm (lX C [] [] ++ ex) := by
  show (C ++ (ex ++ [])).Perm ((C ++ []) ++ ex)
  rw [List.append_nil, List.append_nil]
theorem lp_CP1 {C ex g : va_W} : (lX C [] g ++ ex).Perm (lX C ex g) := lp_CG.symm
theorem lp_B {C ex g : va_W} {x y : Nat × va_E} : (lX C (x :: y :: ex) g).Perm (lX [] [x, y] [] ++ (C ++ (ex ++ g))) := by
  show (C ++ (x :: y :: (ex ++ g))).Perm (x :: y :: (C ++ (ex ++ g)))
  exact List.perm_middle.trans (List.Perm.cons x List.perm_middle)
theorem lp_B1 {C ex g : va_W} {x y : Nat × va_E} : (lX [] [x, y] [] ++ (C ++ (ex ++ g))).Perm (lX C (x :: y :: ex) g) := lp_B.symm
theorem lp_0 {C ex g : va_W} : (lX C ex g).Perm (lX [] [] [] ++ (C ++ (ex ++ g))) := List.Perm.refl _
theorem lp_O {C ex g : va_W} {x : Nat × va_E} : (lX C (x :: ex) g).Perm (lX [] [x] [] ++ (C ++ (ex ++ g))) := by
  show (C ++ (x :: (ex ++ g))).Perm (x :: (C ++ (ex ++ g)))
  exact List.perm_middle
theorem lp_OB {C ex g : va_W} {x y : Nat × va_E} : (lX [] [x, y] [] ++ (C ++ (ex ++ g))).Perm (lX C (x :: y :: ex) g) := lp_B.symm
theorem lp_CR {C ex g : va_W} : (lX C ex g).Perm (lX C [] [] ++ (ex ++ g)) := by
  show (C ++ (ex ++ g)).Perm ((C ++ []) ++ (ex ++ g))
  rw [List.append_nil]
theorem lp_GR {C ex g : va_W} : (lX C ex g).Perm (lX [] [] g ++ (C ++ ex)) := lp_G
theorem lp_GR1 {C ex g : va_W} : (lX [] [] g ++ (C ++ ex)).Perm (lX C ex g) := lp_G1
