theorem qjs_a : Cond.arrayClass .byte ∈ lw_gd := by decide +kernel
theorem qjs_i : ∀ q ∈ u_ws RJ0 TJ0 4, q ∈ lw_gd := by decide +kernel
theorem qjs_o : Cond.methodLink RJ0 1 Lib.objectInit ∈ lw_gd := by decide +kernel
theorem qjs_oi : Cond.instanceMethod Lib.objectInit ∈ lw_gd := by decide +kernel
theorem qjs_oc : Cond.code Lib.objectInit ⟨#[0xb1]⟩ 1 none ∈ lw_gd := by decide +kernel
theorem qcells_len {G : Nat → ClassId} {ad : Nat → Nat} {w : qMem} : (qcells G ad w).length = 247 := by simp [qcells]
theorem qlast {G : Nat → ClassId} {ad : Nat → Nat} {w : qMem} {z : Nat × va_E} : (qcells G ad w ++ [z])[247]? = some z := by
  rw [List.getElem?_append_right (by rw [qcells_len]; exact Nat.le_refl _), qcells_len]; rfl
theorem qlastset {G : Nat → ClassId} {ad : Nat → Nat} {w : qMem} {z y : Nat × va_E} : (qcells G ad w ++ [z]).set 247 y = qcells G ad w ++ [y] := by
  rw [List.set_append_right _ _ (by rw [qcells_len]; exact Nat.le_refl _), qcells_len]; rfl
theorem qfst {D : va_G} {G : Nat → ClassId} {ad : Nat → Nat} {w : qMem} {z : Nat × va_E} {H : Heap} (h : va_P D vwCl (qcells G ad w ++ [z]) H) : va_P D vwCl (qcells G ad w) H := fun k q hq => h k q (by rw [List.getElem?_append_left (List.getElem?_eq_some_iff.mp hq).1]; exact hq)
theorem qnew_out {G : Nat → ClassId} {ad : Nat → Nat} {w : qMem} {sz : Nat} {q : Nat} {x : va_E} (h : va_D (qAdr ad sz) (qcells G ad w ++ [(q, x)])) : sz ≤ q ∧ ∀ k : Nat, k < 247 → q ≠ ad k := by
  have h1 : ∀ k : Nat, k < 247 → q ≠ ad k := fun k hk e => by
    have := h.1 k 247 (ad k, qshp G ad (w k) k) (q, x) (by rw [List.getElem?_append_left (by rw [qcells_len]; exact hk)]; exact qat G ad w hk) qlast e.symm
    omega
  refine ⟨?_, h1⟩
  rcases h.2 247 (q, x) qlast with ⟨k, hk, e⟩ | h2
  · exact absurd e (h1 k hk)
  · exact h2
theorem qsl_asc {t : List Int32} (h : qasc t = true) (b n : Nat) : qasc ((t.drop b).take n) = true := by
  simp only [qasc, Bool.and_eq_true, List.all_eq_true, decide_eq_true_eq] at h ⊢
  refine ⟨?_, fun x hx => h.2 x (List.mem_of_mem_drop (List.mem_of_mem_take hx))⟩
  rw [List.length_take, List.length_drop]
  omega
theorem qsl_at {t : List Int32} {b n j : Nat} (hj : j < n) : ((t.drop b).take n).getD j 0 = t.getD (b + j) 0 := by
  simp [List.getD, List.getElem?_take, hj]
theorem qasc_f0 : ∀ k : Nat, k < 128 → fits .byte (.int (Int32.ofNat k)) = true := by decide +kernel
theorem qasc_f {t : List Int32} (h : qasc t = true) (j : Nat) : fits .byte (.int (t.getD j 0)) = true := by
  obtain ⟨k, hk, e⟩ := qasc_at h j
  rw [e]
  exact qasc_f0 k hk
theorem qBy_new {D : va_G} {G : Nat → ClassId} {ad : Nat → Nat} {w : qMem} {H : Heap} {s : State} {tys : List (ClassId × FieldType)} {k sz q n : Nat} {cA : ClassId} {f : Nat → Int32} {t : List Int32} (hK : va_K D vwCl tys s) (hk : tys[k]? = some (cA, .byte)) (hP : va_P D vwCl (qcells G ad w ++ [(q, .inl (cA, n, .inl f))]) H) (hD : va_D (qAdr ad sz) (qcells G ad w ++ [(q, .inl (cA, n, .inl f))])) (ht : qasc t = true) (hn : t.length = n) (hf : ∀ j : Nat, j < n → f j = t.getD j 0) : qBy q t (qAdr ad H.size) s H := by
  have hc : H[q]? = some (vp_cell cA (n, .inl f)) := hP 247 _ qlast
  have hlt : q < H.size := (Array.getElem?_eq_some_iff.mp hc).1
  refine ⟨ht, vp_cell cA (n, .inl f), hc, (hK.2 k _ hk).1 n (fun j => .int (f j)), (fun h => by cases h), ?_, ?_, fun j hj => ?_, fun h => ?_⟩
  · show t.length ≤ (arrV cA n (fun j => .int (f j))).slots.size
    rw [arrV_size]; omega
  · show (arrV cA n (fun j => .int (f j))).slots.size.toInt32 = _
    rw [arrV_size, hn]
  · show (arrV cA n (fun j => .int (f j))).slots[j]? = _
    rw [arrV_read _ _ (by omega), hf j (by omega)]
  · rcases h with ⟨j, hj, e⟩ | h
    · exact (qnew_out hD).2 j hj e
    · omega
theorem qSt_new {D : va_G} {G : Nat → ClassId} {ad : Nat → Nat} {w : qMem} {H : Heap} {s : State} {args : Array Value} {tys : List (ClassId × FieldType)} {sz q v : Nat} {t : List Int32} {z1 z2 : Value} (hts : ∀ w ∈ lw_gd, w.before args s = true) (hK : va_K D vwCl tys s) (hP : va_P D vwCl (qcells G ad w ++ [(q, .inr (0, [.ref v, .int 0, z1, z2]))]) H) (hD : va_D (qAdr ad sz) (qcells G ad w ++ [(q, .inr (0, [.ref v, .int 0, z1, z2]))])) (hB : qBy v t (qAdr ad H.size) s H) : qSt q t (qAdr ad H.size) s H := by
  have hcell : ∃ cell : Cell, H[q]? = some cell ∧ cell.vm.isStatics = false ∧ s.vm.findClass "java/lang/String" = some cell.cls := va_recv hK hP (ci := 0) (q0 := 247) (q := (RJ0, TJ0, 4)) rfl qlast
  obtain ⟨cell, g1, g2, g3⟩ := hcell
  have hlt : q < H.size := (Array.getElem?_eq_some_iff.mp g1).1
  have hout : ¬ qAdr ad H.size q := fun h => by
    rcases h with ⟨j, hj, e⟩ | h
    · exact (qnew_out hD).2 j hj e
    · omega
  obtain ⟨r, h1, cell2, q1, q2, q3, q4⟩ := hP 247 _ qlast
  have hr : r = (RJ0, TJ0, 4) := (Option.some.inj h1).symm
  subst hr
  obtain ⟨hS, hfc, kC, hkC, hkind⟩ := hK.1 0 _ rfl
  obtain ⟨cf, kf, fi, fd, hi, hsl⟩ := hS 1 (by decide)
  obtain ⟨cf', kf', fi', fd', hi', hsl'⟩ := hS 0 (by decide)
  refine ⟨⟨cell, g1, g2, g3, hout⟩, ⟨cf, kf, fi, fd, cell2, hi, (u_facts hfc hkC (u_lays (k := 1) hts qjs_i (by decide)) hi).1, q1, by rw [q3]; exact (fun h => by cases h), ?_, hout⟩, v, ⟨cf', kf', fi', fd', cell2, hi', (u_facts hfc hkC (u_lays (k := 0) hts qjs_i (by decide)) hi').1, q1, by rw [q3]; exact (fun h => by cases h), ?_, hout⟩, hB⟩
  · rw [hsl, q4 1 (by decide)]; rfl
  · rw [hsl', q4 0 (by decide)]; rfl
set_option maxHeartbeats 4000000 in
set_option maxRecDepth 100000 in
theorem mJ7_copyOfRangeByte {l : Launch} {D : va_G} {G : Nat → ClassId} {ad : Nat → Nat} (hJ : qInj ad) {w : qMem} {v : Nat} {t : List Int32} {b0 e0 : Nat} (hbe : b0 < e0) (hlt : e0 < t.length) (h8 : e0 - b0 ≤ 8) : qCY l D G ad yJ7_copyOfRangeByte_39247 cJ7_copyOfRangeByte_39247 5 (some (.array .byte)) 2 1 8 [.ref v, .int (nI b0), .int (nI e0)] w (qBy v t) (fun st => qQY D G ad st w (fun a => qBy a ((t.drop b0).take (e0 - b0)))) := by
  refine q_startY RJ7 rfl (by decide +kernel) hJ (fun a b h => by simp only [qQY, h]) (Nat.le_of_ble_eq_true rfl) ?_
  intro p e s m args below meth c0 ls hC hr hE hR hl
  have hx := hC.1
  have hb := hC.2.1
  have hts := hC.2.2.2.2.1
  have hown := hC.2.2.2.1
  have hl : lv_has ls 5 [(0, .ref v), (1, .int (nI b0)), (2, .int (nI e0))] := hl
  have hL : t.length < 2 ^ 31 := Nat.lt_of_lt_of_le (qasc_len hE.1) (by decide)
  refine lv_iload_n hx hb dJ7_copyOfRangeByte_39247_0 rfl (lv_at hl 1 rfl) ?_
  refine lv_iload_n hx hb dJ7_copyOfRangeByte_39247_1 rfl (lv_at hl 2 rfl) ?_
  refine q_callYSv (As := [.int (nI b0), .int (nI e0)]) (rest := []) hC hR (mJ7_checkLength hJ (nI_le (by omega) (by omega))) qNo_k trivial qkj_1527 qkj_1528 qkj_83 qkj_1529 qhd_J7_checkLength_df160 ⟨Nat.le_of_ble_eq_true rfl, Nat.le_of_ble_eq_true rfl⟩ hl.1 rfl (Nat.le_of_ble_eq_true rfl) dJ7_copyOfRangeByte_39247_2 ⟨Nat.zero_le _, Nat.zero_le _⟩ (fun H locs _ _ hR => ?_)
  refine lv_iload_n hx hb dJ7_copyOfRangeByte_39247_5 rfl (lv_at hl 2 rfl) ?_
  refine lv_iload_n hx hb dJ7_copyOfRangeByte_39247_6 rfl (lv_at hl 1 rfl) ?_
  refine lv_isub hx hb dJ7_copyOfRangeByte_39247_7 ?_
  rw [pk_sub (by omega)]
  refine lv_istore_n (lv' := [(3, .int (nI (e0 - b0))), (0, .ref v), (1, .int (nI b0)), (2, .int (nI e0))]) hx hb dJ7_copyOfRangeByte_39247_8 rfl hl (by decide) rfl (fun ls hl => ?_)
  refine lv_iload_n hx hb dJ7_copyOfRangeByte_39247_9 rfl (lv_at hl 0 rfl) ?_
  refine va_newa (atype := .byte) (ty := .byte) (N' := e0 - b0) (a0 := (e0 - b0, .inl (fun _ => 0))) hx hb (hts _ qjs_a) rfl hC.2.2.2.2.2.2.1 hR.1 (qD G w hJ _) hR.2 (fun _ h => Or.inr h) (fun _ => rfl) (nI_pos (by omega)) (nI_clamp (by omega)) (by show _ * 1 ≤ _; omega) (Nat.le_of_ble_eq_true rfl) (by show 0 + 0 + (e0 - b0) ≤ 8; omega) dJ7_copyOfRangeByte_39247_10 (fun q cA H1 hK1 hP1 hD1 hS1 => ?_)
  refine lv_astore (lv' := [(4, .ref q), (3, .int (nI (e0 - b0))), (0, .ref v), (1, .int (nI b0)), (2, .int (nI e0))]) hx hb dJ7_copyOfRangeByte_39247_12 hl (by decide) rfl (fun ls hl => ?_)
  refine lv_aload_n hx hb dJ7_copyOfRangeByte_39247_14 rfl (lv_at hl 2 rfl) ?_
  refine lv_iload_n hx hb dJ7_copyOfRangeByte_39247_15 rfl (lv_at hl 3 rfl) ?_
  refine lv_aload hx hb dJ7_copyOfRangeByte_39247_16 (lv_at hl 0 rfl) ?_
  refine lv_iconst (v := 0) hx hb dJ7_copyOfRangeByte_39247_18 (by decide) ?_
  refine lv_aload_n hx hb dJ7_copyOfRangeByte_39247_19 rfl (lv_at hl 2 rfl) ?_
  refine va_tlen (v := nI t.length) hx hb hE.2 hS1 rfl dJ7_copyOfRangeByte_39247_20 ?_
  refine lv_iload_n hx hb dJ7_copyOfRangeByte_39247_21 rfl (lv_at hl 3 rfl) ?_
  refine lv_isub hx hb dJ7_copyOfRangeByte_39247_22 ?_
  rw [pk_sub (by omega)]
  refine lv_iload_n hx hb dJ7_copyOfRangeByte_39247_23 rfl (lv_at hl 1 rfl) ?_
  refine va_mmin hx hb (hC.2.2.1.trans hl.1.symm) hown (hts _ qkj_1598) (hts _ qkj_1471) (hts _ qk_65) (hts _ qkj_1472) (Nat.le_of_ble_eq_true rfl) (Nat.le_of_ble_eq_true rfl) (Nat.le_of_ble_eq_true rfl) (by show 0 + 0 + (e0 - b0) ≤ 8; omega) dJ7_copyOfRangeByte_39247_24 ?_
  rw [if_pos (nI_lt (by omega) (by omega))]
  refine vk_copyt hx hb (hC.2.2.1.trans hl.1.symm) hown (hts _ qkj_1599) (hts _ qk_ac1) (hts _ qk_ac2) (hts _ qk_ac3) hK1 hP1 hD1 hS1 (f := fun j => t.getD j 0) hE.2 247 6 qlast rfl (nI_pos (by omega)) (by decide) (nI_pos (by omega)) (by rw [nI_clamp (by omega), nI_clamp (by omega)]; omega) (by rw [nI_clamp (by omega)]; show 0 + _ ≤ _; omega) (fun i _ => qasc_f hE.1 _) (Nat.le_of_ble_eq_true rfl) (Nat.le_of_ble_eq_true rfl) dJ7_copyOfRangeByte_39247_27 (fun H1 locs1 hP1 hD1 hS1 => ?_)
  rw [qlastset] at hP1 hD1
  have hY := qBy_new hK1 (k := 6) rfl hP1 hD1 (qsl_asc hE.1 b0 (e0 - b0)) (by rw [List.length_take, List.length_drop]; omega) (fun j hj => by
    rw [qsl_at hj, nI_clamp (by omega), nI_clamp (by omega)]
    simp [va_cpy, hj])
  refine lv_aload hx hb dJ7_copyOfRangeByte_39247_30 (lv_at hl 0 rfl) ?_
  refine W.widen (k := 1) (n := 8) (Nat.le_of_ble_eq_true rfl) (by omega) ?_
  exact W.aret hx hb hr (Or.inr ⟨_, rfl⟩) (Or.inr ⟨_, rfl⟩) (fun t1 ht hW => ⟨⟨(), q, rfl, trivial, (qnew_out hD1).1, by rw [ht]; exact qfst hP1, by rw [ht]; exact qBy_k _ _ s t1 H1 H1 hY hW.alike (fun _ _ _ => rfl) (fun _ h => h)⟩, hS1.F ht⟩) hS1.2.2 dJ7_copyOfRangeByte_39247_32 hC.2.2.2.2.2.1
abbrev qstrw (q : Nat) (a : Value) : va_W := [(q, .inr (0, [a, .int 0, .int 0, .int 0]))]
def qone (q sz : Nat) : Nat → Prop := fun a => a = q ∨ sz ≤ a
theorem qone_D {q sz : Nat} {a : Value} : va_D (qone q sz) (qstrw q a) := by
  refine ⟨fun i j x y hi hj _ => ?_, fun k x hk => ?_⟩
  · have li : i < 1 := (List.getElem?_eq_some_iff.mp hi).1
    have lj : j < 1 := (List.getElem?_eq_some_iff.mp hj).1
    omega
  · have lk : k < 1 := (List.getElem?_eq_some_iff.mp hk).1
    rw [show k = 0 by omega] at hk
    cases hk
    exact Or.inl rfl
set_option maxHeartbeats 4000000 in
set_option maxRecDepth 100000 in
theorem mJ0_init {l : Launch} {D : va_G} {G : Nat → ClassId} {q v sz : Nat} : Met l yJ0_init_031fb (Cond.code yJ0_init_031fb cJ0_init_031fb 3 none :: lw_gd) (qrm 2 0 0) (va_Pc [.ref q, .ref v, .int 0] (fun U => U.heap.size = sz ∧ va_P D vwCl (qstrw q .null) U.heap ∧ va_K D vwCl (qtys G) U)) (va_Qv (S := Unit) (fun _ => True) (fun _ t => va_P D vwCl (qstrw q (.ref v)) t.heap) (qone q sz)) 0 0 (qone q sz) := by
  refine Met.ofW (cc := cJ0_init_031fb) (maxL := 3) (ret := none) (by decide +kernel) rfl ?_
  intro p e s m args below meth c s₁ B hml hv
  obtain ⟨rfl, hsz, hP, hK⟩ := hv
  have hx := B.exec
  have hb := B.bytes
  have hr := B.returns
  have hts0 := atoms_spec (ws := Cond.code yJ0_init_031fb cJ0_init_031fb 3 none :: lw_gd) B.pre
  have hts : ∀ w ∈ lw_gd, w.before ([.ref q, .ref v, .int 0] : List Value).toArray s = true := fun w hw => hts0 w (List.mem_cons_of_mem _ hw)
  have hown : s.vm.findClass RJ0 = some m.cls := findClass_of_methodNamed B.named
  have hlocks := B.notSynchronized
  have hin : meth.name = "<init>" := (name_of_methodNamed B.named B.method).1
  subst hsz
  have hS : va_S (qone q s.heap.size) s.heap s.heap [] := va_S.rf
  have hD : va_D (qone q s.heap.size) (qstrw q .null) := qone_D
  have hl := lv_entry ([.ref q, .ref v, .int 0]) (n := 3) (Nat.le_of_ble_eq_true rfl)
  rw [lg_entry_eq]
  generalize (lg_sl ([.ref q, .ref v, .int 0]) ++ List.replicate (3 - (lg_sl ([.ref q, .ref v, .int 0])).length) Slot.unset).toArray = ls at hl ⊢
  have hl : lv_has ls 3 [(0, .ref q), (1, .ref v), (2, .int 0)] := hl
  refine lv_aload_n hx hb dJ0_init_031fb_0 rfl (lv_at hl 0 rfl) ?_
  refine W.objInit hx hb hown (hts _ qjs_o) (hts _ qjs_oi) (hts _ qjs_oc) rfl (by rw [hml]; exact hl.1) rfl dJ0_init_031fb_1 (Nat.le_of_ble_eq_true rfl) (Nat.le_of_ble_eq_true rfl) ?_
  refine lv_aload_n hx hb dJ0_init_031fb_4 rfl (lv_at hl 0 rfl) ?_
  refine lv_aload_n hx hb dJ0_init_031fb_5 rfl (lv_at hl 1 rfl) ?_
  refine va_putF (D := D) (ci := 0) (v := .ref v) (ty := .array .byte) (C := RJ0) (T := TJ0) (N := 4) hx hb hts qjs_i tyJ0 tyJ0_ok nmJ0 hown hK hP hD hS 0 rfl rfl 0 (by decide) (hts _ qkj_1710) (fun _ h9 => h9) rfl hin rfl (by decide +kernel) rfl rfl (Nat.le_of_ble_eq_true rfl) dJ0_init_031fb_6 (fun H locs hP hD hS => ?_)
  have hP : va_P D vwCl (qstrw q (.ref v)) H := hP
  have hD : va_D (qone q s.heap.size) (qstrw q (.ref v)) := hD
  refine lv_aload_n hx hb dJ0_init_031fb_9 rfl (lv_at hl 0 rfl) ?_
  refine lv_iload_n hx hb dJ0_init_031fb_10 rfl (lv_at hl 2 rfl) ?_
  refine va_putF (D := D) (ci := 0) (v := .int 0) (ty := .byte) (C := RJ0) (T := TJ0) (N := 4) hx hb hts qjs_i tyJ0 tyJ0_ok nmJ0 hown hK hP hD hS 0 rfl rfl 1 (by decide) (hts _ qkj_1711) (fun _ h9 => h9) rfl hin rfl (by decide +kernel) rfl rfl (Nat.le_of_ble_eq_true rfl) dJ0_init_031fb_11 (fun H locs hP hD hS => ?_)
  have hP : va_P D vwCl (qstrw q (.ref v)) H := hP
  exact W.vret hx hb hr (fun t ht hW => ⟨⟨(), rfl, trivial, by show va_P D vwCl (qstrw q (.ref v)) t.heap; rw [ht]; exact hP⟩, hS.F ht⟩) hS.2.2 dJ0_init_031fb_14 hlocks
set_option maxHeartbeats 4000000 in
set_option maxRecDepth 100000 in
theorem mJ7_copyOfRange {l : Launch} {D : va_G} {G : Nat → ClassId} {ad : Nat → Nat} (hJ : qInj ad) {w : qMem} {v : Nat} {t : List Int32} {b0 e0 : Nat} (hbe : b0 < e0) (hlt : e0 < t.length) (h8 : e0 - b0 ≤ 8) : qCY l D G ad yJ7_copyOfRange_39247 cJ7_copyOfRange_39247 3 (some (.array .byte)) 3 1 8 [.ref v, .int (nI b0), .int (nI e0)] w (qBy v t) (fun st => qQY D G ad st w (fun a => qBy a ((t.drop b0).take (e0 - b0)))) := by
  refine q_startY RJ7 rfl (by decide +kernel) hJ (fun a b h => by simp only [qQY, h]) (Nat.le_of_ble_eq_true rfl) ?_
  intro p e s m args below meth c0 ls hC hr hE hR hl
  have hx := hC.1
  have hb := hC.2.1
  have hts := hC.2.2.2.2.1
  have hown := hC.2.2.2.1
  have hl : lv_has ls 3 [(0, .ref v), (1, .int (nI b0)), (2, .int (nI e0))] := hl
  have hL : t.length < 2 ^ 31 := Nat.lt_of_lt_of_le (qasc_len hE.1) (by decide)
  have hgo : W p l e (qrm 3 1 8) s m args below meth c0 s.heap [] 0 0 (MQ below (qQY D G ad s w (fun a => qBy a ((t.drop b0).take (e0 - b0)))) args s 1 8 (qAdr ad s.heap.size)) (F0 m 10 ls []) := by
    refine lv_aload_n hx hb dJ7_copyOfRange_39247_10 rfl (lv_at hl 0 rfl) ?_
    refine lv_iload_n hx hb dJ7_copyOfRange_39247_11 rfl (lv_at hl 1 rfl) ?_
    refine lv_iload_n hx hb dJ7_copyOfRange_39247_12 rfl (lv_at hl 2 rfl) ?_
    refine q_callYSr (As := [.ref v, .int (nI b0), .int (nI e0)]) (rest := []) hC hR (mJ7_copyOfRangeByte hJ hbe hlt h8) qBy_k (fun _ => qBy_k) (qX_now qBy_k hE hR) qkj_1524 qkj_1525 qkj_83 qkj_1526 qhd_J7_copyOfRangeByte_39247 ⟨Nat.le_of_ble_eq_true rfl, Nat.le_of_ble_eq_true rfl⟩ hl.1 rfl (Nat.le_of_ble_eq_true rfl) dJ7_copyOfRange_39247_13 ⟨Nat.le_of_ble_eq_true rfl, Nat.le_of_ble_eq_true rfl⟩ (fun b H locs hz hk hb0 hY hR => ?_)
    exact W.aret hx hb hr (Or.inr ⟨_, rfl⟩) (Or.inr ⟨_, rfl⟩) (fun t1 ht hW => ⟨⟨(), b, rfl, trivial, hb0, by rw [ht]; exact hR.1, by rw [ht]; exact qBy_k _ _ s t1 H H hY hW.alike (fun _ _ _ => rfl) (fun _ h => h)⟩, hR.2.F ht⟩) hR.2.2.2 dJ7_copyOfRange_39247_16 hC.2.2.2.2.2.1
  refine lv_iload_n hx hb dJ7_copyOfRange_39247_0 rfl (lv_at hl 1 rfl) ?_
  refine lv_if_ne (tgt := 10) hx hb dJ7_copyOfRange_39247_1 (by decide) (fun _ => hgo) (fun _ => ?_)
  refine lv_iload_n hx hb dJ7_copyOfRange_39247_4 rfl (lv_at hl 2 rfl) ?_
  refine lv_aload_n hx hb dJ7_copyOfRange_39247_5 rfl (lv_at hl 0 rfl) ?_
  refine va_tlen (v := nI t.length) hx hb hE.2 hR.2 rfl dJ7_copyOfRange_39247_6 ?_
  refine lv_icmp_eq (tgt := 17) hx hb dJ7_copyOfRange_39247_7 (by decide) (fun c_1 => absurd ((nI_eq (by omega) hL).mp c_1) (by omega)) (fun _ => hgo)
set_option maxHeartbeats 4000000 in
set_option maxRecDepth 100000 in
theorem mJ1_newString {l : Launch} {D : va_G} {G : Nat → ClassId} {ad : Nat → Nat} (hJ : qInj ad) {w : qMem} {v : Nat} {t : List Int32} {b0 e0 : Nat} (hbe : b0 < e0) (hlt : e0 < t.length) (h8 : e0 - b0 ≤ 8) : qCY l D G ad yJ1_newString_b4f7a cJ1_newString_b4f7a 3 (some (.object "java/lang/String")) 4 2 12 [.ref v, .int (nI b0), .int (nI (e0 - b0))] w (qBy v t) (fun st => qQY D G ad st w (fun a => qSt a ((t.drop b0).take (e0 - b0)))) := by
  refine q_startY RJ1 rfl (by decide +kernel) hJ (fun a b h => by simp only [qQY, h]) (Nat.le_of_ble_eq_true rfl) ?_
  intro p e s m args below meth c0 ls hC hr hE hR hl
  have hx := hC.1
  have hb := hC.2.1
  have hts := hC.2.2.2.2.1
  have hown := hC.2.2.2.1
  have hl : lv_has ls 3 [(0, .ref v), (1, .int (nI b0)), (2, .int (nI (e0 - b0)))] := hl
  have hL : t.length < 2 ^ 31 := Nat.lt_of_lt_of_le (qasc_len hE.1) (by decide)
  refine lv_iload_n hx hb dJ1_newString_b4f7a_0 rfl (lv_at hl 2 rfl) ?_
  refine lv_if_ne (tgt := 7) hx hb dJ1_newString_b4f7a_1 (by decide) (fun _ => ?_) (fun c_1 => absurd c_1 (nI_ne0 (by omega) (by omega)))
  refine va_new (ci := 0) (C := RJ0) (T := TJ0) (N := 4) (fs := [.null, .int 0, .int 0, .int 0]) hx hb hts qjs_i tyJ0 tyJ0_ok hown (hts _ qkj_1520) (hts _ qkj_679) (hts _ qkj_74) hC.2.2.2.2.2.2.1 hR.1 (qD G w hJ _) hR.2 (fun _ h => Or.inr h) rfl (fun j hj => by match j, hj with | 0, _ => rfl | 1, _ => rfl | 2, _ => rfl | 3, _ => rfl) (Nat.le_of_ble_eq_true rfl) (Nat.le_of_ble_eq_true rfl) dJ1_newString_b4f7a_7 (fun q H hP1 hD1 hS1 => ?_)
  have hq0 := qnew_out hD1
  have hqlt : q < H.size := by obtain ⟨cell, g1, -⟩ := va_recv hC.2.2.2.2.2.2.1 hP1 (ci := 0) (q0 := 247) (q := (RJ0, TJ0, 4)) rfl qlast; exact (Array.getElem?_eq_some_iff.mp g1).1
  have hR1 : qRp D G ad s w H [] := ⟨qfst hP1, hS1⟩
  refine lv_dup hx hb dJ1_newString_b4f7a_10 rfl ?_
  refine lv_aload_n hx hb dJ1_newString_b4f7a_11 rfl (lv_at hl 0 rfl) ?_
  refine lv_iload_n hx hb dJ1_newString_b4f7a_12 rfl (lv_at hl 1 rfl) ?_
  refine lv_iload_n hx hb dJ1_newString_b4f7a_13 rfl (lv_at hl 1 rfl) ?_
  refine lv_iload_n hx hb dJ1_newString_b4f7a_14 rfl (lv_at hl 2 rfl) ?_
  refine lv_iadd hx hb dJ1_newString_b4f7a_15 ?_
  rw [nI_add, show b0 + (e0 - b0) = e0 by omega]
  refine q_callYSr (As := [.ref v, .int (nI b0), .int (nI e0)]) (rest := [.ref q, .ref q]) hC hR1 (mJ7_copyOfRange hJ hbe hlt h8) qBy_k (fun _ => qBy_k) (qX_now qBy_k hE hR1) qkj_1521 qkj_1522 qkj_83 qkj_1523 qhd_J7_copyOfRange_39247 ⟨Nat.le_of_ble_eq_true rfl, Nat.le_of_ble_eq_true rfl⟩ hl.1 rfl (Nat.le_of_ble_eq_true rfl) dJ1_newString_b4f7a_16 ⟨Nat.le_of_ble_eq_true rfl, Nat.le_of_ble_eq_true rfl⟩ (fun b H2 locs2 hz hk hb0 hY hR2 => ?_)
  have hqk : H2[q]? = H[q]? := hk q hqlt (fun h => h.elim (fun ⟨j, hj, e⟩ => hq0.2 j hj e) (fun h => absurd hqlt (Nat.not_lt.mpr h)))
  have hqP : va_P D vwCl (qstrw q .null) H2 := fun k x hx => by
    have lk : k < 1 := (List.getElem?_eq_some_iff.mp hx).1
    rw [show k = 0 by omega] at hx
    cases hx
    exact va_at.kept (hP1 247 _ qlast) hqk
  refine lv_iconst (v := 0) hx hb dJ1_newString_b4f7a_19 (by decide) ?_
  have hcB : CallB (qrm 4 2 12) s args RJ1 112 yJ0_init_031fb cJ0_init_031fb 3 none (Cond.code yJ0_init_031fb cJ0_init_031fb 3 none :: lw_gd) (qrm 2 0 0) 0 0 2 := callB_of 2 hts (q_goodIn qkj_1720) rfl rfl rfl (hts _ qkj_74) (hts _ qkj_1718) qhd_J0_init_031fb ⟨Nat.le_of_ble_eq_true rfl, Nat.le_of_ble_eq_true rfl⟩
  refine va_callv (va_runI (As := [.ref b, .int 0]) (rest := [.ref q]) (Ts := lw_gd) ⟨hx, hb, hC.2.2.1, hown, hts⟩ (mJ0_init (D := D) (G := G) (q := q) (v := b) (sz := H2.size)) ⟨hcB, rfl, hts _ qkj_1719⟩ ⟨fun a U g mk h => ⟨h.1, h.2.1, h.2.2.1, va_K.moved (u := U) (U := U.calling g mk a) (Vm.Alike.refl U.vm) h.2.2.2⟩, fun U hU hW => ⟨rfl, by rw [hU], by rw [hU]; exact hqP, va_K.moved hW.alike hC.2.2.2.2.2.2.1⟩⟩ rfl rfl hl.1 rfl (lv_room (Nat.le_of_ble_eq_true rfl)) dJ1_newString_b4f7a_20 ⟨Nat.le_of_ble_eq_true rfl, Nat.le_of_ble_eq_true rfl⟩) hR2.2 (fun z _ h => ?_) (fun z h => ?_) (fun u t3 H3 locs3 ht hvm _ hB3 hz3 hk3 hS3 => ?_)
  · exact h.elim (fun e => Or.inr (e ▸ hq0.1)) (fun h => Or.inr (Nat.le_trans hR2.2.1 h))
  · exact h.elim (fun e => Or.inr (e ▸ hq0.1)) (fun h => Or.inr (Nat.le_trans hR2.2.1 h))
  rw [ht] at hB3
  have hkeep : ∀ z : Nat, z < H2.size → z ≠ q → H3[z]? = H2[z]? := fun z h1 h2 => hk3 z h1 (fun h => h.elim h2 (fun h => absurd h1 (Nat.not_lt.mpr h)))
  have hP3 : va_P D vwCl (qcells G ad w ++ qstrw q (.ref b)) H3 := va_P.app (fun k x hx => va_at.kept (hR2.1 k x hx) (hkeep x.1 (hR2.1 k x hx).lt (fun e => by
    have lk : k < 247 := by have := (List.getElem?_eq_some_iff.mp hx).1; rwa [qcells_len] at this
    rw [qat G ad w lk] at hx
    cases hx
    exact hq0.2 k lk e.symm))) hB3
  have hD3 : va_D (qAdr ad s.heap.size) (qcells G ad w ++ qstrw q (.ref b)) := by
    have := va_D.set (e := .inr (0, [.ref b, .int 0, .int 0, .int 0])) hD1 qlast
    rwa [qlastset] at this
  have hbq : b ≠ q := by omega
  have hY3 : qBy b ((t.drop b0).take (e0 - b0)) (qAdr ad H3.size) s H3 := by
    obtain ⟨y1, cell, y2, y3, y4, y5, y6, y7, y8⟩ := hY
    have hbl : b < H2.size := (Array.getElem?_eq_some_iff.mp y2).1
    exact ⟨y1, cell, by rw [hkeep b hbl hbq]; exact y2, y3, y4, y5, y6, y7, fun h => y8 (qAdr_mono hz3 b h)⟩
  have hSt := qSt_new hts hC.2.2.2.2.2.2.1 hP3 hD3 hY3
  exact W.aret hx hb hr (Or.inl ⟨_, rfl⟩) (Or.inr ⟨_, rfl⟩) (fun t1 ht hW => ⟨⟨(), q, rfl, trivial, hq0.1, by rw [ht]; exact qfst hP3, by rw [ht]; exact qSt_k _ _ s t1 H3 H3 hSt hW.alike (fun _ _ _ => rfl) (fun _ h => h)⟩, hS3.F ht⟩) hS3.2.2 dJ1_newString_b4f7a_23 hC.2.2.2.2.2.1
set_option maxHeartbeats 4000000 in
set_option maxRecDepth 100000 in
theorem mJ0_substring {l : Launch} {D : va_G} {G : Nat → ClassId} {ad : Nat → Nat} (hJ : qInj ad) {w : qMem} {q : Nat} {t : List Int32} {b0 e0 : Nat} (hbe : b0 < e0) (hlt : e0 < t.length) (h8 : e0 - b0 ≤ 8) : qCY l D G ad yJ0_substring_37a41 cJ0_substring_37a41 5 (some (.object "java/lang/String")) 5 2 12 [.ref q, .int (nI b0), .int (nI e0)] w (qSt q t) (fun st => qQY D G ad st w (fun a => qSt a ((t.drop b0).take (e0 - b0)))) := by
  refine q_startY RJ0 rfl (by decide +kernel) hJ (fun a b h => by simp only [qQY, h]) (Nat.le_of_ble_eq_true rfl) ?_
  intro p e s m args below meth c0 ls hC hr hE hR hl
  have hx := hC.1
  have hb := hC.2.1
  have hts := hC.2.2.2.2.1
  have hown := hC.2.2.2.1
  have hl : lv_has ls 5 [(0, .ref q), (1, .int (nI b0)), (2, .int (nI e0))] := hl
  obtain ⟨-, -, v, hv, hB⟩ := id hE
  have hL : t.length < 2 ^ 31 := Nat.lt_of_lt_of_le (qasc_len hB.1) (by decide)
  refine lv_aload_n hx hb dJ0_substring_37a41_0 rfl (lv_at hl 0 rfl) ?_
  refine q_callYVi hC hR (mJ0_length (t := t) hJ) qSt_k (qX_now qSt_k hE hR) (qSt_rc (qX_now qSt_k hE hR)) qkj_1462 qkj_959 qkj_960 qkj_74 qkj_961 qhd_J0_length_8abf5 ⟨Nat.le_of_ble_eq_true rfl, Nat.le_of_ble_eq_true rfl⟩ hl.1 rfl (Nat.le_of_ble_eq_true rfl) dJ0_substring_37a41_1 ⟨Nat.zero_le _, Nat.zero_le _⟩ (fun H locs hz hk hR => ?_)
  refine lv_istore_n (lv' := [(3, .int (nI t.length)), (0, .ref q), (1, .int (nI b0)), (2, .int (nI e0))]) hx hb dJ0_substring_37a41_4 rfl hl (by decide) rfl (fun ls hl => ?_)
  refine lv_iload_n hx hb dJ0_substring_37a41_5 rfl (lv_at hl 2 rfl) ?_
  refine lv_iload_n hx hb dJ0_substring_37a41_6 rfl (lv_at hl 3 rfl) ?_
  refine lv_iload_n hx hb dJ0_substring_37a41_7 rfl (lv_at hl 0 rfl) ?_
  refine q_callYSv (As := [.int (nI b0), .int (nI e0), .int (nI t.length)]) (rest := []) hC hR (mJ0_checkBounds hJ (nI_pos (by omega)) (nI_le (by omega) (by omega)) (nI_le (by omega) hL)) qNo_k trivial qkj_1515 qkj_1489 qkj_74 qkj_1490 qhd_J0_checkBoundsBeginEnd_23922 ⟨Nat.le_of_ble_eq_true rfl, Nat.le_of_ble_eq_true rfl⟩ hl.1 rfl (Nat.le_of_ble_eq_true rfl) dJ0_substring_37a41_8 ⟨Nat.zero_le _, Nat.zero_le _⟩ (fun H locs _ _ hR => ?_)
  have hgo : W p l e (qrm 5 2 12) s m args below meth c0 H locs 0 0 (MQ below (qQY D G ad s w (fun a => qSt a ((t.drop b0).take (e0 - b0)))) args s 2 12 (qAdr ad s.heap.size)) (F0 m 22 ls []) := by
    refine lv_iload_n hx hb dJ0_substring_37a41_22 rfl (lv_at hl 3 rfl) ?_
    refine lv_iload_n hx hb dJ0_substring_37a41_23 rfl (lv_at hl 2 rfl) ?_
    refine lv_isub hx hb dJ0_substring_37a41_24 ?_
    rw [pk_sub (by omega)]
    refine lv_istore (lv' := [(4, .int (nI (e0 - b0))), (3, .int (nI t.length)), (0, .ref q), (1, .int (nI b0)), (2, .int (nI e0))]) hx hb dJ0_substring_37a41_25 hl (by decide) rfl (fun ls hl => ?_)
    refine lv_aload_n hx hb dJ0_substring_37a41_27 rfl (lv_at hl 2 rfl) ?_
    refine q_callYVi hC hR (mJ0_isLatin1 (t := t) hJ) qSt_k (qX_now qSt_k hE hR) (qSt_rc (qX_now qSt_k hE hR)) qkj_972 qkj_973 qkj_974 qkj_74 qkj_975 qhd_J0_isLatin1_aae02 ⟨Nat.le_of_ble_eq_true rfl, Nat.le_of_ble_eq_true rfl⟩ hl.1 rfl (Nat.le_of_ble_eq_true rfl) dJ0_substring_37a41_28 ⟨Nat.zero_le _, Nat.zero_le _⟩ (fun H locs _ _ hR => ?_)
    have hR0 := hR.2.1
    refine lv_if_eq (tgt := 47) hx hb dJ0_substring_37a41_31 (by decide) (fun c_1 => absurd c_1 (by decide)) (fun _ => ?_)
    refine lv_aload_n hx hb dJ0_substring_37a41_34 rfl (lv_at hl 2 rfl) ?_
    refine vk_getf hx hb hv hR.2 hown (hts _ qkj_1710) (fun _ h9 => h9) dJ0_substring_37a41_35 ?_
    refine lv_iload_n hx hb dJ0_substring_37a41_38 rfl (lv_at hl 3 rfl) ?_
    refine lv_iload hx hb dJ0_substring_37a41_39 (lv_at hl 0 rfl) ?_
    refine q_callYSr (As := [.ref v, .int (nI b0), .int (nI (e0 - b0))]) (rest := []) hC hR (mJ1_newString hJ hbe hlt h8) qBy_k (fun _ => qSt_k) (qX_now qBy_k hB hR) qkj_1516 qkj_1517 qkj_78 qkj_1518 qhd_J1_newString_b4f7a ⟨Nat.le_of_ble_eq_true rfl, Nat.le_of_ble_eq_true rfl⟩ hl.1 rfl (Nat.le_of_ble_eq_true rfl) dJ0_substring_37a41_41 ⟨Nat.le_of_ble_eq_true rfl, Nat.le_of_ble_eq_true rfl⟩ (fun b H locs hz hk hb0 hY hR => ?_)
    refine lv_goto (tgt := 57) hx hb dJ0_substring_37a41_44 (by decide) ?_
    exact W.aret hx hb hr (Or.inl ⟨_, rfl⟩) (Or.inr ⟨_, rfl⟩) (fun t1 ht hW => ⟨⟨(), b, rfl, trivial, Nat.le_trans hR0 hb0, by rw [ht]; exact hR.1, by rw [ht]; exact qSt_k _ _ s t1 H H hY hW.alike (fun _ _ _ => rfl) (fun _ h => h)⟩, hR.2.F ht⟩) hR.2.2.2 dJ0_substring_37a41_57 hC.2.2.2.2.2.1
  refine lv_iload_n hx hb dJ0_substring_37a41_11 rfl (lv_at hl 2 rfl) ?_
  refine lv_if_ne (tgt := 22) hx hb dJ0_substring_37a41_12 (by decide) (fun _ => hgo) (fun _ => ?_)
  refine lv_iload_n hx hb dJ0_substring_37a41_15 rfl (lv_at hl 3 rfl) ?_
  refine lv_iload_n hx hb dJ0_substring_37a41_16 rfl (lv_at hl 0 rfl) ?_
  refine lv_icmp_ne (tgt := 22) hx hb dJ0_substring_37a41_17 (by decide) (fun _ => hgo) (fun c_1 => absurd ((nI_eq (by omega) hL).mp c_1) (by omega))
