/-- answers a new text and leaves the world as it was -/
abbrev lQs (D : va_G) (Xc : va_W) (tx : List Int32) (st : State) : Array Value → State → Outcome → State → Prop := va_Qr (S := Unit) (fun _ => True) (fun _ a t => lB D Xc st.heap.size Xc t ∧ qSt a tx (fun q => va_A Xc t.heap.size q ∨ q < st.heap.size) t t.heap) (va_A Xc st.heap.size)
section
variable {p : Program} {l : Launch} {e : Env} {R : Room} {s : State} {m : MethodId} {args : Array Value} {below : List Frame} {meth : Method} {c : Code} {H : Heap} {locs : List Loc} {cells slots : Nat} {Q : State → Prop} {pc nL : Nat} {ls : Array Slot} {rest : List Value} {cc : ByteArray} {own : String} {D : va_G} {G : Nat → ClassId} {ad : Nat → Nat} {X0 X : va_W}
theorem lnew_out {W : va_W} {q : Nat} {x : va_E} (hR : lR D X0 W s H locs) (hsub : ∀ z ∈ X0, z ∈ W) (hm : (q, x) ∈ W) (hn : ∀ z ∈ X0, z.1 ≠ q) : q < H.size ∧ ¬ (va_A X0 H.size q ∨ q < s.heap.size) := by
  have h1 := (lP_in hR.1 _ hm).lt
  refine ⟨h1, fun h => ?_⟩
  have h2 := lD_in hR.2.1 _ hm
  rcases va_A_iff.mp h2 with ⟨z, hz, e⟩ | h2
  · exact hn z hz e
  · rcases h with h | h
    · rcases va_A_iff.mp h with ⟨z, hz, e⟩ | h
      · exact hn z hz e
      · exact absurd h1 (Nat.not_lt.mpr h)
    · exact absurd h (Nat.not_lt.mpr h2)
theorem lSt_new {q v n : Nat} {f : Nat → Int32} {tx : List Int32} {z1 z2 : Value} (hC : lCx p c cc nL s m args meth own D G ad X0) (hR : lR D X0 (X0 ++ [(q, .inr (0, [.ref v, .int 0, z1, z2])), (v, .inl (G 5, n, .inl f))]) s H locs) (ht : qasc tx = true) (hn : tx.length = n) (hf : ∀ j : Nat, j < n → f j = tx.getD j 0) : qSt q tx (fun q => va_A X0 H.size q ∨ q < s.heap.size) s H := by
  have hts := hC.2.2.2.2.1
  have hK := hC.2.2.2.2.2.2.1
  have hnd := lD_nd hR.2.1
  rw [List.map_append, List.nodup_append] at hnd
  have hq := lnew_out hR (fun z hz => List.mem_append_left _ hz) (q := q) (List.mem_append_right _ List.mem_cons_self) (fun z hz => hnd.2.2 _ (List.mem_map.mpr ⟨z, hz, rfl⟩) _ List.mem_cons_self)
  have hv := lnew_out hR (fun z hz => List.mem_append_left _ hz) (q := v) (List.mem_append_right _ (List.mem_cons_of_mem _ List.mem_cons_self)) (fun z hz => hnd.2.2 _ (List.mem_map.mpr ⟨z, hz, rfl⟩) _ (List.mem_cons_of_mem _ List.mem_cons_self))
  have hcq := lP_in hR.1 _ (List.mem_append_right X0 (List.mem_cons_self (a := (q, (.inr (0, [.ref v, .int 0, z1, z2]) : va_E)))))
  have hcv : H[v]? = some (vp_cell (G 5) (n, .inl f)) := lP_in hR.1 _ (List.mem_append_right X0 (List.mem_cons_of_mem _ List.mem_cons_self))
  obtain ⟨cell, g1, g2, g3⟩ := l_recv hC hR (a := q) (ci := 0) (q := (RJ0, TJ0, 4)) (List.mem_append_right X0 List.mem_cons_self) rfl
  have hB : qBy v tx (fun q => va_A X0 H.size q ∨ q < s.heap.size) s H := by
    refine ⟨ht, vp_cell (G 5) (n, .inl f), hcv, (hK.2 5 _ rfl).1 n (fun j => .int (f j)), (fun h => by cases h), ?_, ?_, fun j hj => ?_, hv.2⟩
    · show tx.length ≤ (arrV (G 5) n (fun j => .int (f j))).slots.size
      rw [arrV_size]; omega
    · show (arrV (G 5) n (fun j => .int (f j))).slots.size.toInt32 = _
      rw [arrV_size, hn]
    · show (arrV (G 5) n (fun j => .int (f j))).slots[j]? = _
      rw [arrV_read _ _ (by omega), hf j (by omega)]
  obtain ⟨r, h1, cell2, q1, q2, q3, q4⟩ := hcq
  have hr : r = (RJ0, TJ0, 4) := (Option.some.inj h1).symm
  subst hr
  obtain ⟨hS, hfc, kC, hkC, hkind⟩ := hK.1 0 _ rfl
  obtain ⟨cf, kf, fi, fd, hi, hsl⟩ := hS 1 (by decide)
  obtain ⟨cf', kf', fi', fd', hi', hsl'⟩ := hS 0 (by decide)
  refine ⟨⟨cell, g1, g2, g3, hq.2⟩, ⟨cf, kf, fi, fd, cell2, hi, (u_facts hfc hkC (u_lays (k := 1) hts qinJ0 (by decide)) hi).1, q1, by rw [q3]; exact (fun h => by cases h), ?_, hq.2⟩, v, ⟨cf', kf', fi', fd', cell2, hi', (u_facts hfc hkC (u_lays (k := 0) hts qinJ0 (by decide)) hi').1, q1, by rw [q3]; exact (fun h => by cases h), ?_, hq.2⟩, hB⟩
  · rw [hsl, q4 1 (by decide)]; rfl
  · rw [hsl', q4 0 (by decide)]; rfl
theorem l_sret {X : va_W} {mc ms x : Nat} {tx : List Int32} (hC : lCx p c cc nL s m args meth own D G ad X0) (hR : lR D X0 X s H locs) {ty : FieldType} (hr : meth.sig.returnType = some ty) (hty : (∃ n, ty = .object n) ∨ ∃ t, ty = .array t) (hX : ∀ z ∈ X0, z ∈ X) (hnd : (X0.map Prod.fst).Nodup) (hF : qSt x tx (fun q => va_A X0 H.size q ∨ q < s.heap.size) s H) (hdg : decode cc pc = .ok (.areturn, 1)) (hc : cells ≤ mc) (hs : slots ≤ ms) :
    W p l e R s m args below meth c H locs cells slots (MQ below (lQs D X0 tx s) args s mc ms (va_A X0 s.heap.size)) (F0 m pc ls [.ref x]) := by
  have hP0 : va_P D vwCl X0 H := lP_of (fun z hz => lP_in hR.1 z (hX z hz))
  have hD0 : va_D (va_A X0 s.heap.size) X0 := lD_of hnd (fun z hz => lD_in hR.2.1 z (hX z hz))
  exact W.widen hc hs (W.aret hC.1 hC.2.1 hr hty (Or.inr ⟨_, rfl⟩) (fun t ht hW => ⟨⟨(), x, rfl, trivial, ⟨by rw [ht]; exact hP0, hD0⟩, by rw [ht]; exact qSt_k _ _ s t H H hF hW.alike (fun _ _ _ => rfl) (fun _ h => h)⟩, hR.2.2.F ht⟩) hR.2.2.2.2 hdg hC.2.2.2.2.2.1)
theorem l_callVs {y : MethodName} {bytes : ByteArray} {maxL d mc ms index b : Nat} {ret : Option FieldType} {As st : List Value} {tx : List Int32} {X Xc Xr X1 : va_W} {E : (Nat → Prop) → State → Heap → Prop} {C : String} (hC : lCx p c cc nL s m args meth own D G ad X0) (hR : lR D X0 X s H locs)
    (hM : lCM l D G ad y (Cond.code y bytes maxL ret) d mc ms (.ref b :: As) Xc E (lQs D Xc tx)) (hXk : qXk E) (hE : E (lA ad X H.size) s H) (hp : X.Perm (Xc ++ Xr)) (hp1 : (Xc ++ Xr).Perm X1) (had : ∀ k, k < 238 → ad k < H.size) (hrec : ∃ cell : Cell, H[b]? = some cell ∧ cell.vm.isStatics = false ∧ s.vm.findClass C = some cell.cls) (hlk : Cond.methodLink own index y ∈ lw_gd) (hin : Cond.instanceMethod y ∈ lw_gd) (hse : Cond.selects C y y ∈ lw_gd) (hini : Cond.initialized y.cls ∈ lw_gd) (hcode : Cond.code y bytes maxL ret ∈ lw_gd)
    (hd : y.cls ≠ "java/lang/invoke/MethodHandle" ∧ y.cls ≠ "java/lang/invoke/VarHandle" ∧ (parseMethodDescriptor y.desc).map (fun d => d.parameters.length) = some As.length) (hroom : d + 1 ≤ R.frames ∧ 8 + (maxL + 11) + 40 * d ≤ R.locals) (hsz : ls.size = nL) (hst : st = As.reverse ++ .ref b :: rest) (hcat : (rest.map fun v => v.category).sum ≤ 8) (hdg : decode cc pc = .ok (.invokevirtual index, 3)) (hf : cells + mc ≤ R.cells ∧ slots + ms ≤ R.slots)
    (kk : ∀ (a1 : Nat) (H1 : Heap) (locs1 : List Loc), lR D X0 X1 s H1 locs1 → lKp ad X H X1 H1 → qSt a1 tx (lA ad X1 H1.size) s H1 → W p l e R s m args below meth c H1 locs1 (cells + mc) (slots + ms) Q (F0 m (pc + 3) ls (.ref a1 :: rest))) : W p l e R s m args below meth c H locs cells slots Q (F0 m pc ls st) := by
  have hts := hC.2.2.2.2.1
  have hcB : CallB R s args own index y bytes maxL ret (Cond.code y bytes maxL ret :: lw_gd) (qrm d mc ms) mc ms As.length := callB_of As.length hts (q_goodIn hcode) rfl rfl rfl (hts _ hini) (hts _ hlk) hd hroom
  let sH : State := { s with heap := H }
  have hA : ∀ q : Nat, va_A Xc H.size q → va_A X0 s.heap.size q := fun q hq => by
    rcases va_A_iff.mp hq with ⟨z, hz, rfl⟩ | hq
    · exact lD_in hR.2.1 z (hp.mem_iff.mpr (List.mem_append_left _ hz))
    · exact Or.inr (Nat.le_trans hR.2.2.1 hq)
  refine va_callr (va_runV (As := As) (rest := rest) (C := C) (Ts := lw_gd) ⟨hC.1, hC.2.1, hC.2.2.1, hC.2.2.2.1, hts⟩ (hM sH) ⟨hcB, hts _ hin, hts _ hse⟩ ⟨lE_blind hXk, hrec, fun U hU hW => ⟨rfl, l_pre hC hR hp hXk hE hU hW⟩⟩ rfl rfl hsz hst (lv_room hcat) hdg hf) hR.2.2 (fun q _ h => hA q h) hA (fun u a1 t H1 locs1 ht hvm hw hB hz1 hk1 hS1 => ?_)
  obtain ⟨hB, hF⟩ := hB
  obtain ⟨hB, hD1⟩ := hB
  rw [ht] at hB
  obtain ⟨h1, h2⟩ := lR_join (ad := ad) hR hp hp1 hz1 hk1 hB hD1 hS1
  refine kk a1 H1 locs1 h1 h2 (qSt_k _ _ t s t.heap H1 hF hvm.symm (fun a _ _ => by rw [ht]) (fun q hq => ?_))
  rcases hq with hq | hq
  · rcases va_A_iff.mp hq with ⟨z, hz, rfl⟩ | hq
    · rcases List.mem_append.mp (hp1.mem_iff.mpr hz) with h | h
      · exact Or.inl (va_A_iff.mpr (Or.inl ⟨z, h, rfl⟩))
      · exact Or.inr (lP_in hR.1 z (hp.mem_iff.mpr (List.mem_append_right _ h))).lt
    · exact Or.inl (Or.inr (by rw [ht]; exact hq))
  · rcases hq with ⟨k, hk, rfl⟩ | hq
    · exact Or.inr (had k hk)
    · exact Or.inl (Or.inr (by rw [ht]; exact hq))
end
theorem qhd_B_mk : yJ0_init_db425.cls ≠ "java/lang/invoke/MethodHandle" ∧ yJ0_init_db425.cls ≠ "java/lang/invoke/VarHandle" ∧ (parseMethodDescriptor yJ0_init_db425.desc).map (fun d => d.parameters.length) = some 2 := ⟨by decide +kernel, by decide +kernel, by decide +kernel⟩
set_option maxHeartbeats 4000000 in
set_option maxRecDepth 100000 in
theorem mB_mk {l : Launch} {D : va_G} {G : Nat → ClassId} {ad : Nat → Nat} (hJ : qInj ad) {q b v cap n : Nat} {f : Nat → Int32} (hn : n ≤ 60) (hnc : n ≤ cap) (hc : cap ≤ 130) (hf : sb_Fit f) : lCM l D G ad yJ0_init_db425 (Cond.code yJ0_init_db425 cJ0_init_db425 5 (none)) 4 1 60 [.ref q, .ref b, .null] (lX [] [lob b v (nI n), lby G v cap f, (q, .inr (0, [.null, .int 0, .int 0, .int 0]))] []) (fun _ _ _ => True) (lQv (T := Nat × (Nat → Int32)) D ad (lX [] [lob b v (nI n), lby G v cap f, (q, .inr (0, [.null, .int 0, .int 0, .int 0]))] []) (fun (u : Nat × (Nat → Int32)) => lX [] [lob b v (nI n), lby G v cap f, (q, .inr (0, [.ref u.1, .int 0, .int 0, .int 0])), lby G u.1 n u.2] []) (fun (u : Nat × (Nat → Int32)) => ∀ j, j < n → u.2 j = f j)) := by
  refine l_start RJ0 rfl (by decide +kernel) hJ (fun a b h => by simp only [lQi, lQv, lQr, h]) (Nat.le_of_ble_eq_true rfl) ?_
  intro p e s m args below meth c ls hC hr hmi hE hR hl
  have hx := hC.1
  have hb := hC.2.1
  have hts := hC.2.2.2.2.1
  have hl : lv_has ls 5 [(0, .ref q), (1, .ref b), (2, .null)] := hl
  refine lv_aload_n hx hb dJ0_init_db425_0 rfl (lv_at hl 0 rfl) ?_
  refine W.objInit hx hb hC.2.2.2.1 (hts _ qkj_1098) (hts _ qk_56) (hts _ qkm_57) rfl (by rw [hC.2.2.1]; exact hl.1) rfl dJ0_init_db425_1 (Nat.le_of_ble_eq_true rfl) (Nat.le_of_ble_eq_true rfl) ?_
  refine W.eq (g2 := F0 m 4 ls []) rfl ?_
  refine lv_aload_n hx hb dJ0_init_db425_4 rfl (lv_at hl 1 rfl) ?_
  have hR := lR_pick hR [0, 1, 2] (ex1 := [lob b v (nI n), lby G v cap f, (q, .inr (0, [.null, .int 0, .int 0, .int 0]))]) (g1 := []) (by decide) rfl (Or.inl rfl)
  refine l_callUr (C := RJ4) (x := yJ5_getValue_6d5f1) hC hR (mB_getValue hJ (b := b) (v := v) (n := nI n)) lNo_k trivial lp_O (fun _ _ => lp_O.symm) (l_recv hC hR (lX_mx 0 rfl) (ci := 1) rfl) qkj_1099 qkm_1101 (hts _ qkj_1102) qkj_1100 qkj_38 qkj_1103 rfl qhd_B_getValue ⟨Nat.le_of_ble_eq_true rfl, Nat.le_of_ble_eq_true rfl⟩ hl.1 rfl (Nat.le_of_ble_eq_true rfl) dJ0_init_db425_5 ⟨Nat.le_of_ble_eq_true rfl, Nat.le_of_ble_eq_true rfl⟩ (fun _ _ => lNo_k) (fun _ a1 H locs hY hR hkp _ => ?_)
  have hY : a1 = v := hY
  rw [hY]
  refine lv_astore_n (lv' := [(3, .ref v), (0, .ref q), (1, .ref b), (2, .null)]) hx hb dJ0_init_db425_8 rfl hl (by decide) rfl (fun ls hl => ?_)
  refine lv_aload_n hx hb dJ0_init_db425_9 rfl (lv_at hl 2 rfl) ?_
  refine l_callOi (C := RJ4) (x := yJ5_length_8abf5) hC hR (mB_sblen hJ (b := b) (v := v) (n := nI n)) lNo_k trivial lp_O lp_O.symm (l_recv hC hR (lX_mx 0 rfl) (ci := 1) rfl) qkj_1104 qkm_1106 qkj_1105 qkj_1111 (hts _ qkj_1107) qkj_1108 qkj_39 qkj_1109 qhd_B_asblen ⟨Nat.le_of_ble_eq_true rfl, Nat.le_of_ble_eq_true rfl⟩ hl.1 rfl (Nat.le_of_ble_eq_true rfl) dJ0_init_db425_10 ⟨Nat.le_of_ble_eq_true rfl, Nat.le_of_ble_eq_true rfl⟩ (fun H locs hR hkp => ?_)
  refine lv_istore (lv' := [(4, .int (nI n)), (3, .ref v), (0, .ref q), (1, .ref b), (2, .null)]) hx hb dJ0_init_db425_13 hl (by decide) rfl (fun ls hl => ?_)
  refine lv_aload_n hx hb dJ0_init_db425_15 rfl (lv_at hl 3 rfl) ?_
  refine l_callUi (C := RJ4) (x := yJ5_isLatin1_aae02) hC hR (mB_isLatin1 hJ (b := b) (v := v) (n := nI n)) lNo_k trivial lp_O lp_O.symm (l_recv hC hR (lX_mx 0 rfl) (ci := 1) rfl) qkj_1112 qkm_983 (hts _ qkj_984) qkj_982 qkj_38 qkj_985 rfl qhd_B_isLatin1 ⟨Nat.le_of_ble_eq_true rfl, Nat.le_of_ble_eq_true rfl⟩ hl.1 rfl (Nat.le_of_ble_eq_true rfl) dJ0_init_db425_16 ⟨Nat.le_of_ble_eq_true rfl, Nat.le_of_ble_eq_true rfl⟩ (fun H locs hR hkp => ?_)
  refine lv_if_eq (tgt := 41) hx hb dJ0_init_db425_19 (by decide) (fun hbr => absurd hbr (by decide)) (fun hbr => ?_)
  refine lv_aload_n hx hb dJ0_init_db425_22 rfl (lv_at hl 2 rfl) ?_
  refine lv_iconst (v := 0) hx hb dJ0_init_db425_23 (by decide) ?_
  refine l_putF (ref := "java/lang/String") hC hR 2 rfl (T := TJ0) (N := 4) (ci := 0) (ty := .byte) rfl qinJ0 tyJ0 tyJ0_ok nmJ0 1 (by decide) qkj_1141 rfl rfl (hmi rfl) rfl (by decide +kernel) rfl rfl (Nat.le_of_ble_eq_true rfl) dJ0_init_db425_24 (fun H locs hR => ?_)
  have hR : lR D _ (lX [] [lob b v (nI n), lby G v cap f, (q, .inr (0, [.null, .int 0, .int 0, .int 0]))] []) s H locs := hR
  refine lv_aload_n hx hb dJ0_init_db425_27 rfl (lv_at hl 2 rfl) ?_
  refine lv_aload_n hx hb dJ0_init_db425_28 rfl (lv_at hl 1 rfl) ?_
  refine lv_iconst (v := 0) hx hb dJ0_init_db425_29 (by decide) ?_
  refine lv_iload hx hb dJ0_init_db425_30 (lv_at hl 0 rfl) ?_
  have hR := lR_pick hR [1, 0, 2] (ex1 := [lby G v cap f, lob b v (nI n), (q, .inr (0, [.null, .int 0, .int 0, .int 0]))]) (g1 := []) (by decide) rfl (Or.inl rfl)
  refine l_callSr hC hR (mB_copyR hJ (v := v) (cap := cap) (n := n) (f := f) hn hnc hc hf) lNo_k trivial lp_O (fun _ _ => lp_OB) qkj_1113 qkj_1114 qkj_44 qkj_1115 qhd_B_copyR ⟨Nat.le_of_ble_eq_true rfl, Nat.le_of_ble_eq_true rfl⟩ hl.1 rfl (Nat.le_of_ble_eq_true rfl) dJ0_init_db425_32 ⟨Nat.le_of_ble_eq_true rfl, Nat.le_of_ble_eq_true rfl⟩ (fun _ _ => lNo_k) (fun h a1 H locs hY hR hkp _ => ?_)
  refine l_putF (ref := "java/lang/String") hC hR 3 rfl (T := TJ0) (N := 4) (ci := 0) (ty := .array .byte) rfl qinJ0 tyJ0 tyJ0_ok nmJ0 0 (by decide) qkj_1140 rfl rfl (hmi rfl) rfl (by decide +kernel) rfl rfl (Nat.le_of_ble_eq_true rfl) dJ0_init_db425_35 (fun H locs hR => ?_)
  have hR : lR D _ (lX [] [lby G a1 n h, lby G v cap f, lob b v (nI n), (q, .inr (0, [.ref a1, .int 0, .int 0, .int 0]))] []) s H locs := hR
  refine lv_goto (tgt := 97) hx hb dJ0_init_db425_38 (by decide) ?_
  have hR := lR_pick hR [2, 1, 3, 0] (ex1 := [lob b v (nI n), lby G v cap f, (q, .inr (0, [.ref a1, .int 0, .int 0, .int 0])), lby G a1 n h]) (g1 := []) (by decide) rfl (Or.inl rfl)
  exact l_vret (T := Nat × (Nat → Int32)) (X1 := (fun (u : Nat × (Nat → Int32)) => lX [] [lob b v (nI n), lby G v cap f, (q, .inr (0, [.ref u.1, .int 0, .int 0, .int 0])), lby G u.1 n u.2] [])) (Y := (fun (u : Nat × (Nat → Int32)) => ∀ j, j < n → u.2 j = f j)) (a1, h) hC hR hr hY rfl dJ0_init_db425_97 (Nat.le_of_ble_eq_true rfl) (Nat.le_of_ble_eq_true rfl)
theorem qhd_B_mkS : yJ0_init_81219.cls ≠ "java/lang/invoke/MethodHandle" ∧ yJ0_init_81219.cls ≠ "java/lang/invoke/VarHandle" ∧ (parseMethodDescriptor yJ0_init_81219.desc).map (fun d => d.parameters.length) = some 1 := ⟨by decide +kernel, by decide +kernel, by decide +kernel⟩
set_option maxHeartbeats 4000000 in
set_option maxRecDepth 100000 in
theorem mB_mkS {l : Launch} {D : va_G} {G : Nat → ClassId} {ad : Nat → Nat} (hJ : qInj ad) {q b v cap n : Nat} {f : Nat → Int32} (hn : n ≤ 60) (hnc : n ≤ cap) (hc : cap ≤ 130) (hf : sb_Fit f) : lCM l D G ad yJ0_init_81219 (Cond.code yJ0_init_81219 cJ0_init_81219 2 (none)) 5 1 60 [.ref q, .ref b] (lX [] [lob b v (nI n), lby G v cap f, (q, .inr (0, [.null, .int 0, .int 0, .int 0]))] []) (fun _ _ _ => True) (lQv (T := Nat × (Nat → Int32)) D ad (lX [] [lob b v (nI n), lby G v cap f, (q, .inr (0, [.null, .int 0, .int 0, .int 0]))] []) (fun (u : Nat × (Nat → Int32)) => lX [] [lob b v (nI n), lby G v cap f, (q, .inr (0, [.ref u.1, .int 0, .int 0, .int 0])), lby G u.1 n u.2] []) (fun (u : Nat × (Nat → Int32)) => ∀ j, j < n → u.2 j = f j)) := by
  refine l_start RJ0 rfl (by decide +kernel) hJ (fun a b h => by simp only [lQi, lQv, lQr, h]) (Nat.le_of_ble_eq_true rfl) ?_
  intro p e s m args below meth c ls hC hr hmi hE hR hl
  have hx := hC.1
  have hb := hC.2.1
  have hts := hC.2.2.2.2.1
  have hl : lv_has ls 2 [(0, .ref q), (1, .ref b)] := hl
  refine lv_aload_n hx hb dJ0_init_81219_0 rfl (lv_at hl 0 rfl) ?_
  refine lv_aload_n hx hb dJ0_init_81219_1 rfl (lv_at hl 1 rfl) ?_
  refine lv_null hx hb dJ0_init_81219_2 ?_
  refine l_callIv hC hR (mB_mk hJ (q := q) (b := b) (v := v) (cap := cap) (n := n) (f := f) hn hnc hc hf) lNo_k trivial lp_id (fun _ => lp_id1) qkj_1095 qkj_1096 rfl qkj_34 qkj_1097 qhd_B_mk ⟨Nat.le_of_ble_eq_true rfl, Nat.le_of_ble_eq_true rfl⟩ hl.1 rfl (Nat.le_of_ble_eq_true rfl) dJ0_init_81219_3 ⟨Nat.le_of_ble_eq_true rfl, Nat.le_of_ble_eq_true rfl⟩ (fun u H locs hY hR hkp => ?_)
  exact l_vret (T := Nat × (Nat → Int32)) (X1 := (fun (u : Nat × (Nat → Int32)) => lX [] [lob b v (nI n), lby G v cap f, (q, .inr (0, [.ref u.1, .int 0, .int 0, .int 0])), lby G u.1 n u.2] [])) (Y := (fun (u : Nat × (Nat → Int32)) => ∀ j, j < n → u.2 j = f j)) u hC hR hr hY rfl dJ0_init_81219_6 (Nat.le_of_ble_eq_true rfl) (Nat.le_of_ble_eq_true rfl)
theorem qhd_B_toString : yJ4_toString_0e30d.cls ≠ "java/lang/invoke/MethodHandle" ∧ yJ4_toString_0e30d.cls ≠ "java/lang/invoke/VarHandle" ∧ (parseMethodDescriptor yJ4_toString_0e30d.desc).map (fun d => d.parameters.length) = some 0 := ⟨by decide +kernel, by decide +kernel, by decide +kernel⟩
set_option maxHeartbeats 4000000 in
set_option maxRecDepth 100000 in
theorem mB_toString {l : Launch} {D : va_G} {G : Nat → ClassId} {ad : Nat → Nat} (hJ : qInj ad) {b v cap n : Nat} {f : Nat → Int32} {tx : List Int32} (hn : n ≤ 60) (hnc : n ≤ cap) (hc : cap ≤ 130) (hf : sb_Fit f) (htx : qasc tx = true) (htn : tx.length = n) (hft : ∀ j, j < n → f j = tx.getD j 0) : lCM l D G ad yJ4_toString_0e30d (Cond.code yJ4_toString_0e30d cJ4_toString_0e30d 1 (some (.object "java/lang/String"))) 6 2 64 [.ref b] (lX [] [lob b v (nI n), lby G v cap f] []) (fun _ _ _ => True) (lQs D (lX [] [lob b v (nI n), lby G v cap f] []) tx) := by
  refine l_start RJ4 rfl (by decide +kernel) hJ (fun a b h => by simp only [lQs, h]) (Nat.le_of_ble_eq_true rfl) ?_
  intro p e s m args below meth c ls hC hr hmi hE hR hl
  have hx := hC.1
  have hb := hC.2.1
  have hts := hC.2.2.2.2.1
  have hl : lv_has ls 1 [(0, .ref b)] := hl
  refine l_new (Cn := RJ0) (T := TJ0) (N := 4) (ci := 0) tyJ0 tyJ0_ok hC hR qkj_1091 qkS_inst qkS_init qinJ0 rfl (fs := [.null, .int 0, .int 0, .int 0]) (fun j hj => by rcases (show j = 0 ∨ j = 1 ∨ j = 2 ∨ j = 3 by omega) with rfl | rfl | rfl | rfl <;> rfl) (Nat.le_of_ble_eq_true rfl) (Nat.le_of_ble_eq_true rfl) dJ4_toString_0e30d_0 (fun q H hR hk => ?_)
  refine lv_dup hx hb dJ4_toString_0e30d_3 rfl ?_
  refine lv_aload_n hx hb dJ4_toString_0e30d_4 rfl (lv_at hl 0 rfl) ?_
  have hR := lR_pick hR [1, 2, 0] (ex1 := [lob b v (nI n), lby G v cap f, (q, .inr (0, [.null, .int 0, .int 0, .int 0]))]) (g1 := []) (by decide) rfl (Or.inl rfl)
  refine l_callIv hC hR (mB_mkS hJ (q := q) (b := b) (v := v) (cap := cap) (n := n) (f := f) hn hnc hc hf) lNo_k trivial lp_id (fun _ => lp_id1) qkj_1092 qkj_1093 rfl qkj_34 qkj_1094 qhd_B_mkS ⟨Nat.le_of_ble_eq_true rfl, Nat.le_of_ble_eq_true rfl⟩ hl.1 rfl (Nat.le_of_ble_eq_true rfl) dJ4_toString_0e30d_5 ⟨Nat.le_of_ble_eq_true rfl, Nat.le_of_ble_eq_true rfl⟩ (fun u H locs hY hR hkp => ?_)
  have hR9 : lR D (lX [] [lob b v (nI n), lby G v cap f] []) (lX [] [lob b v (nI n), lby G v cap f] [] ++ [(q, .inr (0, [.ref u.1, .int 0, .int 0, .int 0])), (u.1, .inl (G 5, n, .inl u.2))]) s H locs := hR
  have hS := lSt_new (tx := tx) hC hR9 htx htn (fun j hj => (hY j hj).trans (hft j hj))
  have hnd := lD_nd hR9.2.1
  rw [List.map_append, List.nodup_append] at hnd
  exact l_sret hC hR9 hr (Or.inl ⟨_, rfl⟩) (fun z hz => List.mem_append_left _ hz) hnd.1 hS dJ4_toString_0e30d_8 (Nat.le_of_ble_eq_true rfl) (Nat.le_of_ble_eq_true rfl)
