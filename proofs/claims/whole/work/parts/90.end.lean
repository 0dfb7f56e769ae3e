set_option maxHeartbeats 4000000 in
set_option maxRecDepth 100000 in
theorem whole_start {p : Program} {e : Env} {s : State} {m : MethodId} {below : List Frame} {meth : Method} {c : Code} (l : Launch) (hflags : l.flags = flags0) {b L : Nat} {xs : Nat → Int32} (hL : L ≤ 2048) (C0 : lw_At p s m meth c b L xs) : W p l e room_1 s m #[Value.ref b] below meth c s.heap [] 0 0 (lw_Z below #[Value.ref b] s) (entryFrame m ([Value.ref b] : List Value).toArray 9) := by
  obtain ⟨hx, hb, hr, hml, hown, htsA, hX, hbl, hlocks, hgv⟩ := id C0
  have hts : ∀ w ∈ lw_gd, w.before #[Value.ref b] s = true := fun w hw => htsA w (List.mem_filter.mp hw).1
  obtain ⟨D, G, hK⟩ := q_tables htsA
  have hwc : qwc D G s := q_wc htsA hK
  obtain ⟨sk, sv, hX0⟩ := q_X0 htsA hgv hwc
  have hb : c.code = cL_law := hb
  have hown : s.vm.findClass RL = some m.cls := hown
  have hA : ∀ q : Nat, s.heap.size ≤ q → (fun q : Nat => s.heap.size ≤ q) q := fun _ h => h
  have hS : va_S (fun q : Nat => s.heap.size ≤ q) s.heap s.heap [] := va_S.rf
  have hP : va_P D vwCl [] s.heap := fun k q h => by simp at h
  have hD : va_D (fun q : Nat => s.heap.size ≤ q) [] := ⟨fun i j p q h => by simp at h, fun k q h => by simp at h⟩
  have hl := lv_entry ([.ref b]) (n := 9) (Nat.le_of_ble_eq_true rfl)
  rw [lg_entry_eq]
  generalize (lg_sl ([.ref b]) ++ List.replicate (9 - (lg_sl ([.ref b])).length) Slot.unset).toArray = ls at hl ⊢
  have hl : lv_has ls 9 [(0, .ref b)] := hl
  refine va_new (D := D) (ci := 8) (C := RX5) (T := TX5) (N := 11) (fs := [.null, .null, .null, .null, .null, .null, .int 0, .int 0, .int 0, .int 0, .int 0]) hx hb hts qin_X5 tyX5 tyX5_ok hown (hts _ qk_88) (htsA (.instantiable RX5 11) (by decide +kernel)) (hts _ qkm_58) hK hP hD hS hA rfl (fun j hj => by rcases (show j = 0 ∨ j = 1 ∨ j = 2 ∨ j = 3 ∨ j = 4 ∨ j = 5 ∨ j = 6 ∨ j = 7 ∨ j = 8 ∨ j = 9 ∨ j = 10 by omega) with rfl | rfl | rfl | rfl | rfl | rfl | rfl | rfl | rfl | rfl | rfl <;> rfl) (Nat.le_of_ble_eq_true rfl) (Nat.le_of_ble_eq_true rfl) dL_law_0 (fun h0 H hP hD hS => ?_)
  refine lv_dup hx hb dL_law_3 rfl ?_
  refine q_mkI (rest := [.ref h0]) hx hb hml hown hts hwc (mX5_init (l := l) (D := D) (G := G) (h0 := h0)) hP hD hS hA qk_90 qk_91 qkm_58 qk_92 rfl qhd_X5_init ⟨Nat.le_of_ble_eq_true rfl, Nat.le_of_ble_eq_true rfl⟩ hl.1 (Nat.le_of_ble_eq_true rfl) dL_law_4 ⟨Nat.le_of_ble_eq_true rfl, Nat.le_of_ble_eq_true rfl⟩ (fun W5 H locs hW5 hP hD hS => ?_)
  refine lv_astore_n (lv' := [(1, .ref h0), (0, .ref b)]) hx hb dL_law_7 rfl hl (by decide) rfl (fun ls hl => ?_)
  refine va_new (D := D) (ci := 9) (C := RX6) (T := TX6) (N := 21) (fs := [.null, .null, .null, .null, .int 0, .null, .int 0, .int 0, .int 0, .int 0, .int 0, .int 0, .null, .int 0, .null, .int 0, .int 0, .int 0, .int 0, .null, .int 0]) hx hb hts qin_X6 tyX6 tyX6_ok hown (hts _ qk_1119) (htsA (.instantiable RX6 21) (by decide +kernel)) (hts _ qk_64) hK hP hD hS hA rfl (fun j hj => by rcases (show j = 0 ∨ j = 1 ∨ j = 2 ∨ j = 3 ∨ j = 4 ∨ j = 5 ∨ j = 6 ∨ j = 7 ∨ j = 8 ∨ j = 9 ∨ j = 10 ∨ j = 11 ∨ j = 12 ∨ j = 13 ∨ j = 14 ∨ j = 15 ∨ j = 16 ∨ j = 17 ∨ j = 18 ∨ j = 19 ∨ j = 20 by omega) with rfl | rfl | rfl | rfl | rfl | rfl | rfl | rfl | rfl | rfl | rfl | rfl | rfl | rfl | rfl | rfl | rfl | rfl | rfl | rfl | rfl <;> rfl) (Nat.le_of_ble_eq_true rfl) (Nat.le_of_ble_eq_true rfl) dL_law_8 (fun m0 H hP hD hS => ?_)
  refine lv_dup hx hb dL_law_11 rfl ?_
  refine q_mkI (rest := [.ref m0]) hx hb hml hown hts hwc (mX6_init (l := l) (D := D) (G := G) (h0 := m0)) hP hD hS hA qk_1121 qk_1122 qk_64 qk_1123 rfl qhd_X6_init ⟨Nat.le_of_ble_eq_true rfl, Nat.le_of_ble_eq_true rfl⟩ hl.1 (Nat.le_of_ble_eq_true rfl) dL_law_12 ⟨Nat.le_of_ble_eq_true rfl, Nat.le_of_ble_eq_true rfl⟩ (fun W6 H locs hW6 hP hD hS => ?_)
  refine lv_astore_n (lv' := [(2, .ref m0), (1, .ref h0), (0, .ref b)]) hx hb dL_law_15 rfl hl (by decide) rfl (fun ls hl => ?_)
  refine lv_iconst (v := 1) hx hb dL_law_16 (by decide) ?_
  refine va_newa (atype := .long) (ty := .long) (N' := 1) (a0 := (1, .inr (.inl (fun _ => 0)))) hx hb (htsA (.arrayClass .long) (by decide +kernel)) rfl hK hP hD hS hA (fun _ => rfl) (by decide) (by decide) (Nat.le_of_ble_eq_true rfl) (Nat.le_of_ble_eq_true rfl) (Nat.le_of_ble_eq_true rfl) dL_law_17 (fun o cl H hKl hP hD hS => ?_)
  refine lv_astore_n (lv' := [(3, .ref o), (2, .ref m0), (1, .ref h0), (0, .ref b)]) hx hb dL_law_19 rfl hl (by decide) rfl (fun ls hl => ?_)
  refine lv_iconst (v := 1) hx hb dL_law_20 (by decide) ?_
  refine va_newa (atype := .double) (ty := .double) (N' := 1) (a0 := (1, .inr (.inr (.inr (.inl (fun _ => 0)))))) hx hb (htsA (.arrayClass .double) (by decide +kernel)) rfl hK hP hD hS hA (fun _ => rfl) (by decide) (by decide) (Nat.le_of_ble_eq_true rfl) (Nat.le_of_ble_eq_true rfl) (Nat.le_of_ble_eq_true rfl) dL_law_21 (fun oD cd H hKd hP hD hS => ?_)
  refine lv_astore (lv' := [(4, .ref oD), (3, .ref o), (2, .ref m0), (1, .ref h0), (0, .ref b)]) hx hb dL_law_23 hl (by decide) rfl (fun ls hl => ?_)
  refine lv_iconst (v := 0) hx hb dL_law_25 (by decide) ?_
  refine lv_istore (lv' := [(5, .int 0), (4, .ref oD), (3, .ref o), (2, .ref m0), (1, .ref h0), (0, .ref b)]) hx hb dL_law_26 hl (by decide) rfl (fun ls hl => ?_)
  obtain ⟨q1, W2, q3, W4, q5, W6', q7, W8, q9, W10, q11, W12, ⟨a1, g1, rfl⟩, ⟨a2, g2, rfl⟩, ⟨a3, g3, rfl⟩, ⟨k1, f, as, hf, rfl⟩, ⟨s1, s2, s3, s4, rfl⟩, ⟨l1, rfl⟩, rfl⟩ := hW5
  obtain ⟨m1, m2, m3, m4, m5, m6, m7, m8, rfl⟩ := hW6
  subst g1; subst g2; subst g3
  have hP : va_P D vwCl (qprew G h0 q7 k1 q9 q11 a1 a2 a3 as f ++ qrestw G q9 s1 s2 s3 s4 q11 l1 m0 m1 m2 m3 m4 m5 m6 m7 m8 [(o, .inl (cl, 1, .inr (.inl (fun _ => 0)))), (oD, .inl (cd, 1, .inr (.inr (.inr (.inl (fun _ => 0))))))]) H := by
    simpa only [qprew, qrestw, List.append_assoc, List.nil_append, List.cons_append] using hP
  have hD : va_D (fun q : Nat => s.heap.size ≤ q) (qprew G h0 q7 k1 q9 q11 a1 a2 a3 as f ++ qrestw G q9 s1 s2 s3 s4 q11 l1 m0 m1 m2 m3 m4 m5 m6 m7 m8 [(o, .inl (cl, 1, .inr (.inl (fun _ => 0)))), (oD, .inl (cd, 1, .inr (.inr (.inr (.inl (fun _ => 0))))))]) := by
    simpa only [qprew, qrestw, List.append_assoc, List.nil_append, List.cons_append] using hD
  obtain ⟨hP, hD⟩ := q_final (sk := sk) (sv := sv) hf hP hD (Nat.le_refl 2)
  have t0 : qad a1 a2 a3 as (qtsl h0 q7 k1 q9 s1 s2 s3 s4 q11 l1 m0 m1 m2 m3 m4 m5 m6 m7 m8) sk sv 228 = h0 := rfl
  have t10 : qad a1 a2 a3 as (qtsl h0 q7 k1 q9 s1 s2 s3 s4 q11 l1 m0 m1 m2 m3 m4 m5 m6 m7 m8) sk sv 238 = m0 := rfl
  have tk : ∀ i : Nat, i < 1000 → qad a1 a2 a3 as (qtsl h0 q7 k1 q9 s1 s2 s3 s4 q11 l1 m0 m1 m2 m3 m4 m5 m6 m7 m8) sk sv (1000 + i) = sk i := fun i hi => by
    unfold qad
    rw [if_neg (by omega), if_neg (by omega), if_neg (by omega), if_neg (by omega), if_neg (by omega), if_pos (by omega), show 1000 + i - 1000 = i by omega]
  have tv : ∀ i : Nat, i < 1000 → qad a1 a2 a3 as (qtsl h0 q7 k1 q9 s1 s2 s3 s4 q11 l1 m0 m1 m2 m3 m4 m5 m6 m7 m8) sk sv (2000 + i) = sv i := fun i hi => by
    unfold qad
    rw [if_neg (by omega), if_neg (by omega), if_neg (by omega), if_neg (by omega), if_neg (by omega), if_neg (by omega), show 2000 + i - 2000 = i by omega]
  generalize qad a1 a2 a3 as (qtsl h0 q7 k1 q9 s1 s2 s3 s4 q11 l1 m0 m1 m2 m3 m4 m5 m6 m7 m8) sk sv = ad at hP hD t0 t10 tk tv
  have had : ∀ k : Nat, k < 247 → s.heap.size ≤ ad k := fun k hk => hD.2 k (ad k, qshp G ad (qw0 k) k) (by rw [List.getElem?_append_left (by rw [qcells_len]; exact hk)]; exact qat G ad qw0 hk)
  have hJ : qInj ad := fun i j hi hj e => hD.1 i j (ad i, qshp G ad (qw0 i) i) (ad j, qshp G ad (qw0 j) j) (by rw [List.getElem?_append_left (by rw [qcells_len]; exact hi)]; exact qat G ad qw0 hi) (by rw [List.getElem?_append_left (by rw [qcells_len]; exact hj)]; exact qat G ad qw0 hj) e
  have ho1 : (qcells G ad qw0 ++ [(o, .inl (cl, 1, .inr (.inl (fun _ => 0)))), (oD, .inl (cd, 1, .inr (.inr (.inr (.inl (fun _ => 0))))))])[247]? = some (o, .inl (cl, 1, .inr (.inl (fun _ => 0)))) := by
    rw [List.getElem?_append_right (by rw [qcells_len]; exact Nat.le_refl _), qcells_len]; rfl
  have hoD1 : (qcells G ad qw0 ++ [(o, .inl (cl, 1, .inr (.inl (fun _ => 0)))), (oD, .inl (cd, 1, .inr (.inr (.inr (.inl (fun _ => 0))))))])[248]? = some (oD, .inl (cd, 1, .inr (.inr (.inr (.inl (fun _ => 0)))))) := by
    rw [List.getElem?_append_right (by rw [qcells_len]; decide), qcells_len]; rfl
  have hno : ∀ k : Nat, k < 247 → o ≠ ad k := fun k hk e => by
    have := hD.1 k 247 (ad k, qshp G ad (qw0 k) k) _ (by rw [List.getElem?_append_left (by rw [qcells_len]; exact hk)]; exact qat G ad qw0 hk) ho1 e.symm
    omega
  have hnoD : ∀ k : Nat, k < 247 → oD ≠ ad k := fun k hk e => by
    have := hD.1 k 248 (ad k, qshp G ad (qw0 k) k) _ (by rw [List.getElem?_append_left (by rw [qcells_len]; exact hk)]; exact qat G ad qw0 hk) hoD1 e.symm
    omega
  have hne : oD ≠ o := fun e => by
    have := hD.1 248 247 _ _ hoD1 ho1 e
    omega
  have hso : s.heap.size ≤ o := hD.2 247 _ ho1
  have hsoD : s.heap.size ≤ oD := hD.2 248 _ hoD1
  have hoH : H[o]? = some (vp_cell cl (1, .inr (.inl (fun _ => 0)))) := hP 247 _ ho1
  have hoDH : H[oD]? = some (vp_cell cd (1, .inr (.inr (.inr (.inl (fun _ => 0)))))) := hP 248 _ hoD1
  have hXX := hX0 ad had (fun i hi => tk i (by omega)) (fun i hi => tv i (by omega))
  have hAe : ∀ q, qAdr ad s.heap.size q ↔ s.heap.size ≤ q := fun q => ⟨fun h => h.elim (fun ⟨k, hk, e⟩ => by rw [e]; exact had k hk) (fun h => h), Or.inr⟩
  have hC : qCx p c cL_law 9 s m #[Value.ref b] meth RL D G ad := ⟨hx, hb, hml, hown, hts, hlocks, hK, hJ, hXX⟩
  have hW : qLw p l s m #[Value.ref b] meth c D G ad b L o oD xs := ⟨hC, q_flags hflags, hX, hbl, fun h => absurd hbl (Nat.not_lt.mpr ((hAe b).mp h)), hL, hso, hsoD, hne⟩
  have hR : qRp D G ad s qw0 H _ := ⟨qwl hP, hS.1, fun q h1 h2 => hS.2.1 q h1 (fun h => h2 (Or.inr h)), fun z hz => Or.inr (hS.2.2 z hz)⟩
  have hO : qOut o cl .long (1, .inr (.inl (fun _ => 0))) (qAdr ad H.size) s H := ⟨q_ncs hgv, ⟨fun k q h => by simp at h, fun k q hk => by
    have lk : k < 1 := (List.getElem?_eq_some_iff.mp hk).1
    rw [show k = 0 by omega] at hk
    cases hk
    exact hKl.2 6 _ rfl⟩, hoH, fun h => h.elim (fun ⟨k, hk, e⟩ => hno k hk e) (fun h => absurd (Array.getElem?_eq_some_iff.mp hoH).1 (Nat.not_lt.mpr h))⟩
  have hOD : qOut oD cd .double (1, .inr (.inr (.inr (.inl (fun _ => 0))))) (qAdr ad H.size) s H := ⟨q_ncs hgv, ⟨fun k q h => by simp at h, fun k q hk => by
    have lk : k < 1 := (List.getElem?_eq_some_iff.mp hk).1
    rw [show k = 0 by omega] at hk
    cases hk
    exact hKd.2 6 _ rfl⟩, hoDH, fun h => h.elim (fun ⟨k, hk, e⟩ => hnoD k hk e) (fun h => absurd (Array.getElem?_eq_some_iff.mp hoDH).1 (Nat.not_lt.mpr h))⟩
  refine W.widen (k := 400) (n := 4000) (Nat.le_of_ble_eq_true rfl) (Nat.le_of_ble_eq_true rfl) ?_
  have hl2 : lv_has ls 9 (qlvs b o oD 0 ad) := by
    have hl : lv_has ls 9 [(5, .int 0), (4, .ref oD), (3, .ref o), (2, .ref (ad 238)), (1, .ref (ad 228)), (0, .ref b)] := by rw [t0, t10]; exact hl
    exact lv_sub hl [5, 4, 3, 2, 1, 0] rfl
  have hrc : 170000 ≤ room_1.cells := Nat.le_of_ble_eq_true rfl
  have hrs : 1100000 ≤ room_1.slots := Nat.le_of_ble_eq_true rfl
  exact law_loop hW hr had (L / 4) 0 qw0 H _ ls _ _ 400 4000 (by omega) (by omega) (by omega) (by omega) (pure_run xs (L / 4) (by omega)) hR hO hOD hl2
-- ===== YOUR PART ENDS =====
set_option maxHeartbeats 4000000 in
theorem lw_walk (l : Launch) (hflags : l.flags = flags0) (b : Addr) (xs : List Int32) : MetFree l x (headSpec (Jvm.Cond.code x code maxLocals ret :: tables_1) room_1) (lw_P b xs) (fun _ _ _ _ _ => True) lw_Q := by
  refine MetFree.of_bodyS (code := code) (maxLocals := maxLocals) (ret := ret) (by decide) ?_ ?_
  · intro args s m h hn
    obtain ⟨meth, c, h1, h2, h3, h4, h5, h6, -, -⟩ := Cond.code_spec hn (atoms_spec (ws := Jvm.Cond.code x code maxLocals ret :: tables_1) h _ List.mem_cons_self)
    exact ⟨meth, c, h1, h2, h3, h4, h5, h6⟩
  · intro p e s m args below meth c s₁ B hml0 hP _
    obtain ⟨rfl, hx, hbd, hgv⟩ := hP
    obtain ⟨scr, harrAt, hlist, hof, hsmall⟩ := hx
    obtain ⟨hcb, hkn, -, -⟩ := State.arrayAt?_spec harrAt
    have hown : s.vm.findClass R_law = some m.cls := findClass_of_methodNamed B.named
    have hts0 : ∀ c ∈ (Jvm.Cond.code x code maxLocals ret :: tables_1), c.before #[Value.ref b] s = true := atoms_spec (ws := Jvm.Cond.code x code maxLocals ret :: tables_1) B.pre
    have hts : ∀ w ∈ lw_tbl, w.before #[Value.ref b] s = true := k2_hts_sels lw_privs (fun w hw => hts0 w (List.mem_cons_of_mem _ hw)) lw_privs_ok
    have hml : c.maxLocals = 9 := B.maxLocals_eq (hts0 _ List.mem_cons_self)
    have X₀ : Stand p l e room_1 s m #[Value.ref b] below meth c s₁ [] 0 0 := Stand.of_body B
    have hh0 : s₁.heap = s.heap := by rw [B.state]; rfl
    have hsz : scr.slots.size = xs.length := by rw [← Array.length_toList, hlist, List.length_map]
    have hval : ∀ j : Nat, j < xs.length → scr.slots[j]? = some (.int (xs.getD j 0)) := fun j hj => by
      rw [← Array.getElem?_toList, hlist]
      simp [hj]
    have hbl : b < s.heap.size := (Array.getElem?_eq_some_iff.mp hcb).1
    have hX : va_X b xs.length (fun j => xs.getD j 0) s s.heap := ⟨scr, hcb, hof, hkn, hsz, hval⟩
    have K : W p l e room_1 s m #[Value.ref b] below meth c s₁.heap [] 0 0 (lw_Z below #[Value.ref b] s) (entryFrame m ([Value.ref b] : List Value).toArray 9) := by
      rw [hh0]
      exact whole_start l hflags hbd ⟨B.exec, B.bytes, B.returns, hml, hown, hts, hX, hbl, B.notSynchronized, hgv⟩
    obtain ⟨t, a1, o, b1, b2, b3⟩ := K s₁ rfl X₀
    exact ⟨t, o, a1, b1, b2, b3⟩
theorem lw_pre_spec {args : Array Value} {s : State} (h : (Jvm.Cond.and given_1 narrow_1).before args s = true) (hr : rest_1_c.before args s = true) : ∃ (b : Addr) (xs : List Int32), lw_P b xs args s := by
  have hs := flat_of_before _ h
  have hq := flat_of_before _ hr
  have hc : (Cond.count 1).before args s = true := hs _ (by decide +kernel)
  have harr : (Cond.arrayOf (.arg 0) .int).before args s = true := hs _ (by decide +kernel)
  have hle : (Cond.le (.length (.arg 0)) (.int 2048)).before args s = true := hs _ (by decide +kernel)
  have hlen : (Cond.isInt (.length (.arg 0))).before args s = true := hq _ (by decide +kernel)
  have hall : (Cond.all (.arg 0) (.isInt (.elem (.arg 0) (.index 0)))).before args s = true := hq _ (by decide +kernel)
  obtain ⟨b, xs, hb, hx⟩ := State.ints_of_pre rfl harr hlen hall
  have hsm : xs.length < 2 ^ 31 := hx.choose_spec.2.2.2
  have hev : (Term.length (.arg 0)).eval args s none [] s = some (.int xs.length.toInt32) := hx.length_eval hb
  have hv := Cond.le_ints hev (show (Term.int 2048).eval args s none [] s = some (.int 2048) from rfl)
  have hd : xs.length.toInt32 ≤ 2048 := by
    simpa [Cond.before, Cond.holds, hv] using hle
  have hN : xs.length ≤ 2048 := (Int32.ofNat_le_ofNat hsm (by decide)).mp (show Int32.ofNat xs.length ≤ Int32.ofNat 2048 from hd)
  exact ⟨b, xs, Cond.one_arg hc (show args[0]? = some (.ref b) from hb), hx, hN, h⟩
theorem lw_comes (l : Launch) (hflags : l.flags = flags0) : Comes l x (Jvm.Cond.code x code maxLocals ret :: tables_1) room_1 (fun tb e args s => Calls_1 tb e args s ∧ rest_1 tb e args s ∧ Pre_1 tb e args s)
    (fun _ _ args s o t => lw_Q args s o t) := by
  intro p e ha hc hk s m args below hf hfit hheap happ hpre
  obtain ⟨b, xs, hP⟩ := lw_pre_spec hpre.2.2 hpre.2.1
  obtain ⟨k, o, h1, h2, h3, hQ⟩ := lw_walk l hflags b xs p e ha hc hk s m args below hf ((Spec.applies_iff_loose hf).mp happ).1 hP trivial
  exact ⟨k, o, h1, h2, h3, hQ⟩
theorem lw_frame {s t : State} {o : Outcome} {args : Array Value} (h : State.butDraws s t lw_cs (fun t1 => Framed s o t1 [] room_1.cells room_1.slots)) :
    State.butDraws s t [Jvm.Choice.named "NaN.bits"] (fun t1 => Framed s o t1 (fieldLocs frame_1_writes args s ++ arrayLocs frame_1_arrays args s ++ staticLocs frame_1_statics s) room_1.cells room_1.slots) := h
theorem lw_limb (L : Cond) (hL : ∀ (args : Array Value) (s t : State), L.after args s (.returned (some (.int 1))) t = true) :
    ArmFor flags0 classFile x code maxLocals ret World_1 tables_1 room_1 Calls_1 rest_1 Pre_1
      (fun tb e a s o t => postC L tb e a s o t ∧ State.butDraws s t [Jvm.Choice.named "NaN.bits"] (fun t1 => Framed s o t1 (fieldLocs frame_1_writes a s ++ arrayLocs frame_1_arrays a s ++ staticLocs frame_1_statics s) room_1.cells room_1.slots)) := by
  intro l hflags _ _ p e ha hc hk s m args below hf hfit hheap happ hpre
  obtain ⟨k, o, h1, h2, h3, rfl, hF⟩ := lw_comes l hflags p e ha hc hk s m args below hf hfit hheap happ hpre
  exact ⟨k, _, h1, h2, h3, hL args s _, lw_frame hF⟩
theorem i_vc : Claimed_1_1 ∧ Claimed_1_2 := ⟨lw_limb limb_1_1 (fun args s t => by simp [limb_1_1, Cond.after, Cond.holds, Cond.value]), lw_limb limb_1_2 (fun args s t => Cond.after_iff.mpr (by
  first | (rw [show limb_1_2 = Cond.eq .result (.int 1) from rfl, Cond.eq_ints (x := 1) (y := 1) rfl rfl]; simp; done) | (simp [limb_1_2, Cond.value, Term.eval]; done)))⟩
