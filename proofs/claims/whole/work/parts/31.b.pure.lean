-- the reference's lines
theorem pr_os {w : qMem} {i : Nat} {p : Nat → Int32} (hi : i < 12) (a : pAg (pzS (w 239) i) p) : (fX6_of w (nI i) 0 = some (p 0)) ∧ (fX6_of w (nI i) 1 = some (p 1)) ∧ (fX6_of w (nI i) 2 = some (p 2)) ∧ (fX6_of w (nI i) 3 = some (p 3)) ∧ (fX6_of w (nI i) 4 = some (p 4)) ∧ (fX6_of w (nI i) 5 = some (p 5)) := by
  obtain ⟨o0, o1, o2, o3, o4, o5, o6⟩ := pz_of_ (w := w) hi
  exact ⟨o0.trans (congrArg some (a 0 (by decide))), o1.trans (congrArg some (a 1 (by decide))), o2.trans (congrArg some (a 2 (by decide))), o3.trans (congrArg some (a 3 (by decide))), o4.trans (congrArg some (a 4 (by decide))), o5.trans (congrArg some (a 5 (by decide)))⟩
theorem pFw.at {w w1 : qMem} (f : pFw w w1) {i : Nat} {p : Nat → Int32} (a : pAg (pzS (w 239) i) p) : pAg (pzS (w1 239) i) p := by
  rw [f.1 239 (by decide) (by decide)]; exact a
theorem pr_63 {w : qMem} {l : List Int32} {i cu : Nat} {p : Nat → Int32} (hi : i < 12) (h : pWr w l) (hl : l.length < 30) (a : pAg (pzS (w 239) i) p) (h5 : p 5 = nI cu) (hcu : cu ≤ 9) : ∃ w1 : qMem, fX6_saysValue_L63 w (nI i) = some w1 ∧ pWr w1 (l ++ pL5 cu) ∧ pFw w w1 := by
  unfold fX6_saysValue_L63 pL5
  rw [(pr_os hi a).2.2.2.2.2, pz_b, h5]
  by_cases z : cu = 0
  · rw [if_pos (show nI cu ≤ 0 by rw [z]; decide), if_pos z, List.append_nil]; exact ⟨w, rfl, h, pFw.rf w⟩
  · obtain ⟨w1, e1, h1, f1⟩ := pr_say (x := 35) h (by omega) ⟨35, by omega, rfl⟩
    obtain ⟨w2, e2, h2, f2⟩ := pr_sn (n := cu) h1 (by rw [pl_n]; omega) (by omega)
    rw [if_neg (nI_nle (by omega) (by omega)), e1, pz_b, (pr_os hi (f1.at a)).2.2.2.2.2, pz_b, h5, e2, pz_b, if_neg z, ← List.append_assoc]
    exact ⟨w2, rfl, h2, f1.tr f2⟩
theorem pr_21 {i : Nat} : ∀ (k fuel : Nat) (w : qMem) (l : List Int32), k < fuel → pWr w l → l.length + k ≤ 37 → ∃ (w1 : qMem) (g : Nat), fX6_saysValue_L21 fuel w (nI i) (nI k) = fX6_saysValue_L21 (g + 1) w1 (nI i) 0 ∧ pWr w1 (l ++ List.replicate k 39) ∧ pFw w w1
  | 0, fuel + 1, w, l, _, h, _ => ⟨w, fuel, rfl, by rw [List.replicate_zero, List.append_nil]; exact h, pFw.rf w⟩
  | k + 1, fuel + 1, w, l, hf, h, hl => by
    obtain ⟨w1, e1, h1, f1⟩ := pr_say (x := 39) h (by omega) ⟨39, by omega, rfl⟩
    obtain ⟨w2, g, e2, h2, f2⟩ := pr_21 k fuel w1 (l ++ [39]) (by omega) h1 (by rw [pl_n]; omega)
    have e : fX6_saysValue_L21 (fuel + 1) w (nI i) (nI (k + 1)) = fX6_saysValue_L21 fuel w1 (nI i) (nI k) := by
      simp only [fX6_saysValue_L21, e1, pz_b, pz_nm, pk_m1]
      rw [if_neg (nI_nle (by omega) (by omega))]
    refine ⟨w2, g, e.trans e2, ?_, f1.tr f2⟩
    rw [List.append_assoc] at h2; exact h2
theorem pr_sv {w : qMem} {l : List Int32} {i d cu : Nat} {p : Nat → Int32} (hi : i < 12) (h : pWr w l) (hl : l.length < 20) (a : pAg (pzS (w 239) i) p) (h3 : p 3 = nI d) (hd : d ≤ 40) (hd3 : p 0 = 1 → d ≤ 3) (h5 : p 5 = nI cu) (hcu : cu ≤ 9) : ∃ w1 : qMem, fX6_saysValue w (nI i) = some w1 ∧ pWr w1 (l ++ pLd p d ++ pL5 cu) ∧ pFw w w1 := by
  unfold fX6_saysValue
  rw [(pr_os hi a).1, pz_b]
  have fin : ∀ (g : Nat) (w : qMem) (l : List Int32), pWr w l → l.length < 25 → pAg (pzS (w 239) i) p → ¬ p 0 = 2 → ∃ w1 : qMem, fX6_saysValue_L21 (g + 1) w (nI i) 0 = some w1 ∧ pWr w1 (l ++ pL5 cu) ∧ pFw w w1 := fun g w l h hl a n2 => by
    obtain ⟨w1, e1, h1, f1⟩ := pr_63 hi h (by omega) a h5 hcu
    refine ⟨w1, ?_, h1, f1⟩
    simp only [fX6_saysValue_L21, (pr_os hi a).1, pz_b]
    rw [if_pos (by decide), if_neg n2]; exact e1
  by_cases z : p 0 = 1
  · obtain ⟨w1, g, e1, h1, f1⟩ := pr_21 (i := i) d 100 w l (by have := hd3 z; omega) h (by have := hd3 z; omega)
    obtain ⟨w2, e2, h2, f2⟩ := fin g w1 _ h1 (by rw [List.length_append, List.length_replicate]; have := hd3 z; omega) (f1.at a) (by rw [z]; decide)
    rw [if_pos z, (pr_os hi a).2.2.2.1, pz_b, h3, e1, e2]
    exact ⟨w2, rfl, by unfold pLd; rw [if_pos z]; exact h2, f1.tr f2⟩
  · rw [if_neg z]
    by_cases y : p 0 = 2
    · obtain ⟨w1, e1, h1, f1⟩ := pr_say (x := 126) h (by omega) ⟨126, by omega, rfl⟩
      obtain ⟨w2, e2, h2, f2⟩ := pr_sn (n := d) h1 (by rw [pl_n]; omega) (by omega)
      have n2 := pDg_n d
      obtain ⟨w3, e3, h3', f3⟩ := pr_63 hi h2 (by rw [List.length_append, pl_n]; omega) (f2.at (f1.at a)) h5 hcu
      refine ⟨w3, ?_, by unfold pLd; rw [if_neg z, if_pos y, ← List.append_assoc]; exact h3', (f1.tr f2).tr f3⟩
      have fin2 : ∀ g, fX6_saysValue_L21 (g + 1) w (nI i) 0 = some w3 := fun g => by
        simp only [fX6_saysValue_L21, (pr_os hi a).1, pz_b]
        rw [if_pos (by decide), if_pos y, e1, pz_b, (pr_os hi (f1.at a)).2.2.2.1, pz_b, h3, e2, pz_b, e3]
      exact fin2 99
    · obtain ⟨w2, e2, h2, f2⟩ := fin 99 w l h (by omega) a y
      exact ⟨w2, e2, by unfold pLd; rw [if_neg z, if_neg y, List.append_nil]; exact h2, f2⟩
theorem pr_hd {T : Nat} {p : Nat → Int32} (hp : pWF T p) : qin (p 0 - 1) (qtx.getD 10 []).length = true ∧ (qtx.getD 10 []).getD (p 0 - 1).toNatClampNeg 0 = pLx p ∧ pC1 (pLx p) := by
  unfold pLx
  rcases hp.k with h | h | h
  · rw [h]; exact ⟨by decide +kernel, by decide +kernel, 99, by omega, rfl⟩
  · rw [h]; exact ⟨by decide +kernel, by decide +kernel, 108, by omega, rfl⟩
  · rw [h]; exact ⟨by decide +kernel, by decide +kernel, 107, by omega, rfl⟩
theorem pr_ln {w : qMem} {i f m d cu T : Nat} {p : Nat → Int32} (hi : i < 12) (hp : pWF T p) (a : pAg (pzS (w 239) i) p) (h1 : p 1 = nI f) (hf : f ≤ 9) (h2 : p 2 = nI m) (hm : m ≤ 9) (h3 : p 3 = nI d) (hd : d ≤ 40) (hd3 : p 0 = 1 → d ≤ 3) (h5 : p 5 = nI cu) (hcu : cu ≤ 9) : ∃ w1 : qMem, fX6_line_L14 w (nI i) 0 = some (w1 238 13, w1) ∧ pWr w1 (pLh (pLx p) f m ++ pLd p d ++ pL5 cu ++ pL4 (p 4)) ∧ (∀ c, c ≠ 238 → c ≠ 244 → w1 c = w c) ∧ (∀ k, k ≠ 7 → k ≠ 13 → w1 238 k = w 238 k) ∧ w1 238 7 = 0 := by
  obtain ⟨w6, e6, g6, g7, gk, gc⟩ : ∃ w6 : qMem, quw (quw w 238 7 0) 238 13 0 = w6 ∧ pWr w6 [] ∧ w6 238 7 = 0 ∧ (∀ k, k ≠ 7 → k ≠ 13 → w6 238 k = w 238 k) ∧ ∀ c, c ≠ 238 → w6 c = w c :=
    ⟨_, rfl, ⟨pz_w, fun j hj => absurd hj (Nat.not_lt_zero _)⟩, by rw [pz_wk (by decide), pz_w], fun k k1 k2 => by rw [pz_wk k2, pz_wk k1], fun c h => by rw [pz_wr, pz_rn h, pz_wr, pz_rn h]⟩
  have a6 : pAg (pzS (w6 239) i) p := by rw [gc 239 (by decide)]; exact a
  obtain ⟨q1, q2, q3⟩ := pr_hd hp
  obtain ⟨w1, e1, h1', f1⟩ := pr_say (x := pLx p) g6 (by decide) q3
  obtain ⟨w2, e2, h2', f2⟩ := pr_sn (n := f) h1' (by show 1 < 38; decide) (by omega)
  have n2 := pDg_n f
  obtain ⟨w3, e3, h3', f3⟩ := pr_say (x := 58) h2' (by rw [List.length_append, pl_n]; show 0 + 1 + _ < 40; omega) ⟨58, by omega, rfl⟩
  obtain ⟨w4, e4, h4', f4⟩ := pr_sn (n := m) h3' (by rw [pl_n, List.length_append, pl_n]; show 0 + 1 + _ + 1 < 38; omega) (by omega)
  have h4' : pWr w4 (pLh (pLx p) f m) := h4'
  have nh := pLh_n (x := pLx p) (f := f) (m := m) hf hm
  have ff := ((f1.tr f2).tr f3).tr f4
  obtain ⟨w5, e5, h5', f5⟩ := pr_sv hi h4' (by omega) (ff.at a6) h3 hd hd3 h5 hcu
  have n5 := pL5_n hcu
  have nd : (pLd p d).length ≤ 3 := by
    unfold pLd; split
    · rename_i y; rw [List.length_replicate]; exact hd3 y
    · split
      · have := pDg_n d; rw [List.length_append]; show 1 + _ ≤ 3; omega
      · exact Nat.zero_le 3
  have f5' := ff.tr f5
  have b4 := hp.b4
  have key : ∃ w9 : qMem, (if p 4 = 1 then qbd (fX6_says w5 33) fun (w28 : qMem) => some (w28 238 13, w28) else some (w5 238 13, w5)) = some (w9 238 13, w9) ∧ pWr w9 (pLh (pLx p) f m ++ pLd p d ++ pL5 cu ++ pL4 (p 4)) ∧ pFw w5 w9 := by
    rcases b4 with z | z
    · refine ⟨w5, by rw [if_neg (by rw [z]; decide)], ?_, pFw.rf w5⟩
      unfold pL4; rw [if_pos z, List.append_nil]; exact h5'
    · obtain ⟨w7, e7, h7, f7⟩ := pr_say (x := 33) h5' (by rw [List.length_append, List.length_append]; omega) ⟨33, by omega, rfl⟩
      refine ⟨w7, by rw [if_pos z, e7, pz_b], ?_, f7⟩
      unfold pL4; rw [if_neg (by rw [z]; decide)]; exact h7
  obtain ⟨w9, e9, h9, f9⟩ := key
  have fa := f5'.tr f9
  refine ⟨w9, ?_, h9, fun c c1 c2 => by rw [fa.1 c c1 c2, gc c c1], fun k k1 k2 => by rw [fa.2 k k2, gk k k1 k2], by rw [fa.2 7 (by decide)]; exact g7⟩
  unfold fX6_line_L14
  rw [pz_nm, pz_w, if_pos (by decide), pz_nm, e6, (pr_os hi a6).1, pz_b, if_pos q1, q2, e1, pz_b, (pr_os hi (f1.at a6)).2.1, pz_b, h1, e2, pz_b, e3, pz_b, (pr_os hi (((f1.tr f2).tr f3).at a6)).2.2.1, pz_b, h2, e4, pz_b, e5, pz_b, (pr_os hi (f5'.at a6)).2.2.2.2.1, pz_b]
  exact e9
/-- both have written the same line -/
theorem pI_line {T : Nat} {w w3 w9 : qMem} {l : List Int32} (H : pI T w) (hl : l.length ≤ 16) (hc : pWc w3 l) (fc : pFc w w3) (hr : pWr w9 l) (k1 : ∀ c, c ≠ 238 → c ≠ 244 → w9 c = w3 c) (k2 : ∀ k, k ≠ 7 → k ≠ 13 → w9 238 k = w3 238 k) : pI T w9 := by
  have g : ∀ c, c ≠ 236 → c ≠ 237 → c ≠ 238 → c ≠ 244 → w9 c = w c := fun c c1 c2 c3 c4 => by rw [k1 c c3 c4, fc c c1 c2]
  have gk : ∀ k, k ≠ 7 → k ≠ 13 → w9 238 k = w 238 k := fun k a b => by rw [k2 k a b, fc 238 (by decide) (by decide)]
  refine pI_tl H (fun c c1 c2 c3 => g c (by omega) (by omega) (by omega) c2) (fun k a b _ => gk k a b) (pTx_same H.2.2.2.1 ?_ ?_ ?_ ?_) ⟨l.length, hl, ?_, hr.1, fun j hj => ?_⟩
  · rw [g 231 (by decide) (by decide) (by decide) (by decide)]
  · rw [g 232 (by decide) (by decide) (by decide) (by decide)]
  · rw [g 245 (by decide) (by decide) (by decide) (by decide)]
  · exact gk 15 (by decide) (by decide)
  · rw [k1 236 (by decide) (by decide)]; exact hc.1
  · rw [k1 237 (by decide) (by decide), (hc.2 j hj).1, hr.2 j hj]; exact ⟨rfl, (hc.2 j hj).2⟩
theorem pq_24 {T : Nat} {w : qMem} (a1 a2 a3 : Int32) (H : pI T w) : ∃ w1 : qMem, qs_24 w a1 a2 a3 = some w1 ∧ pI (T + 2000) w1 := by
  obtain ⟨S, hW, hH, hR⟩ := H.1
  have hn := hW.1
  have e2 : w 0 2 = nI (sN S) := hH.1.1
  unfold qs_24 fL_line fX5_line fX5_propNumbered
  rcases pj_prop (sN S) hn a1 with ⟨⟨i, hi, ea, b1, b2⟩, qp⟩ | ⟨hb, qp⟩
  · have hP := hW.2.1 i hi
    have hA : pAg (w (2 + i)) (sP S i) := by have := hH.1.2 i hi; rw [show 19 * 0 + 2 + i = 2 + i by omega] at this; exact this
    obtain ⟨f, m, d, cu, ⟨hf, hm, hd, hcu, hd3⟩, h1, h2, h3, h5, w3, c3, g3, f3⟩ := pc_wp hP (c1 := 2 + i) (by omega) hA
    obtain ⟨w9, c9, g9, k1, k2, k7⟩ := pr_ln (w := w3) (i := i) (by omega) hP (by rw [f3 239 (by decide) (by decide)]; exact hR.1.2 i hi) h1 hf h2 hm h3 hd hd3 h5 hcu
    have nl : (pLh (pLx (sP S i)) f m ++ pLd (sP S i) d ++ pL5 cu ++ pL4 (sP S i 4)).length ≤ 16 := by
      have n1 := pLh_n (x := pLx (sP S i)) (f := f) (m := m) hf hm
      have n5 := pL5_n hcu
      have n4 := pL4_n (sP S i 4)
      have nd : (pLd (sP S i) d).length ≤ 3 := by
        unfold pLd; split
        · rename_i y; rw [List.length_replicate]; exact hd3 y
        · split
          · have := pDg_n d; rw [List.length_append]; show 1 + _ ≤ 3; omega
          · exact Nat.zero_le 3
      rw [List.length_append, List.length_append, List.length_append]; omega
    refine ⟨w9, ?_, (pI_line H nl g3 f3 g9 k1 k2).mo (by omega)⟩
    have eP : fX0_propAt w 0 (nI i) = some (2 + i) := by
      have := pz_at (w := w) (h := 0) (by decide) hn hi hH.1.1
      rw [show 19 * 0 + 2 + i = 2 + i by omega] at this; exact this
    have qP : qisPb (2 + i) = true := by
      have := pz_P (h := 0) (i := i) (by decide) (by omega)
      rw [show 19 * 0 + 2 + i = 2 + i by omega] at this; exact this
    rw [if_neg b1, e2, if_pos b2, ea, eP, pz_b, if_pos qP, pz_b3, if_pos rfl, if_pos qP, c3, pz_b]
    have : ∀ v : Int32, qlh [3] (0 : Int32) (some (0, v, w3)) = some (0, v, w3) := fun _ => rfl
    rw [this, pz_bn]; unfold fX6_line
    rw [← ea, qp w3 (by rw [f3 239 (by decide) (by decide)]; exact hR.1.1), pz_b, if_neg (by decide), ea, c9, pz_b2, fX6_thrown, k7, pz_b, if_pos rfl, if_pos rfl, if_pos (g3.1.trans g9.1.symm)]
  · refine ⟨quw w 238 7 1, ?_, (pI_7 H 1).mo (by omega)⟩
    have h0 : (if a1 < 0 then some (3, 0, w) else if a1 < w 0 2 then qbd (fX0_propAt w 0 a1) fun (r4 : Nat) => if qisPb r4 = true then some (0, r4, w) else none else some (3, 0, w)) = some ((3 : Nat), (0 : Nat), w) := by
      rw [e2]
      rcases hb with z | ⟨z1, z2⟩
      · rw [if_pos z]
      · rw [if_neg z1, if_neg z2]
    rw [h0, pz_b3, if_neg (by decide)]
    have : qlh [3] (0 : Int32) (some (3, 0, w)) = some (1, 0, w) := rfl
    rw [this, pz_bn]; unfold fX6_line fX6_line_L14
    rw [qp w hR.1.1, pz_b, if_pos rfl, pz_nm, pz_w, if_neg (by decide), pz_b2, fX6_thrown, pz_w, pz_b, if_pos rfl, if_neg (by decide)]
-- the programme's line
def pPl (L : Nat → Int32) : Nat → List Int32
  | 0 => []
  | i + 1 => pPl L i ++ pDg (L i).toNatClampNeg
theorem pPl_n {L : Nat → Int32} : ∀ i, (∀ j, j < i → ∃ a, 1 ≤ a ∧ a ≤ 9 ∧ L j = nI a) → (pPl L i).length = i
  | 0, _ => rfl
  | i + 1, h => by
    obtain ⟨a, a1, a9, e⟩ := h i (by omega)
    simp only [pPl]
    rw [e, nI_clamp (by omega), pDg_1 a9, pl_n, pPl_n i (fun j hj => h j (by omega))]
theorem pc_pl {T : Nat} {S : pSt} (hW : pW T S) : ∀ (k i fuel : Nat) (w : qMem), i + k = sQ S → k < fuel → pH w 0 S → pWc w (pPl (sL S) i) → ∃ w1 : qMem, fX2_writeProgramme_L7 0 fuel w (nI i) = some w1 ∧ pWc w1 (pPl (sL S) (sQ S)) ∧ pFc w w1
  | 0, i, fuel + 1, w, e, _, H, h => by
    have e : i = sQ S := by omega
    subst e
    refine ⟨w, ?_, h, pFc.rf w⟩
    have h4 : w (19 * 0) 4 = nI (sQ S) := H.2.1
    have := hW.2.2.1
    simp only [fX2_writeProgramme_L7]
    rw [if_pos (by rw [h4]; exact pz_ge (Nat.le_refl _) (by omega))]
  | k + 1, i, fuel + 1, w, e, hf, H, h => by
    have hi : i < sQ S := by omega
    have hq := hW.2.2.1
    have h4 : w (19 * 0) 4 = nI (sQ S) := H.2.1
    obtain ⟨a, a1, a9, ea⟩ := hW.2.2.2.1 i hi
    have n1 := pPl_n (L := sL S) i (fun j hj => hW.2.2.2.1 j (by omega))
    have e15 : w 15 i = nI a := (H.2.2.1 i hi).trans ea
    have eP : fX0_plannedAt w 0 (nI i) = some (nI a) := by
      unfold fX0_plannedAt
      rw [if_neg (nI_pos (by omega)), if_neg (show ¬ (8 : Int32) ≤ nI i from nI_ge (b := 8) (by omega) (by omega)), if_pos (pz_qin (by omega) (by omega)), pz_nI (by omega)]
      exact congrArg some e15
    obtain ⟨w1, e1, h1, f1⟩ := pc_pn (n := a) h (by omega) (by omega)
    have h1 : pWc w1 (pPl (sL S) (i + 1)) := by simp only [pPl]; rw [ea, nI_clamp (by omega)]; exact h1
    obtain ⟨w2, e2, h2, f2⟩ := pc_pl hW k (i + 1) fuel w1 (by omega) (by omega) (ph_same hW (fun c c1 c2 => f1 c (by omega) (by omega)) H) h1
    refine ⟨w2, ?_, h2, f1.tr f2⟩
    simp only [fX2_writeProgramme_L7, eP, pz_b, e1, pz_nm, nI_1]
    rw [if_neg (by rw [h4]; exact nI_ge hi (by omega))]
    exact e2
theorem pr_pl {T : Nat} {S : pSt} (hW : pW T S) : ∀ (k i fuel : Nat) (w : qMem), i + k = sQ S → k < fuel → pR (w 239) S → pWr w (pPl (sL S) i) → ∃ w1 : qMem, fX6_programmeLine_L12 fuel w (nI i) = some (w1 238 13, w1) ∧ pWr w1 (pPl (sL S) (sQ S)) ∧ pFw w w1
  | 0, i, fuel + 1, w, e, _, H, h => by
    have e : i = sQ S := by omega
    subst e
    refine ⟨w, ?_, h, pFw.rf w⟩
    have := hW.2.2.1
    simp only [fX6_programmeLine_L12]
    rw [if_pos (by rw [H.2.1]; exact pz_ge (Nat.le_refl _) (by omega))]
  | k + 1, i, fuel + 1, w, e, hf, H, h => by
    have hi : i < sQ S := by omega
    have hq := hW.2.2.1
    obtain ⟨a, a1, a9, ea⟩ := hW.2.2.2.1 i hi
    have n1 := pPl_n (L := sL S) i (fun j hj => hW.2.2.2.1 j (by omega))
    have e15 : w 239 (7 + i) = nI a := (H.2.2.1 i hi).trans ea
    have e7 : (7 : Int32) + nI i = nI (7 + i) := nI_add 7 i
    obtain ⟨w1, e1, h1, f1⟩ := pr_sn (n := a) h (by omega) (by omega)
    have h1 : pWr w1 (pPl (sL S) (i + 1)) := by simp only [pPl]; rw [ea, nI_clamp (by omega)]; exact h1
    obtain ⟨w2, e2, h2, f2⟩ := pr_pl hW k (i + 1) fuel w1 (by omega) (by omega) (by rw [f1.1 239 (by decide) (by decide)]; exact H) h1
    refine ⟨w2, ?_, h2, f1.tr f2⟩
    simp only [fX6_programmeLine_L12, pz_nm, nI_1]
    rw [if_neg (by rw [H.2.1]; exact nI_ge hi (by omega)), e7, if_pos (pz_qin (by omega) (by omega)), pz_nI (by omega), e15, e1, pz_b]
    exact e2
theorem pq_25 {T : Nat} {w : qMem} (a1 a2 a3 : Int32) (H : pI T w) : ∃ w1 : qMem, qs_25 w a1 a2 a3 = some w1 ∧ pI (T + 2000) w1 := by
  obtain ⟨S, hW, hH, hR⟩ := H.1
  have hq := hW.2.2.1
  have f0 : pFc w (quw w 236 1 0) := fun c g1 g2 => by rw [pz_wr, pz_rn g1]
  obtain ⟨w3, e3, g3, f3⟩ := pc_pl hW (sQ S) 0 100 (quw w 236 1 0) (by omega) (by omega) (ph_same hW (fun c c1 c2 => f0 c (by omega) (by omega)) hH) ⟨pz_w, fun j hj => absurd hj (Nat.not_lt_zero _)⟩
  have fa := f0.tr f3
  obtain ⟨w6, e6, g6, g7, gk, gc⟩ : ∃ w6 : qMem, quw (quw w3 238 7 0) 238 13 0 = w6 ∧ pWr w6 [] ∧ w6 238 7 = 0 ∧ (∀ k, k ≠ 7 → k ≠ 13 → w6 238 k = w3 238 k) ∧ ∀ c, c ≠ 238 → w6 c = w3 c :=
    ⟨_, rfl, ⟨pz_w, fun j hj => absurd hj (Nat.not_lt_zero _)⟩, by rw [pz_wk (by decide), pz_w], fun k k1 k2 => by rw [pz_wk k2, pz_wk k1], fun c h => by rw [pz_wr, pz_rn h, pz_wr, pz_rn h]⟩
  obtain ⟨w9, e9, g9, f9⟩ := pr_pl hW (sQ S) 0 100 w6 (by omega) (by omega) (by rw [gc 239 (by decide), fa 239 (by decide) (by decide)]; exact hR) g6
  have nl : (pPl (sL S) (sQ S)).length ≤ 16 := by rw [pPl_n (sQ S) (fun j hj => hW.2.2.2.1 j hj)]; omega
  refine ⟨w9, ?_, (pI_line H nl g3 fa g9 (fun c c1 c2 => by rw [f9.1 c c1 c2, gc c c1]) (fun k k1 k2 => by rw [f9.2 k k2, gk k k1 k2])).mo (by omega)⟩
  have hC : fX5_programmeLine w = some (w3 236 1, w3) := by
    have e3 : fX2_writeProgramme_L7 0 100 (quw w 236 1 0) 0 = some w3 := e3
    unfold fX5_programmeLine fX2_writeProgramme
    rw [pz_nm, e3, pz_b]
  have hD : fX6_programmeLine w3 = some (w9 238 13, w9) := by
    have e9 : fX6_programmeLine_L12 100 w6 0 = some (w9 238 13, w9) := e9
    unfold fX6_programmeLine
    rw [pz_nm, pz_nm, e6, e9]
  unfold qs_25
  rw [hC, pz_b2, hD, pz_b2, if_pos (g3.1.trans g9.1.symm)]
