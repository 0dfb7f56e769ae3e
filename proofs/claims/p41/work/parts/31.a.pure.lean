-- lines: what is written, by class and reference
def pWc (w : qMem) (l : List Int32) : Prop := w 236 1 = nI l.length ∧ ∀ j, j < l.length → w 237 j = l.getD j 0 ∧ pC1 (l.getD j 0)
def pFc (w w1 : qMem) : Prop := ∀ c, c ≠ 236 → c ≠ 237 → w1 c = w c
theorem pFc.rf (w : qMem) : pFc w w := fun _ _ _ => rfl
theorem pFc.tr {w w1 w2 : qMem} (a : pFc w w1) (b : pFc w1 w2) : pFc w w2 := fun c h1 h2 => (b c h1 h2).trans (a c h1 h2)
theorem pl_l {l m : List Int32} {j : Nat} (h : j < l.length) : (l ++ m).getD j 0 = l.getD j 0 := by
  rw [List.getD_eq_getElem?_getD, List.getD_eq_getElem?_getD, List.getElem?_append_left h]
theorem pl_r {l : List Int32} {x : Int32} : (l ++ [x]).getD l.length 0 = x := by
  rw [List.getD_eq_getElem?_getD, List.getElem?_append_right (Nat.le_refl _), Nat.sub_self]; rfl
theorem pl_n {l : List Int32} {x : Int32} : (l ++ [x]).length = l.length + 1 := by
  rw [List.length_append]; rfl
theorem pc_put {w : qMem} {l : List Int32} {x : Int32} (h : pWc w l) (hl : l.length < 16) (hx : pC1 x) : ∃ w1 : qMem, fX2_put w x = some w1 ∧ pWc w1 (l ++ [x]) ∧ pFc w w1 := by
  refine ⟨quw (quw w 237 l.length x) 236 1 (nI (l.length + 1)), ?_, ⟨?_, fun j hj => ?_⟩, fun c h1 h2 => ?_⟩
  · unfold fX2_put
    rw [h.1, if_neg (nI_pos (by omega)), if_neg (show ¬ (16 : Int32) ≤ nI l.length from nI_ge (b := 16) hl (by omega)), if_pos (pz_qin hl (by omega)), if_pos (pz_C hx), pz_nI (by omega), pz_nm, pz_nm, pz_wn (by decide), h.1, nI_1]
  · rw [pz_w, pl_n]
  · rw [pz_wn (by decide)]
    rw [pl_n] at hj
    by_cases z : j = l.length
    · subst z; rw [pz_w, pl_r]; exact ⟨rfl, hx⟩
    · rw [pz_wk z, pl_l (by omega)]; exact h.2 j (by omega)
  · rw [pz_wr, pz_rn h1, pz_wr, pz_rn h2]
def pDg (n : Nat) : List Int32 := if n ≤ 9 then [nI (48 + n)] else [nI (48 + n / 10), nI (48 + n % 10)]
theorem pDg_1 {n : Nat} (h : n ≤ 9) : pDg n = [nI (48 + n)] := if_pos h
theorem pDg_2 {n : Nat} (h : ¬ n ≤ 9) : pDg n = [nI (48 + n / 10)] ++ [nI (48 + n % 10)] := if_neg h
theorem pDg_n (n : Nat) : (pDg n).length ≤ 2 := by
  unfold pDg; split
  · exact Nat.le_succ 1
  · exact Nat.le_refl 2
theorem pC1_n {m : Nat} (h : m ≤ 65535) : pC1 (nI m) := ⟨m, h, rfl⟩
theorem pt_70 : ∀ n, n < 100 → ((48 + (nI n - nI n / 10 * 10)).toUInt32 % 65536).toInt32 = nI (48 + n % 10) ∧ ((48 + (nI n / 10)).toUInt32 % 65536).toInt32 = nI (48 + n / 10) ∧ nI n / 10 = nI (n / 10) := by decide +kernel
theorem pc_pn {w : qMem} {l : List Int32} {n : Nat} (h : pWc w l) (hl : l.length < 15) (hn : n < 100) : ∃ w1 : qMem, fX2_putNumber w (nI n) = some w1 ∧ pWc w1 (l ++ pDg n) ∧ pFc w w1 := by
  obtain ⟨t1, t2, t3⟩ := pt_70 n hn
  unfold fX2_putNumber
  rw [t1, t2]
  by_cases z : n ≤ 9
  · obtain ⟨w1, e1, h1, f1⟩ := pc_put (x := nI (48 + n % 10)) h (by omega) (pC1_n (by omega))
    rw [if_pos (show nI n ≤ 9 from nI_le (b := 9) z (by omega)), e1, pz_b, pDg_1 z]
    rw [show n % 10 = n by omega] at h1
    exact ⟨w1, rfl, h1, f1⟩
  · obtain ⟨w1, e1, h1, f1⟩ := pc_put (x := nI (48 + n / 10)) h (by omega) (pC1_n (by omega))
    obtain ⟨w2, e2, h2, f2⟩ := pc_put (x := nI (48 + n % 10)) h1 (by rw [pl_n]; omega) (pC1_n (by omega))
    rw [if_neg (show ¬ nI n ≤ 9 from nI_ge (a := 9) (by omega) (by omega)), e1, pz_b, e2, pz_b, pDg_2 z, ← List.append_assoc]
    exact ⟨w2, rfl, h2, f1.tr f2⟩
-- the end of a prop's line
def pL5 (c : Nat) : List Int32 := if c = 0 then [] else [35] ++ pDg c
def pL4 (b : Int32) : List Int32 := if b = 0 then [] else [33]
theorem pL5_n {c : Nat} (h : c ≤ 9) : (pL5 c).length ≤ 2 := by
  unfold pL5; split
  · exact Nat.zero_le 2
  · rw [pDg_1 h]; exact Nat.le_refl 2
theorem pL4_n (b : Int32) : (pL4 b).length ≤ 1 := by
  unfold pL4; split
  · exact Nat.zero_le 1
  · exact Nat.le_refl 1
theorem pc_lb {w : qMem} {l : List Int32} {c1 : Nat} {b : Int32} (h : pWc w l) (hl : l.length < 16) (h4 : w c1 4 = b) : ∃ w1 : qMem, (if w c1 4 = 0 then some w else qbd (fX2_put w 33) fun (w17 : qMem) => some w17) = some w1 ∧ pWc w1 (l ++ pL4 b) ∧ pFc w w1 := by
  subst h4
  unfold pL4
  by_cases z : w c1 4 = 0
  · rw [if_pos z, if_pos z, List.append_nil]; exact ⟨w, rfl, h, pFc.rf w⟩
  · obtain ⟨w1, e1, h1, f1⟩ := pc_put (x := 33) h hl ⟨33, by omega, rfl⟩
    rw [if_neg z, if_neg z, e1, pz_b]; exact ⟨w1, rfl, h1, f1⟩
theorem pc_111 {w : qMem} {l : List Int32} {c1 cu : Nat} {p : Nat → Int32} (h : pWc w l) (hl : l.length < 13) (hc : c1 < 228) (a : pAg (w c1) p) (h5 : p 5 = nI cu) (hcu : cu ≤ 9) : ∃ w1 : qMem, fX2_writeProp_L111 c1 w = some w1 ∧ pWc w1 (l ++ pL5 cu ++ pL4 (p 4)) ∧ pFc w w1 := by
  unfold fX2_writeProp_L111
  by_cases z : cu = 0
  · obtain ⟨w1, e1, h1, f1⟩ := pc_lb (c1 := c1) h (by omega) (a 4 (by decide))
    rw [if_pos (show w c1 5 ≤ 0 by rw [a 5 (by decide), h5, z]; decide), e1, pL5, if_pos z, List.append_nil]
    exact ⟨w1, rfl, h1, f1⟩
  · obtain ⟨w1, e1, h1, f1⟩ := pc_put (x := 35) h (by omega) ⟨35, by omega, rfl⟩
    obtain ⟨w2, e2, h2, f2⟩ := pc_pn (n := cu) h1 (by rw [pl_n]; omega) (by omega)
    have g1 : w1 c1 5 = nI cu := by rw [f1 c1 (by omega) (by omega), a 5 (by decide)]; exact h5
    have n2 := pDg_n cu
    obtain ⟨w3, e3, h3, f3⟩ := pc_lb (c1 := c1) (b := p 4) h2 (by rw [List.length_append, pl_n]; omega) (by rw [f2 c1 (by omega) (by omega), f1 c1 (by omega) (by omega), a 4 (by decide)])
    rw [if_neg (show ¬ w c1 5 ≤ 0 by rw [a 5 (by decide), h5]; exact nI_nle (by omega) (by omega)), e1, pz_b, g1, e2, pz_b, e3, pL5, if_neg z, ← List.append_assoc]
    exact ⟨w3, rfl, h3, (f1.tr f2).tr f3⟩
theorem pc_69 {c1 d : Nat} {p : Nat → Int32} (hc : c1 < 228) (hd : d ≤ 3) (h3 : p 3 = nI d) : ∀ (k i fuel : Nat) (w : qMem) (l : List Int32), i + k = d → k < fuel → pWc w l → l.length + k ≤ 16 → pAg (w c1) p → ∃ w1 : qMem, fX2_writeProp_L69 c1 fuel w (nI i) = fX2_writeProp_L89 c1 w1 ∧ pWc w1 (l ++ List.replicate k 39) ∧ pFc w w1
  | 0, i, fuel + 1, w, l, e, _, h, _, a => by
    have e : i = d := by omega
    subst e
    refine ⟨w, ?_, by rw [List.replicate_zero, List.append_nil]; exact h, pFc.rf w⟩
    simp only [fX2_writeProp_L69]
    rw [if_pos (show w c1 3 ≤ nI i by rw [a 3 (by decide), h3]; exact pz_ge (Nat.le_refl i) (by omega))]
  | k + 1, i, fuel + 1, w, l, e, hf, h, hl, a => by
    obtain ⟨w1, e1, h1, f1⟩ := pc_put (x := 39) h (by omega) ⟨39, by omega, rfl⟩
    obtain ⟨w2, e2, h2, f2⟩ := pc_69 hc hd h3 k (i + 1) fuel w1 (l ++ [39]) (by omega) (by omega) h1 (by rw [pl_n]; omega) (by rw [f1 c1 (by omega) (by omega)]; exact a)
    refine ⟨w2, ?_, ?_, f1.tr f2⟩
    · simp only [fX2_writeProp_L69, e1, pz_b, pz_nm, nI_1]
      rw [if_neg (show ¬ w c1 3 ≤ nI i by rw [a 3 (by decide), h3]; exact nI_ge (by omega) (by omega))]
      exact e2
    · rw [List.append_assoc] at h2; exact h2
def pLh (x : Int32) (f m : Nat) : List Int32 := [] ++ [x] ++ pDg f ++ [58] ++ pDg m
theorem pLh_n {x : Int32} {f m : Nat} (hf : f ≤ 9) (hm : m ≤ 9) : (pLh x f m).length = 4 := by
  unfold pLh; rw [pDg_1 hf, pDg_1 hm]; rfl
theorem pc_34 {w : qMem} {c1 f m x : Nat} {p : Nat → Int32} (h : pWc w []) (hc : c1 < 228) (a : pAg (w c1) p) (h1 : p 1 = nI f) (hf : f ≤ 9) (h2 : p 2 = nI m) (hm : m ≤ 9) (hx : x ≤ 65535) : ∃ w1 : qMem, fX2_writeProp_L34 c1 w (nI x) = (if p 0 = 1 then fX2_writeProp_L69 c1 100 w1 0 else fX2_writeProp_L89 c1 w1) ∧ pWc w1 (pLh (nI x) f m) ∧ pFc w w1 := by
  obtain ⟨w1, e1, g1, f1⟩ := pc_put (x := nI x) h (by decide) (pC1_n hx)
  obtain ⟨w2, e2, g2, f2⟩ := pc_pn (n := f) g1 (by show 1 < 15; decide) (by omega)
  have n2 := pDg_n f
  obtain ⟨w3, e3, g3, f3⟩ := pc_put (x := 58) g2 (by rw [List.length_append, pl_n]; show 0 + 1 + _ < 16; omega) ⟨58, by omega, rfl⟩
  obtain ⟨w4, e4, g4, f4⟩ := pc_pn (n := m) g3 (by rw [pl_n, List.length_append, pl_n]; show 0 + 1 + _ + 1 < 15; omega) (by omega)
  have ff := ((f1.tr f2).tr f3).tr f4
  have q1 : w1 c1 1 = nI f := by rw [f1 c1 (by omega) (by omega), a 1 (by decide)]; exact h1
  have q3 : w3 c1 2 = nI m := by rw [((f1.tr f2).tr f3) c1 (by omega) (by omega), a 2 (by decide)]; exact h2
  have q4 : w4 c1 0 = p 0 := by rw [ff c1 (by omega) (by omega), a 0 (by decide)]
  refine ⟨w4, ?_, g4, ff⟩
  unfold fX2_writeProp_L34
  rw [e1, pz_b, q1, e2, pz_b, e3, pz_b, q3, e4, pz_b, q4]
/-- a prop's line: its value and whether it is cued -/
def pLx (p : Nat → Int32) : Int32 := if p 0 = 1 then 99 else if p 0 = 2 then 108 else 107
def pLd (p : Nat → Int32) (d : Nat) : List Int32 := if p 0 = 1 then List.replicate d 39 else if p 0 = 2 then [126] ++ pDg d else []
theorem pc_wp {w : qMem} {c1 T : Nat} {p : Nat → Int32} (hp : pWF T p) (hc : c1 < 228) (a : pAg (w c1) p) : ∃ (f m d cu : Nat), (f ≤ 9 ∧ m ≤ 9 ∧ d ≤ 40 ∧ cu ≤ 9 ∧ (p 0 = 1 → d ≤ 3)) ∧ p 1 = nI f ∧ p 2 = nI m ∧ p 3 = nI d ∧ p 5 = nI cu ∧ ∃ w1 : qMem, fX2_writeProp w c1 = some w1 ∧ pWc w1 (pLh (pLx p) f m ++ pLd p d ++ pL5 cu ++ pL4 (p 4)) ∧ pFc w w1 := by
  obtain ⟨f, m, d, cu, t, ⟨hf, hm, hcu, _⟩, h1, h2, h3, h5, _, hk⟩ := hp
  have w0 : pWc (quw w 236 1 0) [] := ⟨pz_w, fun j hj => absurd hj (Nat.not_lt_zero _)⟩
  have f0 : pFc w (quw w 236 1 0) := fun c g1 g2 => by rw [pz_wr, pz_rn g1]
  have a0 : pAg (quw w 236 1 0 c1) p := by rw [f0 c1 (by omega) (by omega)]; exact a
  have q0 : quw w 236 1 0 c1 0 = p 0 := a0 0 (by decide)
  have n1 := pLh_n (x := pLx p) (f := f) (m := m) (by omega) hm
  rcases hk with ⟨h0, _, hd, _, _⟩ | ⟨h0, _, hd, _⟩ | ⟨h0, hd, _, _⟩
  · refine ⟨f, m, d, cu, ⟨by omega, hm, by omega, hcu, fun _ => hd⟩, h1, h2, h3, h5, ?_⟩
    have ex : pLx p = nI 99 := if_pos h0
    have ed : pLd p d = List.replicate d 39 := if_pos h0
    obtain ⟨w1, e1, g1, f1⟩ := pc_34 (x := 99) w0 hc a0 h1 (by omega) h2 hm (by omega)
    rw [← ex] at g1
    have a1 : pAg (w1 c1) p := by rw [f1 c1 (by omega) (by omega)]; exact a0
    obtain ⟨w2, e2, g2, f2⟩ := pc_69 hc hd h3 d 0 100 w1 _ (by omega) (by omega) g1 (by omega) a1
    have a2 : pAg (w2 c1) p := by rw [f2 c1 (by omega) (by omega)]; exact a1
    obtain ⟨w3, e3, g3, f3⟩ := pc_111 (cu := cu) g2 (by rw [List.length_append, List.length_replicate]; omega) hc a2 h5 hcu
    refine ⟨w3, ?_, by rw [ed]; exact g3, ((f0.tr f1).tr f2).tr f3⟩
    have e1 : fX2_writeProp_L34 c1 (quw w 236 1 0) 99 = fX2_writeProp_L69 c1 100 w1 (nI 0) := by
      rw [if_pos h0] at e1; exact e1
    unfold fX2_writeProp
    rw [pz_nm, q0, if_pos h0, e1, e2]; unfold fX2_writeProp_L89
    rw [a2 0 (by decide), if_neg (show ¬ p 0 = 2 by rw [h0]; decide), e3]
  · refine ⟨f, m, d, cu, ⟨by omega, hm, hd, hcu, fun y => absurd (h0.symm.trans y) (by decide)⟩, h1, h2, h3, h5, ?_⟩
    have n0 : ¬ p 0 = 1 := by rw [h0]; decide
    have ex : pLx p = nI 108 := by unfold pLx; rw [if_neg n0, if_pos h0]; rfl
    have ed : pLd p d = [126] ++ pDg d := by unfold pLd; rw [if_neg n0, if_pos h0]
    obtain ⟨w1, e1, g1, f1⟩ := pc_34 (x := 108) w0 hc a0 h1 (by omega) h2 hm (by omega)
    rw [← ex] at g1
    have a1 : pAg (w1 c1) p := by rw [f1 c1 (by omega) (by omega)]; exact a0
    obtain ⟨w2, e2, g2, f2⟩ := pc_put (x := 126) g1 (by omega) ⟨126, by omega, rfl⟩
    have q2 : w2 c1 3 = nI d := by rw [f2 c1 (by omega) (by omega), a1 3 (by decide)]; exact h3
    obtain ⟨w3, e3, g3, f3⟩ := pc_pn (n := d) g2 (by rw [pl_n]; omega) (by omega)
    have a3 : pAg (w3 c1) p := by rw [f3 c1 (by omega) (by omega), f2 c1 (by omega) (by omega)]; exact a1
    have n3 := pDg_n d
    obtain ⟨w4, e4, g4, f4⟩ := pc_111 (cu := cu) g3 (by rw [List.length_append, pl_n]; omega) hc a3 h5 hcu
    refine ⟨w4, ?_, by rw [ed, ← List.append_assoc]; exact g4, (((f0.tr f1).tr f2).tr f3).tr f4⟩
    have e1 : fX2_writeProp_L34 c1 (quw w 236 1 0) 108 = fX2_writeProp_L89 c1 w1 := by
      rw [if_neg n0] at e1; exact e1
    unfold fX2_writeProp
    rw [pz_nm, q0, if_neg n0, if_pos h0, e1]; unfold fX2_writeProp_L89
    rw [a1 0 (by decide), if_pos h0, e2, pz_b, q2, e3, pz_b, e4]
  · refine ⟨f, m, d, cu, ⟨by omega, hm, by omega, hcu, fun y => absurd (h0.symm.trans y) (by decide)⟩, h1, h2, h3, h5, ?_⟩
    have n0 : ¬ p 0 = 1 := by rw [h0]; decide
    have n2 : ¬ p 0 = 2 := by rw [h0]; decide
    have ex : pLx p = nI 107 := by unfold pLx; rw [if_neg n0, if_neg n2]; rfl
    have ed : pLd p d = [] := by unfold pLd; rw [if_neg n0, if_neg n2]
    obtain ⟨w1, e1, g1, f1⟩ := pc_34 (x := 107) w0 hc a0 h1 (by omega) h2 hm (by omega)
    rw [← ex] at g1
    have a1 : pAg (w1 c1) p := by rw [f1 c1 (by omega) (by omega)]; exact a0
    obtain ⟨w4, e4, g4, f4⟩ := pc_111 (cu := cu) g1 (by omega) hc a1 h5 hcu
    refine ⟨w4, ?_, by rw [ed, List.append_nil]; exact g4, (f0.tr f1).tr f4⟩
    have e1 : fX2_writeProp_L34 c1 (quw w 236 1 0) 107 = fX2_writeProp_L89 c1 w1 := by
      rw [if_neg n0] at e1; exact e1
    unfold fX2_writeProp
    rw [pz_nm, q0, if_neg n0, if_neg n2, e1]; unfold fX2_writeProp_L89
    rw [a1 0 (by decide), if_neg n2, e4]
