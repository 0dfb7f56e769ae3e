-- lines
theorem pDg_l (n : Nat) : pDg n = ldig n := by
  unfold pDg ldig
  by_cases h : n < 10
  · rw [if_pos (by omega), if_pos h]
  · rw [if_neg (by omega), if_neg h]
theorem pIc.fc {T : Nat} {w w1 : qMem} {S : pSt} {L : List pSt} (H : pIc T w S L) (f : pFc w w1) : pIc T w1 S L := H.look (fun c hc => f c (by omega) (by omega))
theorem pL_ch {w : qMem} {l : List Int32} (h : pWc w l) (hl : l.length ≤ 16) {j : Nat} (hj : j < l.length) : fL_character w (nI j) = some (l.getD j 0, w) := by
  obtain ⟨g1, g2⟩ := h.2 j hj
  have q := pz_C g2
  unfold fL_character fX5_character fX2_signAt
  rw [if_neg (nI_pos (by omega)), h.1, if_pos (nI_lt hj (by omega)), if_neg (nI_pos (by omega)), if_neg (show ¬ (16 : Int32) ≤ nI j from nI_ge (b := 16) (by omega) (by decide)), if_pos (pz_qin (show j < 16 by omega) (by decide)), pz_nI (by omega), g1, if_pos q, pz_b, if_pos q, qlw_0]
theorem pL_chn {w : qMem} {l : List Int32} (h : pWc w l) (hl : l.length ≤ 16) : fL_character w (nI l.length) = some (-11, w) := by
  unfold fL_character fX5_character
  rw [if_neg (nI_pos (by omega)), h.1, if_neg (nI_nlt (Nat.le_refl _) (by omega))]; rfl
theorem pL_spells {w : qMem} {l : List Int32} (h : pWc w l) (hl : l.length ≤ 16) : fL_spells w (nI l.length) l = some (1, w) := by
  have go : ∀ (d j fuel : Nat), j + d = l.length → d < fuel → fL_spells_L17 (nI l.length) l fuel w (nI l.length) 1 (nI j) = some (1, w) := by
    intro d
    induction d with
    | zero =>
      intro j fuel hj hfu
      obtain ⟨fuel, rfl⟩ : ∃ g, fuel = g + 1 := ⟨fuel - 1, by omega⟩
      rw [fL_spells_L17, if_pos (show Int32.ofNat l.length ≤ nI j from nI_le (by omega) (by omega))]
      unfold fL_spells_L57
      rw [if_neg (by decide), pL_chn h hl, pz_b2, if_pos rfl]
    | succ d ih =>
      intro j fuel hj hfu
      obtain ⟨fuel, rfl⟩ : ∃ g, fuel = g + 1 := ⟨fuel - 1, by omega⟩
      rw [fL_spells_L17, if_neg (show ¬ Int32.ofNat l.length ≤ nI j from nI_ge (by omega) (by omega)), if_neg (by decide), pL_ch h hl (by omega), pz_b2, if_pos (pz_qin (by omega) (by omega)), pz_nI (by omega), if_pos rfl, pz_nm, nI_1]
      exact ih (j + 1) fuel (by omega) (by omega)
  unfold fL_spells
  rw [if_pos (show nI l.length = Int32.ofNat l.length from rfl)]
  exact go l.length 0 20 (by omega) (by omega)
theorem pL_linen {T : Nat} {w : qMem} {S : pSt} {L : List pSt} (H : pIc T w S L) : fL_line w (nI (sN S)) = some (-11, w) := by
  have hn := H.1.1
  unfold fL_line fX5_line
  rw [pa_num1 H (Or.inr ⟨nI_pos (by omega), nI_nlt (Nat.le_refl _) (by omega)⟩), pz_b3, if_neg (by decide)]; rfl
theorem pL_prn {T : Nat} {w : qMem} {S : pSt} {L : List pSt} (H : pIc T w S L) : fL_programme w (nI (sQ S)) = some (-13, w) := by
  have hq := H.1.2.2.1
  unfold fL_programme fX5_programme
  have e : w 0 4 = nI (sQ S) := H.2.1.2.1
  rw [if_neg (nI_pos (by omega)), e, if_neg (nI_nlt (Nat.le_refl _) (by omega))]; rfl
/-- the line of one prop, as the law spells it -/
def pTl (p : Nat → Int32) (f m d cu : Nat) : List Int32 := pLh (pLx p) f m ++ pLd p d ++ pL5 cu ++ pL4 (p 4)
theorem pL_line {T : Nat} {w : qMem} {S : pSt} {L : List pSt} (H : pIc T w S L) {i : Nat} (hi : i < sN S) : ∃ (f m d cu : Nat), (f ≤ 9 ∧ m ≤ 9 ∧ d ≤ 40 ∧ cu ≤ 9 ∧ (sP S i 0 = 1 → d ≤ 3)) ∧ sP S i 1 = nI f ∧ sP S i 2 = nI m ∧ sP S i 3 = nI d ∧ sP S i 5 = nI cu ∧ ∃ w1 : qMem, fL_line w (nI i) = some (nI (pTl (sP S i) f m d cu).length, w1) ∧ pWc w1 (pTl (sP S i) f m d cu) ∧ pIc T w1 S L := by
  have hn := H.1.1
  obtain ⟨f, m, d, cu, hb, h1, h2, h3, h5, w1, e, hw, hf⟩ := pc_wp (w := w) (c1 := 2 + i) (H.wf hi) (by omega) (H.at hi)
  refine ⟨f, m, d, cu, hb, h1, h2, h3, h5, w1, ?_, hw, H.fc hf⟩
  have q := pz_P (h := 0) (i := i) (by decide) (by omega)
  rw [show 19 * 0 + 2 + i = 2 + i by omega] at q
  unfold fL_line fX5_line
  rw [pa_num H hi, pz_b3, if_pos rfl, if_pos q, e, pz_b, hw.1, qlw_0]; rfl
theorem pTl_n {p : Nat → Int32} {f m d cu : Nat} (hf : f ≤ 9) (hm : m ≤ 9) (hcu : cu ≤ 9) (hd : p 0 = 1 → d ≤ 3) : (pLd p d).length ≤ 3 ∧ (pTl p f m d cu).length = 4 + (pLd p d).length + (pL5 cu).length + (pL4 (p 4)).length ∧ (pL5 cu).length ≤ 2 ∧ (pL4 (p 4)).length ≤ 1 := by
  have n1 := pLh_n (x := pLx p) hf hm
  have n2 : (pLd p d).length ≤ 3 := by
    unfold pLd
    split
    · rename_i h; rw [List.length_replicate]; exact hd h
    · split
      · have := pDg_n d
        rw [List.length_append]; show 1 + _ ≤ 3; omega
      · show 0 ≤ 3; omega
  refine ⟨n2, ?_, pL5_n hcu, pL4_n _⟩
  unfold pTl
  rw [List.length_append, List.length_append, List.length_append, n1]
section
variable {k7 : qMem → Nat → (Nat → Nat → Int32) → Int32 → Option (Int32 × qMem)} {w w1 : qMem} {n j : Nat} {M : Nat → Nat → Int32} {x2 : Int32} {p : Nat → Int32} {tt : List Int32} {f m d cu : Nat}
theorem pv_211 {ts : List Int32} (h1 : tt.length ≤ 30) (h2 : ts.length ≤ 5) (hl : tt ++ ts = pTl p f m d cu) (he : fL_line w x2 = some (nI (pTl p f m d cu).length, w1)) (hw : pWc w1 (pTl p f m d cu)) (h16 : (pTl p f m d cu).length ≤ 16) : fL_lines_L211 k7 w n M tt x2 ts = k7 w1 n M (x2 + 1) := by
  unfold fL_lines_L211
  rw [if_pos (by omega), pz_nm, he, pz_b2, hl, pL_spells hw h16, pz_b2, if_neg (by decide), pz_nm]
theorem pv_193 {ts : List Int32} (m4 : M j 4 = p 4) (b4 : p 4 = 0 ∨ p 4 = 1) (h1 : tt.length ≤ 25) (h2 : ts.length ≤ 5) (hl : tt ++ ts ++ pL4 (p 4) = pTl p f m d cu) (he : fL_line w x2 = some (nI (pTl p f m d cu).length, w1)) (hw : pWc w1 (pTl p f m d cu)) (h16 : (pTl p f m d cu).length ≤ 16) : fL_lines_L193 k7 w n M tt x2 j ts = k7 w1 n M (x2 + 1) := by
  have e15 : qtx.getD 15 [] = [33] := by decide +kernel
  have e11 : qtx.getD 11 [] = [] := by decide +kernel
  unfold fL_lines_L193
  rw [if_pos (by omega), pz_nm, m4]
  rcases b4 with z | z
  · rw [if_neg (by rw [z]; decide), e11]
    refine pv_211 (by rw [List.length_append]; omega) (by decide) ?_ he hw h16
    rw [← hl, z]; rfl
  · rw [if_pos z, e15]
    refine pv_211 (by rw [List.length_append]; omega) (by decide) ?_ he hw h16
    rw [← hl, z]; rfl
theorem pv_157 {ts : List Int32} (m4 : M j 4 = p 4) (b4 : p 4 = 0 ∨ p 4 = 1) (m5 : M j 5 = nI cu) (hcu : cu ≤ 9) (h1 : tt.length ≤ 20) (h2 : ts.length ≤ 5) (hl : tt ++ ts ++ pL5 cu ++ pL4 (p 4) = pTl p f m d cu) (he : fL_line w x2 = some (nI (pTl p f m d cu).length, w1)) (hw : pWc w1 (pTl p f m d cu)) (h16 : (pTl p f m d cu).length ≤ 16) : fL_lines_L157 k7 w n M tt x2 j ts = k7 w1 n M (x2 + 1) := by
  have e14 : qtx.getD 14 [] = [35] := by decide +kernel
  have e11 : qtx.getD 11 [] = [] := by decide +kernel
  have la : (tt ++ ts).length ≤ 25 := by rw [List.length_append]; omega
  unfold fL_lines_L157
  rw [if_pos (by omega), pz_nm, m5]
  by_cases z : cu = 0
  · rw [if_pos (show nI cu ≤ 0 by rw [z]; decide), e11]
    refine pv_193 m4 b4 la (by decide) ?_ he hw h16
    rw [← hl]; unfold pL5; rw [if_pos z]
  · have ec : ([] ++ [35] ++ ldig cu : List Int32) = pL5 cu := by unfold pL5; rw [if_neg z, pDg_l]; rfl
    rw [if_neg (show ¬ nI cu ≤ 0 from nI_ge (a := 0) (by omega) (by omega)), e14, if_pos (by decide), pz_nm, if_pos (pz_qin (by omega) (by decide)), if_pos (by decide), pz_nI (by omega), pz_nm, pz_nm, ec]
    exact pv_193 m4 b4 la (by have := pL5_n hcu; omega) hl he hw h16
theorem pv_111 (m0 : M j 0 = p 0) (m3 : M j 3 = nI d) (hd : d ≤ 40) (m4 : M j 4 = p 4) (b4 : p 4 = 0 ∨ p 4 = 1) (m5 : M j 5 = nI cu) (hcu : cu ≤ 9) (h1 : tt.length ≤ 20) (hl : tt ++ (if p 0 = 2 then [126] ++ pDg d else []) ++ pL5 cu ++ pL4 (p 4) = pTl p f m d cu) (he : fL_line w x2 = some (nI (pTl p f m d cu).length, w1)) (hw : pWc w1 (pTl p f m d cu)) (h16 : (pTl p f m d cu).length ≤ 16) : fL_lines_L111 k7 w n M x2 j tt = k7 w1 n M (x2 + 1) := by
  have e13 : qtx.getD 13 [] = [126] := by decide +kernel
  have e11 : qtx.getD 11 [] = [] := by decide +kernel
  unfold fL_lines_L111
  rw [if_pos (by show 0 + _ ≤ 60; omega), pz_nm, m0, show ([] : List Int32) ++ tt = tt from List.nil_append tt]
  by_cases z : p 0 = 2
  · have ec : ([] ++ [126] ++ ldig d : List Int32) = [126] ++ pDg d := by rw [pDg_l]; rfl
    rw [if_pos z] at hl
    rw [if_pos z, e13, if_pos (by decide), pz_nm, m3, if_pos (pz_qin (by omega) (by decide)), if_pos (by decide), pz_nI (by omega), pz_nm, pz_nm, ec]
    exact pv_157 m4 b4 m5 hcu h1 (by have := pDg_n d; rw [List.length_append]; show 1 + _ ≤ 5; omega) hl he hw h16
  · rw [if_neg z] at hl
    rw [if_neg z, e11]
    exact pv_157 m4 b4 m5 hcu h1 (by decide) hl he hw h16
theorem pv_68 (m0 : M j 0 = p 0) (m3 : M j 3 = nI d) (hd : d ≤ 40) (hd3 : p 0 = 1 → d ≤ 3) (m4 : M j 4 = p 4) (b4 : p 4 = 0 ∨ p 4 = 1) (m5 : M j 5 = nI cu) (hf : f ≤ 9) (hm : m ≤ 9) (hcu : cu ≤ 9) (he : fL_line w x2 = some (nI (pTl p f m d cu).length, w1)) (hw : pWc w1 (pTl p f m d cu)) : ∀ (e i fuel : Nat), (p 0 = 1 → i + e = d) → (¬ p 0 = 1 → i = 0) → e < fuel → fL_lines_L68 k7 fuel w n M x2 j (pLh (pLx p) f m ++ List.replicate i 39) (nI i) = k7 w1 n M (x2 + 1) := by
  have n1 := pLh_n (x := pLx p) hf hm
  obtain ⟨g1, g2, g3, g4⟩ := pTl_n (p := p) (d := d) hf hm hcu hd3
  have h16 : (pTl p f m d cu).length ≤ 16 := by omega
  intro e
  induction e with
  | zero =>
    intro i fuel hi h0 hfu
    obtain ⟨fuel, rfl⟩ : ∃ g, fuel = g + 1 := ⟨fuel - 1, by omega⟩
    have go : p 0 = 1 ∧ i = d ∨ ¬ p 0 = 1 ∧ i = 0 → fL_lines_L111 k7 w n M x2 j (pLh (pLx p) f m ++ List.replicate i 39) = k7 w1 n M (x2 + 1) := by
      intro hh
      refine pv_111 m0 m3 hd m4 b4 m5 hcu ?_ ?_ he hw h16
      · rw [List.length_append, List.length_replicate, n1]
        rcases hh with ⟨q, rfl⟩ | ⟨q, rfl⟩
        · have := hd3 q; omega
        · omega
      · unfold pTl pLd
        rcases hh with ⟨q, rfl⟩ | ⟨q, rfl⟩
        · rw [if_pos q, if_neg (show ¬ p 0 = 2 by rw [q]; decide), List.append_nil]
        · rw [if_neg q, List.replicate_zero, List.append_nil]
    rw [fL_lines_L68, m0]
    by_cases z : p 0 = 1
    · have e1 : i = d := by have := hi z; omega
      rw [if_pos z, m3, if_pos (nI_le (by omega) (by omega))]
      exact go (Or.inl ⟨z, e1⟩)
    · rw [if_neg z]; exact go (Or.inr ⟨z, h0 z⟩)
  | succ e ih =>
    intro i fuel hi h0 hfu
    obtain ⟨fuel, rfl⟩ : ∃ g, fuel = g + 1 := ⟨fuel - 1, by omega⟩
    by_cases z : p 0 = 1
    · have e1 := hi z
      have e3 := hd3 z
      have ln : (pLh (pLx p) f m ++ List.replicate i 39).length = 4 + i := by rw [List.length_append, List.length_replicate, n1]
      rw [fL_lines_L68, m0, if_pos z, m3, if_neg (nI_ge (by omega) (by omega)), if_pos (by show 0 + _ ≤ 60; omega), pz_nm, List.nil_append, if_pos (by decide), if_pos (by omega), pz_nm, pz_nm, pz_nm, nI_1, List.append_assoc, show List.replicate i (39 : Int32) ++ [nI (39 : Int32).toNatClampNeg] = List.replicate (i + 1) 39 from (List.replicate_succ' (n := i) (a := (39 : Int32))).symm]
      exact ih (i + 1) fuel (fun _ => by omega) (fun y => absurd z y) (by omega)
    · have i0 := h0 z
      subst i0
      have := ih 0 (fuel + 1) (fun y => absurd y z) (fun _ => rfl) (by omega)
      exact this
end
theorem pv_246 {T : Nat} {S : pSt} {L : List pSt} {M : Nat → Nat → Int32} : ∀ (d i fuel : Nat) (w : qMem), i + d = sQ S → d < fuel → pIc T w S L → ∃ w1 : qMem, fL_lines_L246 fuel w (sN S) M (pPl (sL S) i) (nI i) = some (1, w1) ∧ pIc T w1 S L := by
  intro d
  induction d with
  | zero =>
    intro i fuel w hi hfu H
    have hq := H.1.2.2.1
    have hn := H.1.1
    obtain ⟨fuel, rfl⟩ : ∃ g, fuel = g + 1 := ⟨fuel - 1, by omega⟩
    have : i = sQ S := by omega
    subst this
    have e10 : pAc S 10 = nI (sQ S) := rfl
    have H0 : pIc T (quw w 236 1 0) S L := H.look (fun c hc => by rw [pz_wr, pz_rn (by omega)])
    have w0 : pWc (quw w 236 1 0) (pPl (sL S) 0) := ⟨pz_w, fun j hj => absurd hj (Nat.not_lt_zero _)⟩
    obtain ⟨w1, e1, g1, f1⟩ := pc_pl H.1 (sQ S) 0 100 (quw w 236 1 0) (by omega) (by omega) H0.2.1 w0
    have H1 : pIc T w1 S L := H0.fc f1
    have hlen : (pPl (sL S) (sQ S)).length = sQ S := pPl_n _ H.1.2.2.2.1
    have eL : fX5_programmeLine w = some (nI (pPl (sL S) (sQ S)).length, w1) := by
      have e1 : fX2_writeProgramme_L7 0 100 (quw w 236 1 0) 0 = some w1 := e1
      unfold fX5_programmeLine fX2_writeProgramme
      rw [pz_nm, e1, pz_b, g1.1]
    refine ⟨w1, ?_, H1⟩
    rw [fL_lines_L246, show (10 : Int32) = nI 10 from rfl, pa_acc H (by decide), pz_b3, if_pos rfl, e10, if_pos (nI_le (Nat.le_refl _) (by omega)), eL, pz_b2, pL_spells g1 (by omega), pz_b2, if_neg (by decide), show Int32.ofNat (sN S) = nI (sN S) from rfl, pL_linen H1, pz_b2, if_pos rfl, pa_acc H1 (by decide), pz_b3, if_pos rfl, e10, pL_prn H1, pz_b2, if_pos rfl]
  | succ d ih =>
    intro i fuel w hi hfu H
    have hq := H.1.2.2.1
    obtain ⟨fuel, rfl⟩ : ∃ g, fuel = g + 1 := ⟨fuel - 1, by omega⟩
    have e10 : pAc S 10 = nI (sQ S) := rfl
    have hlen : (pPl (sL S) i).length = i := pPl_n _ (fun j hj => H.1.2.2.2.1 j (by omega))
    obtain ⟨a, ha1, ha9, ea⟩ := H.1.2.2.2.1 i (by omega)
    rw [fL_lines_L246, show (10 : Int32) = nI 10 from rfl, pa_acc H (by decide), pz_b3, if_pos rfl, e10, if_neg (nI_ge (by omega) (by omega)), if_pos (by show 0 + _ ≤ 60; omega), pz_nm, List.nil_append, pL_pr H (by omega), pz_b2, ea, if_pos (pz_qin (by omega) (by decide)), if_pos (by omega), pz_nI (by omega), pz_nm, pz_nm, pz_nm, nI_1, show pPl (sL S) i ++ ldig a = pPl (sL S) (i + 1) by simp only [pPl]; rw [ea, pz_nI (by omega), pDg_l]]
    exact ih (i + 1) fuel w (by omega) (by omega) H
/-- the law's lines are the class's -/
theorem pure_lines {T : Nat} {w : qMem} {S : pSt} {L : List pSt} (H : pIc T w S L) : ∃ w1 : qMem, fL_lines w = some (1, w1) ∧ pIc T w1 S L := by
  obtain ⟨M, eM, hM⟩ := pg_props H
  have e11 : qtx.getD 11 [] = [] := by decide +kernel
  have e12 : qtx.getD 12 [] = [58] := by decide +kernel
  have go : ∀ (d i fuel : Nat) (w : qMem), i + d = sN S → d < fuel → pIc T w S L → ∃ w1 : qMem, fL_lines_L7 fuel w (sN S) M (nI i) = some (1, w1) ∧ pIc T w1 S L := by
    intro d
    induction d with
    | zero =>
      intro i fuel w hi hfu H
      have hn := H.1.1
      obtain ⟨fuel, rfl⟩ : ∃ g, fuel = g + 1 := ⟨fuel - 1, by omega⟩
      rw [fL_lines_L7, if_pos (show Int32.ofNat (sN S) ≤ nI i from nI_le (by omega) (by omega)), e11]
      exact pv_246 (sQ S) 0 10 w (by omega) (by have := H.1.2.2.1; omega) H
    | succ d ih =>
      intro i fuel w hi hfu H
      have hn := H.1.1
      obtain ⟨fuel, rfl⟩ : ∃ g, fuel = g + 1 := ⟨fuel - 1, by omega⟩
      have hin : i < sN S := by omega
      have wf := H.wf hin
      have m := hM i hin
      obtain ⟨f, mm, dd, cu, ⟨b1, b2, b3, b4, b5⟩, h1, h2, h3, h5, w1, eL, gW, H1⟩ := pL_line H hin
      obtain ⟨q1, q2, q3⟩ := pr_hd wf
      have qx : ∃ x : Nat, x < 128 ∧ pLx (sP S i) = nI x := by
        unfold pLx
        split
        · exact ⟨99, by decide, rfl⟩
        · split
          · exact ⟨108, by decide, rfl⟩
          · exact ⟨107, by decide, rfl⟩
      obtain ⟨x, hx, ex⟩ := qx
      have l1 := pDg_1 b1
      have hd1 : ldig f = [nI (48 + f)] := by rw [← pDg_l]; exact l1
      have hd2 : ldig mm = [nI (48 + mm)] := by rw [← pDg_l]; exact pDg_1 b2
      have eH : ([] ++ [nI x] ++ [] ++ ldig f ++ [58] ++ ldig mm : List Int32) = pLh (pLx (sP S i)) f mm ++ List.replicate 0 39 := by
        unfold pLh
        rw [pDg_l, pDg_l, ex, List.replicate_zero, List.append_nil, List.append_nil]
      obtain ⟨w2, e2, H2⟩ := ih (i + 1) fuel w1 (by omega) (by omega) H1
      refine ⟨w2, ?_, H2⟩
      rw [fL_lines_L7, if_neg (show ¬ Int32.ofNat (sN S) ≤ nI i from nI_ge (by omega) (by omega)), if_pos (pz_qin hin (by omega)), pz_nI (by omega), pz_nm, m 0 (by decide), if_pos q1, q2, ex, if_pos (pz_qin hx (by decide)), if_pos (by decide), pz_nI (by omega), pz_nm, pz_nm, e11, e12, if_pos (by show 1 + 0 ≤ 60; decide), pz_nm, m 1 (by decide), h1, if_pos (pz_qin (by omega) (by decide)), if_pos (by show 1 + 2 ≤ 60; decide), pz_nI (by omega), pz_nm, pz_nm, hd1, if_pos (by show 2 + 1 ≤ 60; decide), pz_nm, m 2 (by decide), h2, if_pos (pz_qin (by omega) (by decide)), if_pos (by show 3 + 2 ≤ 60; decide), pz_nI (by omega), pz_nm, pz_nm, ← hd1, eH]
      have e68 := pv_68 (k7 := fL_lines_L7 fuel) (w := w) (n := sN S) (M := M) (x2 := nI i) (j := i) (m 0 (by decide)) ((m 3 (by decide)).trans h3) b3 b5 (m 4 (by decide)) wf.b4 ((m 5 (by decide)).trans h5) b1 b2 b4 eL gW (if sP S i 0 = 1 then dd else 0) 0 5 (fun y => by rw [if_pos y]; omega) (fun _ => rfl) (by
        split
        · rename_i y; have := b5 y; omega
        · omega)
      rw [show (0 : Int32) = nI 0 from rfl]
      rw [e68, nI_1]
      exact e2
  unfold fL_lines
  rw [eM, pz_b3]
  exact go (sN S) 0 13 w (by omega) (by have := H.1.1; omega) H
