theorem lg_cmp_0 (x : Int64) : lg_cmp x x = 0 := by
  unfold lg_cmp
  rw [if_neg (fun h => by rw [gt_iff_lt, Int64.lt_iff_toInt_lt] at h; omega), if_pos rfl]
theorem pStep.p {T : Nat} {S : pSt} {L : List pSt} {o : Option (Int32 × qMem)} {E : pSt → Int32 → Int32 → Int32 → pSt → Prop} (h : pStep T S L o E) (hE : ∀ t v rs S', E S t v rs S' → t = 0 → 0 ≤ v) : pStp (T + 1200) S L o := by
  obtain ⟨t, v, rs, S', r, w1, e, ht, h1, h0, hn, -⟩ := h
  by_cases z : t = 0
  · obtain ⟨rfl, hI⟩ := h0 z
    exact ⟨r, w1, S', e, Or.inl ⟨hE _ _ _ _ h1 z, hI.mo (by omega)⟩⟩
  · obtain ⟨q, hI⟩ := hn z
    exact ⟨r, w1, S, e, Or.inr ⟨q, hI.mo (by omega)⟩⟩
theorem pc1_t {t : List Int32} (h : qasc t = true) : ∀ x ∈ t, pC1 x := fun x hx => by
  simp only [qasc, Bool.and_eq_true, List.all_eq_true, decide_eq_true_eq] at h
  obtain ⟨h1, h2⟩ := h.2 x hx
  rw [Int32.le_iff_toInt_le] at h1 h2
  have e0 : (0 : Int32).toInt = 0 := by decide
  have e1 : (127 : Int32).toInt = 127 := by decide
  refine ⟨x.toInt.toNat, by omega, ?_⟩
  apply Int32.toInt_inj.mp
  rw [nI_toInt (by omega)]
  omega
theorem pc1_a {t u : List Int32} (h1 : ∀ x ∈ t, pC1 x) (h2 : ∀ x ∈ u, pC1 x) : ∀ x ∈ t ++ u, pC1 x := fun x hx => (List.mem_append.mp hx).elim (h1 x) (h2 x)
theorem ldig_2 (k : Nat) : (ldig k).length ≤ 2 := by rw [ldig_len]; split <;> omega
section
variable {Lx : Nat} {xs : Nat → Int32} {k10 : qMem → (Nat → Int64) → Int32 → Int32 → Option (Int32 × qMem)} {f2 : Nat → Int64} {T : Nat} {S : pSt} {L : List pSt}
theorem pu_332 {o : Option (Int32 × qMem)} {x4 : Int32} (h : pStp T S L o) (hL : L.length ≤ 7) (hf : f2 L.length = hS S) : ∃ (w1 : qMem) (S' : pSt) (L' : List pSt), (qbd2 o fun (r : Int32) (w : qMem) => fL_undone_L332 Lx xs k10 w f2 (nI L.length) x4 r) = k10 w1 f2 (nI L'.length) (x4 + 1) ∧ pIc T w1 S' L' ∧ (L' = S :: L ∨ L' = L) := by
  obtain ⟨r, w1, S', e, h⟩ := h
  rw [e, pz_b2]
  unfold fL_undone_L332 fL_undone_L350
  rcases h with ⟨hr, hI⟩ | ⟨hr, hI⟩
  · refine ⟨w1, S', S :: L, ?_, hI, Or.inl rfl⟩
    rw [if_pos hr, if_pos hr, pz_nm, pz_nm, nI_1]; rfl
  · have hr' : ¬ 0 ≤ r := fun z => absurd hr (pj_lt.mpr z)
    refine ⟨w1, S, L, ?_, hI, Or.inr rfl⟩
    rw [if_neg hr', pL_sum hI, pz_b2, if_pos (pz_qin (by omega) (by decide)), pz_nI (by omega), hf, if_pos (lg_cmp_0 _), if_neg hr', pz_nm, pz_nm, Int32.add_zero]
theorem pu_374 {w : qMem} : ∀ (L : List pSt) (S : pSt) (w : qMem) (fuel : Nat), L.length ≤ 7 → L.length < fuel → pIc T w S L → (∀ (j : Nat) (S1 : pSt), L[j]? = some S1 → f2 (L.length - 1 - j) = hS S1) → ∃ w1 : qMem, fL_undone_L374 Lx xs fuel w f2 (nI L.length - 1) = some (1, w1) := by
  intro L
  induction L with
  | nil =>
    intro S w fuel hL hfu H hf
    obtain ⟨fuel, rfl⟩ : ∃ g, fuel = g + 1 := ⟨fuel - 1, by have : ([] : List pSt).length = 0 := rfl; omega⟩
    exact ⟨w, by rw [fL_undone_L374, if_pos (by decide)]⟩
  | cons S1 L ih =>
    intro S w fuel hL hfu H hf
    have hl : (S1 :: L).length = L.length + 1 := rfl
    obtain ⟨fuel, rfl⟩ : ∃ g, fuel = g + 1 := ⟨fuel - 1, by omega⟩
    obtain ⟨r, w1, e, hr, hI⟩ := pL_undo H (by omega)
    have e1 : nI (S1 :: L).length - 1 = nI L.length := by rw [hl]; exact nI_pred _
    have h0 := hf 0 S1 rfl
    rw [hl, show L.length + 1 - 1 - 0 = L.length by omega] at h0
    obtain ⟨w2, e2⟩ := ih S1 w1 fuel (by omega) (by omega) hI (fun j S2 hj => by
      have := hf (j + 1) S2 hj
      rw [hl, show L.length + 1 - 1 - (j + 1) = L.length - 1 - j by omega] at this
      exact this)
    refine ⟨w2, ?_⟩
    rw [fL_undone_L374, e1, if_neg (nI_pos (by omega)), e, pz_b2, if_neg hr, pL_sum hI, pz_b2, if_pos (pz_qin (by omega) (by decide)), pz_nI (by omega), h0, if_pos (lg_cmp_0 _), pz_nm, show nI L.length + (-1) = nI L.length - 1 from (Int32.sub_eq_add_neg _ _).symm]
    exact e2
theorem pu_307 {w : qMem} {t1 t2 : List Int32} {x4 : Int32} {e : Nat} (H : pIc T w S L) (hL : L.length ≤ 7) (hf : f2 L.length = hS S) (he : e < 2 ^ 31) (h1 : t1.length ≤ 20) (h2 : t2.length ≤ 8) (c1 : ∀ x ∈ t1, pC1 x) (c2 : ∀ x ∈ t2, pC1 x) : ∃ (w1 : qMem) (S' : pSt) (L' : List pSt), fL_undone_L307 Lx xs k10 w t1 f2 (nI L.length) x4 (nI e) t2 = k10 w1 f2 (nI L'.length) (x4 + 1) ∧ pIc (T + 1200) w1 S' L' ∧ (L' = S :: L ∨ L' = L) := by
  have e10 : nI e - nI e / 10 * 10 = nI (e % 10) := pu_rem he (by decide : 0 < 10) (by decide)
  have hm : e % 10 < 10 := Nat.mod_lt _ (by decide)
  have l19 : (qtx.getD 19 []).length = 7 := by decide +kernel
  have l10 : (ldig (e % 10)).length = 1 := by rw [ldig_len, if_pos hm]
  have la : (t1 ++ t2).length = t1.length + t2.length := List.length_append
  have lb : (t1 ++ t2 ++ qtx.getD 19 []).length = (t1 ++ t2).length + 7 := by rw [List.length_append, l19]
  have lc : (t1 ++ t2 ++ qtx.getD 19 [] ++ ldig (e % 10)).length = (t1 ++ t2 ++ qtx.getD 19 []).length + 1 := by rw [List.length_append, l10]
  unfold fL_undone_L307
  rw [e10, if_pos (by omega), pz_nm, l19, if_pos (by omega), pz_nm, if_pos (pz_qin (by omega) (by decide)), if_pos (by omega), pz_nI (by omega), pz_nm, pz_nm]
  exact pu_332 (pL_run hL H (by omega) (pc1_a (pc1_a (pc1_a c1 c2) (pc1_t (qtx_asc 19 (by decide)))) (pc1_t (ldig_asc _ (by omega))))) hL hf
end
theorem pu_10 {Lx : Nat} {xs : Nat → Int32} (hLx : Lx < 2 ^ 31) : ∀ (d i fuel T : Nat) (w : qMem) (S : pSt) (L : List pSt) (f2 : Nat → Int64), i + d = 7 → d < fuel → L.length ≤ i → pIc T w S L → (∀ (j : Nat) (S1 : pSt), L[j]? = some S1 → f2 (L.length - 1 - j) = hS S1) → ∃ w1 : qMem, fL_undone_L10 Lx xs fuel w f2 (nI L.length) (nI i) = some (1, w1) := by
  intro d
  induction d with
  | zero =>
    intro i fuel T w S L f2 hi hfu hL H hf
    obtain ⟨fuel, rfl⟩ : ∃ g, fuel = g + 1 := ⟨fuel - 1, by omega⟩
    rw [fL_undone_L10, show i = 7 by omega, if_pos (by decide), pz_nm]
    exact pu_374 (w := w) L S w 8 (by omega) (by omega) H hf
  | succ d ih =>
    intro i fuel T w S L f2 hi hfu hL H hf
    obtain ⟨fuel, rfl⟩ : ∃ g, fuel = g + 1 := ⟨fuel - 1, by omega⟩
    have hL7 : L.length ≤ 7 := by omega
    obtain ⟨r, er⟩ := pL_cell Lx xs (a := 16 + i) (by omega) hLx
    have er : fL_cell Lx xs ((16 : Int32) + nI i) = some r := by
      rw [show (16 : Int32) + nI i = nI (16 + i) from nI_add 16 i]; exact er
    obtain ⟨m, hm, em⟩ := pu_1 r
    obtain ⟨e, he, ee⟩ := pu_s hm 4
    rw [fL_undone_L10, if_neg (show ¬ (7 : Int32) ≤ nI i from nI_ge (b := 7) (by omega) (by decide)), er, pz_b, pz_nm, em, pz_nm, ee, pz_nm, pz_nm, pL_sum H, pz_b2, if_pos (pz_qin (by omega) (by decide)), pz_nI (by omega), pz_nm, pz_nm]
    generalize hf25 : vp_updL f2 L.length (hS S) = f25
    have f0 : f25 L.length = hS S := by rw [← hf25]; exact if_pos rfl
    have fn : ∀ j, j ≠ L.length → f25 j = f2 j := fun j hj => by rw [← hf25]; exact if_neg hj
    -- on after one change
    have fin : ∀ (w1 : qMem) (S' : pSt) (L' : List pSt), pIc (T + 1200) w1 S' L' → (L' = S :: L ∨ L' = L) → ∃ w2 : qMem, fL_undone_L10 Lx xs fuel w1 f25 (nI L'.length) (nI i + 1) = some (1, w2) := by
      intro w1 S' L' hI hL'
      rw [nI_1]
      have hl : (S :: L).length = L.length + 1 := rfl
      rcases hL' with rfl | rfl
      · refine ih (i + 1) fuel (T + 1200) w1 S' (S :: L) f25 (by omega) (by omega) (by omega) hI (fun j S1 hj => ?_)
        cases j with
        | zero =>
          cases hj
          rw [hl, show L.length + 1 - 1 - 0 = L.length by omega]; exact f0
        | succ j =>
          have hj : L[j]? = some S1 := hj
          have hlt : j < L.length := (List.getElem?_eq_some_iff.mp hj).1
          rw [hl, show L.length + 1 - 1 - (j + 1) = L.length - 1 - j by omega, fn _ (by omega)]
          exact hf j S1 hj
      · refine ih (i + 1) fuel (T + 1200) w1 S' L' f25 (by omega) (by omega) (by omega) hI (fun j S1 hj => ?_)
        have hlt : j < L'.length := (List.getElem?_eq_some_iff.mp hj).1
        rw [fn _ (by omega)]
        exact hf j S1 hj
    have go : ∀ o, pStp (T + 1200) S L o → ∃ w2 : qMem, (qbd2 o fun (r : Int32) (w : qMem) => fL_undone_L332 Lx xs (fL_undone_L10 Lx xs fuel) w f25 (nI L.length) (nI i) r) = some (1, w2) := by
      intro o ho
      obtain ⟨w1, S', L', e1, e2, e3⟩ := pu_332 (Lx := Lx) (xs := xs) (k10 := fL_undone_L10 Lx xs fuel) (f2 := f25) (x4 := nI i) ho hL7 f0
      rw [e1]
      exact fin w1 S' L' e2 e3
    have hn := H.1.1
    have hq := H.1.2.2.1
    have eP0 : ∀ a b t v rs S', eP a b S t v rs S' → t = 0 → 0 ≤ v := fun a b t v rs S' h z => by rw [(h.2.1 z).1]; exact nI_nn _ (by omega)
    generalize nI m - nI m / 11 * 11 = c
    by_cases c0 : c = 0
    · rw [if_pos c0]; exact go _ ((ps_cup _ _ H hL7).p (eP0 _ _))
    rw [if_neg c0]
    by_cases c1 : c = 1
    · rw [if_pos c1]; exact go _ ((ps_lamp _ _ H hL7).p (eP0 _ _))
    rw [if_neg c1]
    by_cases c2 : c = 2
    · rw [if_pos c2]; exact go _ ((ps_cat _ _ H hL7).p (eP0 _ _))
    rw [if_neg c2]
    by_cases c3 : c = 3
    · rw [if_pos c3]; exact go _ ((ps_take _ H hL7).p (fun t v rs S' h z => h z))
    rw [if_neg c3]
    by_cases c4 : c = 4
    · rw [if_pos c4]; exact go _ ((ps_cue _ _ H hL7).p (fun t v rs S' h z => (h.1 z).1))
    rw [if_neg c4]
    by_cases c5 : c = 5
    · rw [if_pos c5]; exact go _ ((ps_set _ H hL7).p (fun t v rs S' h z => (h.2.1 z).1))
    rw [if_neg c5]
    by_cases c6 : c = 6
    · rw [if_pos c6]; exact go _ ((ps_shock H hL7).p (fun t v rs S' h z => h.2.1))
    rw [if_neg c6]
    by_cases c7 : c = 7
    · rw [if_pos c7]; exact go _ ((ps_add _ H hL7).p (fun t v rs S' h z => by rw [(h.2.1 z).1]; exact nI_nn _ (by omega)))
    rw [if_neg c7]
    by_cases c8 : c = 8
    · rw [if_pos c8]; exact go _ ((ps_perform H hL7).p (fun t v rs S' h z => h z))
    rw [if_neg c8]
    by_cases c9 : c = 9
    · rw [if_pos c9]; exact go _ ((ps_quiet H hL7).p (fun t v rs S' h z => h.2))
    rw [if_neg c9]
    -- a text
    have e9 : (1 : Int32) + (nI e - nI e / 9 * 9) = nI (1 + e % 9) := by
      rw [show nI e - nI e / 9 * 9 = nI (e % 9) from pu_rem he (by decide : 0 < 9) (by decide)]
      exact nI_add 1 _
    have h9 : e % 9 < 9 := Nat.mod_lt _ (by decide)
    have e14 : nI e - nI e / 14 * 14 = nI (e % 14) := pu_rem he (by decide : 0 < 14) (by decide)
    have h14 : e % 14 < 14 := Nat.mod_lt _ (by decide)
    have l16 : (qtx.getD 16 []).length = 10 := by decide +kernel
    have l17 : (qtx.getD 17 []).length = 8 := by decide +kernel
    have l18 : (qtx.getD 18 []).length = 6 := by decide +kernel
    have la : (([] : List Int32) ++ qtx.getD 16 []).length = 10 := l16
    have l9 : (ldig (1 + e % 9)).length = 1 := by rw [ldig_len, if_pos (by omega)]
    have lb : (([] : List Int32) ++ qtx.getD 16 [] ++ ldig (1 + e % 9)).length = 11 := by rw [List.length_append, la, l9]
    have lc : (([] : List Int32) ++ qtx.getD 16 [] ++ ldig (1 + e % 9) ++ qtx.getD 17 []).length = 19 := by rw [List.length_append, lb, l17]
    have c1 : ∀ x ∈ ([] : List Int32) ++ qtx.getD 16 [] ++ ldig (1 + e % 9) ++ qtx.getD 17 [], pC1 x := pc1_a (pc1_a (pc1_t (qtx_asc 16 (by decide))) (pc1_t (ldig_asc _ (by omega)))) (pc1_t (qtx_asc 17 (by decide)))
    rw [if_pos (show ([] : List Int32).length + (qtx.getD 16 []).length ≤ 60 by rw [l16]; decide), pz_nm, e9, if_pos (pz_qin (by omega) (by decide)), if_pos (show (([] : List Int32) ++ qtx.getD 16 []).length + 2 ≤ 60 by omega), pz_nI (by omega), pz_nm, pz_nm, if_pos (show (([] : List Int32) ++ qtx.getD 16 [] ++ ldig (1 + e % 9)).length + (qtx.getD 17 []).length ≤ 60 by omega), pz_nm]
    by_cases hc22 : (11 : Int32) ≤ nI m - nI m / 22 * 22
    · rw [if_pos hc22]
      have ld : (([] : List Int32) ++ qtx.getD 18 []).length = 6 := l18
      have l2 := ldig_2 (e % 14)
      have le : (([] : List Int32) ++ qtx.getD 18 [] ++ ldig (e % 14)).length = 6 + (ldig (e % 14)).length := by rw [List.length_append, ld]
      rw [if_pos (show ([] : List Int32).length + (qtx.getD 18 []).length ≤ 60 by rw [l18]; decide), pz_nm, e14, if_pos (pz_qin (by omega) (by decide)), if_pos (show (([] : List Int32) ++ qtx.getD 18 []).length + 2 ≤ 60 by omega), pz_nI (by omega), pz_nm, pz_nm]
      obtain ⟨w1, S', L', g1, g2, g3⟩ := pu_307 (Lx := Lx) (xs := xs) (k10 := fL_undone_L10 Lx xs fuel) (f2 := f25) (x4 := nI i) (t2 := ([] : List Int32) ++ qtx.getD 18 [] ++ ldig (e % 14)) H hL7 f0 he (by omega) (by omega) c1 (pc1_a (pc1_t (qtx_asc 18 (by decide))) (pc1_t (ldig_asc (e % 14) (by omega))))
      rw [g1]
      exact fin w1 S' L' g2 g3
    · rw [if_neg hc22]
      have l11 : (qtx.getD 11 []).length = 0 := by decide +kernel
      obtain ⟨w1, S', L', g1, g2, g3⟩ := pu_307 (Lx := Lx) (xs := xs) (k10 := fL_undone_L10 Lx xs fuel) (f2 := f25) (x4 := nI i) (t2 := qtx.getD 11 []) H hL7 f0 he (by omega) (by omega) c1 (pc1_t (qtx_asc 11 (by decide)))
      rw [g1]
      exact fin w1 S' L' g2 g3
/-- all changes undone -/
theorem pure_undone {Lx : Nat} {xs : Nat → Int32} (hLx : Lx < 2 ^ 31) {T : Nat} {w : qMem} {S : pSt} (H : pIc T w S []) : ∃ w1 : qMem, fL_undone w Lx xs = some (1, w1) := pu_10 hLx 7 0 8 T w S [] (fun _ => 0) (by omega) (by omega) (Nat.le_refl _) H (fun j S1 hj => by simp at hj)
