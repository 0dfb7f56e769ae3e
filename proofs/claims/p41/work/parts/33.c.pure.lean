theorem pu_i (u : UInt32) : u.toInt32 = nI u.toNat := by
  apply Int32.toBitVec_inj.mp
  show u.toBitVec = BitVec.ofNat 32 u.toBitVec.toNat
  simp
theorem pu_1 (x : Int32) : ∃ m, m < 2 ^ 31 ∧ (x.toUInt32 >>> (Int32.toUInt32 1 &&& Int32.toUInt32 31)).toInt32 = nI m := by
  refine ⟨(x.toUInt32 >>> (Int32.toUInt32 1 &&& Int32.toUInt32 31)).toNat, ?_, pu_i _⟩
  rw [UInt32.toNat_shiftRight, show (Int32.toUInt32 1 &&& Int32.toUInt32 31).toNat % 32 = 1 by decide, Nat.shiftRight_eq_div_pow]
  have := x.toUInt32.toNat_lt
  omega
theorem pu_u {m : Nat} (hm : m < 2 ^ 31) : (nI m).toUInt32.toNat = m := by
  show (BitVec.ofNat 32 m).toNat = m
  rw [BitVec.toNat_ofNat]
  exact Nat.mod_eq_of_lt (by omega)
theorem pu_s {m : Nat} (hm : m < 2 ^ 31) (s : Int32) : ∃ k, k < 2 ^ 31 ∧ ((nI m).toUInt32 >>> (Int32.toUInt32 s &&& Int32.toUInt32 31)).toInt32 = nI k := by
  refine ⟨((nI m).toUInt32 >>> (Int32.toUInt32 s &&& Int32.toUInt32 31)).toNat, ?_, pu_i _⟩
  rw [UInt32.toNat_shiftRight, pu_u hm]
  exact Nat.lt_of_le_of_lt (Nat.shiftRight_le _ _) hm
theorem pu_div {m k : Nat} (hm : m < 2 ^ 31) (hk : 0 < k) (hk2 : k < 2 ^ 31) : nI m / nI k = nI (m / k) := by
  apply Int32.toInt_inj.mp
  have h1 : m / k ≤ m := Nat.div_le_self _ _
  rw [Int32.toInt_div, nI_toInt hm, nI_toInt hk2, nI_toInt (by omega)]
  rw [Int.tdiv_eq_ediv_of_nonneg (by omega)]
  have e : ((m : Int) / (k : Int)) = ((m / k : Nat) : Int) := (Int.natCast_ediv m k).symm
  rw [e]
  generalize m / k = q at h1 ⊢
  exact Int.bmod_eq_of_le (by omega) (by omega)
theorem pu_rem {m k : Nat} (hm : m < 2 ^ 31) (hk : 0 < k) (hk2 : k < 2 ^ 31) : nI m - nI m / nI k * nI k = nI (m % k) := by
  have h1 : m / k * k ≤ m := Nat.div_mul_le_self _ _
  rw [pu_div hm hk hk2, show nI (m / k) * nI k = nI (m / k * k) from pk_mul _ _, pk_sub h1]
  congr 1
  have := Nat.div_add_mod m k
  rw [Nat.mul_comm] at this
  omega
theorem pHs.nil {T : Nat} {w : qMem} {L : List pSt} (h : pHs T w L) : pHs T w [] := by
  obtain ⟨x, d, h1, h2, h3, h4, h5, h6⟩ := h
  exact ⟨x, d, h1, h2, h3, h4, Nat.zero_le _, fun j S hj => by simp at hj⟩
theorem pIc.nil {T : Nat} {w : qMem} {S : pSt} {L : List pSt} (h : pIc T w S L) : pIc T w S [] := ⟨h.1, h.2.1, h.2.2.1.nil, h.2.2.2⟩
theorem pIc.n {T : Nat} {w : qMem} {S : pSt} {L : List pSt} (h : pIc T w S L) : w 0 2 = nI (sN S) := h.2.1.1.1
theorem pa_0 (w : qMem) : fX5_account w 0 = some (0, w 0 2, w) := rfl
theorem pL_ref {w : qMem} {rs : Int32} (h : w 228 8 = rs) (h0 : rs ≠ 0) : fL_refusal w 0 = some (rs, w) := by
  unfold fL_refusal fX5_refusal
  rw [if_neg (by rw [h]; exact h0), if_pos rfl, h]; rfl
theorem pL_cell (L : Nat) (xs : Nat → Int32) {a : Nat} (ha : a < 2 ^ 31) (hL : L < 2 ^ 31) : ∃ r : Int32, fL_cell L xs (nI a) = some r := by
  unfold fL_cell
  by_cases h : L ≤ a
  · exact ⟨_, if_pos (nI_le h ha)⟩
  · exact ⟨_, by rw [if_neg (show ¬ Int32.ofNat L ≤ nI a from nI_ge (by omega) hL), if_pos (pz_qin (by omega) hL)]⟩
/-- one prop of the script placed, or refused because of its floor -/
theorem pd_109 {L : Nat} {xs : Nat → Int32} {k26 : qMem → Int32 → Int32 → Int32 → Option qMem} {x2 x3 x4 : Int32} {T : Nat} {S : pSt} {o : Option (Int32 × qMem)} {f m : Nat} (hf : f < 5) (hm1 : 1 ≤ m) (hm9 : m ≤ 9) (hn : sN S < 12) (h : pStep T S [] o (eP (nI f) (nI m))) : ∃ (r : Int32) (w1 : qMem) (S' : pSt), o = some (r, w1) ∧ fL_drawn_L109 L xs k26 w1 x2 x3 x4 r = k26 w1 x2 x3 (x4 + 1) ∧ pIc (T + 100) w1 S' [] ∧ (sN S' = sN S + 1 ∨ sN S' = sN S ∧ 5 ≤ sN S) ∧ sQ S' = sQ S ∧ (pBq S → pBq S') := by
  obtain ⟨t, v, rs, S', r, w1, e, ht, hE, h0, hno, h3⟩ := h
  obtain ⟨hE1, hE2, hE3⟩ := hE
  rcases hE3 ⟨f, m, hf, hm1, hm9, rfl, rfl⟩ hn with rfl | ⟨rfl, hrs, h5⟩
  · obtain ⟨q1, q2, q3, q4⟩ := hE2 rfl
    obtain ⟨rfl, hI⟩ := h0 rfl
    refine ⟨r, w1, S', e, ?_, hI.nil, Or.inl q2, q3, q4⟩
    unfold fL_drawn_L109
    rw [pa_0, pz_b3, if_pos rfl, if_pos, pz_nm]
    rw [hI.n, q1, q2]
    exact (nI_pred (sN S)).symm
  · obtain ⟨-, hI⟩ := hno (by decide)
    refine ⟨r, w1, S, e, ?_, hI.nil, Or.inr ⟨rfl, h5⟩, rfl, fun h => h⟩
    unfold fL_drawn_L109
    rw [pa_0, pz_b3, if_pos rfl]
    split
    · rw [pz_nm]
    · rw [pL_ref ((h3 rfl).trans hrs) (by decide), pz_b2, if_pos rfl, pz_nm]
theorem pd_26 {L : Nat} {xs : Nat → Int32} (hL : L < 2 ^ 31) {x2 : Int32} {P : Nat} (hP : P ≤ 11) (hP1 : 1 ≤ P) : ∀ (d i fuel : Nat) (w : qMem) (S : pSt), i + d = P → d < fuel → pIc (100 * i) w S [] → sN S ≤ i → (i = 0 ∨ 1 ≤ sN S) → sQ S = 0 → pBq S → ∃ (w1 : qMem) (S1 : pSt), fL_drawn_L26 L xs fuel w x2 (nI P) (nI i) = fL_drawn_L143 L xs 4 w1 x2 0 ∧ pIc (100 * P) w1 S1 [] ∧ 1 ≤ sN S1 ∧ sN S1 ≤ 11 ∧ sQ S1 = 0 ∧ pBq S1 := by
  intro d
  induction d with
  | zero =>
    intro i fuel w S hi hfu H h1 h2 h3 hB
    obtain ⟨fuel, rfl⟩ : ∃ g, fuel = g + 1 := ⟨fuel - 1, by omega⟩
    have : i = P := by omega
    subst this
    refine ⟨w, S, ?_, H, by omega, by omega, h3, hB⟩
    rw [fL_drawn_L26, if_pos (nI_le (Nat.le_refl _) (by omega))]
  | succ d ih =>
    intro i fuel w S hi hfu H h1 h2 h3 hB
    obtain ⟨fuel, rfl⟩ : ∃ g, fuel = g + 1 := ⟨fuel - 1, by omega⟩
    rw [fL_drawn_L26, if_neg (nI_ge (show i < P by omega) (by omega))]
    obtain ⟨r, er⟩ := pL_cell L xs (a := 1 + i) (by omega) hL
    have er : fL_cell L xs ((1 : Int32) + nI i) = some r := by
      rw [show (1 : Int32) + nI i = nI (1 + i) from nI_add 1 i]; exact er
    rw [er, pz_b, pz_nm]
    obtain ⟨m, hm, em⟩ := pu_1 r
    rw [em, pz_nm, pz_nm]
    obtain ⟨m3, hm3, em3⟩ := pu_s hm 3
    obtain ⟨m6, hm6, em6⟩ := pu_s hm 6
    have e5 : nI m3 - nI m3 / 5 * 5 = nI (m3 % 5) := pu_rem hm3 (by decide : 0 < 5) (by decide)
    have e9 : (1 : Int32) + (nI m6 - nI m6 / 9 * 9) = nI (1 + m6 % 9) := by
      rw [show nI m6 - nI m6 / 9 * 9 = nI (m6 % 9) from pu_rem hm6 (by decide : 0 < 9) (by decide)]
      exact nI_add 1 _
    rw [em3, em6, e5, e9]
    have hf : m3 % 5 < 5 := Nat.mod_lt _ (by decide)
    have h9 : m6 % 9 < 9 := Nat.mod_lt _ (by decide)
    have go : ∀ o, pStep (100 * i) S [] o (eP (nI (m3 % 5)) (nI (1 + m6 % 9))) → ∃ (w1 : qMem) (S1 : pSt), (qbd2 o fun (r_71 : Int32) (w_72 : qMem) => fL_drawn_L109 L xs (fL_drawn_L26 L xs fuel) w_72 x2 (nI P) (nI i) r_71) = fL_drawn_L143 L xs 4 w1 x2 0 ∧ pIc (100 * P) w1 S1 [] ∧ 1 ≤ sN S1 ∧ sN S1 ≤ 11 ∧ sQ S1 = 0 ∧ pBq S1 := by
      intro o ho
      obtain ⟨r1, w1, S', e1, e2, e3, e4, e6, e7⟩ := pd_109 (L := L) (xs := xs) (k26 := fL_drawn_L26 L xs fuel) (x2 := x2) (x3 := nI P) (x4 := nI i) hf (by omega : 1 ≤ 1 + m6 % 9) (by omega) (by omega) ho
      rw [e1, pz_b2, e2, nI_1]
      exact ih (i + 1) fuel w1 S' (by omega) (by omega) (by rw [show 100 * (i + 1) = 100 * i + 100 by omega]; exact e3) (by omega) (Or.inr (by omega)) (e6.trans h3) (e7 hB)
    split
    · exact go _ (ps_cup _ _ H (by simp))
    · split
      · exact go _ (ps_lamp _ _ H (by simp))
      · exact go _ (ps_cat _ _ H (by simp))
theorem pd_263 {L : Nat} {xs : Nat → Int32} {x : Nat} (hx : x < 2 ^ 31) : ∀ (d i fuel : Nat) (w : qMem) (S : pSt) (T : Nat), i + d = 4 → d < fuel → pIc T w S [] → sQ S = i → 1 ≤ sN S → sN S ≤ 11 → pBq S → ∃ (w1 : qMem) (S1 : pSt), fL_drawn_L263 L xs fuel w (nI x) (nI i) = some w1 ∧ pIc (T + 100 * d) w1 S1 [] ∧ 1 ≤ sN S1 ∧ sN S1 ≤ 11 ∧ pBq S1 := by
  intro d
  induction d with
  | zero =>
    intro i fuel w S T hi hfu H h1 h2 h3 hB
    obtain ⟨fuel, rfl⟩ : ∃ g, fuel = g + 1 := ⟨fuel - 1, by omega⟩
    refine ⟨w, S, ?_, H, h2, h3, hB⟩
    obtain ⟨m, hm, em⟩ := pu_s hx 10
    rw [fL_drawn_L263, em, show nI m - nI m / 5 * 5 = nI (m % 5) from pu_rem hm (by decide : 0 < 5) (by decide), if_pos (nI_le (by omega) (by omega))]
  | succ d ih =>
    intro i fuel w S T hi hfu H h1 h2 h3 hB
    obtain ⟨fuel, rfl⟩ : ∃ g, fuel = g + 1 := ⟨fuel - 1, by omega⟩
    obtain ⟨m, hm, em⟩ := pu_s hx 10
    rw [fL_drawn_L263, em, show nI m - nI m / 5 * 5 = nI (m % 5) from pu_rem hm (by decide : 0 < 5) (by decide)]
    by_cases hc : m % 5 ≤ i
    · exact ⟨w, S, by rw [if_pos (nI_le hc (by omega))], H.mo (by omega), h2, h3, hB⟩
    · obtain ⟨m9, hm9, em9⟩ := pu_s hx ((12 : Int32) + ((3 : Int32) * nI i))
      have e9 : (1 : Int32) + (nI m9 - nI m9 / 9 * 9) = nI (1 + m9 % 9) := by
        rw [show nI m9 - nI m9 / 9 * 9 = nI (m9 % 9) from pu_rem hm9 (by decide : 0 < 9) (by decide)]
        exact nI_add 1 _
      rw [if_neg (nI_ge (by omega) (by omega)), em9, e9]
      obtain ⟨t, v, rs, S', r, w1, e, ht, hE, h0, hno, h3'⟩ := ps_add (nI (1 + m9 % 9)) H (by simp)
      obtain ⟨-, hE2, hE3⟩ := hE
      obtain rfl := hE3 ⟨1 + m9 % 9, by omega, by have := Nat.mod_lt m9 (by decide : 0 < 9); omega, rfl⟩ (by omega)
      obtain ⟨q1, q2, q3, q4⟩ := hE2 rfl
      obtain ⟨rfl, hI⟩ := h0 rfl
      have er : r = nI i + 1 := by rw [q1, h1, nI_1]
      rw [e, pz_b2, if_pos er, pz_nm, nI_1]
      obtain ⟨w2, S1, g1, g2, g3, g4, g5⟩ := ih (i + 1) fuel w1 S' (T + 100) (by omega) (by omega) hI.nil (by omega) (by omega) (by omega) (q4 hB)
      exact ⟨w2, S1, g1, g2.mo (by omega), g3, g4, g5⟩
theorem pd_234 {L : Nat} {xs : Nat → Int32} {x : Nat} (hx : x < 2 ^ 31) : ∀ (d i fuel : Nat) (w : qMem) (S : pSt) (T : Nat), i + d = 3 → d < fuel → pIc T w S [] → sQ S = 0 → 1 ≤ sN S → sN S ≤ 11 → pBq S → ∃ (w1 : qMem) (S1 : pSt), fL_drawn_L234 L xs fuel w (nI x) (nI i) = some w1 ∧ pIc (T + 100 * d + 400) w1 S1 [] ∧ 1 ≤ sN S1 ∧ sN S1 ≤ 11 ∧ pBq S1 := by
  intro d
  induction d with
  | zero =>
    intro i fuel w S T hi hfu H h1 h2 h3 hB
    obtain ⟨fuel, rfl⟩ : ∃ g, fuel = g + 1 := ⟨fuel - 1, by omega⟩
    obtain ⟨m, hm, em⟩ := pu_s hx 8
    rw [fL_drawn_L234, em, show nI m - nI m / 4 * 4 = nI (m % 4) from pu_rem hm (by decide : 0 < 4) (by decide), if_pos (nI_le (by omega) (by omega))]
    obtain ⟨w1, S1, g1, g2, g3, g4, g5⟩ := pd_263 (L := L) (xs := xs) hx 4 0 5 w S T (by omega) (by omega) H h1 h2 h3 hB
    exact ⟨w1, S1, g1, g2.mo (by omega), g3, g4, g5⟩
  | succ d ih =>
    intro i fuel w S T hi hfu H h1 h2 h3 hB
    obtain ⟨fuel, rfl⟩ : ∃ g, fuel = g + 1 := ⟨fuel - 1, by omega⟩
    obtain ⟨m, hm, em⟩ := pu_s hx 8
    rw [fL_drawn_L234, em, show nI m - nI m / 4 * 4 = nI (m % 4) from pu_rem hm (by decide : 0 < 4) (by decide)]
    by_cases hc : m % 4 ≤ i
    · rw [if_pos (nI_le hc (by omega))]
      obtain ⟨w1, S1, g1, g2, g3, g4, g5⟩ := pd_263 (L := L) (xs := xs) hx 4 0 5 w S T (by omega) (by omega) H h1 h2 h3 hB
      exact ⟨w1, S1, g1, g2.mo (by omega), g3, g4, g5⟩
    · rw [if_neg (nI_ge (by omega) (by omega))]
      obtain ⟨t, v, rs, S', r, w1, e, ht, hE, h0, hno, h3'⟩ := ps_shock H (by simp)
      obtain ⟨rfl, q1, q2, q3, q4⟩ := hE
      obtain ⟨rfl, hI⟩ := h0 rfl
      rw [e, pz_b2, if_pos q1, pz_nm, nI_1]
      obtain ⟨w2, S1, g1, g2, g3, g4, g5⟩ := ih (i + 1) fuel w1 S' (T + 100) (by omega) (by omega) hI.nil (by omega) (by omega) (by omega) (q4 hB)
      exact ⟨w2, S1, g1, g2.mo (by omega), g3, g4, g5⟩
theorem pd_143 {L : Nat} {xs : Nat → Int32} (hL : L < 2 ^ 31) {x : Nat} (hx : x < 2 ^ 31) : ∀ (d i fuel : Nat) (w : qMem) (S : pSt) (T : Nat), i + d = 3 → d < fuel → pIc T w S [] → sQ S = 0 → 1 ≤ sN S → sN S ≤ 11 → pBq S → ∃ (w1 : qMem) (S1 : pSt), fL_drawn_L143 L xs fuel w (nI x) (nI i) = some w1 ∧ pIc (T + 100 * d + 800) w1 S1 [] ∧ 1 ≤ sN S1 ∧ sN S1 ≤ 11 ∧ pBq S1 := by
  intro d
  induction d with
  | zero =>
    intro i fuel w S T hi hfu H h1 h2 h3 hB
    obtain ⟨fuel, rfl⟩ : ∃ g, fuel = g + 1 := ⟨fuel - 1, by omega⟩
    have : i = 3 := by omega
    subst this
    obtain ⟨m9, hm9, em9⟩ := pu_s hx 4
    have e9 : (1 : Int32) + (nI m9 - nI m9 / 9 * 9) = nI (1 + m9 % 9) := by
      rw [show nI m9 - nI m9 / 9 * 9 = nI (m9 % 9) from pu_rem hm9 (by decide : 0 < 9) (by decide)]
      exact nI_add 1 _
    rw [fL_drawn_L143, if_pos (show (3 : Int32) ≤ nI 3 by decide), em9, e9]
    obtain ⟨t, v, rs, S', r, w1, e, ht, hE, h0, hno, h3'⟩ := ps_set (nI (1 + m9 % 9)) H (by simp)
    obtain ⟨-, hE2, hE3⟩ := hE
    rw [e, pz_b2]
    rcases hE3 ⟨1 + m9 % 9, by omega, by have := Nat.mod_lt m9 (by decide : 0 < 9); omega, rfl⟩ with rfl | ⟨rfl, hrs⟩
    · obtain ⟨q1, q2, q3, q4⟩ := hE2 rfl
      obtain ⟨rfl, hI⟩ := h0 rfl
      rw [if_pos q1]
      obtain ⟨w2, S1, g1, g2, g3, g4, g5⟩ := pd_234 (L := L) (xs := xs) hx 3 0 4 w1 S' (T + 100) (by omega) (by omega) hI.nil (by omega) (by omega) (by omega) (q4 hB)
      exact ⟨w2, S1, g1, g2.mo (by omega), g3, g4, g5⟩
    · obtain ⟨hr, hI⟩ := hno (by decide)
      rw [if_neg (fun z => absurd hr (pj_lt.mpr z)), pL_ref ((h3' rfl).trans hrs) (by decide), pz_b2, if_pos rfl]
      obtain ⟨w2, S1, g1, g2, g3, g4, g5⟩ := pd_234 (L := L) (xs := xs) hx 3 0 4 w1 S (T + 100) (by omega) (by omega) hI.nil h1 h2 h3 hB
      exact ⟨w2, S1, g1, g2.mo (by omega), g3, g4, g5⟩
  | succ d ih =>
    intro i fuel w S T hi hfu H h1 h2 h3 hB
    obtain ⟨fuel, rfl⟩ : ∃ g, fuel = g + 1 := ⟨fuel - 1, by omega⟩
    rw [fL_drawn_L143, if_neg (show ¬ (3 : Int32) ≤ nI i from nI_ge (b := 3) (by omega) (by decide))]
    obtain ⟨r, er⟩ := pL_cell L xs (a := 13 + i) (by omega) hL
    have er : fL_cell L xs ((13 : Int32) + nI i) = some r := by
      rw [show (13 : Int32) + nI i = nI (13 + i) from nI_add 13 i]; exact er
    rw [er, pz_b, pz_nm]
    obtain ⟨m, hm, em⟩ := pu_1 r
    obtain ⟨m4, hm4, em4⟩ := pu_s hm 4
    rw [em, pa_0, pz_b3, if_pos rfl, H.n, if_neg (nI_ne0 (by omega) (by omega)), em4, pu_rem hm (by omega : 0 < sN S) (by omega), show nI m4 - nI m4 / 10 * 10 = nI (m4 % 10) from pu_rem hm4 (by decide : 0 < 10) (by decide)]
    obtain ⟨t, v, rs, S', r1, w1, e, ht, hE, h0, hno, h3'⟩ := ps_cue (nI (m % sN S)) (nI (m4 % 10)) H (by simp)
    obtain ⟨hE2, hE3⟩ := hE
    rw [e, pz_b2]
    rcases hE3 ⟨m % sN S, Nat.mod_lt _ (by omega), rfl⟩ ⟨m4 % 10, by have := Nat.mod_lt m4 (by decide : 0 < 10); omega, rfl⟩ with rfl | ⟨rfl, hrs⟩
    · obtain ⟨q1, q2, q3, q4⟩ := hE2 rfl
      obtain ⟨rfl, hI⟩ := h0 rfl
      rw [if_pos q1, pz_nm, nI_1]
      obtain ⟨w2, S1, g1, g2, g3, g4, g5⟩ := ih (i + 1) fuel w1 S' (T + 100) (by omega) (by omega) hI.nil (by omega) (by omega) (by omega) (q4 hB)
      exact ⟨w2, S1, g1, g2.mo (by omega), g3, g4, g5⟩
    · obtain ⟨hr, hI⟩ := hno (by decide)
      have h228 := h3' rfl
      rw [if_neg (fun z => absurd hr (pj_lt.mpr z)), pL_ref h228 (fun z => by rw [z] at hrs; exact absurd hrs (by decide)), pz_b2, if_pos hrs, pz_nm, nI_1]
      obtain ⟨w2, S1, g1, g2, g3, g4, g5⟩ := ih (i + 1) fuel w1 S (T + 100) (by omega) (by omega) hI.nil h1 h2 h3 hB
      exact ⟨w2, S1, g1, g2.mo (by omega), g3, g4, g5⟩
def pS0 : pSt := (0, fun _ _ => 0, 0, fun _ => 0, fun k => if k = 0 then 1 else 0)
theorem pS0_W : pW 0 pS0 := ⟨by decide, fun i hi => absurd hi (Nat.not_lt_zero i), by decide, fun j hj => absurd hj (Nat.not_lt_zero j), ⟨1, by decide, by decide, rfl⟩, fun f _ k _ => by show 0 ≤ 5; omega⟩
theorem pIc_0 : pIc 0 qw0 pS0 [] := by
  refine ⟨pS0_W, ⟨⟨rfl, fun i hi => absurd hi (Nat.not_lt_zero i)⟩, rfl, fun j hj => absurd hj (Nat.not_lt_zero j), fun k hk => ?_⟩, ⟨0, 0, by decide, by decide, rfl, rfl, Nat.le_refl _, fun j S hj => by simp at hj⟩, rfl⟩
  rcases (show k = 0 ∨ k = 1 ∨ k = 2 ∨ k = 3 ∨ k = 4 by omega) with rfl | rfl | rfl | rfl | rfl <;> rfl
/-- what the script draws: a hall of one to eleven props -/
theorem pure_drawn {L : Nat} {xs : Nat → Int32} (hL : L < 2 ^ 31) : ∃ (w1 : qMem) (S1 : pSt), fL_drawn L xs = some w1 ∧ pIc 3000 w1 S1 [] ∧ 1 ≤ sN S1 ∧ sN S1 ≤ 11 ∧ pBq S1 := by
  obtain ⟨r, er⟩ := pL_cell L xs (a := 0) (by omega) hL
  have er : fL_cell L xs 0 = some r := er
  obtain ⟨m, hm, em⟩ := pu_1 r
  unfold fL_drawn fL_drawn_L7
  rw [er, pz_b, pz_nm, em, pz_nm, show nI m - nI m / 9 * 9 = nI (m % 9) from pu_rem hm (by decide : 0 < 9) (by decide), show (3 : Int32) + nI (m % 9) = nI (3 + m % 9) from nI_add 3 _]
  have h9 : m % 9 < 9 := Nat.mod_lt _ (by decide)
  obtain ⟨w1, S1, g1, g2, g3, g4, g5, g6⟩ := pd_26 (L := L) (xs := xs) hL (x2 := nI m) (P := 3 + m % 9) (by omega) (by omega) (3 + m % 9) 0 12 qw0 pS0 (by omega) (by omega) (by rw [Nat.mul_zero]; exact pIc_0) (Nat.le_refl _) (Or.inl rfl) rfl rfl
  obtain ⟨w2, S2, k1, k2, k3, k4, k5⟩ := pd_143 (L := L) (xs := xs) hL hm 3 0 4 w1 S1 _ (by omega) (by omega) g2 g5 g3 g4 g6
  exact ⟨w2, S2, by rw [show (0 : Int32) = nI 0 from rfl, g1]; exact k1, k2.mo (by omega), k3, k4, k5⟩
