theorem pj_lt_of_not_le {a b : Int32} (h : ¬ b ≤ a) : a < b := by
  rw [Int32.lt_iff_toInt_lt]
  rw [Int32.le_iff_toInt_le] at h
  omega
theorem sShk_n (a : Nat) (S : pSt) : sN (sShk a S) = sN S := rfl
theorem sShk_p (a : Nat) (S : pSt) : sP (sShk a S) = pP3 (sN S) a (sP S) := rfl
theorem sShk_4 (a : Nat) (S : pSt) : sG (sShk a S) 4 = sG S 4 + pBr (sN S) a (sP S) :=
  (pz_u : upd (upd (upd (sG S) 1 (sG S 1 + 1)) 3 (sG S 3 + pMa (sN S) a (sP S))) 4 (sG S 4 + pBr (sN S) a (sP S)) 4 = _)
theorem pf_st (c a : Nat) (X : pSt × Nat) : (c = 0 ∨ pMa (sN X.1) a (sP X.1) < 3 * nI c ∨ a ≤ 1 → (pfStep c a X).1 = sShk a X.1) ∧ (¬ (c = 0 ∨ pMa (sN X.1) a (sP X.1) < 3 * nI c ∨ a ≤ 1) → (pfStep c a X).1 = sShk (a / 2) (sShk a X.1)) := by
  unfold pfStep
  exact ⟨fun h => by rw [if_pos h], fun h => by rw [if_neg h]⟩
theorem pf_n {c : Nat} {l : Nat → Nat} {S : pSt} : ∀ i, sN (pfN c l S i).1 = sN S := by
  intro i
  induction i with
  | zero => rfl
  | succ i ih =>
    rw [show pfN c l S (i + 1) = pfStep c (l i) (pfN c l S i) from rfl]
    by_cases h : c = 0 ∨ pMa (sN (pfN c l S i).1) (l i) (sP (pfN c l S i).1) < 3 * nI c ∨ l i ≤ 1
    · rw [(pf_st c (l i) (pfN c l S i)).1 h, sShk_n]; exact ih
    · rw [(pf_st c (l i) (pfN c l S i)).2 h, sShk_n, sShk_n]; exact ih
theorem pg_half : ∀ a, a < 10 → nI a / 2 = nI (a / 2) ∧ ((nI a / 2 ≤ 0) ↔ a ≤ 1) := by decide +kernel
theorem pg_perf {T : Nat} {w : qMem} {S : pSt} {L : List pSt} {M : Nat → Nat → Int32} (H : pIc T w S L) (hM : gM (sN S) M (sP S)) : ∃ (f : Nat → Int32) (M1 : Nat → Nat → Int32), fL_performs w (sN S) M = some (f, w, M1) ∧ sG (pfX S).1 4 = sG S 4 + f 2 := by
  have hn := H.1.1
  have hq := H.1.2.2.1
  have hc : pKn (sP S) 3 (sN S) ≤ 12 := Nat.le_trans (pKn_le _ _ _) hn
  have e10 : pAc S 10 = nI (sQ S) := rfl
  unfold fL_performs
  rw [pg_many hn hM 3, pz_b2]
  unfold pfX
  generalize pKn (sP S) 3 (sN S) = c at hc ⊢
  have go : ∀ (d i fuel : Nat) (M : Nat → Nat → Int32) (f1 : Nat → Int32) (X : pSt), i + d = sQ S → d < fuel → X = (pfN c (pfL S) S i).1 → gM (sN S) M (sP X) → sG X 4 = sG S 4 + f1 2 → ∃ (f : Nat → Int32) (M1 : Nat → Nat → Int32), fL_performs_L13 (sN S) fuel w M f1 (nI c) (nI i) = some (f, w, M1) ∧ sG (pfN c (pfL S) S (sQ S)).1 4 = sG S 4 + f 2 := by
    intro d
    induction d with
    | zero =>
      intro i fuel M f1 X hi hfu hXX h1 h2
      obtain ⟨fuel, rfl⟩ : ∃ g, fuel = g + 1 := ⟨fuel - 1, by omega⟩
      have : i = sQ S := by omega
      subst this
      refine ⟨f1, M, ?_, by rw [← hXX]; exact h2⟩
      rw [fL_performs_L13, show (10 : Int32) = nI 10 from rfl, pa_acc H (by decide), pz_b3, if_pos rfl, e10, if_pos (nI_le (by omega) (by omega))]
    | succ d ih =>
      intro i fuel M f1 X hi hfu hXX h1 h2
      obtain ⟨fuel, rfl⟩ : ∃ g, fuel = g + 1 := ⟨fuel - 1, by omega⟩
      obtain ⟨eL, hl1, hl9⟩ := pfL_v H.1 (show i < sQ S by omega)
      have hX : pW (T + 12 * i) X := by rw [hXX]; exact (pfN_k (c := c) H.1 i (by omega)).1
      have hXn : sN X = sN S := by rw [hXX]; exact pf_n i
      obtain ⟨st1, st2⟩ := pf_st c (pfL S i) (pfN c (pfL S) S i)
      rw [← hXX, hXn, show pfStep c (pfL S i) (pfN c (pfL S) S i) = pfN c (pfL S) S (i + 1) from rfl] at st1 st2
      obtain ⟨f15, M16, e15, p0, p1, h16⟩ := pg_shocks (P := sP X) hn hl9 (fun j hj => hX.2.1 j (by rw [hXn]; exact hj)) h1
      have gs : sG (sShk (pfL S i) X) 4 = sG S 4 + (f1 2 + f15 1) := by
        rw [sShk_4, h2, hXn, p1, Int32.add_assoc]
      have h16' : gM (sN S) M16 (sP (sShk (pfL S i) X)) := by rw [sShk_p, hXn]; exact h16
      rw [← p0] at st1 st2
      rw [fL_performs_L13, show (10 : Int32) = nI 10 from rfl, pa_acc H (by decide), pz_b3, if_pos rfl, e10, if_neg (nI_ge (by omega) (by omega)), pL_pr H (by omega), pz_b2, eL, e15, pz_b2, pz_nm, pz_nm, pz_nm]
      have f2v : ∀ v3 : Int32, upd (upd (upd f1 1 (f1 1 + f15 0)) 2 (upd f1 1 (f1 1 + f15 0) 2 + f15 1)) 3 v3 2 = f1 2 + f15 1 := fun v3 => by
        rw [pz_un (by decide), pz_u, pz_un (by decide)]
      generalize hf20 : upd (upd (upd f1 1 (f1 1 + f15 0)) 2 (upd f1 1 (f1 1 + f15 0) 2 + f15 1)) 3 (upd (upd f1 1 (f1 1 + f15 0)) 2 (upd f1 1 (f1 1 + f15 0) 2 + f15 1) 3 + 1) = f20
      have f20v : f20 2 = f1 2 + f15 1 := by rw [← hf20]; exact f2v _
      have one : (c = 0 ∨ f15 0 < 3 * nI c ∨ pfL S i ≤ 1) → ∃ (f : Nat → Int32) (M1 : Nat → Nat → Int32), (qnm (nI i + 1) fun (x : Int32) => fL_performs_L13 (sN S) fuel w M16 f20 (nI c) x) = some (f, w, M1) ∧ sG (pfN c (pfL S) S (sQ S)).1 4 = sG S 4 + f 2 := by
        intro hc1
        rw [pz_nm, nI_1]
        exact ih (i + 1) fuel M16 f20 (sShk (pfL S i) X) (by omega) (by omega) (st1 hc1).symm h16' (by rw [f20v]; exact gs)
      by_cases c0 : c = 0
      · rw [if_pos (show nI c ≤ 0 by rw [c0]; decide)]; exact one (Or.inl c0)
      · rw [if_neg (show ¬ nI c ≤ 0 from nI_ge (a := 0) (by omega) (by omega))]
        by_cases c3 : f15 0 < 3 * nI c
        · rw [if_pos c3]; exact one (Or.inr (Or.inl c3))
        · rw [if_neg c3]
          obtain ⟨hh1, hh2⟩ := pg_half (pfL S i) (by omega)
          by_cases c1 : pfL S i ≤ 1
          · rw [if_pos (hh2.mpr c1)]; exact one (Or.inr (Or.inr c1))
          · rw [if_neg (fun y => c1 (hh2.mp y)), hh1]
            have hX2 := sShk_W hl9 hX
            obtain ⟨f28, M29, e28, r0, r1, h29⟩ := pg_shocks (P := sP (sShk (pfL S i) X)) (a := pfL S i / 2) hn (by omega) (fun j hj => hX2.2.1 j (by rw [sShk_n, hXn]; exact hj)) h16'
            rw [e28, pz_b2, pz_nm, pz_nm, pz_nm, pz_nm, pz_nm, nI_1]
            refine ih (i + 1) fuel M29 _ (sShk (pfL S i / 2) (sShk (pfL S i) X)) (by omega) (by omega) (st2 (by
              rintro (y | y | y)
              · exact c0 y
              · exact c3 y
              · exact c1 y)).symm (by rw [sShk_p, sShk_n, hXn]; exact h29) ?_
            rw [sShk_4, gs, sShk_n, hXn, pz_un (by decide), pz_u, pz_un (by decide), pz_un (by decide), f20v, r1, Int32.add_assoc]
  exact go (sQ S) 0 10 M (fun _ => 0) S (by omega) (by omega) rfl hM (Int32.add_zero _).symm
-- shaken
theorem pk_279 {T s : Nat} {S : pSt} {L : List pSt} {x1 : Int32} (hs : s ≤ 9) (es : sG S 0 = nI s) (hx1 : x1 = nI (pBs S 8)) {f188 : Nat → Int32} (hf : ∀ i, i < sN S → f188 i = pBy s S i 30) : ∀ (d i fuel : Nat) (w : qMem), i + d = sN S → d < fuel → pIc T w S L → ∃ w1 : qMem, fL_shaken_L279 fuel w (sN S) f188 x1 (pLs S 9) (nI (sN S)) (nI i) = some (1, w1) ∧ pIc T w1 S L := by
  intro d
  induction d with
  | zero =>
    intro i fuel w hi hfu H
    have hn := H.1.1
    obtain ⟨fuel, rfl⟩ : ∃ g, fuel = g + 1 := ⟨fuel - 1, by omega⟩
    obtain ⟨w20, e20, H20⟩ := pL_best H
    obtain ⟨w23, e23, H23⟩ := pL_lb H20
    obtain ⟨w28, e28, H28⟩ := pL_pb H23
    obtain ⟨M, eM, hM⟩ := pg_props H28
    obtain ⟨f36, M38, e36, g36⟩ := pg_perf H28 hM
    obtain ⟨w63, e63, H63⟩ := pL_well H28
    have e27 : sG (pfX S).1 4 - sG S 4 = f36 2 := by rw [g36]; exact pj_sub _ _
    refine ⟨w63, ?_, H63⟩
    rw [fL_shaken_L279, if_pos (nI_le (by omega) (by omega)), e20, pz_b2, if_pos hx1.symm, e23, pz_b2, if_pos rfl, e28, pz_b2, eM, pz_b3, e36, pz_b3, if_pos e27, pL_on0, pz_b2, if_pos rfl, pL_on5, pz_b2, if_pos rfl, pL_wm10, pz_b2, if_pos rfl, pL_wb0, pz_b2, if_pos rfl, pL_sfn H28, pz_b2, if_pos rfl, e63, pz_b2, if_neg (by decide)]
  | succ d ih =>
    intro i fuel w hi hfu H
    have hn := H.1.1
    obtain ⟨fuel, rfl⟩ : ∃ g, fuel = g + 1 := ⟨fuel - 1, by omega⟩
    have hin : i < sN S := by omega
    obtain ⟨w66, e66, H66⟩ := pL_sf H hs es hin
    have e4 : fL_of w66 (nI i) 4 = some (sP S i 4, w66) := pL_of H66 hin (k := 4) (by decide)
    rw [fL_shaken_L279, if_neg (nI_ge hin (by omega)), e66, pz_b2, e4, pz_b2]
    by_cases z : sP S i 4 = 1
    · rw [if_pos z, if_pos (if_pos z), pz_nm, nI_1]
      exact ih (i + 1) fuel w66 (by omega) (by omega) H66
    · rw [if_neg z, if_pos (pz_qin hin (by omega)), pz_nI (by omega), hf i hin, if_pos (if_neg z), pz_nm, nI_1]
      exact ih (i + 1) fuel w66 (by omega) (by omega) H66
theorem pk_223 {n s k : Nat} {S : pSt} {k201 : qMem → Nat → (Nat → Nat → Int32) → Nat → (Nat → Int32) → Int32 → Int32 → Int32 → Int32 → Option (Int32 × qMem)} {w : qMem} {M : Nat → Nat → Int32} {x1 x3 : Int32} (hn : n ≤ 12) (hk : k < 30) (hM : gM n M (sP (pIt s S (k + 1)))) : ∀ (d i fuel : Nat) (f188 : Nat → Int32), i + d = n → d < fuel → (∀ j, j < n → f188 j = pBy s S j (if j < i then k + 1 else k)) → ∃ f1 : Nat → Int32, fL_shaken_L223 k201 fuel w n M n f188 x1 x3 (nI n) (nI (k + 1)) (nI i) = k201 w n M n f1 x1 x3 (nI n) (nI (k + 1 + 1)) ∧ ∀ j, j < n → f1 j = pBy s S j (k + 1) := by
  intro d
  induction d with
  | zero =>
    intro i fuel f188 hi hfu h
    obtain ⟨fuel, rfl⟩ : ∃ g, fuel = g + 1 := ⟨fuel - 1, by omega⟩
    have : i = n := by omega
    subst this
    refine ⟨f188, by rw [fL_shaken_L223, if_pos (nI_le (by omega) (by omega)), pz_nm, nI_1], fun j hj => ?_⟩
    rw [h j hj, if_pos hj]
  | succ d ih =>
    intro i fuel f188 hi hfu h
    obtain ⟨fuel, rfl⟩ : ∃ g, fuel = g + 1 := ⟨fuel - 1, by omega⟩
    have hin : i < n := by omega
    have qi := pz_qin hin (by omega : n < 2 ^ 31)
    have hi0 : f188 i = pBy s S i k := by rw [h i hin, if_neg (by omega)]
    have same : ∀ v : Int32, v = pBy s S i (k + 1) → ∀ j, j < n → upd f188 i v j = pBy s S j (if j < i + 1 then k + 1 else k) := by
      intro v hv j hj
      by_cases z : j = i
      · subst z; rw [pz_u, if_pos (by omega)]; exact hv
      · rw [pz_un z, h j hj]
        by_cases y : j < i
        · rw [if_pos y, if_pos (by omega)]
        · rw [if_neg y, if_neg (by omega)]
    have stay : f188 i = pBy s S i (k + 1) → ∃ f1 : Nat → Int32, fL_shaken_L258 (fL_shaken_L223 k201 fuel) w n M n f188 x1 x3 (nI n) (nI (k + 1)) (nI i) (nI i) = k201 w n M n f1 x1 x3 (nI n) (nI (k + 1 + 1)) ∧ ∀ j, j < n → f1 j = pBy s S j (k + 1) := by
      intro hv
      unfold fL_shaken_L258
      rw [if_pos qi, if_pos qi, pz_nI (by omega), pz_nm, pz_nm, nI_1]
      exact ih (i + 1) fuel _ (by omega) (by omega) (same _ hv)
    rw [fL_shaken_L223, if_neg (nI_ge hin (by omega)), if_pos qi, pz_nI (by omega)]
    by_cases z : f188 i = 0
    · have z' : pBy s S i k = 0 := by rw [← hi0]; exact z
      rw [if_pos z, if_pos qi, pz_nm, hM i hin 4 (by decide)]
      by_cases y : sP (pIt s S (k + 1)) i 4 = 1
      · rw [if_pos y, if_pos qi, pz_nm, pz_nm, nI_1]
        exact ih (i + 1) fuel _ (by omega) (by omega) (same _ (by simp only [pBy]; rw [if_pos z', if_pos y]))
      · rw [if_neg y]
        exact stay (by rw [z]; simp only [pBy]; rw [if_pos z', if_neg y])
    · rw [if_neg z]
      exact stay (by rw [hi0]; simp only [pBy]; rw [if_neg (fun y => z (by rw [hi0]; exact y))])
theorem pk_201 {T s : Nat} {w : qMem} {S : pSt} {L : List pSt} {x1 : Int32} (H : pIc T w S L) (hs : s ≤ 9) (es : sG S 0 = nI s) (hx1 : x1 = nI (pBs S 8)) : ∀ (d k fuel : Nat) (M : Nat → Nat → Int32) (f188 : Nat → Int32), k + d = 30 → d < fuel → gM (sN S) M (sP (pIt s S k)) → (∀ j, j < sN S → f188 j = pBy s S j k) → ∃ w1 : qMem, fL_shaken_L201 fuel w (sN S) M (sN S) f188 x1 (pLs S 9) (nI (sN S)) (nI (k + 1)) = some (1, w1) ∧ pIc T w1 S L := by
  have hn := H.1.1
  intro d
  induction d with
  | zero =>
    intro k fuel M f188 hk hfu hM hf
    obtain ⟨fuel, rfl⟩ : ∃ g, fuel = g + 1 := ⟨fuel - 1, by omega⟩
    have : k = 30 := by omega
    subst this
    rw [fL_shaken_L201, if_pos (by decide)]
    exact pk_279 hs es hx1 hf (sN S) 0 13 w (by omega) (by omega) H
  | succ d ih =>
    intro k fuel M f188 hk hfu hM hf
    obtain ⟨fuel, rfl⟩ : ∃ g, fuel = g + 1 := ⟨fuel - 1, by omega⟩
    have e5 : pAc S 5 = nI s := es
    have hWk := pIt_W hs H.1 k
    obtain ⟨f83, M84, e83, -, -, h84⟩ := pg_shocks (P := sP (pIt s S k)) hn hs (fun j hj => hWk.2.1 j (by rw [pIt_N]; exact hj)) hM
    rw [fL_shaken_L201, if_neg (show ¬ (30 : Int32) < nI (k + 1) from nI_nlt (a := 30) (b := k + 1) (by omega) (by omega)), show (5 : Int32) = nI 5 from rfl, pa_acc H (by decide), pz_b3, if_pos rfl, e5, e83, pz_b2]
    have h84' : gM (sN S) M84 (sP (pIt s S (k + 1))) := by
      show gM (sN S) M84 (pP3 (sN (pIt s S k)) s (sP (pIt s S k)))
      rw [pIt_N]; exact h84
    obtain ⟨f1, e1, g1⟩ := pk_223 (k201 := fL_shaken_L201 fuel) (w := w) (x1 := x1) (x3 := pLs S 9) hn (by omega : k < 30) h84' (sN S) 0 13 f188 (by omega) (by omega) (fun j hj => by rw [if_neg (by omega)]; exact hf j hj)
    obtain ⟨w1, e2, H1⟩ := ih (k + 1) fuel M84 f1 (by omega) (by omega) h84' g1
    exact ⟨w1, e1.trans e2, H1⟩
def pX1 (S : pSt) (i : Nat) : Int32 := if i = 0 then 0 else nI (pBs S (i - 1))
def pX2 (S : pSt) (i : Nat) : Int32 := if i = 0 then -1 else pMa (sN S) (pBs S (i - 1)) (sP S)
theorem pX_step {T : Nat} {S : pSt} (hW : pW T S) (i : Nat) (hi : i < 9) : pX1 S (i + 1) = (if pMa (sN S) (i + 1) (sP S) ≤ pX2 S i then pX1 S i else nI (i + 1)) ∧ pX2 S (i + 1) = if pX2 S i < pMa (sN S) (i + 1) (sP S) then pMa (sN S) (i + 1) (sP S) else pX2 S i := by
  cases i with
  | zero =>
    obtain ⟨y, hy, ey⟩ := pMa_n (n := sN S) (a := 1) (by decide) hW.2.1
    have h0 : (0 : Int32) ≤ pMa (sN S) (0 + 1) (sP S) := by
      show (0 : Int32) ≤ pMa (sN S) 1 (sP S)
      rw [ey]; exact nI_nn _ (by have := hW.1; omega)
    have h1 : ¬ pMa (sN S) (0 + 1) (sP S) ≤ pX2 S 0 := by
      intro z
      have z : pMa (sN S) (0 + 1) (sP S) ≤ -1 := z
      rw [Int32.le_iff_toInt_le] at h0 z
      have e0 : (0 : Int32).toInt = 0 := by decide
      have e1 : (-1 : Int32).toInt = -1 := by decide
      omega
    rw [if_neg h1, if_pos (pj_lt_of_not_le h1)]
    exact ⟨rfl, rfl⟩
  | succ i =>
    have e1 : pX1 S (i + 1 + 1) = nI (pBs S (i + 1)) := rfl
    have e2 : pX2 S (i + 1 + 1) = pMa (sN S) (pBs S (i + 1)) (sP S) := rfl
    have e3 : pX1 S (i + 1) = nI (pBs S i) := rfl
    have e4 : pX2 S (i + 1) = pMa (sN S) (pBs S i) (sP S) := rfl
    rw [e1, e2, e3, e4]
    simp only [pBs]
    by_cases z : pMa (sN S) (i + 2) (sP S) ≤ pMa (sN S) (pBs S i) (sP S)
    · have z' : ¬ pMa (sN S) (pBs S i) (sP S) < pMa (sN S) (i + 1 + 1) (sP S) := pj_lt.mpr z
      rw [if_pos z, if_pos z, if_neg z']
      exact ⟨rfl, rfl⟩
    · rw [if_neg z, if_neg z, if_pos (pj_lt_of_not_le z)]
      exact ⟨rfl, rfl⟩
theorem pk_26 {T : Nat} {S : pSt} {L : List pSt} {k10 : qMem → Int32 → Int32 → Int32 → Int32 → Option (Int32 × qMem)} {i : Nat} (hi : i < 9) {M : Nat → Nat → Int32} (hM : gM (sN S) M (sP S)) : ∀ (d f fuel : Nat) (w : qMem), f + d = 5 → d < fuel → pIc T w S L → ∃ w1 : qMem, fL_shaken_L26 k10 fuel w (sN S) M (pX1 S i) (pX2 S i) (pLs S i) (nI (i + 1)) (nI f) = k10 w1 (pX1 S (i + 1)) (pX2 S (i + 1)) (pLs S (i + 1)) (nI (i + 1 + 1)) ∧ pIc T w1 S L := by
  intro d
  induction d with
  | zero =>
    intro f fuel w hf hfu H
    have hn := H.1.1
    obtain ⟨fuel, rfl⟩ : ∃ g, fuel = g + 1 := ⟨fuel - 1, by omega⟩
    obtain ⟨f83, M84, e83, p0, p1, -⟩ := pg_shocks (a := i + 1) hn (by omega) H.1.2.1 hM
    obtain ⟨w115, e115, H115⟩ := pL_wm H (show 1 ≤ i + 1 by omega) (by omega)
    obtain ⟨w119, e119, H119⟩ := pL_wb H115 (show 1 ≤ i + 1 by omega) (by omega) 0
    obtain ⟨w123, e123, H123⟩ := pL_wb H119 (show 1 ≤ i + 1 by omega) (by omega) 1
    obtain ⟨s1, s2⟩ := pX_step H.1 i hi
    have l129 : ∀ a b c : Int32, fL_shaken_L129 k10 w f83 a b (nI (i + 1)) c = k10 w123 a b c (nI (i + 1 + 1)) := fun a b c => by
      unfold fL_shaken_L129
      rw [e115, pz_b2, if_pos p0.symm, e119, pz_b2, if_pos p1.symm, e123, pz_b2, if_pos p1.symm, pz_nm, nI_1]
    have l102 : ∀ a : Int32, fL_shaken_L102 k10 w f83 (pX2 S i) (pLs S i) (nI (i + 1)) a = k10 w123 a (pX2 S (i + 1)) (pLs S (i + 1)) (nI (i + 1 + 1)) := fun a => by
      unfold fL_shaken_L102
      rw [p0, ← s2, pz_nm, p1]
      simp only [pLs]
      by_cases z : 0 ≤ pLs S i
      · rw [if_pos z, if_pos z, l129]
      · rw [if_neg z, if_neg z]
        by_cases y : pBr (sN S) (i + 1) (sP S) ≤ 0
        · rw [if_pos y, if_pos y, l129]
        · rw [if_neg y, if_neg y, l129]
    refine ⟨w123, ?_, H123⟩
    rw [fL_shaken_L26, show f = 5 by omega, if_pos (by decide), e83, pz_b2, p0, s1]
    by_cases z : pMa (sN S) (i + 1) (sP S) ≤ pX2 S i
    · rw [if_pos z, if_pos z, l102]
    · rw [if_neg z, if_neg z, l102]
  | succ d ih =>
    intro f fuel w hf hfu H
    have hn := H.1.1
    obtain ⟨fuel, rfl⟩ : ∃ g, fuel = g + 1 := ⟨fuel - 1, by omega⟩
    obtain ⟨w1, e1, H1⟩ := pL_on H (show 1 ≤ i + 1 by omega) (by omega) (show f < 5 by omega) 0
    obtain ⟨w2, e2, H2⟩ := pL_on H1 (show 1 ≤ i + 1 by omega) (by omega) (show f < 5 by omega) 1
    rw [fL_shaken_L26, if_neg (show ¬ (5 : Int32) ≤ nI f from nI_ge (b := 5) (by omega) (by decide)), pg_there (a := i + 1) hn (by omega) (by omega) H.1.2.1 hM, pz_b2, e1, pz_b2, if_pos rfl, e2, pz_b2, if_pos rfl, pz_nm, nI_1]
    exact ih (f + 1) fuel w2 (by omega) (by omega) H2
/-- the law's shaking tells what the class tells -/
theorem pure_shaken {T : Nat} {w : qMem} {S : pSt} {L : List pSt} (H : pIc T w S L) : ∃ w1 : qMem, fL_shaken w = some (1, w1) ∧ pIc T w1 S L := by
  obtain ⟨s, hs1, hs9, es⟩ := H.1.2.2.2.2.1
  have go : ∀ (d i fuel : Nat) (w : qMem), i + d = 9 → d < fuel → pIc T w S L → ∃ w1 : qMem, fL_shaken_L10 fuel w (pX1 S i) (pX2 S i) (pLs S i) (nI (i + 1)) = some (1, w1) ∧ pIc T w1 S L := by
    intro d
    induction d with
    | zero =>
      intro i fuel w hi hfu H
      have hn := H.1.1
      obtain ⟨fuel, rfl⟩ : ∃ g, fuel = g + 1 := ⟨fuel - 1, by omega⟩
      have : i = 9 := by omega
      subst this
      obtain ⟨M, eM, hM⟩ := pg_props H
      rw [fL_shaken_L10, if_pos (by decide), pa_0, pz_b3, if_pos rfl, H.n, if_pos (pz_qin (by omega) (by decide)), pz_nI (by omega), pz_nm, eM, pz_b3]
      exact pk_201 H hs9 es rfl 30 0 31 M (fun _ => 0) (by omega) (by omega) hM (fun j _ => rfl)
    | succ d ih =>
      intro i fuel w hi hfu H
      obtain ⟨fuel, rfl⟩ : ∃ g, fuel = g + 1 := ⟨fuel - 1, by omega⟩
      obtain ⟨M, eM, hM⟩ := pg_props H
      rw [fL_shaken_L10, if_neg (show ¬ (10 : Int32) ≤ nI (i + 1) from nI_ge (b := 10) (by omega) (by decide)), eM, pz_b3]
      obtain ⟨w1, e1, H1⟩ := pk_26 (k10 := fL_shaken_L10 fuel) (show i < 9 by omega) hM 5 0 6 w (by omega) (by omega) H
      obtain ⟨w2, e2, H2⟩ := ih (i + 1) fuel w1 (by omega) (by omega) H1
      exact ⟨w2, e1.trans e2, H2⟩
  exact go 9 0 10 w (by omega) (by omega) H
