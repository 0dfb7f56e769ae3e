-- what the class tells, asked by the law
section
variable {T : Nat} {w : qMem} {S : pSt} {L : List pSt}
theorem pIc.th {w1 : qMem} (H : pIc T w S L) (f : ∀ c, (c < 19 ∨ 38 ≤ c) → w1 c = w c) : pIc T w1 S L := H.look (fun c hc => f c (by omega))
theorem pL_on (H : pIc T w S L) {a f : Nat} (h1 : 1 ≤ a) (h9 : a ≤ 9) (hf : f < 5) (x : Int32) : ∃ w1 : qMem, fL_on w (nI a) (nI f) x = some (nI (pRe (sP S) (sN S) a f), w1) ∧ pIc T w1 S L := by
  have hn := H.1.1
  unfold fL_on fX5_on
  rcases pj_str (nI a) with ⟨-, q1⟩ | ⟨q, -⟩
  · rw [q1, pz_b, if_neg (by decide), pz_fl hf, pz_b, if_neg (by decide)]
    by_cases z : x = 0
    · obtain ⟨w1, e1, k1, k2⟩ := pc_spread (h := 0) (by decide) hn h9 H.1.2.1 H.2.1.1
      refine ⟨w1, ?_, H.look (fun c hc => k1 c (by omega) (by omega))⟩
      rw [if_pos z]; unfold fX0_reachFloorByFloor
      rw [e1, pz_b, pc_ro hf, pz_b, k2 f hf, pz_b2]; rfl
    · refine ⟨w, ?_, H⟩
      rw [if_neg z, pc_ra (h := 0) (by decide) hn H.2.1.1 h9 (by omega), pz_b]; rfl
  · exact absurd ⟨a, h1, h9, rfl⟩ q
theorem pL_on0 (w : qMem) : fL_on w 0 0 1 = some (-12, w) := by
  unfold fL_on fX5_on fX5_isStrength
  rw [if_pos (by decide), pz_b, if_pos rfl]; rfl
theorem pL_on5 (w : qMem) : fL_on w 1 5 0 = some (-12, w) := by
  unfold fL_on fX5_on fX5_isStrength fX5_isFloor
  rw [if_neg (by decide), if_neg (by decide), pz_b, if_neg (by decide), if_neg (by decide), if_pos (by decide), pz_b, if_pos rfl]; rfl
theorem pL_wm10 (w : qMem) : fL_wouldMark w 10 = some (-12, w) := by
  unfold fL_wouldMark fX5_wouldMark fX5_requireStrength fX5_isStrength
  rw [if_neg (by decide), if_pos (by decide), pz_b, if_pos rfl, pz_b2, if_neg (by decide)]; rfl
theorem pL_wb0 (w : qMem) : fL_wouldBreak w 0 1 = some (-12, w) := by
  unfold fL_wouldBreak fX5_wouldBreak fX5_requireStrength fX5_isStrength
  rw [if_pos (by decide), pz_b, if_pos rfl, pz_b2, if_neg (by decide)]; rfl
theorem pL_rq {a : Nat} (h1 : 1 ≤ a) (h9 : a ≤ 9) (w : qMem) : fX5_requireStrength w (nI a) = some (0, w) := by
  unfold fX5_requireStrength
  rcases pj_str (nI a) with ⟨-, q1⟩ | ⟨q, -⟩
  · rw [q1, pz_b, if_neg (by decide)]
  · exact absurd ⟨a, h1, h9, rfl⟩ q
theorem pL_wm (H : pIc T w S L) {a : Nat} (h1 : 1 ≤ a) (h9 : a ≤ 9) : ∃ w1 : qMem, fL_wouldMark w (nI a) = some (pMa (sN S) a (sP S), w1) ∧ pIc T w1 S L := by
  obtain ⟨w1, e1, k1⟩ := pc_mt h9 H.1 H.2.1
  refine ⟨w1, ?_, H.th k1⟩
  unfold fL_wouldMark fX5_wouldMark
  rw [pL_rq h1 h9, pz_b2, if_pos rfl, e1, pz_b2]; rfl
theorem pL_wb (H : pIc T w S L) {a : Nat} (h1 : 1 ≤ a) (h9 : a ≤ 9) (x : Int32) : ∃ w1 : qMem, fL_wouldBreak w (nI a) x = some (pBr (sN S) a (sP S), w1) ∧ pIc T w1 S L := by
  unfold fL_wouldBreak fX5_wouldBreak
  rw [pL_rq h1 h9, pz_b2, if_pos rfl]
  by_cases z : x = 0
  · obtain ⟨w1, e1, k1⟩ := pc_bt h9 H.1 H.2.1
    exact ⟨w1, by rw [if_pos z, e1, pz_b2]; rfl, H.th k1⟩
  · exact ⟨w, by rw [if_neg z, pc_bp (h := 0) (by decide) h9 H.1 H.2.1, pz_b]; rfl, H⟩
theorem pL_best (H : pIc T w S L) : ∃ w1 : qMem, fX5_best w = some (nI (pBs S 8), w1) ∧ pIc T w1 S L := by
  obtain ⟨w5, e5, k5⟩ := pc_mt (a := 1) (by decide) H.1 H.2.1
  obtain ⟨w1, e1, k1⟩ := pc_bs H.1 8 0 100 w5 (by omega) (by omega) (H.th k5).2.1
  refine ⟨w1, ?_, (H.th k5).th k1⟩
  have e5 : fX5_marksInThought w 1 = some (pMa (sN S) 1 (sP S), w5) := e5
  unfold fX5_best
  rw [e5, pz_b2]
  exact e1
theorem pL_pb (H : pIc T w S L) : ∃ w1 : qMem, fX5_programmeBreaks w = some (sG (pfX S).1 4 - sG S 4, w1) ∧ pIc T w1 S L := by
  obtain ⟨w2, e2, k2, k3⟩ := pc_copy (h := 1) (h1 := 0) (by decide) (by decide) (by decide) H.1 H.2.1
  obtain ⟨w5, e5, k5, k6⟩ := pc_perf (h := 1) (by decide) H.1 k2
  have w5f : ∀ c, (c < 19 ∨ 38 ≤ c) → w5 c = w c := fun c hc => by rw [k6 c (by omega), k3 c (by omega)]
  have h9 : w5 19 9 = sG (pfX S).1 4 := k5.2.2.2 4 (by decide)
  have h0 : w5 0 9 = sG S 4 := by rw [w5f 0 (by omega)]; exact H.2.1.2.2.2 4 (by decide)
  refine ⟨w5, ?_, H.th w5f⟩
  unfold fX5_programmeBreaks
  rw [e2, pz_b, e5, pz_b2, h9, h0]
theorem pL_well (H : pIc T w S L) : ∃ w1 : qMem, fX5_isWell w = some (1, w1) ∧ pIc T w1 S L := by
  obtain ⟨w2, e2, k2⟩ := pc_ib H.1 9 1 100 w (by omega) (by omega) H.2.1
  have H2 : pIc T w2 S L := H.look (fun c hc => k2 c (by omega) (by omega))
  obtain ⟨w3, e3, k3⟩ := pc_ic H.1 9 1 100 w2 (by omega) (by omega) H2.2.1
  have H3 : pIc T w3 S L := H2.th k3
  have e4 : fX0_isDamageRight w3 0 = some 1 := pc_dr (by decide) H.1.1 H.1.2.1 H3.2.1.1 (sN S) 0 100 (by omega) (by have := H.1.1; omega)
  refine ⟨w3, ?_, H3⟩
  have e2' : fX5_isReachAlike w = some (1, w2) := e2
  have e3' : fX5_areBreakagesAlike w2 = some (1, w3) := e3
  unfold fX5_isWell
  rw [e2', pz_b2, if_neg (by decide), e3', pz_b2, if_neg (by decide), e4, pz_b, if_neg (by decide)]
end
/-- the least strength that breaks something, of the first i -/
def pLs (S : pSt) : Nat → Int32
  | 0 => -13
  | i + 1 => if 0 ≤ pLs S i then pLs S i else if pBr (sN S) (i + 1) (sP S) ≤ 0 then pLs S i else nI (i + 1)
theorem pLs_stay {S : pSt} {i : Nat} (h : 0 ≤ pLs S i) : ∀ d, pLs S (i + d) = pLs S i
  | 0 => rfl
  | d + 1 => by
    have e := pLs_stay h d
    show (if 0 ≤ pLs S (i + d) then pLs S (i + d) else _) = _
    rw [e, if_pos h]
theorem pL_lb_ {T : Nat} {S : pSt} (hW : pW T S) : ∀ (d i fuel : Nat) (w : qMem), i + d = 9 → d < fuel → pH w 0 S → pLs S i = -13 → ∃ w1 : qMem, qlw [4] [(-13)] (fX5_leastBreaking_L2 fuel w (nI (i + 1))) = some (pLs S 9, w1) ∧ ∀ c, (c < 19 ∨ 38 ≤ c) → w1 c = w c := by
  intro d
  induction d with
  | zero =>
    intro i fuel w hi hfu H h13
    obtain ⟨fuel, rfl⟩ : ∃ g, fuel = g + 1 := ⟨fuel - 1, by omega⟩
    have : i = 9 := by omega
    subst this
    exact ⟨w, by rw [fX5_leastBreaking_L2, if_pos (by decide), h13]; rfl, fun _ _ => rfl⟩
  | succ d ih =>
    intro i fuel w hi hfu H h13
    obtain ⟨fuel, rfl⟩ : ∃ g, fuel = g + 1 := ⟨fuel - 1, by omega⟩
    obtain ⟨w4, e4, k4⟩ := pc_bt (a := i + 1) (by omega) hW H
    rw [fX5_leastBreaking_L2, if_neg (show ¬ (9 : Int32) < nI (i + 1) from nI_nlt (a := 9) (b := i + 1) (by omega) (by omega)), e4, pz_b2]
    have n13 : ¬ (0 : Int32) ≤ -13 := by decide
    by_cases z : pBr (sN S) (i + 1) (sP S) ≤ 0
    · rw [if_pos z, pz_nm, nI_1]
      obtain ⟨w1, e1, k1⟩ := ih (i + 1) fuel w4 (by omega) (by omega) (ph_same hW (fun c _ h2 => k4 c (by omega)) H) (by simp only [pLs]; rw [h13, if_neg n13, if_pos z])
      exact ⟨w1, e1, fun c hc => (k1 c hc).trans (k4 c hc)⟩
    · have e : pLs S (i + 1) = nI (i + 1) := by simp only [pLs]; rw [h13, if_neg n13, if_neg z]
      have e9 := pLs_stay (S := S) (i := i + 1) (by rw [e]; exact nI_nn _ (by omega)) d
      rw [show i + 1 + d = 9 by omega] at e9
      exact ⟨w4, by rw [if_neg z, qlw_0, e9, e], k4⟩
theorem pL_lb {T : Nat} {w : qMem} {S : pSt} {L : List pSt} (H : pIc T w S L) : ∃ w1 : qMem, fL_leastBreaking w = some (pLs S 9, w1) ∧ pIc T w1 S L := by
  obtain ⟨w1, e1, k1⟩ := pL_lb_ H.1 9 0 100 w (by omega) (by omega) H.2.1 rfl
  exact ⟨w1, e1, H.th k1⟩
/-- the state after k shocks of strength s -/
def pIt (s : Nat) (S : pSt) : Nat → pSt
  | 0 => S
  | k + 1 => sShk s (pIt s S k)
def pBy (s : Nat) (S : pSt) (i : Nat) : Nat → Int32
  | 0 => 0
  | k + 1 => if pBy s S i k = 0 then (if sP (pIt s S (k + 1)) i 4 = 1 then nI (k + 1) else 0) else pBy s S i k
theorem pIt_N (s : Nat) (S : pSt) : ∀ k, sN (pIt s S k) = sN S
  | 0 => rfl
  | k + 1 => pIt_N s S k
theorem pIt_W {s T : Nat} {S : pSt} (hs : s ≤ 9) (hW : pW T S) : ∀ k, pW (T + 6 * k) (pIt s S k)
  | 0 => hW
  | k + 1 => (sShk_W hs (pIt_W hs hW k)).mo (by omega)
theorem pBy_stay {s : Nat} {S : pSt} {i k : Nat} (h : ¬ pBy s S i k = 0) : ∀ d, pBy s S i (k + d) = pBy s S i k
  | 0 => rfl
  | d + 1 => by
    have e := pBy_stay h d
    show (if pBy s S i (k + d) = 0 then _ else pBy s S i (k + d)) = _
    rw [e, if_neg h]
theorem pL_sf_ {s i T : Nat} {S : pSt} (hs : s ≤ 9) (hW : pW T S) (hi : i < sN S) : ∀ (d j fuel : Nat) (w : qMem), j + d = 30 → d < fuel → pH w 1 (pIt s S j) → w 0 5 = nI s → pBy s S i j = 0 → ∃ w1 : qMem, fX5_shocksFor_L26 fuel w (nI i) (nI (j + 1)) = some (0, pBy s S i 30, w1) ∧ ∀ c, (c < 19 ∨ 38 ≤ c) → w1 c = w c := by
  have hn := hW.1
  intro d
  induction d with
  | zero =>
    intro j fuel w hj hfu H h5 hb
    obtain ⟨fuel, rfl⟩ : ∃ g, fuel = g + 1 := ⟨fuel - 1, by omega⟩
    have : j = 30 := by omega
    subst this
    exact ⟨w, by rw [fX5_shocksFor_L26, if_pos (by decide), hb], fun _ _ => rfl⟩
  | succ d ih =>
    intro j fuel w hj hfu H h5 hb
    obtain ⟨fuel, rfl⟩ : ∃ g, fuel = g + 1 := ⟨fuel - 1, by omega⟩
    have hWj := pIt_W hs hW j
    obtain ⟨w13, e13, k1, k2⟩ := pc_shock (h := 1) (by decide) hs hWj H
    have k2' : ∀ c, (c < 19 ∨ 38 ≤ c) → w13 c = w c := fun c hc => k2 c (by omega)
    have hij : i < sN (pIt s S (j + 1)) := by rw [pIt_N]; exact hi
    have g4 : w13 (19 * 1 + 2 + i) 4 = sP (pIt s S (j + 1)) i 4 := k1.1.2 i hij 4 (by decide)
    have hb4 := ((pIt_W hs hW (j + 1)).2.1 i hij).b4
    rw [fX5_shocksFor_L26, if_neg (show ¬ (30 : Int32) < nI (j + 1) from nI_nlt (a := 30) (b := j + 1) (by omega) (by omega)), h5, e13, pz_b2, pz_at (h := 1) (by decide) (by rw [pIt_N]; exact hn) hij k1.1.1, pz_b, if_pos (pz_P (by decide) (by omega)), g4]
    rcases hb4 with z | z
    · rw [if_pos z, pz_nm, nI_1]
      obtain ⟨w1, q1, q2⟩ := ih (j + 1) fuel w13 (by omega) (by omega) k1 (by rw [k2' 0 (by omega)]; exact h5) (by simp only [pBy]; rw [if_pos hb, if_neg (by rw [z]; decide)])
      exact ⟨w1, q1, fun c hc => (q2 c hc).trans (k2' c hc)⟩
    · have e : pBy s S i (j + 1) = nI (j + 1) := by simp only [pBy]; rw [if_pos hb, if_pos z]
      have e30 := pBy_stay (s := s) (S := S) (i := i) (k := j + 1) (by rw [e]; exact nI_ne0 (by omega) (by omega)) d
      rw [show j + 1 + d = 30 by omega] at e30
      exact ⟨w13, by rw [if_neg (by rw [z]; decide), e30, e], k2'⟩
theorem pL_sf {T s i : Nat} {w : qMem} {S : pSt} {L : List pSt} (H : pIc T w S L) (hs : s ≤ 9) (es : sG S 0 = nI s) (hi : i < sN S) : ∃ w1 : qMem, fL_shocksFor w (nI i) = some (if sP S i 4 = 1 then 0 else pBy s S i 30, w1) ∧ pIc T w1 S L := by
  have q := pz_P (h := 0) (i := i) (by decide) (by have := H.1.1; omega)
  rw [show 19 * 0 + 2 + i = 2 + i by omega] at q
  unfold fL_shocksFor fX5_shocksFor
  rw [pa_num H hi, pz_b3, if_pos rfl, if_pos q, H.at hi 4 (by decide)]
  rcases (H.wf hi).b4 with z | z
  · obtain ⟨w9, e9, k1, k2⟩ := pc_copy (h := 1) (h1 := 0) (by decide) (by decide) (by decide) H.1 H.2.1
    have h5 : w9 0 5 = nI s := by rw [k2 0 (by omega)]; exact (H.2.1.2.2.2 0 (by decide)).trans es
    obtain ⟨w1, g1, g2⟩ := pL_sf_ hs H.1 hi 30 0 100 w9 (by omega) (by omega) k1 h5 rfl
    have g1 : fX5_shocksFor_L26 100 w9 (nI i) 1 = some (0, pBy s S i 30, w1) := g1
    refine ⟨w1, ?_, H.th (fun c hc => (g2 c hc).trans (k2 c (by omega)))⟩
    rw [if_pos z, e9, pz_b, g1, qlw_0, if_neg (by rw [z]; decide)]
  · exact ⟨w, by rw [if_neg (by rw [z]; decide), qlw_0, if_pos z], H⟩
theorem pL_sfn {T : Nat} {w : qMem} {S : pSt} {L : List pSt} (H : pIc T w S L) : fL_shocksFor w (nI (sN S)) = some (-11, w) := by
  have hn := H.1.1
  unfold fL_shocksFor fX5_shocksFor
  rw [pa_num1 H (Or.inr ⟨nI_pos (by omega), nI_nlt (Nat.le_refl _) (by omega)⟩), pz_b3, if_neg (by decide)]; rfl
