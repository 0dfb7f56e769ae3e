-- is well
theorem pc_ia {T a : Nat} {S : pSt} {k2 : qMem → Int32 → Option (Int32 × qMem)} (ha : a ≤ 9) (hW : pW T S) : ∀ (d i fuel : Nat) (w : qMem), i + d = 5 → d < fuel → pH w 0 S → ∃ w1 : qMem, fX5_isReachAlike_L10 k2 fuel w (nI a) (nI i) = k2 w1 (nI (a + 1)) ∧ ∀ c, c ≠ 16 → c ≠ 17 → w1 c = w c
  | 0, i, fuel + 1, w, e, _, H => by
    have e : i = 5 := by omega
    subst e
    refine ⟨w, ?_, fun _ _ _ => rfl⟩
    simp only [fX5_isReachAlike_L10, pz_nm, nI_1]
    rw [if_pos (by decide)]
  | d + 1, i, fuel + 1, w, e, hf, H => by
    obtain ⟨w1, e1, k1, r1⟩ := pc_spread (h := 0) (by decide) hW.1 ha hW.2.1 H.1
    have H1 : pH w1 0 S := ph_cg2 hW (fun c c1 c2 => k1 c (by omega) (by omega)) H
    obtain ⟨w2, e2, k3⟩ := pc_ia (k2 := k2) ha hW d (i + 1) fuel w1 (by omega) (by omega) H1
    refine ⟨w2, ?_, fun c h1 h2 => by rw [k3 c h1 h2, k1 c h1 h2]⟩
    have eF : fX0_reachFloorByFloor w 0 (nI a) (nI i) = some (nI (pRe (sP S) (sN S) a i), w1) := by
      unfold fX0_reachFloorByFloor
      rw [e1, pz_b, pc_ro (by omega), pz_b, r1 i (by omega)]
    have eA : fX0_reachAgain w1 0 (nI a) (nI i) = some (nI (pRe (sP S) (sN S) a i)) := pc_ra (h := 0) (by decide) hW.1 H1.1 ha (by omega)
    simp only [fX5_isReachAlike_L10, eF, pz_b2, eA, pz_b, pz_nm, nI_1]
    rw [if_neg (pz_5 (by omega)), if_pos trivial]
    exact e2
theorem pc_ib {T : Nat} {S : pSt} (hW : pW T S) : ∀ (d i fuel : Nat) (w : qMem), i + d = 10 → d < fuel → pH w 0 S → ∃ w1 : qMem, fX5_isReachAlike_L2 fuel w (nI i) = some (1, w1) ∧ ∀ c, c ≠ 16 → c ≠ 17 → w1 c = w c
  | 0, i, fuel + 1, w, e, _, H => by
    have e : i = 10 := by omega
    subst e
    refine ⟨w, ?_, fun _ _ _ => rfl⟩
    simp only [fX5_isReachAlike_L2]
    rw [if_pos (by decide)]
  | d + 1, i, fuel + 1, w, e, hf, H => by
    obtain ⟨w1, e1, k1⟩ := pc_ia (k2 := fX5_isReachAlike_L2 fuel) (a := i) (by omega) hW 5 0 100 w (by omega) (by omega) H
    obtain ⟨w2, e2, k2⟩ := pc_ib hW d (i + 1) fuel w1 (by omega) (by omega) (ph_cg2 hW (fun c c1 c2 => k1 c (by omega) (by omega)) H)
    refine ⟨w2, ?_, fun c h1 h2 => by rw [k2 c h1 h2, k1 c h1 h2]⟩
    simp only [fX5_isReachAlike_L2]
    rw [if_neg (show ¬ (9 : Int32) < nI i from nI_nlt (a := 9) (b := i) (by omega) (by omega))]
    exact e1.trans e2
theorem pc_ic {T : Nat} {S : pSt} (hW : pW T S) : ∀ (d i fuel : Nat) (w : qMem), i + d = 10 → d < fuel → pH w 0 S → ∃ w1 : qMem, fX5_areBreakagesAlike_L2 fuel w (nI i) = some (1, w1) ∧ ∀ c, (c < 19 ∨ 38 ≤ c) → w1 c = w c
  | 0, i, fuel + 1, w, e, _, H => by
    have e : i = 10 := by omega
    subst e
    refine ⟨w, ?_, fun _ _ => rfl⟩
    simp only [fX5_areBreakagesAlike_L2]
    rw [if_pos (by decide)]
  | d + 1, i, fuel + 1, w, e, hf, H => by
    obtain ⟨w1, e1, k1⟩ := pc_bt (a := i) (by omega) hW H
    have H1 : pH w1 0 S := ph_same hW (fun c c1 c2 => k1 c (by omega)) H
    obtain ⟨w2, e2, k2⟩ := pc_ic hW d (i + 1) fuel w1 (by omega) (by omega) H1
    refine ⟨w2, ?_, fun c hc => (k2 c hc).trans (k1 c hc)⟩
    have eP : fX0_breakagesPropByProp w1 0 (nI i) = some (pBr (sN S) i (sP S)) := pc_bp (by decide) (by omega) hW H1
    simp only [fX5_areBreakagesAlike_L2, e1, pz_b2, eP, pz_b, pz_nm, nI_1]
    rw [if_neg (show ¬ (9 : Int32) < nI i from nI_nlt (a := 9) (b := i) (by omega) (by omega)), if_pos trivial]
    exact e2
theorem pt_51 : ∀ d, d < 4 → ((nI d = 3) ↔ d = 3) := by decide +kernel
theorem pWF.dr {T : Nat} {w : qMem} {c : Nat} {p : Nat → Int32} (h : pWF T p) (e : pAg (w c) p) : fX3_isDamageRight w c = some 1 := by
  obtain ⟨f, m, d, cu, t, ⟨_, _, _, _⟩, _, _, h3, _, _, hk⟩ := h
  unfold fX3_isDamageRight
  rw [e 0 (by decide), e 3 (by decide), e 4 (by decide), h3]
  rcases hk with ⟨h0, _, hd, h4, _⟩ | ⟨h0, _, hd, h4⟩ | ⟨h0, _, _, _⟩
  · rw [if_pos h0, h4]
    by_cases z : d = 3
    · rw [if_pos ((pt_51 d (by omega)).mpr z), if_pos z, if_pos rfl]
    · rw [if_neg (fun y => z ((pt_51 d (by omega)).mp y)), if_neg z, if_pos rfl]
  · rw [if_neg (by rw [h0]; decide), if_pos h0, h4]
    by_cases z : d ≤ 20
    · rw [if_pos ((pt_8 d (by omega)).mpr z), if_neg (show ¬ 20 < d by omega), if_pos rfl]
    · rw [if_neg (fun y => z ((pt_8 d (by omega)).mp y)), if_pos (show 20 < d by omega), if_pos rfl]
  · rw [if_neg (by rw [h0]; decide), if_neg (by rw [h0]; decide)]
theorem pc_dr {w : qMem} {h n T : Nat} {P : Nat → Nat → Int32} (hh : h < 12) (hn : n ≤ 12) (hW : ∀ i, i < n → pWF T (P i)) (H : pHC w h n P) : ∀ (d i fuel : Nat), i + d = n → d < fuel → fX0_isDamageRight_L2 w h fuel (nI i) = some 1
  | 0, i, fuel + 1, e, _ => by
    have e : i = n := by omega
    subst e
    simp only [fX0_isDamageRight_L2, H.1]
    rw [if_pos (pz_ge (Nat.le_refl i) (by omega))]
  | d + 1, i, fuel + 1, e, hf => by
    have hi : i < n := by omega
    have ih := pc_dr hh hn hW H d (i + 1) fuel (by omega) (by omega)
    simp only [fX0_isDamageRight_L2, pz_at hh hn hi H.1, pz_b, pz_nm, (hW i hi).dr (H.2 i hi), nI_1]
    rw [if_neg (by rw [H.1]; exact nI_ge hi (by omega)), if_pos (pz_P hh (by omega)), if_neg (by decide)]
    exact ih
-- the numbers with a point
def pGr (P : Nat → Nat → Int32) : Nat → Nat
  | 0 => 0
  | i + 1 => pGr P i + (if P i 0 = 1 then (P i 2).toNatClampNeg else 0)
theorem pGr_le {T : Nat} {P : Nat → Nat → Int32} : ∀ n, (∀ i, i < n → pWF T (P i)) → pGr P n ≤ 9 * n
  | 0, _ => Nat.le_refl 0
  | n + 1, h => by
    have := pGr_le n (fun i hi => h i (by omega))
    obtain ⟨f, m, d, cu, t, ⟨_, hm, _, _⟩, _, h2, _⟩ := h n (by omega)
    have e : (P n 2).toNatClampNeg = m := by rw [h2]; exact nI_clamp (by omega)
    simp only [pGr]; rw [e]; split <;> omega
theorem pGr_v {T : Nat} {p : Nat → Int32} (h : pWF T p) : p 2 = nI (p 2).toNatClampNeg := by
  obtain ⟨f, m, d, cu, t, ⟨_, hm, _, _⟩, _, h2, _⟩ := h
  rw [h2, nI_clamp (by omega)]
theorem pc_sg {w : qMem} {h n T : Nat} {P : Nat → Nat → Int32} (hh : h < 12) (hn : n ≤ 12) (hW : ∀ i, i < n → pWF T (P i)) (H : pHC w h n P) : ∀ (d i fuel : Nat), i + d = n → d < fuel → fX0_sumOfGrades_L4 w h fuel (nI (pGr P i)) (nI i) = some (nI (pGr P n))
  | 0, i, fuel + 1, e, _ => by
    have e : i = n := by omega
    subst e
    simp only [fX0_sumOfGrades_L4, H.1]
    rw [if_pos (pz_ge (Nat.le_refl i) (by omega))]
  | d + 1, i, fuel + 1, e, hf => by
    have hi : i < n := by omega
    have ih := pc_sg hh hn hW H d (i + 1) fuel (by omega) (by omega)
    simp only [fX0_sumOfGrades_L4, pz_at hh hn hi H.1, pz_b, pz_nm]
    rw [if_neg (by rw [H.1]; exact nI_ge hi (by omega)), if_pos (pz_P hh (by omega)), H.2 i hi 0 (by decide), H.2 i hi 2 (by decide), nI_1]
    by_cases h0 : P i 0 = 1
    · have e1 : pGr P (i + 1) = pGr P i + (P i 2).toNatClampNeg := by simp only [pGr]; rw [if_pos h0]
      rw [if_pos h0, pGr_v (hW i hi), nI_add, ← e1]; exact ih
    · have e1 : pGr P (i + 1) = pGr P i := by simp only [pGr]; rw [if_neg h0]; rfl
      rw [if_neg h0, ← e1]; exact ih
theorem pt_60 : ∀ s, s < 109 → ∀ c, c < 13 → 0 < c → qn64 (FP.ddiv (FP.i2d (nI s)) (FP.i2d (nI c))) = true ∧ Op.cmpValue (FP.dcmp (FP.ddiv (FP.i2d (nI s)) (FP.i2d (nI c))) (FP.ddiv (FP.i2d (nI s)) (FP.i2d (nI c)))) .l = 0 := by decide +kernel
theorem pt_61 : ∀ s, s < 13 → ∀ c, c < 13 → 0 < c → qn32 (FP.fdiv (FP.i2f (nI s)) (FP.i2f (nI c))) = true ∧ qn64 (FP.f2d (FP.fdiv (FP.i2f (nI s)) (FP.i2f (nI c)))) = true ∧ Op.cmpValue (FP.dcmp (FP.f2d (FP.fdiv (FP.i2f (nI s)) (FP.i2f (nI c)))) (FP.f2d (FP.fdiv (FP.i2f (nI s)) (FP.i2f (nI c))))) .l = 0 := by decide +kernel
theorem pt_62 : qn64 (FP.f2d 0) = true := by decide +kernel
