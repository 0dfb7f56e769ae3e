-- a hall's props, of the class and of the reference; who stands where
def pHC (w : qMem) (h n : Nat) (P : Nat → Nat → Int32) : Prop := w (19 * h) 2 = nI n ∧ ∀ i, i < n → pAg (w (19 * h + 2 + i)) (P i)
def pCn (P : Nat → Nat → Int32) (k f : Int32) : Nat → Nat
  | 0 => 0
  | i + 1 => pCn P k f i + (if P i 0 = k ∧ P i 1 = f then 1 else 0)
def pKn (P : Nat → Nat → Int32) (k : Int32) : Nat → Nat
  | 0 => 0
  | i + 1 => pKn P k i + (if P i 0 = k then 1 else 0)
theorem pCn_le (P : Nat → Nat → Int32) (k f : Int32) : ∀ i, pCn P k f i ≤ i
  | 0 => Nat.le_refl 0
  | i + 1 => by have := pCn_le P k f i; simp only [pCn]; split <;> omega
theorem pKn_le (P : Nat → Nat → Int32) (k : Int32) : ∀ i, pKn P k i ≤ i
  | 0 => Nat.le_refl 0
  | i + 1 => by have := pKn_le P k i; simp only [pKn]; split <;> omega
theorem pz_ge {i n : Nat} (h : n ≤ i) (hn : i < 2 ^ 31) : nI n ≤ nI i := nI_le h hn
theorem pc_on {w : qMem} {h n : Nat} {P : Nat → Nat → Int32} (hh : h < 12) (hn : n ≤ 12) (H : pHC w h n P) (k f : Int32) : ∀ (d i fuel : Nat), i + d = n → d < fuel → fX0_countOn_L5 w h fuel k f (nI (pCn P k f i)) (nI i) = some (nI (pCn P k f n))
  | 0, i, fuel + 1, e, _ => by
    have e : i = n := by omega
    subst e
    simp only [fX0_countOn_L5, H.1]
    rw [if_pos (pz_ge (Nat.le_refl i) (by omega))]
  | d + 1, i, fuel + 1, e, hf => by
    have hi : i < n := by omega
    simp only [fX0_countOn_L5, pz_at hh hn hi H.1, pz_b, pz_nm]
    rw [if_neg (by rw [H.1]; exact nI_ge hi (by omega)), if_pos (pz_P hh (by omega)), H.2 i hi 0 (by decide), H.2 i hi 1 (by decide), nI_1, nI_1]
    have ih := pc_on hh hn H k f d (i + 1) fuel (by omega) (by omega)
    by_cases h0 : P i 0 = k
    · by_cases h1 : P i 1 = f
      · have e1 : pCn P k f (i + 1) = pCn P k f i + 1 := by simp only [pCn]; rw [if_pos ⟨h0, h1⟩]
        rw [if_pos h0, if_pos h1, ← e1]; exact ih
      · have e1 : pCn P k f (i + 1) = pCn P k f i := by simp only [pCn]; rw [if_neg (fun q => h1 q.2)]; rfl
        rw [if_pos h0, if_neg h1, ← e1]; exact ih
    · have e1 : pCn P k f (i + 1) = pCn P k f i := by simp only [pCn]; rw [if_neg (fun q => h0 q.1)]; rfl
      rw [if_neg h0, ← e1]; exact ih
theorem pc_countOn {w : qMem} {h n : Nat} {P : Nat → Nat → Int32} (hh : h < 12) (hn : n ≤ 12) (H : pHC w h n P) (k f : Int32) : fX0_countOn w h k f = some (nI (pCn P k f n)) := pc_on hh hn H k f n 0 100 (by omega) (by omega)
theorem pc_of_ {w : qMem} {h n : Nat} {P : Nat → Nat → Int32} (hh : h < 12) (hn : n ≤ 12) (H : pHC w h n P) (k : Int32) : ∀ (d i fuel : Nat), i + d = n → d < fuel → fX0_countOf_L4 w h fuel k (nI (pKn P k i)) (nI i) = some (nI (pKn P k n))
  | 0, i, fuel + 1, e, _ => by
    have e : i = n := by omega
    subst e
    simp only [fX0_countOf_L4, H.1]
    rw [if_pos (pz_ge (Nat.le_refl i) (by omega))]
  | d + 1, i, fuel + 1, e, hf => by
    have hi : i < n := by omega
    simp only [fX0_countOf_L4, pz_at hh hn hi H.1, pz_b, pz_nm]
    rw [if_neg (by rw [H.1]; exact nI_ge hi (by omega)), if_pos (pz_P hh (by omega)), H.2 i hi 0 (by decide), nI_1, nI_1]
    have ih := pc_of_ hh hn H k d (i + 1) fuel (by omega) (by omega)
    by_cases h0 : P i 0 = k
    · have e1 : pKn P k (i + 1) = pKn P k i + 1 := by simp only [pKn]; rw [if_pos h0]
      rw [if_pos h0, ← e1]; exact ih
    · have e1 : pKn P k (i + 1) = pKn P k i := by simp only [pKn]; rw [if_neg h0]; rfl
      rw [if_neg h0, ← e1]; exact ih
theorem pc_countOf {w : qMem} {h n : Nat} {P : Nat → Nat → Int32} (hh : h < 12) (hn : n ≤ 12) (H : pHC w h n P) (k : Int32) : fX0_countOf w h k = some (nI (pKn P k n)) := pc_of_ hh hn H k n 0 100 (by omega) (by omega)
-- how strong a shock is on a floor
def pT (P : Nat → Nat → Int32) (n : Nat) : Nat → Nat
  | 0 => 0
  | f + 1 => pT P n f + (if 0 < pCn P 3 (nI f) n then 2 else 1)
def pRe (P : Nat → Nat → Int32) (n a f : Nat) : Nat := a - pT P n f
theorem pT_le (P : Nat → Nat → Int32) (n : Nat) : ∀ f, pT P n f ≤ 2 * f
  | 0 => Nat.le_refl 0
  | f + 1 => by have := pT_le P n f; simp only [pT]; split <;> omega
theorem pRe_le (P : Nat → Nat → Int32) (n a f : Nat) : pRe P n a f ≤ a := Nat.sub_le _ _
theorem pt_20 : ∀ a, a < 10 → ∀ t, t < 11 → (if 0 < nI a - nI t then nI a - nI t else 0) = nI (a - t) := by decide +kernel
theorem pt_21 : ∀ x, x < 10 → ((0 ≤ nI x - 1) ↔ 1 ≤ x) ∧ ((0 ≤ nI x - 2) ↔ 2 ≤ x) ∧ (1 ≤ x → nI x - 1 = nI (x - 1)) ∧ (2 ≤ x → nI x - 2 = nI (x - 2)) := by decide +kernel
theorem pT_ge (P : Nat → Nat → Int32) (n : Nat) : ∀ f, f ≤ pT P n f
  | 0 => Nat.le_refl 0
  | f + 1 => by have := pT_ge P n f; simp only [pT]; split <;> omega
theorem pc_ra_ {w : qMem} {h n : Nat} {P : Nat → Nat → Int32} (hh : h < 12) (hn : n ≤ 12) (H : pHC w h n P) {a F : Nat} (ha : a ≤ 9) (hF : F ≤ 5) : ∀ (d i fuel x : Nat), i + d = F → d < fuel → x + i = F + pT P n i → fX0_reachAgain_L5 w h fuel (nI a) (nI F) (nI x) (nI i) = some (nI (pRe P n a F))
  | 0, i, fuel + 1, x, e, _, hx => by
    have e : i = F := by omega
    subst e
    have := pT_le P n i
    have hx : x = pT P n i := by omega
    subst hx
    simp only [fX0_reachAgain_L5]
    rw [if_pos (pz_ge (Nat.le_refl i) (by omega))]
    by_cases q : a ≤ pT P n i
    · rw [if_pos (pz_ge q (by omega)), show pRe P n a i = 0 by unfold pRe; omega]; rfl
    · rw [if_neg (nI_ge (by omega) (by omega))]
      rw [pk_sub (by omega)]
      rfl
  | d + 1, i, fuel + 1, x, e, hf, hx => by
    have hi : i < F := by omega
    simp only [fX0_reachAgain_L5, pc_countOn hh hn H, pz_b, pz_nm]
    rw [if_neg (nI_ge hi (by omega)), nI_1, nI_1]
    have hl := pCn_le P 3 (nI i) n
    by_cases h0 : 0 < pCn P 3 (nI i) n
    · have e1 : pT P n (i + 1) = pT P n i + 2 := by simp only [pT]; rw [if_pos h0]
      rw [if_neg (nI_nle h0 (by omega))]
      exact pc_ra_ hh hn H ha hF d (i + 1) fuel (x + 1) (by omega) (by omega) (by omega)
    · have e1 : pT P n (i + 1) = pT P n i + 1 := by simp only [pT]; rw [if_neg h0]
      rw [if_pos (by rw [show pCn P 3 (nI i) n = 0 by omega]; decide)]
      exact pc_ra_ hh hn H ha hF d (i + 1) fuel x (by omega) (by omega) (by omega)
theorem pc_ra {w : qMem} {h n : Nat} {P : Nat → Nat → Int32} (hh : h < 12) (hn : n ≤ 12) (H : pHC w h n P) {a F : Nat} (ha : a ≤ 9) (hF : F ≤ 5) : fX0_reachAgain w h (nI a) (nI F) = some (nI (pRe P n a F)) :=
  pc_ra_ hh hn H ha hF F 0 100 F (by omega) (by omega) (by simp only [pT])
theorem pz_5 {f : Nat} (h : f < 5) : ¬ (5 : Int32) ≤ nI f := nI_ge (b := 5) h (by omega)
theorem pCn_t {P : Nat → Nat → Int32} {k f : Int32} {i : Nat} (h0 : P i 0 = k) (h1 : P i 1 = f) : pCn P k f (i + 1) = pCn P k f i + 1 := by simp only [pCn]; rw [if_pos ⟨h0, h1⟩]
theorem pCn_f {P : Nat → Nat → Int32} {k f : Int32} {i : Nat} (h : ¬ (P i 0 = k ∧ P i 1 = f)) : pCn P k f (i + 1) = pCn P k f i := by simp only [pCn]; rw [if_neg h]; rfl
theorem pz_fl {w : qMem} {f : Nat} (h : f < 5) : fX5_isFloor w (nI f) = some 1 := by
  unfold fX5_isFloor
  rw [if_neg (nI_pos (by omega)), if_neg (pz_5 h)]
theorem pc_ro {w : qMem} {h f : Nat} (hf : f < 5) : fX0_reachOn w h (nI f) = some (w (19 * h + 17) f) := by
  unfold fX0_reachOn
  rw [pz_fl hf, pz_b, if_neg (by decide), if_pos (pz_qin hf (by omega)), pz_nI (by omega)]
theorem pc_fr {w : qMem} {h f : Nat} (hf : f < 5) : fX0_isFrightening w h (nI f) = some (if w (19 * h + 18) f = 0 then 0 else 1) := by
  unfold fX0_isFrightening
  rw [pz_fl hf, pz_b, if_neg (by decide), if_pos (pz_qin hf (by omega)), pz_nI (by omega)]
  split <;> rfl
theorem pc_nb {w : qMem} {h f : Nat} (hh : h < 12) (hf : f < 5) : fX0_noteBreakage w h (nI f) = some (quw (quw w (19 * h) 9 (w (19 * h) 9 + 1)) (19 * h + 18) f 1) := by
  unfold fX0_noteBreakage
  simp only [pz_nm, pz_fl hf, pz_b]
  rw [if_neg (by decide), if_pos (pz_qin hf (by omega)), pz_nI (by omega)]
-- the class finds its cats and spreads the shock
theorem pc_f1 {h : Nat} : ∀ (d i fuel : Nat) (w : qMem), i + d = 5 → d < fuel → (∀ f, f < i → w (19 * h + 16) f = 0) → ∃ w1 : qMem, fX0_findCats_L2 h fuel w (nI i) = fX0_findCats_L22 h 100 w1 0 ∧ (∀ c, c ≠ 19 * h + 16 → w1 c = w c) ∧ ∀ f, f < 5 → w1 (19 * h + 16) f = 0
  | 0, i, fuel + 1, w, e, _, hw => by
    have e : i = 5 := by omega
    subst e
    refine ⟨w, ?_, fun _ _ => rfl, hw⟩
    simp only [fX0_findCats_L2]
    rw [if_pos (by decide)]
  | d + 1, i, fuel + 1, w, e, hf, hw => by
    have hi : i < 5 := by omega
    obtain ⟨w1, h1, h2, h3⟩ := pc_f1 (h := h) d (i + 1) fuel (quw w (19 * h + 16) i 0) (by omega) (by omega) (fun f hf => by
      by_cases q : f = i
      · subst q; exact pz_w
      · rw [pz_wk q]; exact hw f (by omega))
    refine ⟨w1, ?_, fun c hc => (h2 c hc).trans (pz_rn hc), h3⟩
    simp only [fX0_findCats_L2, pz_nm]
    rw [if_neg (pz_5 hi), if_pos (pz_qin hi (by omega)), pz_nI (by omega), nI_1]
    exact h1
theorem pc_f2 {h n T : Nat} {P : Nat → Nat → Int32} (hh : h < 12) (hn : n ≤ 12) (hW : ∀ i, i < n → pWF T (P i)) : ∀ (d i fuel : Nat) (w : qMem), i + d = n → d < fuel → pHC w h n P → (∀ f, f < 5 → w (19 * h + 16) f = if 0 < pCn P 3 (nI f) i then 1 else 0) → ∃ w1 : qMem, fX0_findCats_L22 h fuel w (nI i) = some w1 ∧ (∀ c, c ≠ 19 * h + 16 → w1 c = w c) ∧ ∀ f, f < 5 → w1 (19 * h + 16) f = if 0 < pCn P 3 (nI f) n then 1 else 0
  | 0, i, fuel + 1, w, e, _, H, hw => by
    have e : i = n := by omega
    subst e
    refine ⟨w, ?_, fun _ _ => rfl, hw⟩
    simp only [fX0_findCats_L22]
    rw [if_pos (by rw [H.1]; exact pz_ge (Nat.le_refl i) (by omega))]
  | d + 1, i, fuel + 1, w, e, hf, H, hw => by
    have hi : i < n := by omega
    obtain ⟨f0, hf0, e0⟩ := (hW i hi).fl
    by_cases h0 : P i 0 = 3
    · obtain ⟨w1, h1, h2, h3⟩ := pc_f2 hh hn hW d (i + 1) fuel (quw w (19 * h + 16) f0 1) (by omega) (by omega) ⟨by rw [pz_wn (by omega)]; exact H.1, fun j hj k hk => by rw [pz_wn (by omega)]; exact H.2 j hj k hk⟩ (fun f hf => by
        by_cases q : f = f0
        · subst q; rw [pz_w, pCn_t h0 e0, if_pos (by omega)]
        · rw [pz_wk q, hw f hf, pCn_f (fun z => q ((nI_eq (by omega) (by omega)).mp (e0.symm.trans z.2)).symm)])
      refine ⟨w1, ?_, fun c hc => (h2 c hc).trans (pz_rn hc), h3⟩
      simp only [fX0_findCats_L22, pz_at hh hn hi H.1, pz_b, pz_nm]
      rw [if_neg (by rw [H.1]; exact nI_ge hi (by omega)), if_pos (pz_P hh (by omega)), H.2 i hi 0 (by decide), H.2 i hi 1 (by decide), if_pos h0, e0, pz_fl hf0, pz_b, if_neg (by decide), if_pos (pz_qin hf0 (by omega)), pz_nI (by omega), nI_1]
      exact h1
    · obtain ⟨w1, h1, h2, h3⟩ := pc_f2 hh hn hW d (i + 1) fuel w (by omega) (by omega) H (fun f hf => by
        rw [pCn_f (fun z => h0 z.1)]; exact hw f hf)
      refine ⟨w1, ?_, h2, h3⟩
      simp only [fX0_findCats_L22, pz_at hh hn hi H.1, pz_b, pz_nm]
      rw [if_neg (by rw [H.1]; exact nI_ge hi (by omega)), if_pos (pz_P hh (by omega)), H.2 i hi 0 (by decide), if_neg h0, nI_1]
      exact h1
theorem pc_s1 {h n : Nat} {P : Nat → Nat → Int32} {a : Nat} (ha : a ≤ 9) : ∀ (d i fuel : Nat) (w : qMem), i + d = 5 → d < fuel → (∀ f, f < 5 → w (19 * h + 16) f = if 0 < pCn P 3 (nI f) n then 1 else 0) → (∀ f, f < i → w (19 * h + 17) f = nI (pRe P n a f)) → ∃ w1 : qMem, fX0_spread_L8 h fuel w (nI (pRe P n a i)) (nI i) = some w1 ∧ (∀ c, c ≠ 19 * h + 17 → w1 c = w c) ∧ ∀ f, f < 5 → w1 (19 * h + 17) f = nI (pRe P n a f)
  | 0, i, fuel + 1, w, e, _, hc, hw => by
    have e : i = 5 := by omega
    subst e
    refine ⟨w, ?_, fun _ _ => rfl, hw⟩
    simp only [fX0_spread_L8]
    rw [if_pos (by decide)]
  | d + 1, i, fuel + 1, w, e, hf, hc, hw => by
    have hi : i < 5 := by omega
    have hl := pRe_le P n a i
    obtain ⟨w1, h1, h2, h3⟩ := pc_s1 (n := n) (P := P) ha d (i + 1) fuel (quw w (19 * h + 17) i (nI (pRe P n a i))) (by omega) (by omega) (fun f hf => by rw [pz_wn (by omega)]; exact hc f hf) (fun f hf => by
      by_cases q : f = i
      · subst q; exact pz_w
      · rw [pz_wk q]; exact hw f (by omega))
    refine ⟨w1, ?_, fun c hc => (h2 c hc).trans (pz_rn hc), h3⟩
    simp only [fX0_spread_L8, pz_nm]
    rw [if_neg (pz_5 hi), if_pos (pz_qin hi (by omega)), pz_nI (by omega), if_pos (pz_qin hi (by omega)), nI_1, pz_wn (by omega), hc i hi]
    obtain ⟨q1, q2, q3, q4⟩ := pt_21 (pRe P n a i) (by omega)
    by_cases h0 : 0 < pCn P 3 (nI i) n
    · have e1 : pRe P n a (i + 1) = pRe P n a i - 2 := by unfold pRe; simp only [pT]; rw [if_pos h0]; omega
      rw [if_pos h0, if_neg (by decide)]
      by_cases q : 2 ≤ pRe P n a i
      · rw [if_pos (q2.mpr q), q4 q, ← e1]; exact h1
      · rw [if_neg (fun z => q (q2.mp z))]
        rw [show pRe P n a (i + 1) = 0 by omega, nI_0] at h1; exact h1
    · have e1 : pRe P n a (i + 1) = pRe P n a i - 1 := by unfold pRe; simp only [pT]; rw [if_neg h0]; omega
      rw [if_neg h0, if_pos rfl]
      by_cases q : 1 ≤ pRe P n a i
      · rw [if_pos (q1.mpr q), q3 q, ← e1]; exact h1
      · rw [if_neg (fun z => q (q1.mp z))]
        rw [show pRe P n a (i + 1) = 0 by omega, nI_0] at h1; exact h1
theorem pc_spread {w : qMem} {h n T a : Nat} {P : Nat → Nat → Int32} (hh : h < 12) (hn : n ≤ 12) (ha : a ≤ 9) (hW : ∀ i, i < n → pWF T (P i)) (H : pHC w h n P) : ∃ w1 : qMem, fX0_spread w h (nI a) = some w1 ∧ (∀ c, c ≠ 19 * h + 16 → c ≠ 19 * h + 17 → w1 c = w c) ∧ ∀ f, f < 5 → w1 (19 * h + 17) f = nI (pRe P n a f) := by
  obtain ⟨w1, e1, k1, z1⟩ := pc_f1 (h := h) 5 0 100 w (by omega) (by omega) (fun f hf => absurd hf (by omega))
  obtain ⟨w2, e2, k2, z2⟩ := pc_f2 hh hn hW n 0 100 w1 (by omega) (by omega) ⟨by rw [k1 _ (by omega)]; exact H.1, fun j hj k hk => by rw [k1 _ (by omega)]; exact H.2 j hj k hk⟩ (fun f hf => by rw [z1 f hf]; rfl)
  obtain ⟨w3, e3, k3, z3⟩ := pc_s1 (h := h) (n := n) (P := P) ha 5 0 100 w2 (by omega) (by omega) z2 (fun f hf => absurd hf (by omega))
  refine ⟨w3, ?_, fun c hc hc1 => (k3 c hc1).trans ((k2 c hc).trans (k1 c hc)), z3⟩
  unfold fX0_spread fX0_findCats
  have e2' : fX0_findCats_L2 h 100 w 0 = some w2 := e1.trans e2
  rw [e2', pz_b]
  exact e3
