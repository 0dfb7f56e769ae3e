-- the three passes of a shock, and the class's way through them
def pNc (R : Nat → Nat) (P : Nat → Nat → Int32) (i : Nat) : Nat → Int32 := if P i 0 = 1 then pCupN (nI (R (P i 1).toNatClampNeg)) (P i) else P i
def pBc (R : Nat → Nat) (P : Nat → Nat → Int32) (i : Nat) : Int32 := if P i 0 = 1 then pCupR (nI (R (P i 1).toNatClampNeg)) (P i) else 0
def pNl (R : Nat → Nat) (a : Int32) (P : Nat → Nat → Int32) (i : Nat) : Nat → Int32 := if P i 0 = 2 then pLampN (nI (R (P i 1).toNatClampNeg)) a (P i) else P i
def pBl (R : Nat → Nat) (a : Int32) (P : Nat → Nat → Int32) (i : Nat) : Int32 := if P i 0 = 2 then pLampR (nI (R (P i 1).toNatClampNeg)) a (P i) else 0
def pNk (R : Nat → Nat) (F : Nat → Int32) (P : Nat → Nat → Int32) (i : Nat) : Nat → Int32 := if P i 0 = 3 then pCatN (nI (R (P i 1).toNatClampNeg)) (F (P i 1).toNatClampNeg) (P i) else P i
def pMk (R : Nat → Nat) (F : Nat → Int32) (P : Nat → Nat → Int32) (i : Nat) : Int32 := if P i 0 = 3 then pCatM (nI (R (P i 1).toNatClampNeg)) (F (P i 1).toNatClampNeg) (P i) else 0
def pSum (g : Nat → Int32) : Nat → Int32
  | 0 => 0
  | i + 1 => pSum g i + g i
def pFr (b : Nat → Int32) (P : Nat → Nat → Int32) (F0 : Nat → Int32) : Nat → Nat → Int32
  | 0 => F0
  | i + 1 => if b i = 0 then pFr b P F0 i else upd (pFr b P F0 i) (P i 1).toNatClampNeg 1
theorem pz_stepA {A A' N P : Nat → Nat → Int32} {n i : Nat} (H : ∀ j, j < n → pAg (A j) (if j < i then N j else P j)) (h1 : ∀ j, j < n → j ≠ i → A' j = A j) (h2 : pAg (A' i) (N i)) : ∀ j, j < n → pAg (A' j) (if j < i + 1 then N j else P j) := by
  intro j hj
  by_cases q : j = i
  · subst q; rw [if_pos (by omega)]; exact h2
  · rw [h1 j hj q]
    have := H j hj
    by_cases q2 : j < i
    · rw [if_pos q2] at this; rw [if_pos (by omega)]; exact this
    · rw [if_neg q2] at this; rw [if_neg (by omega)]; exact this
theorem pSum_s (B : Int32) (g : Nat → Int32) (i : Nat) : B + pSum g (i + 1) = (B + pSum g i) + g i := (Int32.add_assoc _ _ _).symm
theorem pCupN_1 (r : Int32) (p : Nat → Int32) : pCupN r p 1 = p 1 := by
  unfold pCupN
  split
  · split
    · split
      · rfl
      · rfl
    · rfl
  · rfl
theorem pLampN_1 (r a : Int32) (p : Nat → Int32) : pLampN r a p 1 = p 1 := by
  unfold pLampN
  split
  · rfl
  · rfl
theorem pFr_0 {b : Nat → Int32} {P : Nat → Nat → Int32} {F0 : Nat → Int32} {i : Nat} (h : b i = 0) : pFr b P F0 (i + 1) = pFr b P F0 i := by simp only [pFr]; rw [if_pos h]
theorem pFr_1 {b : Nat → Int32} {P : Nat → Nat → Int32} {F0 : Nat → Int32} {i : Nat} (h : ¬ b i = 0) : pFr b P F0 (i + 1) = upd (pFr b P F0 i) (P i 1).toNatClampNeg 1 := by simp only [pFr]; rw [if_neg h]
-- what a pass leaves alone
def pOffC (h : Nat) (w w1 : qMem) : Prop := (∀ c, (c < 19 * h ∨ 19 * h + 15 ≤ c) → c ≠ 19 * h + 18 → w1 c = w c) ∧ ∀ k, k ≠ 9 → w1 (19 * h) k = w (19 * h) k
theorem pOffC.rf (h : Nat) (w : qMem) : pOffC h w w := ⟨fun _ _ _ => rfl, fun _ _ => rfl⟩
theorem pOffC.tr {h : Nat} {w w1 w2 : qMem} (a : pOffC h w w1) (b : pOffC h w1 w2) : pOffC h w w2 :=
  ⟨fun c hc hk => (b.1 c hc hk).trans (a.1 c hc hk), fun k hk => (b.2 k hk).trans (a.2 k hk)⟩
theorem pOffC.pr {h i : Nat} {w : qMem} {g : Nat → Int32} (hi : i < 12) : pOffC h w (qur w (19 * h + 2 + i) g) :=
  ⟨fun c hc _ => pz_rn (by omega), fun k _ => by rw [pz_rn (by omega)]⟩
theorem pOffC.nb {h f : Nat} {w : qMem} {v v' : Int32} : pOffC h w (quw (quw w (19 * h) 9 v) (19 * h + 18) f v') :=
  ⟨fun c hc hk => by funext k; rw [pz_wn hk, pz_wn (by omega)], fun k hk => by rw [pz_wn (by omega), pz_wk hk]⟩
def pInC (w : qMem) (h n i : Nat) (R : Nat → Nat) (N P : Nat → Nat → Int32) (B : Int32) (F : Nat → Int32) : Prop :=
  w (19 * h) 2 = nI n ∧ (∀ j, j < n → pAg (w (19 * h + 2 + j)) (if j < i then N j else P j)) ∧ w (19 * h) 9 = B ∧ (∀ f, f < 5 → w (19 * h + 18) f = F f) ∧ ∀ f, f < 5 → w (19 * h + 17) f = nI (R f)
theorem pInC.at {w : qMem} {h n i : Nat} {R : Nat → Nat} {N P : Nat → Nat → Int32} {B : Int32} {F : Nat → Int32} (H : pInC w h n i R N P B F) (hi : i < n) : pAg (w (19 * h + 2 + i)) (P i) := by
  have := H.2.1 i hi
  rw [if_neg (by omega)] at this
  exact this
theorem pInC.stay {w : qMem} {h n i : Nat} {R : Nat → Nat} {N P : Nat → Nat → Int32} {B B' : Int32} {F F' : Nat → Int32} (H : pInC w h n i R N P B F) (hi : i < n) (e : N i = P i) (eB : B' = B) (eF : F' = F) : pInC w h n (i + 1) R N P B' F' := by
  subst eB eF
  exact ⟨H.1, pz_stepA H.2.1 (fun _ _ _ => rfl) (by rw [e]; exact H.at hi), H.2.2⟩
theorem pInC.new {w : qMem} {h n i : Nat} {R : Nat → Nat} {N P : Nat → Nat → Int32} {B B' : Int32} {F F' : Nat → Int32} {g : Nat → Int32} (H : pInC w h n i R N P B F) (hi : i < n) (hn : n ≤ 12) (e : pAg g (N i)) (eB : B' = B) (eF : F' = F) : pInC (qur w (19 * h + 2 + i) g) h n (i + 1) R N P B' F' := by
  subst eB eF
  refine ⟨by rw [pz_rn (by omega)]; exact H.1, pz_stepA H.2.1 (fun j hj hk => ?_) ?_, by rw [pz_rn (by omega)]; exact H.2.2.1, fun f hf => by rw [pz_rn (by omega)]; exact H.2.2.2.1 f hf, fun f hf => by rw [pz_rn (by omega)]; exact H.2.2.2.2 f hf⟩
  · exact pz_rn (by omega)
  · rw [pz_r]; exact e
theorem pInC.nb {w : qMem} {h n i f0 : Nat} {R : Nat → Nat} {N P : Nat → Nat → Int32} {B B' : Int32} {F F' : Nat → Int32} (H : pInC w h n i R N P B F) (hn : n ≤ 12) (hf0 : f0 < 5) (eB : B' = B + 1) (eF : F' = upd F f0 1) : pInC (quw (quw w (19 * h) 9 (w (19 * h) 9 + 1)) (19 * h + 18) f0 1) h n i R N P B' F' := by
  subst eB eF
  refine ⟨?_, fun j hj k hk => ?_, ?_, fun f hf => ?_, fun f hf => ?_⟩
  · rw [pz_wn (by omega), pz_wk (by omega)]; exact H.1
  · rw [pz_wn (by omega), pz_wn (by omega)]; exact H.2.1 j hj k hk
  · rw [pz_wn (by omega), pz_w, H.2.2.1]
  · by_cases q : f = f0
    · subst q; rw [pz_w, pz_u]
    · rw [pz_wk q, pz_un q, pz_wn (by omega)]; exact H.2.2.2.1 f hf
  · rw [pz_wn (by omega), pz_wn (by omega)]; exact H.2.2.2.2 f hf
theorem pc_c2 {h n T : Nat} {R : Nat → Nat} {P : Nat → Nat → Int32} {B : Int32} {F0 : Nat → Int32} (hh : h < 12) (hn : n ≤ 12) (hW : ∀ i, i < n → pWF T (P i)) : ∀ (d i fuel : Nat) (w : qMem), i + d = n → d < fuel → pInC w h n i R (pNc R P) P (B + pSum (pBc R P) i) (pFr (pBc R P) P F0 i) → ∃ w1 : qMem, fX0_shakeCups_L22 h fuel w (nI i) = some w1 ∧ pOffC h w w1 ∧ pInC w1 h n n R (pNc R P) P (B + pSum (pBc R P) n) (pFr (pBc R P) P F0 n)
  | 0, i, fuel + 1, w, e, _, H => by
    have e : i = n := by omega
    subst e
    refine ⟨w, ?_, pOffC.rf h w, H⟩
    simp only [fX0_shakeCups_L22]
    rw [if_pos (by rw [H.1]; exact pz_ge (Nat.le_refl i) (by omega))]
  | d + 1, i, fuel + 1, w, e, hf, H => by
    have hi : i < n := by omega
    have hA := H.at hi
    have hWc := (hW i hi).ag hA.sy
    obtain ⟨f0, hf0, e0⟩ := (hW i hi).fl
    have efl : (P i 1).toNatClampNeg = f0 := by rw [e0]; exact pz_nI (by omega)
    simp only [fX0_shakeCups_L22, pz_at hh hn hi H.1, pz_b, pz_nm]
    rw [if_neg (by rw [H.1]; exact nI_ge hi (by omega)), if_pos (pz_P hh (by omega)), hA 0 (by decide), hA 1 (by decide), e0, nI_1]
    by_cases h0 : P i 0 = 1
    · have eN : pNc R P i = pCupN (nI (R f0)) (P i) := by unfold pNc; rw [if_pos h0, efl]
      have eB : pBc R P i = pCupR (nI (R f0)) (P i) := by unfold pBc; rw [if_pos h0, efl]
      rw [if_pos h0, pc_ro hf0, pz_b, H.2.2.2.2 f0 hf0, pc_cup hWc.b4, pz_b2, hA.cupR]
      by_cases q : pCupR (nI (R f0)) (P i) = 0
      · rw [if_pos q]
        obtain ⟨w1, h1, h2, h3⟩ := pc_c2 hh hn hW d (i + 1) fuel _ (by omega) (by omega) (H.new hi hn (g := pCupN (nI (R f0)) (w (19 * h + 2 + i))) (by rw [eN]; exact hA.cupN _) (B' := B + pSum (pBc R P) (i + 1)) (F' := pFr (pBc R P) P F0 (i + 1)) (by rw [pSum_s, eB, q, Int32.add_zero]) (pFr_0 (by rw [eB, q])))
        exact ⟨w1, h1, pOffC.tr (pOffC.pr (by omega)) h2, h3⟩
      · have q1 : pCupR (nI (R f0)) (P i) = 1 := (pCupR_b _ _).resolve_left q
        rw [if_neg q, pz_r, pCupN_1, hA 1 (by decide), e0, pc_nb hh hf0, pz_b]
        obtain ⟨w1, h1, h2, h3⟩ := pc_c2 hh hn hW d (i + 1) fuel _ (by omega) (by omega) ((H.new hi hn (g := pCupN (nI (R f0)) (w (19 * h + 2 + i))) (by rw [eN]; exact hA.cupN _) rfl rfl).nb hn hf0 (B' := B + pSum (pBc R P) (i + 1)) (F' := pFr (pBc R P) P F0 (i + 1)) (by rw [pSum_s, eB, q1]) (by rw [pFr_1 (by rw [eB]; exact q), efl]))
        exact ⟨w1, h1, pOffC.tr (pOffC.pr (by omega)) (pOffC.tr pOffC.nb h2), h3⟩
    · have eN : pNc R P i = P i := by unfold pNc; rw [if_neg h0]
      have eB : pBc R P i = 0 := by unfold pBc; rw [if_neg h0]
      rw [if_neg h0]
      exact pc_c2 hh hn hW d (i + 1) fuel w (by omega) (by omega) (H.stay hi eN (by rw [pSum_s, eB, Int32.add_zero]) (pFr_0 eB))
theorem pc_c1 {h : Nat} : ∀ (d i fuel : Nat) (w : qMem), i + d = 5 → d < fuel → (∀ f, f < i → w (19 * h + 18) f = 0) → ∃ w1 : qMem, fX0_shakeCups_L2 h fuel w (nI i) = fX0_shakeCups_L22 h 100 w1 0 ∧ (∀ c, c ≠ 19 * h + 18 → w1 c = w c) ∧ ∀ f, f < 5 → w1 (19 * h + 18) f = 0
  | 0, i, fuel + 1, w, e, _, hw => by
    have e : i = 5 := by omega
    subst e
    refine ⟨w, ?_, fun _ _ => rfl, hw⟩
    simp only [fX0_shakeCups_L2]
    rw [if_pos (by decide)]
  | d + 1, i, fuel + 1, w, e, hf, hw => by
    have hi : i < 5 := by omega
    obtain ⟨w1, h1, h2, h3⟩ := pc_c1 (h := h) d (i + 1) fuel (quw w (19 * h + 18) i 0) (by omega) (by omega) (fun f hf => by
      by_cases q : f = i
      · subst q; exact pz_w
      · rw [pz_wk q]; exact hw f (by omega))
    refine ⟨w1, ?_, fun c hc => (h2 c hc).trans (pz_rn hc), h3⟩
    simp only [fX0_shakeCups_L2, pz_nm]
    rw [if_neg (pz_5 hi), if_pos (pz_qin hi (by omega)), pz_nI (by omega), nI_1]
    exact h1
theorem pc_l2 {h n T : Nat} {R : Nat → Nat} {a : Int32} {P : Nat → Nat → Int32} {B : Int32} {F0 : Nat → Int32} (hh : h < 12) (hn : n ≤ 12) (hW : ∀ i, i < n → pWF T (P i)) : ∀ (d i fuel : Nat) (w : qMem), i + d = n → d < fuel → pInC w h n i R (pNl R a P) P (B + pSum (pBl R a P) i) (pFr (pBl R a P) P F0 i) → ∃ w1 : qMem, fX0_shakeLamps_L2 h fuel w a (nI i) = some w1 ∧ pOffC h w w1 ∧ pInC w1 h n n R (pNl R a P) P (B + pSum (pBl R a P) n) (pFr (pBl R a P) P F0 n)
  | 0, i, fuel + 1, w, e, _, H => by
    have e : i = n := by omega
    subst e
    refine ⟨w, ?_, pOffC.rf h w, H⟩
    simp only [fX0_shakeLamps_L2]
    rw [if_pos (by rw [H.1]; exact pz_ge (Nat.le_refl i) (by omega))]
  | d + 1, i, fuel + 1, w, e, hf, H => by
    have hi : i < n := by omega
    have hA := H.at hi
    have hWc := (hW i hi).ag hA.sy
    obtain ⟨f0, hf0, e0⟩ := (hW i hi).fl
    have efl : (P i 1).toNatClampNeg = f0 := by rw [e0]; exact pz_nI (by omega)
    simp only [fX0_shakeLamps_L2, pz_at hh hn hi H.1, pz_b, pz_nm]
    rw [if_neg (by rw [H.1]; exact nI_ge hi (by omega)), if_pos (pz_P hh (by omega)), hA 0 (by decide), hA 1 (by decide), e0, nI_1]
    by_cases h0 : P i 0 = 2
    · have eN : pNl R a P i = pLampN (nI (R f0)) a (P i) := by unfold pNl; rw [if_pos h0, efl]
      have eB : pBl R a P i = pLampR (nI (R f0)) a (P i) := by unfold pBl; rw [if_pos h0, efl]
      rw [if_pos h0, pc_ro hf0, pz_b, H.2.2.2.2 f0 hf0, pc_lamp hWc.b4, pz_b2, hA.lampR]
      by_cases q : pLampR (nI (R f0)) a (P i) = 0
      · rw [if_pos q]
        obtain ⟨w1, h1, h2, h3⟩ := pc_l2 hh hn hW d (i + 1) fuel _ (by omega) (by omega) (H.new hi hn (g := pLampN (nI (R f0)) a (w (19 * h + 2 + i))) (by rw [eN]; exact hA.lampN _ _) (B' := B + pSum (pBl R a P) (i + 1)) (F' := pFr (pBl R a P) P F0 (i + 1)) (by rw [pSum_s, eB, q, Int32.add_zero]) (pFr_0 (by rw [eB, q])))
        exact ⟨w1, h1, pOffC.tr (pOffC.pr (by omega)) h2, h3⟩
      · have q1 : pLampR (nI (R f0)) a (P i) = 1 := (pLampR_b _ _ _).resolve_left q
        rw [if_neg q, pz_r, pLampN_1, hA 1 (by decide), e0, pc_nb hh hf0, pz_b]
        obtain ⟨w1, h1, h2, h3⟩ := pc_l2 hh hn hW d (i + 1) fuel _ (by omega) (by omega) ((H.new hi hn (g := pLampN (nI (R f0)) a (w (19 * h + 2 + i))) (by rw [eN]; exact hA.lampN _ _) rfl rfl).nb hn hf0 (B' := B + pSum (pBl R a P) (i + 1)) (F' := pFr (pBl R a P) P F0 (i + 1)) (by rw [pSum_s, eB, q1]) (by rw [pFr_1 (by rw [eB]; exact q), efl]))
        exact ⟨w1, h1, pOffC.tr (pOffC.pr (by omega)) (pOffC.tr pOffC.nb h2), h3⟩
    · have eN : pNl R a P i = P i := by unfold pNl; rw [if_neg h0]
      have eB : pBl R a P i = 0 := by unfold pBl; rw [if_neg h0]
      rw [if_neg h0]
      exact pc_l2 hh hn hW d (i + 1) fuel w (by omega) (by omega) (H.stay hi eN (by rw [pSum_s, eB, Int32.add_zero]) (pFr_0 eB))
theorem pc_k2 {h n T : Nat} {R : Nat → Nat} {P : Nat → Nat → Int32} {B : Int32} {F : Nat → Int32} (hh : h < 12) (hn : n ≤ 12) (hW : ∀ i, i < n → pWF T (P i)) (hF : ∀ f, f < 5 → F f = 0 ∨ F f = 1) : ∀ (d i fuel : Nat) (w : qMem), i + d = n → d < fuel → pInC w h n i R (pNk R F P) P B F → ∃ w1 : qMem, fX0_askCats_L4 h fuel w (pSum (pMk R F P) i) (nI i) = some (pSum (pMk R F P) n, w1) ∧ pOffC h w w1 ∧ pInC w1 h n n R (pNk R F P) P B F
  | 0, i, fuel + 1, w, e, _, H => by
    have e : i = n := by omega
    subst e
    refine ⟨w, ?_, pOffC.rf h w, H⟩
    simp only [fX0_askCats_L4]
    rw [if_pos (by rw [H.1]; exact pz_ge (Nat.le_refl i) (by omega))]
  | d + 1, i, fuel + 1, w, e, hf, H => by
    have hi : i < n := by omega
    have hA := H.at hi
    have hWc := (hW i hi).ag hA.sy
    obtain ⟨f0, hf0, e0⟩ := (hW i hi).fl
    have efl : (P i 1).toNatClampNeg = f0 := by rw [e0]; exact pz_nI (by omega)
    simp only [fX0_askCats_L4, pz_at hh hn hi H.1, pz_b, pz_nm]
    rw [if_neg (by rw [H.1]; exact nI_ge hi (by omega)), if_pos (pz_P hh (by omega)), hA 0 (by decide), hA 1 (by decide), e0, nI_1]
    by_cases h0 : P i 0 = 3
    · have eN : pNk R F P i = pCatN (nI (R f0)) (F f0) (P i) := by unfold pNk; rw [if_pos h0, efl]
      have eM : pMk R F P i = pCatM (nI (R f0)) (F f0) (P i) := by unfold pMk; rw [if_pos h0, efl]
      have eF : (if F f0 = 0 then (0 : Int32) else 1) = F f0 := by rcases hF f0 hf0 with z | z <;> rw [z] <;> rfl
      rw [if_pos h0, pc_ro hf0, pz_b, H.2.2.2.2 f0 hf0, pc_fr hf0, pz_b, H.2.2.2.1 f0 hf0, eF, pc_cat, pz_b2, hA.catM]
      obtain ⟨w1, h1, h2, h3⟩ := pc_k2 hh hn hW hF d (i + 1) fuel _ (by omega) (by omega) (H.new hi hn (g := pCatN (nI (R f0)) (F f0) (w (19 * h + 2 + i))) (by rw [eN]; exact hA.catN _ _) rfl rfl)
      refine ⟨w1, ?_, pOffC.tr (pOffC.pr (by omega)) h2, h3⟩
      rw [← eM]; exact h1
    · have eN : pNk R F P i = P i := by unfold pNk; rw [if_neg h0]
      have eM : pMk R F P i = 0 := by unfold pMk; rw [if_neg h0]
      rw [if_neg h0]
      have e2 : pSum (pMk R F P) (i + 1) = pSum (pMk R F P) i := by simp only [pSum]; rw [eM, Int32.add_zero]
      rw [← e2]
      exact pc_k2 hh hn hW hF d (i + 1) fuel w (by omega) (by omega) (H.stay hi eN rfl rfl)
