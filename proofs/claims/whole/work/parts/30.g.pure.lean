-- the reference's shock
theorem pm_1 : ∀ m, m < 32 → ∀ f, f < 5 → (((nI m >>> (nI f &&& 31)) &&& 1 = 1) ↔ m.testBit f = true) ∧ nI m ||| (1 <<< (nI f &&& 31)) = nI (m ||| 2 ^ f) ∧ m ||| 2 ^ f < 32 ∧ ∀ g, g < 5 → (m ||| 2 ^ f).testBit g = (m.testBit g || decide (g = f)) := by decide +kernel
theorem pm_2 : ∀ m, m < 32 → nI m ||| 0 = nI m := by decide +kernel
def pMs (m : Int32) (F : Nat → Int32) : Prop := ∃ u, u < 32 ∧ m = nI u ∧ ∀ f, f < 5 → F f = if u.testBit f = true then 1 else 0
theorem pMs.or0 {m : Int32} {F : Nat → Int32} (h : pMs m F) : m ||| 0 = m := by
  obtain ⟨u, hu, e, _⟩ := h
  rw [e, pm_2 u hu]
theorem pMs.or1 {m : Int32} {F : Nat → Int32} (h : pMs m F) {f : Nat} (hf : f < 5) : pMs (m ||| (1 <<< (nI f &&& 31))) (upd F f 1) := by
  obtain ⟨u, hu, e, hF⟩ := h
  obtain ⟨q1, q2, q3, q4⟩ := pm_1 u hu f hf
  refine ⟨u ||| 2 ^ f, q3, by rw [e, q2], fun g hg => ?_⟩
  rw [q4 g hg]
  by_cases z : g = f
  · subst z; rw [pz_u, decide_eq_true rfl, Bool.or_true, if_pos rfl]
  · rw [pz_un z, hF g hg, decide_eq_false z, Bool.or_false]
theorem pMs.t {m : Int32} {F : Nat → Int32} (h : pMs m F) {f : Nat} (hf : f < 5) : F f = if (m >>> (nI f &&& 31)) &&& 1 = 1 then 1 else 0 := by
  obtain ⟨u, hu, e, hF⟩ := h
  obtain ⟨q1, _⟩ := pm_1 u hu f hf
  rw [hF f hf, e]
  by_cases z : u.testBit f = true
  · rw [if_pos z, if_pos (q1.mpr z)]
  · rw [if_neg z, if_neg (fun y => z (q1.mp y))]
def pOffR (w w1 : qMem) : Prop := (∀ c, c ≠ 238 → c ≠ 239 → w1 c = w c) ∧ (∀ k, k ≠ 11 → w1 238 k = w 238 k) ∧ ∀ k, k < 15 → w1 239 k = w 239 k
theorem pOffR.rf (w : qMem) : pOffR w w := ⟨fun _ _ _ => rfl, fun _ _ => rfl, fun _ _ => rfl⟩
theorem pOffR.tr {w w1 w2 : qMem} (a : pOffR w w1) (b : pOffR w1 w2) : pOffR w w2 :=
  ⟨fun c hc hk => (b.1 c hc hk).trans (a.1 c hc hk), fun k hk => (b.2.1 k hk).trans (a.2.1 k hk), fun k hk => (b.2.2 k hk).trans (a.2.2 k hk)⟩
theorem pOffR.pr {i : Nat} {w : qMem} {g : Nat → Int32} : pOffR w (qur w 239 (pzR (w 239) i g)) :=
  ⟨fun c _ hc => pz_rn hc, fun k _ => by rw [pz_rn (by decide)], fun k hk => by rw [pz_r]; exact pzR_n _ _ _ _ (by omega)⟩
theorem pOffR.b {w : qMem} {v : Int32} : pOffR w (quw w 238 11 v) :=
  ⟨fun c hc _ => pz_rn hc, fun k hk => pz_wk hk, fun k _ => pz_wn (by decide)⟩
def pInR (w : qMem) (n i : Nat) (N P : Nat → Nat → Int32) (B : Int32) : Prop :=
  w 239 0 = nI n ∧ (∀ j, j < n → pAg (pzS (w 239) j) (if j < i then N j else P j)) ∧ w 238 11 = B
theorem pInR.at {w : qMem} {n i : Nat} {N P : Nat → Nat → Int32} {B : Int32} (H : pInR w n i N P B) (hi : i < n) : pAg (pzS (w 239) i) (P i) := by
  have := H.2.1 i hi
  rw [if_neg (by omega)] at this
  exact this
theorem pInR.stay {w : qMem} {n i : Nat} {N P : Nat → Nat → Int32} {B B' : Int32} (H : pInR w n i N P B) (hi : i < n) (e : N i = P i) (eB : B' = B) : pInR w n (i + 1) N P B' := by
  subst eB
  exact ⟨H.1, pz_stepA H.2.1 (fun _ _ _ => rfl) (by rw [e]; exact H.at hi), H.2.2⟩
theorem pzS_R (s : Nat → Int32) (i : Nat) (g : Nat → Int32) : pAg (pzS (pzR s i g) i) g := fun k hk => pzR_k _ _ _ _ hk
theorem pzS_Rn (s : Nat → Int32) (i j : Nat) (g : Nat → Int32) (h : j ≠ i) : pAg (pzS (pzR s i g) j) (pzS s j) := fun k hk => pzR_n _ _ _ _ (by omega)
theorem pz_stepB {A A' N P : Nat → Nat → Int32} {n i : Nat} (H : ∀ j, j < n → pAg (A j) (if j < i then N j else P j)) (h1 : ∀ j, j < n → j ≠ i → pAg (A' j) (A j)) (h2 : pAg (A' i) (N i)) : ∀ j, j < n → pAg (A' j) (if j < i + 1 then N j else P j) := by
  intro j hj
  by_cases q : j = i
  · subst q; rw [if_pos (by omega)]; exact h2
  · refine (h1 j hj q).tr ?_
    have := H j hj
    by_cases q2 : j < i
    · rw [if_pos q2] at this; rw [if_pos (by omega)]; exact this
    · rw [if_neg q2] at this; rw [if_neg (by omega)]; exact this
theorem pInR.new {w : qMem} {n i : Nat} {N P : Nat → Nat → Int32} {B : Int32} {g : Nat → Int32} (H : pInR w n i N P B) (e : pAg g (N i)) : pInR (qur w 239 (pzR (w 239) i g)) n (i + 1) N P B := by
  refine ⟨by rw [pz_r, pzR_n _ _ _ _ (by omega)]; exact H.1, pz_stepB H.2.1 (fun j hj hk => ?_) ?_, by rw [pz_rn (by decide)]; exact H.2.2⟩
  · rw [pz_r]; exact pzS_Rn _ _ _ _ hk
  · rw [pz_r]; exact (pzS_R _ _ _).tr e
theorem pInR.b {w : qMem} {n i : Nat} {N P : Nat → Nat → Int32} {B B' : Int32} {v : Int32} (H : pInR w n i N P B) (e : v = B') : pInR (quw w 238 11 v) n i N P B' := by
  subst e
  exact ⟨by rw [pz_wn (by decide)]; exact H.1, fun j hj => by
    have := H.2.1 j hj
    intro k hk
    have q := this k hk
    unfold pzS at q ⊢
    rw [pz_wn (by decide)]; exact q, pz_w⟩
/-- how strong, while a pass is under way -/
theorem pInR.str {w : qMem} {n i a : Nat} {N P : Nat → Nat → Int32} {B : Int32} (H : pInR w n i N P B) (hn : n ≤ 12) (ha : a ≤ 9) (hN : ∀ j, N j 0 = P j 0 ∧ N j 1 = P j 1) {f : Nat} (hf : f < 5) : fX6_strengthOn w (nI a) (nI f) = some (nI (pRe P n a f)) := by
  have h1 : pHR (w 239) n (pzS (w 239)) := ⟨H.1, fun j _ => pAg.rf _⟩
  rw [pr_str hn h1 ha (by omega)]
  have : ∀ j, j < n → pzS (w 239) j 0 = P j 0 ∧ pzS (w 239) j 1 = P j 1 := fun j hj => by
    have q := H.2.1 j hj
    by_cases z : j < i
    · rw [if_pos z] at q
      exact ⟨(q 0 (by decide)).trans (hN j).1, (q 1 (by decide)).trans (hN j).2⟩
    · rw [if_neg z] at q
      exact ⟨q 0 (by decide), q 1 (by decide)⟩
  rw [pRe_eq this]
theorem pr_L111 {k21 : qMem → Int32 → Int32 → Int32 → Int32 → Int32 → Option (Int32 × qMem)} {w : qMem} {x1 m x3 x4 r : Int32} {i f : Nat} {F : Nat → Int32} (hf : f < 5) (hr : r = 0 ∨ r = 1) (hm : pMs m F) : ∃ m1 : Int32, fX6_shocks_L111 k21 w x1 m x3 x4 (nI i) (nI f) r r (w 238 11) = k21 (quw w 238 11 (w 238 11 + r)) x1 m1 x3 x4 (nI (i + 1)) ∧ pMs m1 (if r = 0 then F else upd F f 1) := by
  rcases hr with rfl | rfl
  · refine ⟨m, ?_, hm⟩
    simp only [fX6_shocks_L111, pz_nm]
    rw [if_pos trivial, hm.or0, nI_1]
  · refine ⟨_, ?_, hm.or1 hf⟩
    simp only [fX6_shocks_L111, pz_nm]
    rw [if_neg (by decide), nI_1]
theorem pr_c {k12 : qMem → Int32 → Int32 → Int32 → Int32 → Option (Int32 × qMem)} {n T a : Nat} {P : Nat → Nat → Int32} {B x3 : Int32} {F0 : Nat → Int32} (hn : n ≤ 12) (ha : a ≤ 9) (hW : ∀ i, i < n → pWF T (P i)) : ∀ (d i fuel : Nat) (w : qMem) (m : Int32), i + d = n → d < fuel → pInR w n i (pNc (pRe P n a) P) P (B + pSum (pBc (pRe P n a) P) i) → pMs m (pFr (pBc (pRe P n a) P) P F0 i) → ∃ (w1 : qMem) (m1 : Int32), fX6_shocks_L21 k12 fuel w (nI a) m x3 1 (nI i) = k12 w1 (nI a) m1 x3 2 ∧ pOffR w w1 ∧ pInR w1 n n (pNc (pRe P n a) P) P (B + pSum (pBc (pRe P n a) P) n) ∧ pMs m1 (pFr (pBc (pRe P n a) P) P F0 n)
  | 0, i, fuel + 1, w, m, e, _, H, hm => by
    have e : i = n := by omega
    subst e
    refine ⟨w, m, ?_, pOffR.rf w, H, hm⟩
    simp only [fX6_shocks_L21, pz_nm]
    rw [if_pos (by rw [H.1]; exact pz_ge (Nat.le_refl i) (by omega))]
    rfl
  | d + 1, i, fuel + 1, w, m, e, hf, H, hm => by
    have hi : i < n := by omega
    have hA := H.at hi
    have hWc := (hW i hi).ag hA.sy
    obtain ⟨f0, hf0, e0⟩ := (hW i hi).fl
    have efl : (P i 1).toNatClampNeg = f0 := by rw [e0]; exact pz_nI (by omega)
    obtain ⟨o0, o1, o2, o3, o4, o5, o6⟩ := pz_of_ (w := w) (i := i) (by omega)
    have q0 : w 239 (15 + 7 * i) = P i 0 := hA 0 (by decide)
    have q1 : w 239 (15 + 7 * i + 1) = nI f0 := (hA 1 (by decide)).trans e0
    have hN : ∀ j, pNc (pRe P n a) P j 0 = P j 0 ∧ pNc (pRe P n a) P j 1 = P j 1 := pP1_0 n a P
    simp only [fX6_shocks_L21, o0, o1, pz_b]
    rw [if_neg (by rw [H.1]; exact nI_ge hi (by omega)), q0, q1, H.str hn ha hN hf0, pz_b]
    by_cases h0 : P i 0 = 1
    · have eN : pNc (pRe P n a) P i = pCupN (nI (pRe P n a f0)) (P i) := by unfold pNc; rw [if_pos h0, efl]
      have eB : pBc (pRe P n a) P i = pCupR (nI (pRe P n a f0)) (P i) := by unfold pBc; rw [if_pos h0, efl]
      rw [if_pos h0, if_neg (by decide), if_pos trivial, qr_cup (by omega) hWc (q0.trans h0), pz_b2, hA.cupR]
      obtain ⟨m1, h1, h2⟩ := pr_L111 (k21 := fX6_shocks_L21 k12 fuel) (w := qur w 239 (pzR (w 239) i (pCupN (nI (pRe P n a f0)) (pzS (w 239) i)))) (x1 := nI a) (x3 := x3) (x4 := 1) (r := pCupR (nI (pRe P n a f0)) (P i)) (i := i) hf0 (pCupR_b _ _) hm
      have hg : ∀ r : Int32, (r = 0 ∨ r = 1) → (if r = 0 then fX6_shocks_L111 (fX6_shocks_L21 k12 fuel) (qur w 239 (pzR (w 239) i (pCupN (nI (pRe P n a f0)) (pzS (w 239) i)))) (nI a) m x3 1 (nI i) (nI f0) r 0 (qur w 239 (pzR (w 239) i (pCupN (nI (pRe P n a f0)) (pzS (w 239) i))) 238 11) else fX6_shocks_L111 (fX6_shocks_L21 k12 fuel) (qur w 239 (pzR (w 239) i (pCupN (nI (pRe P n a f0)) (pzS (w 239) i)))) (nI a) m x3 1 (nI i) (nI f0) r 1 (qur w 239 (pzR (w 239) i (pCupN (nI (pRe P n a f0)) (pzS (w 239) i))) 238 11)) = fX6_shocks_L111 (fX6_shocks_L21 k12 fuel) (qur w 239 (pzR (w 239) i (pCupN (nI (pRe P n a f0)) (pzS (w 239) i)))) (nI a) m x3 1 (nI i) (nI f0) r r (qur w 239 (pzR (w 239) i (pCupN (nI (pRe P n a f0)) (pzS (w 239) i))) 238 11) := by
        intro r hr; rcases hr with rfl | rfl <;> rfl
      rw [hg _ (pCupR_b _ _), h1]
      have hm1 : pMs m1 (pFr (pBc (pRe P n a) P) P F0 (i + 1)) := by
        simp only [pFr]; rw [eB, efl]; exact h2
      obtain ⟨w2, m2, g1, g2, g3, g4⟩ := pr_c (k12 := k12) hn ha hW d (i + 1) fuel _ m1 (by omega) (by omega) ((H.new (g := pCupN (nI (pRe P n a f0)) (pzS (w 239) i)) (by rw [eN]; exact hA.cupN _)).b (B' := B + pSum (pBc (pRe P n a) P) (i + 1)) (v := qur w 239 (pzR (w 239) i (pCupN (nI (pRe P n a f0)) (pzS (w 239) i))) 238 11 + pCupR (nI (pRe P n a f0)) (P i)) (by rw [pSum_s, eB, pz_rn (by decide), H.2.2])) hm1
      exact ⟨w2, m2, g1, pOffR.pr.tr (pOffR.b.tr g2), g3, g4⟩
    · have eN : pNc (pRe P n a) P i = P i := by unfold pNc; rw [if_neg h0]
      have eB : pBc (pRe P n a) P i = 0 := by unfold pBc; rw [if_neg h0]
      rw [if_neg h0]
      simp only [fX6_shocks_L134, o0, pz_b, pz_nm]
      rw [q0, if_neg h0, nI_1]
      exact pr_c hn ha hW d (i + 1) fuel w m (by omega) (by omega) (H.stay hi eN (by rw [pSum_s, eB, Int32.add_zero])) (by rw [pFr_0 eB]; exact hm)
theorem pr_l {k12 : qMem → Int32 → Int32 → Int32 → Int32 → Option (Int32 × qMem)} {n T a : Nat} {R : Nat → Nat} {P : Nat → Nat → Int32} {B x3 : Int32} {F0 : Nat → Int32} (hn : n ≤ 12) (ha : a ≤ 9) (hW : ∀ i, i < n → pWF T (P i)) (hR : ∀ f, pRe P n a f = R f) : ∀ (d i fuel : Nat) (w : qMem) (m : Int32), i + d = n → d < fuel → pInR w n i (pNl R (nI a) P) P (B + pSum (pBl R (nI a) P) i) → pMs m (pFr (pBl R (nI a) P) P F0 i) → ∃ (w1 : qMem) (m1 : Int32), fX6_shocks_L21 k12 fuel w (nI a) m x3 2 (nI i) = k12 w1 (nI a) m1 x3 3 ∧ pOffR w w1 ∧ pInR w1 n n (pNl R (nI a) P) P (B + pSum (pBl R (nI a) P) n) ∧ pMs m1 (pFr (pBl R (nI a) P) P F0 n)
  | 0, i, fuel + 1, w, m, e, _, H, hm => by
    have e : i = n := by omega
    subst e
    refine ⟨w, m, ?_, pOffR.rf w, H, hm⟩
    simp only [fX6_shocks_L21, pz_nm]
    rw [if_pos (by rw [H.1]; exact pz_ge (Nat.le_refl i) (by omega))]
    rfl
  | d + 1, i, fuel + 1, w, m, e, hf, H, hm => by
    have hi : i < n := by omega
    have hA := H.at hi
    have hWc := (hW i hi).ag hA.sy
    obtain ⟨f0, hf0, e0⟩ := (hW i hi).fl
    have efl : (P i 1).toNatClampNeg = f0 := by rw [e0]; exact pz_nI (by omega)
    obtain ⟨o0, o1, o2, o3, o4, o5, o6⟩ := pz_of_ (w := w) (i := i) (by omega)
    have q0 : w 239 (15 + 7 * i) = P i 0 := hA 0 (by decide)
    have q1 : w 239 (15 + 7 * i + 1) = nI f0 := (hA 1 (by decide)).trans e0
    have hN : ∀ j, pNl R (nI a) P j 0 = P j 0 ∧ pNl R (nI a) P j 1 = P j 1 := fun j => by
      unfold pNl; split
      · exact ⟨pLampN_0 _ _ _, pLampN_1 _ _ _⟩
      · exact ⟨rfl, rfl⟩
    simp only [fX6_shocks_L21, o0, o1, pz_b]
    rw [if_neg (by rw [H.1]; exact nI_ge hi (by omega)), q0, q1, H.str hn ha hN hf0, pz_b, hR]
    by_cases h0 : P i 0 = 2
    · have eN : pNl R (nI a) P i = pLampN (nI (R f0)) (nI a) (P i) := by unfold pNl; rw [if_pos h0, efl]
      have eB : pBl R (nI a) P i = pLampR (nI (R f0)) (nI a) (P i) := by unfold pBl; rw [if_pos h0, efl]
      rw [if_pos h0, if_neg (by decide), if_neg (by decide), qr_lamp (by omega) hWc (q0.trans h0), pz_b2, hA.lampR]
      obtain ⟨m1, h1, h2⟩ := pr_L111 (k21 := fX6_shocks_L21 k12 fuel) (w := qur w 239 (pzR (w 239) i (pLampN (nI (R f0)) (nI a) (pzS (w 239) i)))) (x1 := nI a) (x3 := x3) (x4 := 2) (r := pLampR (nI (R f0)) (nI a) (P i)) (i := i) hf0 (pLampR_b _ _ _) hm
      have hg : ∀ r : Int32, (r = 0 ∨ r = 1) → (if r = 0 then fX6_shocks_L111 (fX6_shocks_L21 k12 fuel) (qur w 239 (pzR (w 239) i (pLampN (nI (R f0)) (nI a) (pzS (w 239) i)))) (nI a) m x3 2 (nI i) (nI f0) r 0 (qur w 239 (pzR (w 239) i (pLampN (nI (R f0)) (nI a) (pzS (w 239) i))) 238 11) else fX6_shocks_L111 (fX6_shocks_L21 k12 fuel) (qur w 239 (pzR (w 239) i (pLampN (nI (R f0)) (nI a) (pzS (w 239) i)))) (nI a) m x3 2 (nI i) (nI f0) r 1 (qur w 239 (pzR (w 239) i (pLampN (nI (R f0)) (nI a) (pzS (w 239) i))) 238 11)) = fX6_shocks_L111 (fX6_shocks_L21 k12 fuel) (qur w 239 (pzR (w 239) i (pLampN (nI (R f0)) (nI a) (pzS (w 239) i)))) (nI a) m x3 2 (nI i) (nI f0) r r (qur w 239 (pzR (w 239) i (pLampN (nI (R f0)) (nI a) (pzS (w 239) i))) 238 11) := by
        intro r hr; rcases hr with rfl | rfl <;> rfl
      rw [hg _ (pLampR_b _ _ _), h1]
      have hm1 : pMs m1 (pFr (pBl R (nI a) P) P F0 (i + 1)) := by
        simp only [pFr]; rw [eB, efl]; exact h2
      obtain ⟨w2, m2, g1, g2, g3, g4⟩ := pr_l (k12 := k12) hn ha hW hR d (i + 1) fuel _ m1 (by omega) (by omega) ((H.new (g := pLampN (nI (R f0)) (nI a) (pzS (w 239) i)) (by rw [eN]; exact hA.lampN _ _)).b (B' := B + pSum (pBl R (nI a) P) (i + 1)) (v := qur w 239 (pzR (w 239) i (pLampN (nI (R f0)) (nI a) (pzS (w 239) i))) 238 11 + pLampR (nI (R f0)) (nI a) (P i)) (by rw [pSum_s, eB, pz_rn (by decide), H.2.2])) hm1
      exact ⟨w2, m2, g1, pOffR.pr.tr (pOffR.b.tr g2), g3, g4⟩
    · have eN : pNl R (nI a) P i = P i := by unfold pNl; rw [if_neg h0]
      have eB : pBl R (nI a) P i = 0 := by unfold pBl; rw [if_neg h0]
      rw [if_neg h0]
      simp only [fX6_shocks_L134, o0, pz_b, pz_nm]
      rw [q0, if_neg h0, nI_1]
      exact pr_l hn ha hW hR d (i + 1) fuel w m (by omega) (by omega) (H.stay hi eN (by rw [pSum_s, eB, Int32.add_zero])) (by rw [pFr_0 eB]; exact hm)
theorem pr_k {k12 : qMem → Int32 → Int32 → Int32 → Int32 → Option (Int32 × qMem)} {n T a : Nat} {R : Nat → Nat} {P : Nat → Nat → Int32} {B m : Int32} {F : Nat → Int32} (hn : n ≤ 12) (ha : a ≤ 9) (hW : ∀ i, i < n → pWF T (P i)) (hR : ∀ f, pRe P n a f = R f) (hRa : ∀ f, R f ≤ 9) (hm : pMs m F) : ∀ (d i fuel : Nat) (w : qMem), i + d = n → d < fuel → pInR w n i (pNk R F P) P B → ∃ w1 : qMem, fX6_shocks_L21 k12 fuel w (nI a) m (pSum (pMk R F P) i) 3 (nI i) = k12 w1 (nI a) m (pSum (pMk R F P) n) 4 ∧ pOffR w w1 ∧ pInR w1 n n (pNk R F P) P B
  | 0, i, fuel + 1, w, e, _, H => by
    have e : i = n := by omega
    subst e
    refine ⟨w, ?_, pOffR.rf w, H⟩
    simp only [fX6_shocks_L21, pz_nm]
    rw [if_pos (by rw [H.1]; exact pz_ge (Nat.le_refl i) (by omega))]
    rfl
  | d + 1, i, fuel + 1, w, e, hf, H => by
    have hi : i < n := by omega
    have hA := H.at hi
    have hWc := (hW i hi).ag hA.sy
    obtain ⟨f0, hf0, e0⟩ := (hW i hi).fl
    have efl : (P i 1).toNatClampNeg = f0 := by rw [e0]; exact pz_nI (by omega)
    obtain ⟨o0, o1, o2, o3, o4, o5, o6⟩ := pz_of_ (w := w) (i := i) (by omega)
    have q0 : w 239 (15 + 7 * i) = P i 0 := hA 0 (by decide)
    have q1 : w 239 (15 + 7 * i + 1) = nI f0 := (hA 1 (by decide)).trans e0
    have hN : ∀ j, pNk R F P j 0 = P j 0 ∧ pNk R F P j 1 = P j 1 := fun j => by
      unfold pNk; split
      · exact ⟨pCatN_0 _ _ _, pCatN_1 _ _ _⟩
      · exact ⟨rfl, rfl⟩
    simp only [fX6_shocks_L21, o0, o1, pz_b]
    rw [if_neg (by rw [H.1]; exact nI_ge hi (by omega)), q0, q1, H.str hn ha hN hf0, pz_b, hR]
    simp only [fX6_shocks_L134, o0, pz_b, pz_nm]
    rw [q0, if_pos (show (3 : Int32) ≤ 3 by decide), ite_self]
    by_cases h0 : P i 0 = 3
    · have eN : pNk R F P i = pCatN (nI (R f0)) (F f0) (P i) := by unfold pNk; rw [if_pos h0, efl]
      have eM : pMk R F P i = pCatM (nI (R f0)) (F f0) (P i) := by unfold pMk; rw [if_pos h0, efl]
      have hk : ∀ fr : Int32, fr = F f0 → ∃ w1 : qMem, (qbd2 (fX6_marks w (nI i) (nI (R f0)) fr) fun (r26 : Int32) (w27 : qMem) => fX6_shocks_L21 k12 fuel w27 (nI a) m (pSum (pMk R F P) i + r26) 3 (nI i + 1)) = k12 w1 (nI a) m (pSum (pMk R F P) n) 4 ∧ pOffR w w1 ∧ pInR w1 n n (pNk R F P) P B := by
        intro fr hfr
        subst hfr
        rw [qr_cat (by omega) (hRa f0) hWc, pz_b2, hA.catM, nI_1]
        obtain ⟨w2, g1, g2, g3⟩ := pr_k (k12 := k12) hn ha hW hR hRa hm d (i + 1) fuel _ (by omega) (by omega) (H.new (g := pCatN (nI (R f0)) (F f0) (pzS (w 239) i)) (by rw [eN]; exact hA.catN _ _))
        refine ⟨w2, ?_, pOffR.pr.tr g2, g3⟩
        rw [← eM]; exact g1
      rw [if_pos h0]
      have ef := hm.t hf0
      by_cases hz : (m >>> (nI f0 &&& 31)) &&& 1 = 1
      · rw [if_pos hz] at ef ⊢
        exact hk 1 ef.symm
      · rw [if_neg hz] at ef ⊢
        exact hk 0 ef.symm
    · have eN : pNk R F P i = P i := by unfold pNk; rw [if_neg h0]
      have eM : pMk R F P i = 0 := by unfold pMk; rw [if_neg h0]
      rw [if_neg h0, nI_1]
      have e2 : pSum (pMk R F P) (i + 1) = pSum (pMk R F P) i := by simp only [pSum]; rw [eM, Int32.add_zero]
      rw [← e2]
      exact pr_k hn ha hW hR hRa hm d (i + 1) fuel w (by omega) (by omega) (H.stay hi eN rfl)
theorem pr_end (n : Nat) (w : qMem) (a m x3 : Int32) : fX6_shocks_L12 (n + 1) w a m x3 4 = some (x3, quw (quw (quw w 239 2 (w 239 2 + 1)) 239 4 (w 239 4 + x3)) 239 5 (w 239 5 + w 238 11)) := by
  simp only [fX6_shocks_L12, pz_nm]
  rw [if_pos (by decide), pz_wk (by decide), pz_wk (by decide), pz_wk (by decide), pz_wn (by decide), pz_wn (by decide)]
theorem pr_shock {w : qMem} {T a : Nat} {S : pSt} (ha : a ≤ 9) (hW : pW T S) (H : pR (w 239) S) : ∃ w1 : qMem, fX6_shocks w (nI a) = some (pMa (sN S) a (sP S), w1) ∧ pR (w1 239) (sShk a S) ∧ (∀ c, c ≠ 238 → c ≠ 239 → w1 c = w c) ∧ (∀ k, k ≠ 11 → w1 238 k = w 238 k) ∧ w1 238 11 = pBr (sN S) a (sP S) := by
  obtain ⟨hn, hP, hq, hL, hG, _⟩ := hW
  obtain ⟨⟨H1, H2⟩, H3, H4, H5⟩ := H
  have hRa : ∀ f, pRe (sP S) (sN S) a f ≤ 9 := fun f => Nat.le_trans (pRe_le _ _ _ _) ha
  have hI : pInR (quw w 238 11 0) (sN S) 0 (pNc (pRe (sP S) (sN S) a) (sP S)) (sP S) (0 + pSum (pBc (pRe (sP S) (sN S) a) (sP S)) 0) :=
    ⟨by rw [pz_wn (by decide)]; exact H1, fun j hj => by rw [if_neg (by omega)]; intro k hk; unfold pzS; rw [pz_wn (by decide)]; exact H2 j hj k hk, by rw [pz_w]; rfl⟩
  obtain ⟨w1, m1, e1, k1, i1, s1⟩ := pr_c (k12 := fX6_shocks_L12 99) (x3 := 0) (F0 := fun _ => 0) hn ha hP (sN S) 0 100 (quw w 238 11 0) 0 (by omega) (by omega) hI ⟨0, by decide, rfl, fun f _ => by simp [pFr]⟩
  have hI2 : pInR w1 (sN S) 0 (pNl (pRe (sP S) (sN S) a) (nI a) (pP1 (sN S) a (sP S))) (pP1 (sN S) a (sP S)) ((0 + pSum (pBc (pRe (sP S) (sN S) a) (sP S)) (sN S)) + pSum (pBl (pRe (sP S) (sN S) a) (nI a) (pP1 (sN S) a (sP S))) 0) := by
    refine ⟨i1.1, fun j hj => ?_, ?_⟩
    · have := i1.2.1 j hj
      rw [if_pos hj] at this
      rw [if_neg (by omega)]; exact this
    · rw [i1.2.2]; exact (Int32.add_zero _).symm
  have hR1 : ∀ f, pRe (pP1 (sN S) a (sP S)) (sN S) a f = pRe (sP S) (sN S) a f := fun f => pRe_eq (fun i _ => pP1_0 _ _ _ i) a f
  have hR2 : ∀ f, pRe (pP2 (sN S) a (sP S)) (sN S) a f = pRe (sP S) (sN S) a f := fun f => pRe_eq (fun i _ => pP2_0 _ _ _ i) a f
  obtain ⟨w2, m2, e2, k2, i2, s2⟩ := pr_l (k12 := fX6_shocks_L12 98) (x3 := 0) (F0 := pF1 (sN S) a (sP S)) hn ha (pNc_W hP) hR1 (sN S) 0 100 w1 m1 (by omega) (by omega) hI2 s1
  have hI3 : pInR w2 (sN S) 0 (pNk (pRe (sP S) (sN S) a) (pF2 (sN S) a (sP S)) (pP2 (sN S) a (sP S))) (pP2 (sN S) a (sP S)) (pBr (sN S) a (sP S)) := by
    refine ⟨i2.1, fun j hj => ?_, ?_⟩
    · have := i2.2.1 j hj
      rw [if_pos hj] at this
      rw [if_neg (by omega)]; exact this
    · rw [i2.2.2, Int32.zero_add]; rfl
  obtain ⟨w3, e3, k3, i3⟩ := pr_k (k12 := fX6_shocks_L12 97) hn ha (pNl_W ha hP) hR2 hRa s2 (sN S) 0 100 w2 (by omega) (by omega) hI3
  have ko := k1.tr (k2.tr k3)
  have k39 : ∀ k, k < 15 → w3 239 k = w 239 k := fun k hk => by rw [ko.2.2 k hk, pz_wn (by decide)]
  refine ⟨quw (quw (quw w3 239 2 (w3 239 2 + 1)) 239 4 (w3 239 4 + pMa (sN S) a (sP S))) 239 5 (w3 239 5 + w3 238 11), ?_, ⟨⟨?_, fun i hi k hk => ?_⟩, ?_, fun j hj => ?_, fun k hk => ?_⟩, fun c hc hc2 => ?_, fun k hk => ?_, ?_⟩
  · unfold fX6_shocks
    rw [pz_nm]
    have a1 : fX6_shocks_L12 100 (quw w 238 11 0) (nI a) 0 0 1 = fX6_shocks_L12 99 w1 (nI a) m1 0 2 := e1
    have a2 : fX6_shocks_L12 99 w1 (nI a) m1 0 2 = fX6_shocks_L12 98 w2 (nI a) m2 0 3 := e2
    have a3 : fX6_shocks_L12 98 w2 (nI a) m2 0 3 = fX6_shocks_L12 97 w3 (nI a) m2 (pMa (sN S) a (sP S)) 4 := e3
    rw [a1, a2, a3]
    exact pr_end 96 _ _ _ _
  · have := H1
    rw [pz_wk (by decide), pz_wk (by decide), pz_wk (by decide), k39 _ (by decide)]; exact this
  · have := i3.2.1 i hi
    have hi' : i < sN S := hi
    rw [if_pos hi'] at this
    have q := this k hk
    unfold pzS at q ⊢
    rw [pz_wk (by omega), pz_wk (by omega), pz_wk (by omega)]; exact q
  · rw [pz_wk (by decide), pz_wk (by decide), pz_wk (by decide), k39 _ (by decide)]; exact H3
  · have hj' : j < sQ S := hj
    rw [pz_wk (by omega), pz_wk (by omega), pz_wk (by omega), k39 _ (by omega)]; exact H4 j hj
  · have e6 := H5 1 (by decide)
    have e8 := H5 3 (by decide)
    have e9 := H5 4 (by decide)
    have e0 := H5 0 (by decide)
    have e7 := H5 2 (by decide)
    rcases k with _ | _ | _ | _ | _ | k
    · show quw _ _ _ _ _ _ = sG S 0
      rw [pz_wk (by decide), pz_wk (by decide), pz_wk (by decide), k39 _ (by decide)]; exact e0
    · show quw _ _ _ _ _ _ = sG S 1 + 1
      rw [pz_wk (by decide), pz_wk (by decide), pz_w, k39 _ (by decide)]; exact congrArg (· + 1) e6
    · show quw _ _ _ _ _ _ = sG S 2
      rw [pz_wk (by decide), pz_wk (by decide), pz_wk (by decide), k39 _ (by decide)]; exact e7
    · show quw _ _ _ _ _ _ = sG S 3 + pMa (sN S) a (sP S)
      rw [pz_wk (by decide), pz_w, k39 _ (by decide)]; exact congrArg (· + _) e8
    · show quw _ _ _ _ _ _ = sG S 4 + pBr (sN S) a (sP S)
      rw [pz_w, i3.2.2, k39 _ (by decide)]; exact congrArg (· + _) e9
    · omega
  · rw [pz_wr, pz_rn hc2, pz_wr, pz_rn hc2, pz_wr, pz_rn hc2, ko.1 c hc hc2, pz_wr, pz_rn hc]
  · rw [pz_wn (by decide), pz_wn (by decide), pz_wn (by decide), ko.2.1 k hk, pz_wk hk]
  · rw [pz_wn (by decide), pz_wn (by decide), pz_wn (by decide), i3.2.2]
