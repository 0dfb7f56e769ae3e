-- a hall's state: how many props, their fields, how many planned, the planned, strength shocks encores marks breakages
abbrev pSt : Type := Nat × (Nat → Nat → Int32) × Nat × (Nat → Int32) × (Nat → Int32)
def sN (S : pSt) : Nat := S.1
def sP (S : pSt) : Nat → Nat → Int32 := S.2.1
def sQ (S : pSt) : Nat := S.2.2.1
def sL (S : pSt) : Nat → Int32 := S.2.2.2.1
def sG (S : pSt) : Nat → Int32 := S.2.2.2.2
def pH (w : qMem) (h : Nat) (S : pSt) : Prop := pHC w h (sN S) (sP S) ∧ w (19 * h) 4 = nI (sQ S) ∧ (∀ j, j < sQ S → w (19 * h + 15) j = sL S j) ∧ ∀ k, k < 5 → w (19 * h) (5 + k) = sG S k
/-- a hall that keeps to it: T bounds the tallies -/
def pW (T : Nat) (S : pSt) : Prop := sN S ≤ 12 ∧ (∀ i, i < sN S → pWF T (sP S i)) ∧ sQ S ≤ 8 ∧ (∀ j, j < sQ S → ∃ a, 1 ≤ a ∧ a ≤ 9 ∧ sL S j = nI a) ∧ (∃ a, 1 ≤ a ∧ a ≤ 9 ∧ sG S 0 = nI a) ∧ ∀ f, f < 5 → ∀ k, k = 1 ∨ k = 2 ∨ k = 3 → pCn (sP S) k (nI f) (sN S) ≤ 5
def pP1 (n a : Nat) (P : Nat → Nat → Int32) : Nat → Nat → Int32 := pNc (pRe P n a) P
def pP2 (n a : Nat) (P : Nat → Nat → Int32) : Nat → Nat → Int32 := pNl (pRe P n a) (nI a) (pP1 n a P)
def pF1 (n a : Nat) (P : Nat → Nat → Int32) : Nat → Int32 := pFr (pBc (pRe P n a) P) P (fun _ => 0) n
def pF2 (n a : Nat) (P : Nat → Nat → Int32) : Nat → Int32 := pFr (pBl (pRe P n a) (nI a) (pP1 n a P)) (pP1 n a P) (pF1 n a P) n
def pP3 (n a : Nat) (P : Nat → Nat → Int32) : Nat → Nat → Int32 := pNk (pRe P n a) (pF2 n a P) (pP2 n a P)
def pBr (n a : Nat) (P : Nat → Nat → Int32) : Int32 := pSum (pBc (pRe P n a) P) n + pSum (pBl (pRe P n a) (nI a) (pP1 n a P)) n
def pMa (n a : Nat) (P : Nat → Nat → Int32) : Int32 := pSum (pMk (pRe P n a) (pF2 n a P) (pP2 n a P)) n
def sShk (a : Nat) (S : pSt) : pSt := (sN S, pP3 (sN S) a (sP S), sQ S, sL S, upd (upd (upd (sG S) 1 (sG S 1 + 1)) 3 (sG S 3 + pMa (sN S) a (sP S))) 4 (sG S 4 + pBr (sN S) a (sP S)))
theorem pFr_b {b : Nat → Int32} {P : Nat → Nat → Int32} {F0 : Nat → Int32} (h : ∀ f, F0 f = 0 ∨ F0 f = 1) : ∀ n f, pFr b P F0 n f = 0 ∨ pFr b P F0 n f = 1
  | 0, f => h f
  | n + 1, f => by
    simp only [pFr]
    split
    · exact pFr_b h n f
    · by_cases q : f = (P n 1).toNatClampNeg
      · subst q; exact Or.inr pz_u
      · rw [pz_un q]; exact pFr_b h n f
theorem pNc_W {T n a : Nat} {P : Nat → Nat → Int32} (hW : ∀ i, i < n → pWF T (P i)) : ∀ i, i < n → pWF (T + 1) (pP1 n a P i) := by
  intro i hi
  unfold pP1 pNc
  split
  · exact (hW i hi).cup (by assumption) _
  · exact (hW i hi).mo (by omega)
theorem pNl_W {T n a : Nat} {P : Nat → Nat → Int32} (ha : a ≤ 9) (hW : ∀ i, i < n → pWF T (P i)) : ∀ i, i < n → pWF (T + 1) (pP2 n a P i) := by
  intro i hi
  unfold pP2 pNl
  split
  · exact (pNc_W hW i hi).lamp (by assumption) (Nat.le_trans (pRe_le _ _ _ _) ha) _
  · exact pNc_W hW i hi
theorem pNk_W {T n a : Nat} {P : Nat → Nat → Int32} (ha : a ≤ 9) (hW : ∀ i, i < n → pWF T (P i)) : ∀ i, i < n → pWF (T + 6) (pP3 n a P i) := by
  intro i hi
  unfold pP3 pNk
  split
  · exact (pNl_W ha hW i hi).cat (by assumption) (Nat.le_trans (pRe_le _ _ _ _) ha) _
  · exact (pNl_W ha hW i hi).mo (by omega)
-- kinds and floors stay
theorem pCatN_1 (r f : Int32) (p : Nat → Int32) : pCatN r f p 1 = p 1 := by unfold pCatN; split <;> rfl
theorem pCatN_0 (r f : Int32) (p : Nat → Int32) : pCatN r f p 0 = p 0 := by unfold pCatN; split <;> rfl
theorem pLampN_0 (r a : Int32) (p : Nat → Int32) : pLampN r a p 0 = p 0 := by unfold pLampN; split <;> rfl
theorem pCupN_0 (r : Int32) (p : Nat → Int32) : pCupN r p 0 = p 0 := by
  unfold pCupN
  split
  · split
    · split
      · rfl
      · rfl
    · rfl
  · rfl
theorem pP1_0 (n a : Nat) (P : Nat → Nat → Int32) (i : Nat) : pP1 n a P i 0 = P i 0 ∧ pP1 n a P i 1 = P i 1 := by
  unfold pP1 pNc; split
  · exact ⟨pCupN_0 _ _, pCupN_1 _ _⟩
  · exact ⟨rfl, rfl⟩
theorem pP2_0 (n a : Nat) (P : Nat → Nat → Int32) (i : Nat) : pP2 n a P i 0 = P i 0 ∧ pP2 n a P i 1 = P i 1 := by
  unfold pP2 pNl; split
  · exact ⟨(pLampN_0 _ _ _).trans (pP1_0 n a P i).1, (pLampN_1 _ _ _).trans (pP1_0 n a P i).2⟩
  · exact pP1_0 n a P i
theorem pP3_0 (n a : Nat) (P : Nat → Nat → Int32) (i : Nat) : pP3 n a P i 0 = P i 0 ∧ pP3 n a P i 1 = P i 1 := by
  unfold pP3 pNk; split
  · exact ⟨(pCatN_0 _ _ _).trans (pP2_0 n a P i).1, (pCatN_1 _ _ _).trans (pP2_0 n a P i).2⟩
  · exact pP2_0 n a P i
theorem pCn_eq {P Q : Nat → Nat → Int32} (k f : Int32) : ∀ n, (∀ i, i < n → P i 0 = Q i 0 ∧ P i 1 = Q i 1) → pCn P k f n = pCn Q k f n
  | 0, _ => rfl
  | n + 1, h => by
    simp only [pCn]
    rw [pCn_eq k f n (fun i hi => h i (by omega)), (h n (by omega)).1, (h n (by omega)).2]
theorem pT_eq {P Q : Nat → Nat → Int32} {n : Nat} (h : ∀ i, i < n → P i 0 = Q i 0 ∧ P i 1 = Q i 1) : ∀ f, pT P n f = pT Q n f
  | 0 => rfl
  | f + 1 => by simp only [pT]; rw [pT_eq h f, pCn_eq 3 (nI f) n h]
theorem pRe_eq {P Q : Nat → Nat → Int32} {n : Nat} (h : ∀ i, i < n → P i 0 = Q i 0 ∧ P i 1 = Q i 1) (a f : Nat) : pRe P n a f = pRe Q n a f := by
  unfold pRe; rw [pT_eq h]
theorem sShk_W {T a : Nat} {S : pSt} (ha : a ≤ 9) (H : pW T S) : pW (T + 6) (sShk a S) := by
  obtain ⟨h1, h2, h3, h4, h5, h6⟩ := H
  refine ⟨h1, pNk_W ha h2, h3, h4, h5, fun f hf k hk => ?_⟩
  have e : pCn (sP (sShk a S)) k (nI f) (sN S) = pCn (sP S) k (nI f) (sN S) := pCn_eq k (nI f) _ (fun i _ => pP3_0 _ _ _ i)
  show pCn (sP (sShk a S)) k (nI f) (sN S) ≤ 5
  rw [e]; exact h6 f hf k hk
theorem pc_shock {w : qMem} {h T a : Nat} {S : pSt} (hh : h < 12) (ha : a ≤ 9) (hW : pW T S) (H : pH w h S) : ∃ w1 : qMem, fX0_performShock w h (nI a) = some (pMa (sN S) a (sP S), w1) ∧ pH w1 h (sShk a S) ∧ ∀ c, (c < 19 * h ∨ 19 * h + 19 ≤ c) → w1 c = w c := by
  obtain ⟨hn, hP, hq, hL, hG, _⟩ := hW
  obtain ⟨⟨H1, H2⟩, H3, H4, H5⟩ := H
  obtain ⟨w1, e1, k1, r1⟩ := pc_spread hh hn ha hP ⟨H1, H2⟩
  obtain ⟨w2, e2, k2, z2⟩ := pc_c1 (h := h) 5 0 100 w1 (by omega) (by omega) (fun f hf => absurd hf (by omega))
  have hI : pInC w2 h (sN S) 0 (pRe (sP S) (sN S) a) (pNc (pRe (sP S) (sN S) a) (sP S)) (sP S) (w (19 * h) 9 + pSum (pBc (pRe (sP S) (sN S) a) (sP S)) 0) (pFr (pBc (pRe (sP S) (sN S) a) (sP S)) (sP S) (fun _ => 0) 0) := by
    refine ⟨by rw [k2 _ (by omega), k1 _ (by omega) (by omega)]; exact H1, fun j hj => ?_, ?_, fun f hf => z2 f hf, fun f hf => ?_⟩
    · rw [if_neg (by omega), k2 _ (by omega), k1 _ (by omega) (by omega)]; exact H2 j hj
    · rw [k2 _ (by omega), k1 _ (by omega) (by omega)]; exact (Int32.add_zero _).symm
    · rw [k2 _ (by omega)]; exact r1 f hf
  obtain ⟨w3, e3, k3, i3⟩ := pc_c2 hh hn hP (sN S) 0 100 w2 (by omega) (by omega) hI
  have hI4 : pInC w3 h (sN S) 0 (pRe (sP S) (sN S) a) (pNl (pRe (sP S) (sN S) a) (nI a) (pP1 (sN S) a (sP S))) (pP1 (sN S) a (sP S)) ((w (19 * h) 9 + pSum (pBc (pRe (sP S) (sN S) a) (sP S)) (sN S)) + pSum (pBl (pRe (sP S) (sN S) a) (nI a) (pP1 (sN S) a (sP S))) 0) (pFr (pBl (pRe (sP S) (sN S) a) (nI a) (pP1 (sN S) a (sP S))) (pP1 (sN S) a (sP S)) (pF1 (sN S) a (sP S)) 0) := by
    refine ⟨i3.1, fun j hj => ?_, ?_, i3.2.2.2.1, i3.2.2.2.2⟩
    · have := i3.2.1 j hj
      rw [if_pos hj] at this
      rw [if_neg (by omega)]; exact this
    · rw [i3.2.2.1]; exact (Int32.add_zero _).symm
  obtain ⟨w4, e4, k4, i4⟩ := pc_l2 hh hn (pNc_W hP) (sN S) 0 100 w3 (by omega) (by omega) hI4
  have hI5 : pInC w4 h (sN S) 0 (pRe (sP S) (sN S) a) (pNk (pRe (sP S) (sN S) a) (pF2 (sN S) a (sP S)) (pP2 (sN S) a (sP S))) (pP2 (sN S) a (sP S)) (w (19 * h) 9 + pBr (sN S) a (sP S)) (pF2 (sN S) a (sP S)) := by
    refine ⟨i4.1, fun j hj => ?_, ?_, i4.2.2.2.1, i4.2.2.2.2⟩
    · have := i4.2.1 j hj
      rw [if_pos hj] at this
      rw [if_neg (by omega)]; exact this
    · rw [i4.2.2.1, Int32.add_assoc]; rfl
  have hFb : ∀ f, f < 5 → pF2 (sN S) a (sP S) f = 0 ∨ pF2 (sN S) a (sP S) f = 1 := fun f _ => pFr_b (pFr_b (fun _ => Or.inl rfl) _) _ f
  obtain ⟨w5, e5, k5, i5⟩ := pc_k2 hh hn (pNl_W ha hP) hFb (sN S) 0 100 w4 (by omega) (by omega) hI5
  have ko := k3.tr (k4.tr k5)
  have kh : ∀ k, k ≠ 9 → w5 (19 * h) k = w (19 * h) k := fun k hk => by rw [ko.2 k hk, k2 _ (by omega), k1 _ (by omega) (by omega)]
  refine ⟨quw (quw w5 (19 * h) 6 (w5 (19 * h) 6 + 1)) (19 * h) 8 (w5 (19 * h) 8 + pMa (sN S) a (sP S)), ?_, ⟨⟨?_, fun i hi k hk => ?_⟩, ?_, fun j hj => ?_, fun k hk => ?_⟩, fun c hc => ?_⟩
  · unfold fX0_performShock
    rw [e1, pz_b]
    have e23 : fX0_shakeCups w1 h = some w3 := by unfold fX0_shakeCups; exact e2.trans e3
    have e4' : fX0_shakeLamps w3 h (nI a) = some w4 := e4
    have e5' : fX0_askCats w4 h = some (pMa (sN S) a (sP S), w5) := e5
    rw [e23, pz_b, e4', pz_b, e5', pz_b2, pz_nm, pz_nm, pz_wk (by decide)]
  · rw [pz_wk (by decide), pz_wk (by decide), kh _ (by decide)]; exact H1
  · rw [pz_wn (by omega), pz_wn (by omega)]
    have := i5.2.1 i hi
    have hi' : i < sN S := hi
    rw [if_pos hi'] at this
    exact this k hk
  · rw [pz_wk (by decide), pz_wk (by decide), kh _ (by decide)]; exact H3
  · rw [pz_wn (by omega), pz_wn (by omega), ko.1 _ (by omega) (by omega), k2 _ (by omega), k1 _ (by omega) (by omega)]; exact H4 j hj
  · have e6 := H5 1 (by decide)
    have e8 := H5 3 (by decide)
    have e9 := H5 4 (by decide)
    have e0 := H5 0 (by decide)
    have e7 := H5 2 (by decide)
    rcases k with _ | _ | _ | _ | _ | k
    · show quw _ _ _ _ _ _ = sG S 0
      rw [pz_wk (by decide), pz_wk (by decide), kh _ (by decide)]; exact e0
    · show quw _ _ _ _ _ _ = sG S 1 + 1
      rw [pz_wk (by decide), pz_w, kh _ (by decide)]; exact congrArg (· + 1) e6
    · show quw _ _ _ _ _ _ = sG S 2
      rw [pz_wk (by decide), pz_wk (by decide), kh _ (by decide)]; exact e7
    · show quw _ _ _ _ _ _ = sG S 3 + pMa (sN S) a (sP S)
      rw [pz_w, kh _ (by decide)]; exact congrArg (· + _) e8
    · show quw _ _ _ _ _ _ = sG S 4 + pBr (sN S) a (sP S)
      rw [pz_wk (by decide), pz_wk (by decide), i5.2.2.1]; exact congrArg (· + _) e9
    · omega
  · have hc1 : c ≠ 19 * h := by omega
    funext k
    rw [pz_wn hc1, pz_wn hc1, ko.1 c (by omega) (by omega), k2 _ (by omega), k1 _ (by omega) (by omega)]
