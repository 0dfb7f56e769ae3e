theorem pj_str (a : Int32) : (∃ n, 1 ≤ n ∧ n ≤ 9 ∧ a = nI n) ∧ (∀ w, fX5_isStrength w a = some 1) ∨ (¬ ∃ n, 1 ≤ n ∧ n ≤ 9 ∧ a = nI n) ∧ ∀ w, fX5_isStrength w a = some 0 := by
  have hno : ∀ n, 1 ≤ n → n ≤ 9 → ∀ w, fX5_isStrength w (nI n) = some 1 := fun n h1 h2 w => by
    unfold fX5_isStrength
    rw [if_neg (show ¬ nI n < (1 : Int32) from nI_nlt (a := n) (b := 1) h1 (by omega)), if_neg (show ¬ (9 : Int32) < nI n from nI_nlt (a := 9) (b := n) h2 (by omega))]
  by_cases h : ∃ n, 1 ≤ n ∧ n ≤ 9 ∧ a = nI n
  · obtain ⟨n, h1, h2, rfl⟩ := h
    exact Or.inl ⟨⟨n, h1, h2, rfl⟩, hno n h1 h2⟩
  · refine Or.inr ⟨h, fun w => ?_⟩
    unfold fX5_isStrength
    rcases pj_in 1 9 (by decide) (by decide) a with ⟨n, h1, h2, e, q1, q2⟩ | q | ⟨q1, q2⟩
    · exact absurd ⟨n, h1, h2, e⟩ h
    · rw [if_pos (show a < 1 from q)]
    · rw [if_neg (show ¬ a < 1 from q1), if_pos (show (9 : Int32) < a from q2)]
theorem pj_floor (a : Int32) : (∃ n, n < 5 ∧ a = nI n) ∧ (∀ w, fX5_isFloor w a = some 1) ∨ (¬ ∃ n, n < 5 ∧ a = nI n) ∧ ∀ w, fX5_isFloor w a = some 0 := by
  by_cases h : ∃ n, n < 5 ∧ a = nI n
  · obtain ⟨n, h1, rfl⟩ := h
    exact Or.inl ⟨⟨n, h1, rfl⟩, fun w => pz_fl h1⟩
  · refine Or.inr ⟨h, fun w => ?_⟩
    unfold fX5_isFloor
    rcases pj_in 0 4 (by decide) (by decide) a with ⟨n, h1, h2, e, q1, q2⟩ | q | ⟨q1, q2⟩
    · exact absurd ⟨n, by omega, e⟩ h
    · rw [if_pos (show a < 0 from q)]
    · have q2 : (4 : Int32) < a := q2
      have q3 : (5 : Int32) ≤ a := by
        rw [Int32.le_iff_toInt_le]
        rw [Int32.lt_iff_toInt_lt] at q2
        have e4 : (4 : Int32).toInt = 4 := by decide
        have e5 : (5 : Int32).toInt = 5 := by decide
        omega
      rw [if_neg (show ¬ a < 0 from q1), if_pos q3]
theorem pj_prop (n : Nat) (hn : n ≤ 12) (a : Int32) : (∃ i, i < n ∧ a = nI i ∧ ¬ a < 0 ∧ a < nI n) ∨ (¬ ∃ i, i < n ∧ a = nI i) ∧ (a < 0 ∨ (¬ a < 0 ∧ ¬ a < nI n)) := by
  by_cases h : ∃ i, i < n ∧ a = nI i
  · obtain ⟨i, h1, rfl⟩ := h
    exact Or.inl ⟨i, h1, rfl, nI_pos (by omega), nI_lt h1 (by omega)⟩
  · refine Or.inr ⟨h, ?_⟩
    by_cases q : a < 0
    · exact Or.inl q
    · refine Or.inr ⟨q, fun z => h ?_⟩
      rw [Int32.lt_iff_toInt_lt] at q z
      rw [nI_toInt (by omega)] at z
      have e0 : (0 : Int32).toInt = 0 := by decide
      refine ⟨a.toInt.toNat, by omega, ?_⟩
      apply Int32.toInt_inj.mp
      rw [nI_toInt (by omega)]
      omega
theorem pj_cue (a : Int32) : (∃ n, n ≤ 9 ∧ a = nI n) ∧ (a = 0 ∨ ¬ a = 0 ∧ ∀ w, fX5_isStrength w a = some 1) ∨ (¬ ∃ n, n ≤ 9 ∧ a = nI n) ∧ ¬ a = 0 ∧ ∀ w, fX5_isStrength w a = some 0 := by
  rcases pj_str a with ⟨⟨n, h1, h2, e⟩, q⟩ | ⟨h, q⟩
  · exact Or.inl ⟨⟨n, h2, e⟩, Or.inr ⟨by rw [e]; exact nI_ne0 (by omega) (by omega), q⟩⟩
  · by_cases h0 : a = 0
    · exact Or.inl ⟨⟨0, by omega, h0⟩, Or.inl h0⟩
    · exact Or.inr ⟨fun ⟨n, h2, e⟩ => h ⟨n, Nat.pos_of_ne_zero (fun z => h0 (by rw [e, z]; rfl)), h2, e⟩, h0, q⟩
theorem pSum_n {g : Nat → Int32} {c : Nat} : ∀ n, (∀ i, i < n → ∃ x, x ≤ c ∧ g i = nI x) → ∃ y, y ≤ c * n ∧ pSum g n = nI y
  | 0, _ => ⟨0, Nat.le_refl _, rfl⟩
  | n + 1, h => by
    obtain ⟨y, h1, e1⟩ := pSum_n n (fun i hi => h i (by omega))
    obtain ⟨x, h2, e2⟩ := h n (by omega)
    exact ⟨y + x, by rw [Nat.mul_succ]; omega, by show pSum g n + g n = _; rw [e1, e2, nI_add]⟩
theorem pMk_n {T n a : Nat} {P : Nat → Nat → Int32} {R : Nat → Nat} {F : Nat → Int32} (hW : ∀ i, i < n → pWF T (P i)) (hR : ∀ f, R f ≤ 9) : ∀ i, i < n → ∃ x, x ≤ 5 ∧ pMk R F P i = nI x := fun i hi => by
  unfold pMk
  by_cases h0 : P i 0 = 3
  · rw [if_pos h0]
    obtain ⟨f, m, d, c, t, ⟨b1, b2, b3, b4⟩, h1, h2, h3, h5, h6, h⟩ := hW i hi
    obtain ⟨x, hx, e⟩ := pt_5 m (by omega) (R (P i 1).toNatClampNeg) (by have := hR (P i 1).toNatClampNeg; omega)
    by_cases hF : F (P i 1).toNatClampNeg = 0
    · refine ⟨x, hx, ?_⟩
      unfold pCatM pDist
      rw [if_pos hF, h2]; exact e
    · refine ⟨0, by omega, ?_⟩
      unfold pCatM
      rw [if_neg hF]; rfl
  · exact ⟨0, by omega, by rw [if_neg h0]; rfl⟩
theorem pMa_n {T n a : Nat} {P : Nat → Nat → Int32} (ha : a ≤ 9) (hW : ∀ i, i < n → pWF T (P i)) : ∃ y, y ≤ 5 * n ∧ pMa n a P = nI y :=
  pSum_n n (pMk_n (T := T + 1) (a := a) (fun i hi => pNl_W ha hW i hi) (fun f => Nat.le_trans (pRe_le _ _ _ _) ha))
theorem pBc_n {R : Nat → Nat} {P : Nat → Nat → Int32} (i : Nat) : ∃ x, x ≤ 1 ∧ pBc R P i = nI x := by
  unfold pBc
  split
  · rcases pCupR_b (nI (R (P i 1).toNatClampNeg)) (P i) with h | h
    · exact ⟨0, by omega, h⟩
    · exact ⟨1, by omega, h⟩
  · exact ⟨0, by omega, rfl⟩
theorem pBl_n {R : Nat → Nat} {a : Int32} {P : Nat → Nat → Int32} (i : Nat) : ∃ x, x ≤ 1 ∧ pBl R a P i = nI x := by
  unfold pBl
  split
  · rcases pLampR_b (nI (R (P i 1).toNatClampNeg)) a (P i) with h | h
    · exact ⟨0, by omega, h⟩
    · exact ⟨1, by omega, h⟩
  · exact ⟨0, by omega, rfl⟩
theorem pBr_n (n a : Nat) (P : Nat → Nat → Int32) : ∃ y, y ≤ 2 * n ∧ pBr n a P = nI y := by
  obtain ⟨y, h1, e1⟩ := pSum_n (g := pBc (pRe P n a) P) (c := 1) n (fun i _ => pBc_n i)
  obtain ⟨z, h2, e2⟩ := pSum_n (g := pBl (pRe P n a) (nI a) (pP1 n a P)) (c := 1) n (fun i _ => pBl_n i)
  exact ⟨y + z, by omega, by unfold pBr; rw [e1, e2, nI_add]⟩
theorem nI_nn (n : Nat) (h : n < 2 ^ 31) : (0 : Int32) ≤ nI n := nI_le (a := 0) (Nat.zero_le _) h
/-- an order, done by the class -/
def pDc (T : Nat) (k a b : Int32) (E : pSt → Int32 → Int32 → Int32 → pSt → Prop) : Prop := ∀ S : pSt, pW T S → ∃ (t v rs dt : Int32) (S' : pSt), pW (T + 100) S' ∧ (t = 0 ∨ t = 1 ∨ t = 2 ∨ t = 3) ∧ (t ≠ 0 → S' = S) ∧ E S t v rs S' ∧ ∀ w : qMem, pH w 0 S → ∃ w1 : qMem, fX5_tryOrder w k a b = some (t, w1) ∧ pOc w w1 t v rs dt S'
def eH (S : pSt) (t v _ : Int32) (S' : pSt) : Prop := t = 0 ∧ 0 ≤ v ∧ sN S' = sN S ∧ sQ S' = sQ S ∧ (pBq S → pBq S')
def eV (S : pSt) (t v _ : Int32) (S' : pSt) : Prop := t = 0 → 0 ≤ v
def eQ (_ : pSt) (t v _ : Int32) (_ : pSt) : Prop := t = 0 ∧ 0 ≤ v
def eS (a : Int32) (S : pSt) (t v rs : Int32) (S' : pSt) : Prop := t ≠ 1 ∧ (t = 0 → 0 ≤ v ∧ sN S' = sN S ∧ sQ S' = sQ S ∧ (pBq S → pBq S')) ∧ ((∃ n, 1 ≤ n ∧ n ≤ 9 ∧ a = nI n) → t = 0 ∨ t = 3 ∧ rs = 3)
def eA (a : Int32) (S : pSt) (t v rs : Int32) (S' : pSt) : Prop := t ≠ 1 ∧ (t = 0 → v = nI (sQ S + 1) ∧ sN S' = sN S ∧ sQ S' = sQ S + 1 ∧ (pBq S → pBq S')) ∧ ((∃ n, 1 ≤ n ∧ n ≤ 9 ∧ a = nI n) → sQ S < 8 → t = 0)
def eC (a b : Int32) (S : pSt) (t v rs : Int32) (S' : pSt) : Prop := (t = 0 → 0 ≤ v ∧ sN S' = sN S ∧ sQ S' = sQ S ∧ (pBq S → pBq S')) ∧ ((∃ i, i < sN S ∧ a = nI i) → (∃ c, c ≤ 9 ∧ b = nI c) → t = 0 ∨ t = 3 ∧ 3 ≤ rs)
def eP (a b : Int32) (S : pSt) (t v rs : Int32) (S' : pSt) : Prop := t ≠ 1 ∧ (t = 0 → v = nI (sN S) ∧ sN S' = sN S + 1 ∧ sQ S' = sQ S ∧ (pBq S → pBq S')) ∧ ((∃ f m, f < 5 ∧ 1 ≤ m ∧ m ≤ 9 ∧ a = nI f ∧ b = nI m) → sN S < 12 → t = 0 ∨ t = 3 ∧ rs = 2 ∧ 5 ≤ sN S)
theorem pd_shock (T : Nat) (a b : Int32) : pDc T 7 a b eH := by
  intro S hW
  obtain ⟨s, hs1, hs9, es⟩ := hW.2.2.2.2.1
  obtain ⟨y, hy, ey⟩ := pMa_n (n := sN S) hs9 hW.2.1
  refine ⟨0, pMa (sN S) s (sP S), 0, 0, sShk s S, (sShk_W hs9 hW).mo (by omega), Or.inl rfl, fun q => absurd rfl q, ⟨rfl, by rw [ey]; exact nI_nn _ (by have := hW.1; omega), rfl, rfl, pBq_shk s⟩, fun w H => ?_⟩
  · obtain ⟨w1, e1, k1, k2⟩ := pc_shock (h := 0) (by omega) hs9 hW H
    have e5 : w 0 5 = nI s := (H.2.2.2 0 (by decide)).trans es
    refine ⟨quw w1 228 10 (pMa (sN S) s (sP S)), ?_, pOc.ok 0 0 ?_ (fun c c1 c2 => ?_) ?_⟩
    · unfold fX5_tryOrder
      rw [if_neg (by decide), if_neg (by decide), if_neg (by decide), if_neg (by decide), if_neg (by decide), if_neg (by decide), if_pos rfl, e5, e1, pz_b2, pc_ans, pz_b2]
    · exact ph_same (sShk_W hs9 hW) (fun c _ h2 => by rw [pz_wr, pz_rn (by omega)]) k1
    · rw [pz_wr, pz_rn c2]; exact k2 c (by omega)
    · rw [pz_wr, pz_r, k2 228 (by omega)]
theorem pd_set (T : Nat) (a b : Int32) : pDc T 6 a b (eS a) := by
  intro S hW
  obtain ⟨s, hs1, hs9, es⟩ := hW.2.2.2.2.1
  have c5 : ∀ w : qMem, pH w 0 S → w 0 5 = nI s := fun w H => (H.2.2.2 0 (by decide)).trans es
  have hO : ∀ w : qMem, fX5_tryOrder w 6 a b = qbd2 (fX5_trySetting w a) fun (r23 : Int32) (w24 : qMem) => some (r23, w24) := fun w => by
    unfold fX5_tryOrder
    rw [if_neg (by decide), if_neg (by decide), if_neg (by decide), if_neg (by decide), if_neg (by decide), if_pos rfl]
  rcases pj_str a with ⟨⟨x, x1, x9, ex⟩, q1⟩ | ⟨qn, q1⟩
  · by_cases hz : nI s = a
    · refine ⟨3, 0, 3, a, S, hW.mo (by omega), by decide, fun _ => rfl, ⟨by decide, fun z => absurd z (by decide), fun _ => Or.inr ⟨rfl, rfl⟩⟩, fun w H => ?_⟩
      · refine ⟨_, ?_, pOc.rf 0 3 a hW H⟩
        rw [hO]; unfold fX5_trySetting
        rw [q1, pz_b, if_neg (by decide), c5 w H, if_pos hz, pc_ref, pz_b2, pz_b2]
    · refine ⟨0, nI s, 0, 0, sSet x S, ?_, by decide, fun q => absurd rfl q, ⟨by decide, fun _ => ⟨nI_nn _ (by omega), rfl, rfl, fun h => h⟩, fun _ => Or.inl rfl⟩, fun w H => ?_⟩
      · obtain ⟨h1, h2, h3, h4, h5, h6⟩ := hW.mo (T' := T + 100) (by omega)
        exact ⟨h1, h2, h3, h4, ⟨x, x1, x9, (pz_u : upd (sG S) 0 (nI x) 0 = nI x)⟩, h6⟩
      · refine ⟨quw (quw w 0 5 a) 228 10 (nI s), ?_, pOc.ok 0 0 ?_ (fun c c1 c2 => ?_) ?_⟩
        · rw [hO]; unfold fX5_trySetting
          rw [q1, pz_b, if_neg (by decide), c5 w H, if_neg hz, pz_nm, pz_nm, pc_ans, pz_b2, pz_b2]
        · obtain ⟨⟨H1, H2⟩, H3, H4, H5⟩ := H
          refine ⟨⟨?_, fun i hi k hk => ?_⟩, ?_, fun j hj => ?_, fun k hk => ?_⟩
          · rw [pz_wn (by decide), pz_wk (by decide)]; exact H1
          · have hi' : i < sN S := hi
            have := hW.1
            rw [pz_wn (by omega), pz_wn (by omega)]; exact H2 i hi k hk
          · rw [pz_wn (by decide), pz_wk (by decide)]; exact H3
          · rw [pz_wn (by decide), pz_wn (by decide)]; exact H4 j hj
          · rw [pz_wn (by decide)]
            show quw w 0 5 a 0 (5 + k) = upd (sG S) 0 (nI x) k
            by_cases k0 : k = 0
            · subst k0; rw [pz_w, pz_u, ex]
            · rw [pz_wk (by omega), pz_un k0]; exact H5 k hk
        · rw [pz_wr, pz_rn c2, pz_wr, pz_rn (by omega)]
        · rw [pz_wr, pz_r, pz_wr, pz_rn (by decide)]
  · refine ⟨2, 0, 0, 0, S, hW.mo (by omega), by decide, fun _ => rfl, ⟨by decide, fun z => absurd z (by decide), fun z => absurd z qn⟩, fun w H => ?_⟩
    · refine ⟨w, ?_, pOc.no 0 0 0 H (by decide) (by decide)⟩
      rw [hO]; unfold fX5_trySetting
      rw [q1, pz_b, if_pos rfl, pz_b2]
theorem pd_add (T : Nat) (a b : Int32) : pDc T 8 a b (eA a) := by
  intro S hW
  have hq := hW.2.2.1
  have hO : ∀ w : qMem, fX5_tryOrder w 8 a b = qbd2 (fX5_tryAdding w a) fun (r34 : Int32) (w35 : qMem) => some (r34, w35) := fun w => by
    unfold fX5_tryOrder
    rw [if_neg (by decide), if_neg (by decide), if_neg (by decide), if_neg (by decide), if_neg (by decide), if_neg (by decide), if_neg (by decide), if_pos rfl]
  rcases pj_str a with ⟨⟨x, x1, x9, ex⟩, q1⟩ | ⟨qn, q1⟩
  · by_cases hz : sQ S = 8
    · refine ⟨3, 0, 1, 8, S, hW.mo (by omega), by decide, fun _ => rfl, ⟨by decide, fun z => absurd z (by decide), fun _ z => absurd z (by omega)⟩, fun w H => ?_⟩
      · refine ⟨_, ?_, pOc.rf 0 1 8 hW H⟩
        have e4 : w 0 4 = 8 := by have := H.2.1; rw [hz] at this; exact this
        rw [hO]; unfold fX5_tryAdding
        rw [q1, pz_b, if_neg (by decide), e4, if_neg (by decide), pc_ref, pz_b2, pz_b2]
    · have hq8 : sQ S < 8 := by omega
      refine ⟨0, nI (sQ S + 1), 0, 0, sAdd x S, ?_, by decide, fun q => absurd rfl q, ⟨by decide, fun _ => ⟨rfl, rfl, rfl, fun h => h⟩, fun _ _ => rfl⟩, fun w H => ?_⟩
      · obtain ⟨h1, h2, h3, h4, h5, h6⟩ := hW.mo (T' := T + 100) (by omega)
        refine ⟨h1, h2, hq8, fun j hj => ?_, h5, h6⟩
        by_cases z : j = sQ S
        · subst z; exact ⟨x, x1, x9, (pz_u : upd (sL S) (sQ S) (nI x) (sQ S) = nI x)⟩
        · obtain ⟨y, y1, y2, y3⟩ := h4 j (by have : j < sQ S + 1 := hj; omega)
          exact ⟨y, y1, y2, (pz_un z : upd (sL S) (sQ S) (nI x) j = sL S j).trans y3⟩
      · have e4 : w 0 4 = nI (sQ S) := H.2.1
        refine ⟨quw (quw (quw w 15 (sQ S) a) 0 4 (nI (sQ S + 1))) 228 10 (nI (sQ S + 1)), ?_, pOc.ok 0 0 ?_ (fun c c1 c2 => ?_) ?_⟩
        · rw [hO]; unfold fX5_tryAdding fX0_plan
          have e4' : w (19 * 0) 4 = nI (sQ S) := e4
          rw [q1, pz_b, if_neg (by decide), e4, if_pos (show nI (sQ S) < (8 : Int32) from nI_lt (b := 8) hq8 (by decide)), if_neg (nI_pos (by omega)), if_neg (show ¬ (8 : Int32) ≤ nI (sQ S) from nI_ge (b := 8) hq8 (by decide)), if_pos (pz_qin hq8 (by decide)), pz_nI (by omega), pz_nm, pz_nm, pz_w, pz_wn (by decide), e4', nI_1, pz_b2, pc_ans, pz_b2, pz_b2]
        · obtain ⟨⟨H1, H2⟩, H3, H4, H5⟩ := H
          have hn := hW.1
          refine ⟨⟨?_, fun i hi k hk => ?_⟩, ?_, fun j hj => ?_, fun k hk => ?_⟩
          · rw [pz_wn (by decide), pz_wk (by decide), pz_wn (by decide)]; exact H1
          · have hi' : i < sN S := hi
            rw [pz_wn (by omega), pz_wn (by omega), pz_wn (by omega)]; exact H2 i hi k hk
          · rw [pz_wn (by decide), pz_w]; rfl
          · rw [pz_wn (by decide), pz_wn (by decide)]
            show quw w 15 (sQ S) a 15 j = upd (sL S) (sQ S) (nI x) j
            by_cases z : j = sQ S
            · subst z; rw [pz_w, pz_u, ex]
            · rw [pz_wk z, pz_un z]; exact H4 j (by have : j < sQ S + 1 := hj; omega)
          · rw [pz_wn (by decide), pz_wk (by omega), pz_wn (by decide)]; exact H5 k hk
        · rw [pz_wr, pz_rn c2, pz_wr, pz_rn (by omega), pz_wr, pz_rn (by omega)]
        · rw [pz_wr, pz_r, pz_wr, pz_rn (by decide), pz_wr, pz_rn (by decide)]
  · refine ⟨2, 0, 0, 0, S, hW.mo (by omega), by decide, fun _ => rfl, ⟨by decide, fun z => absurd z (by decide), fun z => absurd z qn⟩, fun w H => ?_⟩
    · refine ⟨w, ?_, pOc.no 0 0 0 H (by decide) (by decide)⟩
      rw [hO]; unfold fX5_tryAdding
      rw [q1, pz_b, if_pos rfl, pz_b2]
theorem pDq_n {T n : Nat} {P : Nat → Nat → Int32} (hW : ∀ i, i < n → pWF T (P i)) : ∀ i, i < n → ∃ x, x ≤ 20 ∧ pDq P i = nI x := fun i hi => by
  unfold pDq
  by_cases h0 : P i 0 = 2 ∧ P i 4 = 0
  · rw [if_pos h0]
    obtain ⟨f, m, d, c, t, ⟨b1, b2, b3, b4⟩, h1, h2, h3, h5, h6, h⟩ := hW i hi
    have hd : d ≤ 40 := by rcases h with h | h | h <;> omega
    exact ⟨d / 2, by omega, by rw [h3]; exact pt_7 d (by omega)⟩
  · exact ⟨0, by omega, by rw [if_neg h0]; rfl⟩
theorem pd_quiet (T : Nat) (a b : Int32) : pDc T 10 a b eQ := by
  intro S hW
  obtain ⟨y, hy, ey⟩ := pSum_n (sN S) (pDq_n hW.2.1)
  refine ⟨0, pSum (pDq (sP S)) (sN S), 0, 0, sQui S, (sQui_W hW).mo (by omega), Or.inl rfl, fun q => absurd rfl q, ⟨rfl, by rw [ey]; exact nI_nn _ (by have := hW.1; omega)⟩, fun w H => ?_⟩
  · obtain ⟨⟨H1, H2⟩, H3, H4, H5⟩ := H
    obtain ⟨w1, e1, k1, k2⟩ := pc_calm (h := 0) (by decide) hW.1 hW.2.1 (sN S) 0 100 w (by omega) (by have := hW.1; omega) H1 (fun j hj => by rw [if_neg (by omega)]; exact H2 j hj)
    refine ⟨quw w1 228 10 (pSum (pDq (sP S)) (sN S)), ?_, pOc.ok 0 0 (pH_28 _ (sQui_W hW) ?_) (fun c c1 c2 => ?_) ?_⟩
    · unfold fX5_tryOrder
      rw [if_neg (by decide), if_neg (by decide), if_neg (by decide), if_neg (by decide), if_neg (by decide), if_neg (by decide), if_neg (by decide), if_neg (by decide), if_neg (by decide), if_pos rfl]
      have e1' : fX0_calm w 0 = some (pSum (pDq (sP S)) (sN S), w1) := e1
      rw [e1', pz_b2, pc_ans, pz_b2]
    · exact ⟨⟨by rw [k1 _ (by omega)]; exact H1, fun i hi => k2 i hi⟩, by rw [k1 _ (by omega)]; exact H3, fun j hj => by rw [k1 _ (by omega)]; exact H4 j hj, fun k hk => by rw [k1 _ (by omega)]; exact H5 k hk⟩
    · rw [pz_wr, pz_rn c2]; exact k1 c (by omega)
    · rw [pz_wr, pz_r, k1 228 (by omega)]
theorem pd_perform (T : Nat) (a b : Int32) : pDc T 9 a b eV := by
  intro S hW
  have hq := hW.2.2.1
  have hO : ∀ w : qMem, fX5_tryOrder w 9 a b = if w 0 4 = 0 then qbd2 (fX5_refuse w 5 (w 0 6)) fun (r45 : Int32) (w46 : qMem) => some (r45, w46) else qbd2 (fX0_performProgramme w 0) fun (r39 : Int32) (w40 : qMem) => qbd2 (fX5_answered w40 r39) fun (r42 : Int32) (w43 : qMem) => some (r42, w43) := fun w => by
    unfold fX5_tryOrder
    rw [if_neg (by decide), if_neg (by decide), if_neg (by decide), if_neg (by decide), if_neg (by decide), if_neg (by decide), if_neg (by decide), if_neg (by decide), if_pos rfl]
  by_cases hz : sQ S = 0
  · refine ⟨3, 0, 5, sG S 1, S, hW.mo (by omega), by decide, fun _ => rfl, fun z => absurd z (by decide), fun w H => ?_⟩
    · refine ⟨_, ?_, pOc.rf 0 5 (sG S 1) hW H⟩
      have e4 : w 0 4 = 0 := by have := H.2.1; rw [hz] at this; exact this
      have e6 : w 0 6 = sG S 1 := H.2.2.2 1 (by decide)
      rw [hO, if_pos e4, pc_ref, pz_b2, e6]
  · refine ⟨0, nI (pfX S).2, 0, 0, sPer S, (sPer_W hW).mo (by omega), by decide, fun q => absurd rfl q, fun _ => nI_nn _ (by have := (pfN_k (c := pKn (sP S) 3 (sN S)) hW (sQ S) (Nat.le_refl _)).2.2.2; unfold pfX; omega), fun w H => ?_⟩
    · obtain ⟨w1, e1, k1, k2⟩ := pc_perf (h := 0) (by decide) hW H
      refine ⟨quw w1 228 10 (nI (pfX S).2), ?_, pOc.ok 0 0 (pH_28 _ (sPer_W hW) k1) (fun c c1 c2 => ?_) ?_⟩
      · have e4 : w 0 4 = nI (sQ S) := H.2.1
        rw [hO, e4, if_neg (nI_ne0 (by omega) (by omega)), e1, pz_b2, pc_ans, pz_b2]
      · rw [pz_wr, pz_rn c2]; exact k2 c (by omega)
      · rw [pz_wr, pz_r, k2 228 (by omega)]
theorem pd_cue (T : Nat) (a b : Int32) : pDc T 5 a b (eC a b) := by
  intro S hW
  have hn := hW.1
  have hq := hW.2.2.1
  have hO : ∀ w : qMem, fX5_tryOrder w 5 a b = qbd2 (fX5_tryCueing w a b) fun (r19 : Int32) (w20 : qMem) => some (r19, w20) := fun w => by
    unfold fX5_tryOrder
    rw [if_neg (by decide), if_neg (by decide), if_neg (by decide), if_neg (by decide), if_pos rfl]
  rcases pj_prop (sN S) hn a with ⟨i, hi, ea, a0, a1⟩ | ⟨qno, qa⟩
  · rcases pj_cue b with ⟨⟨c, hc, eb⟩, qb⟩ | ⟨qno, qb0, qb⟩
    · have hT : ∀ w : qMem, pH w 0 S → fX5_tryCueing w a b = fX5_tryCueing_L30 w a b := fun w H => by
        unfold fX5_tryCueing
        have e2 : w 0 2 = nI (sN S) := H.1.1
        rw [if_neg a0, e2, if_pos a1]
        rcases qb with z | ⟨z, qs⟩
        · rw [if_pos z]
        · rw [if_neg z, qs, pz_b, if_neg (by decide)]
      have hA : ∀ w : qMem, pH w 0 S → pAg (w (2 + i)) (sP S i) := fun w H => by
        have := H.1.2 i hi
        rw [show 19 * 0 + 2 + i = 2 + i by omega] at this; exact this
      have hL : ∀ w : qMem, pH w 0 S → fX5_tryCueing_L30 w a b = (if sP S i 0 = 2 then (if sP S i 4 = 0 then (if sP S i 5 = b then some (3, quw (quw w 228 8 3) 228 9 b) else some (0, quw (quw w (2 + i) 5 b) 228 10 (sP S i 5))) else some (3, quw (quw w 228 8 6) 228 9 (sP S i 3))) else some (3, quw (quw w 228 8 4) 228 9 (sP S i 1))) := fun w H => by
        have hAg := hA w H
        unfold fX5_tryCueing_L30
        rw [ea, pz_at (h := 0) (by decide) hn hi H.1.1, pz_b, if_pos (pz_P (by decide) (by omega))]
        have e2 : 19 * 0 + 2 + i = 2 + i := by omega
        rw [e2, hAg 0 (by decide), hAg 4 (by decide), hAg 5 (by decide), hAg 3 (by decide), hAg 1 (by decide)]
        rfl
      have h4 := (hW.2.1 i hi).b4
      by_cases k0 : sP S i 0 = 2
      · rcases h4 with k4 | k4
        · by_cases k5 : sP S i 5 = b
          · refine ⟨3, 0, 3, b, S, hW.mo (by omega), by decide, fun _ => rfl, ⟨fun z => absurd z (by decide), fun _ _ => Or.inr ⟨rfl, by decide⟩⟩, fun w H => ⟨_, ?_, pOc.rf 0 3 b hW H⟩⟩
            · rw [hO, hT w H, hL w H, if_pos k0, if_pos k4, if_pos k5, pz_b2]
          · refine ⟨0, sP S i 5, 0, 0, sCue i b S, ?_, by decide, fun q => absurd rfl q, ⟨fun _ => ⟨?_, rfl, rfl, pBq_cue _ _⟩, fun _ _ => Or.inl rfl⟩, fun w H => ⟨quw (quw w (2 + i) 5 b) 228 10 (sP S i 5), ?_, pOc.ok 0 0 ?_ (fun c c1 c2 => ?_) ?_⟩⟩
            · rw [eb]; exact (sCue_W hi hc k0 hW).mo (by omega)
            · obtain ⟨f, m, d, c5, t, ⟨b1, b2, b3, b4⟩, h1, h2, h3, h5, h6, h⟩ := hW.2.1 i hi
              rw [h5]; exact nI_nn _ (by omega)
            · rw [hO, hT w H, hL w H, if_pos k0, if_pos k4, if_neg k5, pz_b2]
            · refine pH_28 (T := T) _ ?_ (pH_up hn hi ((hA w H).up 5 rfl) H)
              rw [eb]; exact sCue_W hi hc k0 hW
            · rw [pz_wr, pz_rn c2, pz_wr, pz_rn (by omega)]
            · rw [pz_wr, pz_r, pz_wr, pz_rn (by omega)]
        · refine ⟨3, 0, 6, sP S i 3, S, hW.mo (by omega), by decide, fun _ => rfl, ⟨fun z => absurd z (by decide), fun _ _ => Or.inr ⟨rfl, by decide⟩⟩, fun w H => ⟨_, ?_, pOc.rf 0 6 (sP S i 3) hW H⟩⟩
          · rw [hO, hT w H, hL w H, if_pos k0, if_neg (by rw [k4]; decide), pz_b2]
      · refine ⟨3, 0, 4, sP S i 1, S, hW.mo (by omega), by decide, fun _ => rfl, ⟨fun z => absurd z (by decide), fun _ _ => Or.inr ⟨rfl, by decide⟩⟩, fun w H => ⟨_, ?_, pOc.rf 0 4 (sP S i 1) hW H⟩⟩
        · rw [hO, hT w H, hL w H, if_neg k0, pz_b2]
    · refine ⟨2, 0, 0, 0, S, hW.mo (by omega), by decide, fun _ => rfl, ⟨fun z => absurd z (by decide), fun _ z => absurd z qno⟩, fun w H => ⟨w, ?_, pOc.no 0 0 0 H (by decide) (by decide)⟩⟩
      · have e2 : w 0 2 = nI (sN S) := H.1.1
        rw [hO]; unfold fX5_tryCueing
        rw [if_neg a0, e2, if_pos a1, if_neg qb0, qb, pz_b, if_pos rfl, pz_b2]
  · refine ⟨1, 0, 0, 0, S, hW.mo (by omega), by decide, fun _ => rfl, ⟨fun z => absurd z (by decide), fun z => absurd z qno⟩, fun w H => ⟨w, ?_, pOc.no 0 0 0 H (by decide) (by decide)⟩⟩
    · have e2 : w 0 2 = nI (sN S) := H.1.1
      rw [hO]; unfold fX5_tryCueing
      rw [e2]
      rcases qa with z | ⟨z1, z2⟩
      · rw [if_pos z, pz_b2]
      · rw [if_neg z1, if_neg z2, pz_b2]
theorem pd_take (T : Nat) (a b : Int32) : pDc T 4 a b eV := by
  intro S hW
  have hn := hW.1
  have hq := hW.2.2.1
  have hO : ∀ w : qMem, fX5_tryOrder w 4 a b = qbd2 (fX5_tryTaking w a) fun (r19 : Int32) (w20 : qMem) => some (r19, w20) := fun w => by
    unfold fX5_tryOrder
    rw [if_neg (by decide), if_neg (by decide), if_neg (by decide), if_pos rfl]
  rcases pj_prop (sN S) hn a with ⟨i, hi, ea, a0, a1⟩ | ⟨qno, qa⟩
  · have en : nI (sN S) - 1 = nI (sN S - 1) := by
      have := nI_pred (sN S - 1)
      rw [show sN S - 1 + 1 = sN S by omega] at this; exact this
    refine ⟨0, nI (sN S - 1), 0, 0, sTak i S, (sTak_W hi hW).mo (by omega), by decide, fun q => absurd rfl q, fun _ => nI_nn _ (by omega), fun w H => ?_⟩
    · obtain ⟨⟨H1, H2⟩, H3, H4, H5⟩ := H
      obtain ⟨w1, e1, k1, k2⟩ := pc_rm hn hi hW.2.1 (sN S - 1 - i) i 100 w (by omega) (by omega) (Nat.le_refl _) H1 (fun j hj => by
        have := H2 j hj
        rw [show 19 * 0 + 2 + j = 2 + j by omega] at this
        by_cases q : j < i
        · rw [if_pos q, pRm_l _ q]; exact this
        · rw [if_neg q]; exact this)
      refine ⟨quw (quw w1 0 2 (nI (sN S - 1))) 228 10 (nI (sN S - 1)), ?_, pOc.ok 0 0 (pH_28 _ (sTak_W hi hW) ?_) (fun c c1 c2 => ?_) ?_⟩
      · have e2 : w 0 2 = nI (sN S) := H1
        have e1' : fX0_removeProp w 0 a = some (nI (sN S - 1), quw w1 0 2 (nI (sN S - 1))) := by rw [ea]; exact e1
        rw [hO]; unfold fX5_tryTaking
        rw [if_neg a0, e2, if_pos a1, e1', pz_b2, pc_ans, pz_b2, pz_b2]
      · refine ⟨⟨pz_w, fun j hj => ?_⟩, ?_, fun j hj => ?_, fun k hk => ?_⟩
        · have hj' : j < sN S - 1 := hj
          rw [show 19 * 0 + 2 + j = 2 + j by omega, pz_wr, pz_rn (by omega)]; exact k2 j hj
        · rw [pz_wk (by decide), k1 _ (by omega)]; exact H3
        · rw [pz_wn (by decide), k1 _ (by omega)]; exact H4 j hj
        · rw [pz_wk (by omega), k1 _ (by omega)]; exact H5 k hk
      · rw [pz_wr, pz_rn c2, pz_wr, pz_rn (by omega)]; exact k1 c (by omega)
      · rw [pz_wr, pz_r, pz_wr, pz_rn (by decide), k1 228 (by omega)]
  · refine ⟨1, 0, 0, 0, S, hW.mo (by omega), by decide, fun _ => rfl, fun z => absurd z (by decide), fun w H => ⟨w, ?_, pOc.no 0 0 0 H (by decide) (by decide)⟩⟩
    · have e2 : w 0 2 = nI (sN S) := H.1.1
      rw [hO]; unfold fX5_tryTaking
      rw [e2]
      rcases qa with z | ⟨z1, z2⟩
      · rw [if_pos z, pz_b2]
      · rw [if_neg z1, if_neg z2, pz_b2]
theorem pd_put (T : Nat) {k : Int32} (hk : k = 1 ∨ k = 2 ∨ k = 3) (a b : Int32) : pDc T k a b (eP a b) := by
  intro S hW
  have hn := hW.1
  have hq := hW.2.2.1
  have hO : ∀ w : qMem, fX5_tryOrder w k a b = qbd2 (fX5_tryPlacing_L10 w k a b (if k = 3 then 0 else 1)) fun (r19 : Int32) (w20 : qMem) => some (r19, w20) := fun w => by
    unfold fX5_tryOrder fX5_tryPlacing
    rcases hk with rfl | rfl | rfl <;> rfl
  have bad : (¬ ∃ f m, f < 5 ∧ 1 ≤ m ∧ m ≤ 9 ∧ a = nI f ∧ b = nI m) → (∀ w : qMem, pH w 0 S → fX5_tryPlacing_L10 w k a b (if k = 3 then 0 else 1) = some (2, w)) → ∃ (t v rs dt : Int32) (S' : pSt), pW (T + 100) S' ∧ (t = 0 ∨ t = 1 ∨ t = 2 ∨ t = 3) ∧ (t ≠ 0 → S' = S) ∧ eP a b S t v rs S' ∧ ∀ w : qMem, pH w 0 S → ∃ w1 : qMem, fX5_tryOrder w k a b = some (t, w1) ∧ pOc w w1 t v rs dt S' := by
    intro hno h1
    refine ⟨2, 0, 0, 0, S, hW.mo (by omega), by decide, fun _ => rfl, ⟨by decide, fun z => absurd z (by decide), fun z => absurd z hno⟩, fun w H => ⟨w, ?_, pOc.no 0 0 0 H (by decide) (by decide)⟩⟩
    rw [hO, h1 w H, pz_b2]
  rcases pj_floor a with ⟨⟨f, hf, ef⟩, q1⟩ | ⟨qno, q1⟩
  · have hlo : (if k = 3 then (0 : Int32) else 1) = nI (if k = 3 then 0 else 1) := by split <;> rfl
    rcases pj_in (if k = 3 then 0 else 1) 9 (by decide) (by split <;> omega) b with ⟨m, m1, m2, eb, b1, b2⟩ | bb
    · rw [← hlo] at b1
      have b2 : ¬ (9 : Int32) < b := b2
      have b3 : b ≤ 9 := by rw [eb]; exact nI_le (b := 9) m2 (by decide)
      by_cases hfull : sN S = 12
      · refine ⟨3, 0, 1, 12, S, hW.mo (by omega), by decide, fun _ => rfl, ⟨by decide, fun z => absurd z (by decide), fun _ z => absurd z (by omega)⟩, fun w H => ⟨_, ?_, pOc.rf 0 1 12 hW H⟩⟩
        · have e2 : w 0 2 = 12 := by have := H.1.1; rw [hfull] at this; exact this
          rw [hO]; unfold fX5_tryPlacing_L10
          rw [q1, pz_b, if_neg (by decide), if_neg b1, if_pos b3, e2, if_neg (by decide), pc_ref, pz_b2, pz_b2]
      · have hlt : sN S < 12 := by omega
        have ne12 : ¬ nI (sN S) = 12 := fun z => hfull ((nI_eq (by omega) (by decide)).mp (z.trans (show (12 : Int32) = nI 12 from rfl)))
        have c5 := hW.2.2.2.2.2 f hf k hk
        have hcl : pCn (sP S) k a (sN S) = pCn (sP S) k (nI f) (sN S) := by rw [ef]
        by_cases hflr : pCn (sP S) k (nI f) (sN S) = 5
        · refine ⟨3, 0, 2, a, S, hW.mo (by omega), by decide, fun _ => rfl, ⟨by decide, fun z => absurd z (by decide), fun _ _ => Or.inr ⟨rfl, rfl, by have := pCn_le (sP S) k (nI f) (sN S); omega⟩⟩, fun w H => ⟨_, ?_, pOc.rf 0 2 a hW H⟩⟩
          · have e2 : w 0 2 = nI (sN S) := H.1.1
            rw [hO]; unfold fX5_tryPlacing_L10
            rw [q1, pz_b, if_neg (by decide), if_neg b1, if_pos b3, e2, if_pos (show nI (sN S) < (12 : Int32) from nI_lt (b := 12) hlt (by decide)), pc_countOn (h := 0) (by decide) hn H.1, pz_b, hcl, hflr, if_neg (by decide), pc_ref, pz_b2, pz_b2]
        · have hc : pCn (sP S) k (nI f) (sN S) < 5 := by omega
          refine ⟨0, nI (sN S), 0, 0, sPut k f m S, (sPut_W hk hf m2 m1 hlt hc hW).mo (by omega), by decide, fun q => absurd rfl q, ⟨by decide, fun _ => ⟨rfl, rfl, rfl, pBq_put k f m⟩, fun _ _ => Or.inl rfl⟩, fun w H => ?_⟩
          · have e2 : w 0 2 = nI (sN S) := H.1.1
            obtain ⟨g, eg, ag⟩ := pc_begin (w := quw w 0 2 (nI (sN S + 1))) (c := 2 + sN S) (k := k) (f := a) (m := b)
            refine ⟨quw (qur (quw w 0 2 (nI (sN S + 1))) (2 + sN S) g) 228 10 (nI (sN S)), ?_, pOc.ok 0 0 (pH_28 _ (sPut_W hk hf m2 m1 hlt hc hW) ?_) (fun c c1 c2 => ?_) ?_⟩
            · have eP : fX0_placeProp w 0 k a b = some (nI (sN S), qur (quw w 0 2 (nI (sN S + 1))) (2 + sN S) g) := by
                have e2' : w (19 * 0) 2 = nI (sN S) := H.1.1
                unfold fX0_placeProp
                rw [pz_nm, e2', pz_nm, nI_1, pz_at (h := 0) (n := sN S + 1) (by decide) (by omega) (by omega) pz_w, pz_b, if_pos (pz_P (by decide) (by omega)), show 19 * 0 + 2 + sN S = 2 + sN S by omega]
                have eg' : fX3_begin (quw w (19 * 0) 2 (nI (sN S + 1))) (2 + sN S) k a b = some (qur (quw w 0 2 (nI (sN S + 1))) (2 + sN S) g) := eg
                rw [eg', pz_b]
              rw [hO]; unfold fX5_tryPlacing_L10
              rw [q1, pz_b, if_neg (by decide), if_neg b1, if_pos b3, e2, if_pos (show nI (sN S) < (12 : Int32) from nI_lt (b := 12) hlt (by decide)), pc_countOn (h := 0) (by decide) hn H.1, pz_b, hcl, if_pos (show nI (pCn (sP S) k (nI f) (sN S)) < (5 : Int32) from nI_lt (b := 5) hc (by decide)), eP, pz_b2, pc_ans, pz_b2, pz_b2]
            · obtain ⟨⟨H1, H2⟩, H3, H4, H5⟩ := H
              refine ⟨⟨?_, fun j hj => ?_⟩, ?_, fun j hj => ?_, fun k hk => ?_⟩
              · rw [pz_rn (by omega)]; exact pz_w
              · have hj' : j < sN S + 1 := hj
                show pAg _ (pUp (sP S) (sN S) (pNw k (nI f) (nI m)) j)
                rw [show 19 * 0 + 2 + j = 2 + j by omega]
                by_cases z : j = sN S
                · subst z; rw [pz_r, pUp_i, ← ef, ← eb]; exact ag
                · have := H2 j (by omega)
                  rw [show 19 * 0 + 2 + j = 2 + j by omega] at this
                  rw [pz_rn (by omega), pz_wr, pz_rn (by omega), pUp_n _ _ z]; exact this
              · rw [pz_rn (by omega), pz_wk (by decide)]; exact H3
              · rw [pz_rn (by omega), pz_wn (by decide)]; exact H4 j hj
              · rw [pz_rn (by omega), pz_wk (by omega)]; exact H5 k hk
            · rw [pz_wr, pz_rn c2, pz_rn (by omega), pz_wr, pz_rn (by omega)]
            · rw [pz_wr, pz_r, pz_rn (by omega), pz_wr, pz_rn (by decide)]
    · refine bad (fun ⟨f', m', h1, h2, h3, h4, h5⟩ => ?_) (fun w H => ?_)
      · rcases bb with z | ⟨z1, z2⟩
        · rw [h5] at z
          exact nI_nlt (a := m') (b := if k = 3 then 0 else 1) (by split <;> omega) (by omega) z
        · rw [h5] at z2
          exact nI_nlt (a := 9) (b := m') (by omega) (by omega) z2
      · unfold fX5_tryPlacing_L10
        rw [q1, pz_b, if_neg (by decide)]
        rcases bb with z | ⟨z1, z2⟩
        · rw [← hlo] at z; rw [if_pos z]
        · rw [← hlo] at z1; rw [if_neg z1, if_neg (fun y => by
            have z2 : (9 : Int32) < b := z2
            rw [Int32.lt_iff_toInt_lt] at z2
            rw [Int32.le_iff_toInt_le] at y
            omega)]
  · refine bad (fun ⟨f', m', h1, h2, h3, h4, h5⟩ => qno ⟨f', h1, h4⟩) (fun w H => ?_)
    · unfold fX5_tryPlacing_L10
      rw [q1, pz_b, if_pos rfl]
