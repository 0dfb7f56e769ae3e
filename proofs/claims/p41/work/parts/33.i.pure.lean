theorem pP2_c1 {n a i fl : Nat} {P : Nat → Nat → Int32} (k1 : P i 0 = 1) (c5 : (P i 1).toNatClampNeg = fl) : pP2 n a P i = pCupN (nI (pRe P n a fl)) (P i) ∧ pBb n a P i = pCupR (nI (pRe P n a fl)) (P i) := by
  have e1 : pP1 n a P i = pCupN (nI (pRe P n a fl)) (P i) := by unfold pP1 pNc; rw [if_pos k1, c5]
  have k2 : ¬ pP1 n a P i 0 = 2 := by rw [(pP1_0 n a P i).1, k1]; decide
  constructor
  · unfold pP2 pNl; rw [if_neg k2, e1]
  · unfold pBb pBc pBl; rw [if_pos k1, if_neg k2, c5]; exact Int32.add_zero _
theorem pP1_n {n a i : Nat} {P : Nat → Nat → Int32} (k1 : ¬ P i 0 = 1) : pP1 n a P i = P i := by unfold pP1 pNc; rw [if_neg k1]
theorem pP2_c2 {n a i fl : Nat} {P : Nat → Nat → Int32} (k2 : P i 0 = 2) (c5 : (P i 1).toNatClampNeg = fl) : pP2 n a P i = pLampN (nI (pRe P n a fl)) (nI a) (P i) ∧ pBb n a P i = pLampR (nI (pRe P n a fl)) (nI a) (P i) := by
  have k1 : ¬ P i 0 = 1 := by rw [k2]; decide
  have e1 := pP1_n (n := n) (a := a) k1
  constructor
  · unfold pP2 pNl; rw [e1, if_pos k2, c5]
  · unfold pBb pBc pBl; rw [e1, if_neg k1, if_pos k2, c5]; exact Int32.zero_add _
theorem pP2_c3 {n a i : Nat} {P : Nat → Nat → Int32} (k1 : ¬ P i 0 = 1) (k2 : ¬ P i 0 = 2) : pP2 n a P i = P i ∧ pBb n a P i = 0 := by
  have e1 := pP1_n (n := n) (a := a) k1
  constructor
  · unfold pP2 pNl; rw [e1, if_neg k2]
  · unfold pBb pBc pBl; rw [e1, if_neg k1, if_neg k2]; rfl
theorem pg_mix {n a i T : Nat} {M P : Nat → Nat → Int32} {N : Nat → Nat → Int32} (hn : n ≤ 12) (ha : a ≤ 9) {f : Nat} (hf : f ≤ 5) (hP : ∀ j, j < n → pWF T (P j)) (hN : ∀ j, j < n → pWF T (N j)) (hk : ∀ j, N j 0 = P j 0 ∧ N j 1 = P j 1) (hM : ∀ j, j < n → pAg (M j) (if j < i then N j else P j)) : fL_there n M (nI a) (nI f) = some (nI (pRe P n a f), M) := by
  rw [pg_there (P := fun j => if j < i then N j else P j) hn ha hf (fun j hj => by
    show pWF T (if j < i then N j else P j)
    split
    · exact hN j hj
    · exact hP j hj) hM]
  rw [pRe_eq (Q := P) (fun j _ => by
    show (if j < i then N j else P j) 0 = P j 0 ∧ (if j < i then N j else P j) 1 = P j 1
    split
    · exact hk j
    · exact ⟨rfl, rfl⟩) a f]
theorem pg_17 {n T a : Nat} {P : Nat → Nat → Int32} (hn : n ≤ 12) (ha : a ≤ 9) (hW : ∀ i, i < n → pWF T (P i)) : ∀ (d i fuel : Nat) (M : Nat → Nat → Int32) (f1 : Nat → Int32), i + d = n → d < fuel → (∀ j, j < n → pAg (M j) (if j < i then pP2 n a P j else P j)) → pBf n a P f1 i → ∃ (M1 : Nat → Nat → Int32) (F1 : Nat → Int32), fL_shocks_L17 n (nI a) fuel M f1 (nI a) (pSum (pBb n a P) i) (nI n) (nI i) = fL_shocks_L351 n (nI a) 13 M1 F1 (nI a) (pSum (pBb n a P) n) 0 (nI n) 0 ∧ gM n M1 (pP2 n a P) ∧ ∀ f, F1 f = pF2 n a P f := by
  intro d
  induction d with
  | zero =>
    intro i fuel M f1 hi hfu hM hF
    obtain ⟨fuel, rfl⟩ : ∃ g, fuel = g + 1 := ⟨fuel - 1, by omega⟩
    have : i = n := by omega
    subst this
    refine ⟨M, f1, ?_, fun j hj => ?_, pBf_F2 hF⟩
    · rw [fL_shocks_L17, if_pos (nI_le (by omega) (by omega)), pz_nm]; rfl
    · have := hM j hj; rw [if_pos hj] at this; exact this
  | succ d ih =>
    intro i fuel M f1 hi hfu hM hF
    obtain ⟨fuel, rfl⟩ : ∃ g, fuel = g + 1 := ⟨fuel - 1, by omega⟩
    have hin : i < n := by omega
    have hag : pAg (M i) (P i) := by have := hM i hin; rw [if_neg (by omega)] at this; exact this
    have wf := hW i hin
    obtain ⟨fl, hfl, e1⟩ := wf.fl
    have c5 : (P i 1).toNatClampNeg = fl := by rw [e1]; exact pz_nI (by omega)
    have m1 : M i 1 = nI fl := (hag 1 (by decide)).trans e1
    have m0 : M i 0 = P i 0 := hag 0 (by decide)
    have m4 : M i 4 = P i 4 := hag 4 (by decide)
    have hr9 : pRe P n a fl ≤ 9 := Nat.le_trans (pRe_le _ _ _ _) ha
    rw [fL_shocks_L17, if_neg (nI_ge hin (by omega)), if_pos (pz_qin hin (by omega)), pz_nI (by omega), pz_nm, m1, pg_mix (T := T + 1) (N := pP2 n a P) hn ha (by omega) (fun j hj => (hW j hj).mo (by omega)) (fun j hj => pNl_W ha hW j hj) (fun j => pP2_0 n a P j) hM, pz_b2, m0, m4]
    have nxt : ∀ (M' : Nat → Nat → Int32) (F' : Nat → Int32) (v : Int32), v = pBb n a P i → (∀ c, c ≠ i → M' c = M c) → pAg (M' i) (pP2 n a P i) → pBf n a P F' (i + 1) → ∃ (M1 : Nat → Nat → Int32) (F1 : Nat → Int32), fL_shocks_L17 n (nI a) fuel M' F' (nI a) (pSum (pBb n a P) i + v) (nI n) (nI i + 1) = fL_shocks_L351 n (nI a) 13 M1 F1 (nI a) (pSum (pBb n a P) n) 0 (nI n) 0 ∧ gM n M1 (pP2 n a P) ∧ ∀ f, F1 f = pF2 n a P f := by
      intro M' F' v hv h1 h2 h3
      subst hv
      rw [nI_1]
      exact ih (i + 1) fuel M' F' (by omega) (by omega) (pz_stepA hM (fun j hj q => h1 j q) h2) h3
    have stay : pP2 n a P i = P i → pBb n a P i = 0 → ¬ (M i 0 = 2 ∧ M i 4 = 0) → ∃ (M1 : Nat → Nat → Int32) (F1 : Nat → Int32), fL_shocks_L201 n (nI a) (fL_shocks_L17 n (nI a) fuel) M f1 (nI a) (pSum (pBb n a P) i) (nI n) (nI i) i (nI (pRe P n a fl)) = fL_shocks_L351 n (nI a) 13 M1 F1 (nI a) (pSum (pBb n a P) n) 0 (nI n) 0 ∧ gM n M1 (pP2 n a P) ∧ ∀ f, F1 f = pF2 n a P f := by
      intro h1 h2 h3
      rw [pg_else h3]
      obtain ⟨M1, F1, g1, g2⟩ := nxt M f1 0 h2.symm (fun _ _ => rfl) (by rw [h1]; exact hag) (pBf_stay hF h2)
      rw [Int32.add_zero] at g1
      exact ⟨M1, F1, g1, g2⟩
    rcases wf.k with k0 | k0 | k0
    · obtain ⟨q2, qb⟩ := pP2_c1 (n := n) (a := a) k0 c5
      rw [if_pos k0]
      rcases wf.b4 with k4 | k4
      · rw [if_pos k4]
        obtain ⟨M', g1, g2, g3⟩ := pg_cup (n := n) (a2 := nI a) (k17 := fL_shocks_L17 n (nI a) fuel) (M := M) (f1 := f1) (x1 := nI a) (x3 := pSum (pBb n a P) i) (x5 := nI n) (x6 := nI i) (x8 := nI (pRe P n a fl)) (j := i) hag wf k0 k4 e1 hfl
        rw [g1, pg_else (by
          rintro ⟨y, -⟩
          rw [g3 0 (by decide), pCupN_0, k0] at y
          exact absurd y (by decide))]
        exact nxt M' _ _ qb.symm g2 (by rw [q2]; exact g3) (pBf_step hF e1 hfl qb.symm)
      · rw [if_neg (by rw [k4]; decide)]
        exact stay (by rw [q2]; unfold pCupN; rw [if_neg (by rw [k4]; decide)]) (by rw [qb]; unfold pCupR; rw [if_neg (by rw [k4]; decide)]) (by rw [m0, k0]; rintro ⟨y, -⟩; exact absurd y (by decide))
    · obtain ⟨q2, qb⟩ := pP2_c2 (n := n) (a := a) k0 c5
      rw [if_neg (by rw [k0]; decide)]
      rcases wf.b4 with k4 | k4
      · obtain ⟨M', g1, g2, g3⟩ := pg_lamp (n := n) (a2 := nI a) (k17 := fL_shocks_L17 n (nI a) fuel) (M := M) (f1 := f1) (x3 := pSum (pBb n a P) i) (x5 := nI n) (x6 := nI i) (j := i) (a := a) hr9 hag wf k0 k4 e1 hfl
        rw [g1]
        exact nxt M' _ _ qb.symm g2 (by rw [q2]; exact g3) (pBf_step hF e1 hfl qb.symm)
      · exact stay (by rw [q2]; unfold pLampN; rw [if_neg (by rw [k4]; decide)]) (by rw [qb]; unfold pLampR; rw [if_neg (by rw [k4]; decide)]) (by rw [m4, k4]; rintro ⟨-, y⟩; exact absurd y (by decide))
    · obtain ⟨q2, qb⟩ := pP2_c3 (n := n) (a := a) (P := P) (i := i) (by rw [k0]; decide) (by rw [k0]; decide)
      rw [if_neg (by rw [k0]; decide)]
      exact stay q2 qb (by rw [m0, k0]; rintro ⟨y, -⟩; exact absurd y (by decide))
theorem pg_409 {n : Nat} {a2 : Int32} {k351 : (Nat → Nat → Int32) → (Nat → Int32) → Int32 → Int32 → Int32 → Int32 → Int32 → Option ((Nat → Int32) × (Nat → Nat → Int32))} {M : Nat → Nat → Int32} {f1 : Nat → Int32} {x1 x3 x4 x6 x7 g : Int32} {j fl : Nat} (m1 : M j 1 = nI fl) (hfl : fl < 5) : fL_shocks_L409 n a2 k351 M f1 x1 x3 x4 x6 x7 j g = k351 (quw (quw M j 2 (if f1 fl = 0 then M j 2 else if (0 : Int32) < M j 2 - 1 then M j 2 - 1 else 0)) j 6 (M j 6 + g)) f1 x1 x3 (x4 + g) x6 (x7 + 1) := by
  have q5 := pz_qin hfl (show 5 < 2 ^ 31 by decide)
  have hL : ∀ v : Int32, fL_shocks_L440 n a2 k351 M f1 x1 x3 x4 x6 x7 j g v 2 j = k351 (quw (quw M j 2 v) j 6 (M j 6 + g)) f1 x1 x3 (x4 + g) x6 (x7 + 1) := fun v => by
    unfold fL_shocks_L440
    rw [if_pos (by decide), show (2 : Int32).toNatClampNeg = 2 from rfl, pz_nm, pz_nm, pz_wk (by decide), pz_nm, pz_nm]
  unfold fL_shocks_L409
  rw [m1, if_pos q5, pz_nI (by omega)]
  by_cases z : f1 fl = 0
  · rw [if_pos z, if_pos z, hL]
  · rw [if_neg z, if_neg z, pz_nm, hL]
theorem pg_351 {n T a : Nat} {P : Nat → Nat → Int32} {F1 : Nat → Int32} {x3 : Int32} (hn : n ≤ 12) (ha : a ≤ 9) (hW : ∀ i, i < n → pWF T (P i)) (hF : ∀ f, F1 f = pF2 n a P f) : ∀ (d i fuel : Nat) (M : Nat → Nat → Int32), i + d = n → d < fuel → (∀ j, j < n → pAg (M j) (if j < i then pP3 n a P j else pP2 n a P j)) → ∃ (f : Nat → Int32) (M1 : Nat → Nat → Int32), fL_shocks_L351 n (nI a) fuel M F1 (nI a) x3 (pSum (pMk (pRe P n a) (pF2 n a P) (pP2 n a P)) i) (nI n) (nI i) = some (f, M1) ∧ f 0 = pMa n a P ∧ f 1 = x3 ∧ gM n M1 (pP3 n a P) := by
  intro d
  induction d with
  | zero =>
    intro i fuel M hi hfu hM
    obtain ⟨fuel, rfl⟩ : ∃ g, fuel = g + 1 := ⟨fuel - 1, by omega⟩
    have : i = n := by omega
    subst this
    refine ⟨_, M, by rw [fL_shocks_L351, if_pos (nI_le (by omega) (by omega)), pz_nm, pz_nm], ?_, pz_u, fun j hj => ?_⟩
    · rw [pz_un (by decide), pz_u]; rfl
    · have := hM j hj; rw [if_pos hj] at this; exact this
  | succ d ih =>
    intro i fuel M hi hfu hM
    obtain ⟨fuel, rfl⟩ : ∃ g, fuel = g + 1 := ⟨fuel - 1, by omega⟩
    have hin : i < n := by omega
    have hag : pAg (M i) (pP2 n a P i) := by have := hM i hin; rw [if_neg (by omega)] at this; exact this
    have wf2 : ∀ j, j < n → pWF (T + 1) (pP2 n a P j) := fun j hj => pNl_W ha hW j hj
    have wf := wf2 i hin
    obtain ⟨fl, hfl, e1⟩ := wf.fl
    have c5 : (pP2 n a P i 1).toNatClampNeg = fl := by rw [e1]; exact pz_nI (by omega)
    have m1 : M i 1 = nI fl := (hag 1 (by decide)).trans e1
    have m0 : M i 0 = pP2 n a P i 0 := hag 0 (by decide)
    have q5 := pz_qin hfl (show 5 < 2 ^ 31 by decide)
    have hr9 : pRe P n a fl ≤ 9 := Nat.le_trans (pRe_le _ _ _ _) ha
    have k3 : ∀ j, pP3 n a P j 0 = pP2 n a P j 0 ∧ pP3 n a P j 1 = pP2 n a P j 1 := fun j => ⟨(pP3_0 n a P j).1.trans (pP2_0 n a P j).1.symm, (pP3_0 n a P j).2.trans (pP2_0 n a P j).2.symm⟩
    have thr : fL_there n M (nI a) (nI fl) = some (nI (pRe P n a fl), M) := by
      rw [pg_mix (T := T + 6) (P := pP2 n a P) (N := pP3 n a P) hn ha (by omega) (fun j hj => (wf2 j hj).mo (by omega)) (fun j hj => pNk_W ha hW j hj) k3 hM, pRe_eq (Q := P) (fun j _ => pP2_0 n a P j) a fl]
    rw [fL_shocks_L351, if_neg (nI_ge hin (by omega)), if_pos (pz_qin hin (by omega)), pz_nI (by omega), pz_nm, m0]
    by_cases k0 : pP2 n a P i 0 = 3
    · have eM : pMk (pRe P n a) (pF2 n a P) (pP2 n a P) i = pCatM (nI (pRe P n a fl)) (pF2 n a P fl) (pP2 n a P i) := by unfold pMk; rw [if_pos k0, c5]
      have eN : pP3 n a P i = pCatN (nI (pRe P n a fl)) (pF2 n a P fl) (pP2 n a P i) := by unfold pP3 pNk; rw [if_pos k0, c5]
      obtain ⟨f, mm, d5, c, t, ⟨b1, b2, b3, b4⟩, g1, g2, g3, g5, g6, h⟩ := id wf
      have m2 : M i 2 = nI mm := (hag 2 (by decide)).trans g2
      have nxt : ∀ (g : Int32), g = pCatM (nI (pRe P n a fl)) (pF2 n a P fl) (pP2 n a P i) → ∃ (f : Nat → Int32) (M1 : Nat → Nat → Int32), fL_shocks_L409 n (nI a) (fL_shocks_L351 n (nI a) fuel) M F1 (nI a) x3 (pSum (pMk (pRe P n a) (pF2 n a P) (pP2 n a P)) i) (nI n) (nI i) i g = some (f, M1) ∧ f 0 = pMa n a P ∧ f 1 = x3 ∧ gM n M1 (pP3 n a P) := by
        intro g hg
        rw [pg_409 m1 hfl, hg, ← eM, nI_1]
        refine ih (i + 1) fuel _ (by omega) (by omega) (pz_stepA hM (fun j hj q => by rw [pz_wr, pz_rn q, pz_wr, pz_rn q]) ?_)
        rw [eM, eN, hF fl]
        intro k hk
        unfold pCatN
        by_cases z : pF2 n a P fl = 0
        · rw [if_pos z, if_pos z]
          by_cases y : k = 6
          · subst y; rw [pz_w, pz_u, hag 6 (by decide)]
          · rw [pz_wk y, pz_un y]
            by_cases x : k = 2
            · subst x; rw [pz_w, hag 2 (by decide)]
            · rw [pz_wk x, hag k hk]
        · rw [if_neg z, if_neg z]
          have eC : pCatM (nI (pRe P n a fl)) (pF2 n a P fl) (pP2 n a P i) = 0 := by unfold pCatM; rw [if_neg z]
          by_cases y : k = 6
          · subst y; rw [pz_w, pz_un (by decide), eC, Int32.add_zero, hag 6 (by decide)]
          · rw [pz_wk y]
            by_cases x : k = 2
            · subst x; rw [pz_w, pz_u, m2, g2]; exact pt_3 mm (by omega)
            · rw [pz_wk x, pz_un x, hag k hk]
      rw [if_pos k0, m1, if_pos q5, pz_nI (by omega), hF fl]
      by_cases z : pF2 n a P fl = 0
      · rw [if_pos z, thr, pz_b2, pz_nm, pz_nm]
        refine nxt _ ?_
        unfold pCatM pDist
        rw [if_pos z, m2, g2]
        exact pt_4 mm (by omega) _ (by omega)
      · rw [if_neg z]
        refine nxt 0 ?_
        unfold pCatM
        rw [if_neg z]
    · have eM : pMk (pRe P n a) (pF2 n a P) (pP2 n a P) i = 0 := by unfold pMk; rw [if_neg k0]
      have eN : pP3 n a P i = pP2 n a P i := by unfold pP3 pNk; rw [if_neg k0]
      rw [if_neg k0, pz_nm, nI_1]
      have e := ih (i + 1) fuel M (by omega) (by omega) (pz_stepA hM (fun j hj q => rfl) (by rw [eN]; exact hag))
      rw [show pSum (pMk (pRe P n a) (pF2 n a P) (pP2 n a P)) (i + 1) = pSum (pMk (pRe P n a) (pF2 n a P) (pP2 n a P)) i by show _ + pMk _ _ _ i = _; rw [eM]; exact Int32.add_zero _] at e
      exact e
/-- the law's own shock does to its rows what the hall's does to its props -/
theorem pg_shocks {n T a : Nat} {M P : Nat → Nat → Int32} (hn : n ≤ 12) (ha : a ≤ 9) (hW : ∀ i, i < n → pWF T (P i)) (hM : gM n M P) : ∃ (f : Nat → Int32) (M1 : Nat → Nat → Int32), fL_shocks n M (nI a) = some (f, M1) ∧ f 0 = pMa n a P ∧ f 1 = pBr n a P ∧ gM n M1 (pP3 n a P) := by
  obtain ⟨M1, F1, e1, h1, h2⟩ := pg_17 hn ha hW n 0 13 M (fun _ => 0) (by omega) (by omega) (fun j hj => by rw [if_neg (by omega)]; exact hM j hj) (fun f => ⟨Or.inl rfl, fun q => absurd (show (0 : Int32) = 1 from q) (by decide), fun ⟨k, hk, _⟩ => absurd hk (Nat.not_lt_zero k)⟩)
  obtain ⟨f, M2, e2, g1, g2, g3⟩ := pg_351 (x3 := pSum (pBb n a P) n) hn ha hW h2 n 0 13 M1 (by omega) (by omega) (fun j hj => by rw [if_neg (by omega)]; exact h1 j hj)
  refine ⟨f, M2, ?_, g1, g2.trans (pBb_sum n a P), g3⟩
  unfold fL_shocks
  rw [pz_nm]
  exact e1.trans e2
