-- the law's rows of the props, and its own shocks
abbrev gM (n : Nat) (M P : Nat → Nat → Int32) : Prop := ∀ i, i < n → pAg (M i) (P i)
theorem pg_props {T : Nat} {w : qMem} {S : pSt} {L : List pSt} (H : pIc T w S L) : ∃ M : Nat → Nat → Int32, fL_props w = some (sN S, M, w) ∧ gM (sN S) M (sP S) := by
  have hn := H.1.1
  have row : ∀ (k14 : qMem → Nat → (Nat → Nat → Int32) → Int32 → Option (Nat × (Nat → Nat → Int32) × qMem)) (i : Nat), i < sN S → ∀ (d k fuel : Nat) (M : Nat → Nat → Int32), k + d = 7 → d < fuel → (∀ j, j < i → pAg (M j) (sP S j)) → (∀ j, j < k → M i j = sP S i j) → ∃ M1 : Nat → Nat → Int32, fL_props_L22 k14 fuel w (sN S) M (nI i) (nI k) = k14 w (sN S) M1 (nI (i + 1)) ∧ ∀ j, j < i + 1 → pAg (M1 j) (sP S j) := by
    intro k14 i hi d
    induction d with
    | zero =>
      intro k fuel M hk hfu h1 h2
      obtain ⟨fuel, rfl⟩ : ∃ g, fuel = g + 1 := ⟨fuel - 1, by omega⟩
      refine ⟨M, ?_, fun j hj => ?_⟩
      · rw [fL_props_L22, show k = 7 by omega, if_pos (by decide), pz_nm, nI_1]
      · by_cases z : j = i
        · subst z; exact fun q hq => h2 q (by omega)
        · exact h1 j (by omega)
    | succ d ih =>
      intro k fuel M hk hfu h1 h2
      obtain ⟨fuel, rfl⟩ : ∃ g, fuel = g + 1 := ⟨fuel - 1, by omega⟩
      rw [fL_props_L22, if_neg (show ¬ (7 : Int32) ≤ nI k from nI_ge (b := 7) (by omega) (by decide)), if_pos (pz_qin hi (by omega)), pz_nI (by omega), pz_nm, pL_of H hi (by omega), pz_b2, if_pos (pz_qin (show k < 7 by omega) (by decide)), pz_nI (by omega), pz_nm, pz_nm, nI_1]
      refine ih (k + 1) fuel _ (by omega) (by omega) (fun j hj => ?_) (fun j hj => ?_)
      · rw [pz_wr, pz_rn (by omega)]; exact h1 j hj
      · by_cases z : j = k
        · subst z; exact pz_w
        · rw [pz_wk z]; exact h2 j (by omega)
  have all : ∀ (d i fuel : Nat) (M : Nat → Nat → Int32), i + d = sN S → d < fuel → (∀ j, j < i → pAg (M j) (sP S j)) → ∃ M1 : Nat → Nat → Int32, fL_props_L14 fuel w (sN S) M (nI i) = some (sN S, M1, w) ∧ gM (sN S) M1 (sP S) := by
    intro d
    induction d with
    | zero =>
      intro i fuel M hi hfu h
      obtain ⟨fuel, rfl⟩ : ∃ g, fuel = g + 1 := ⟨fuel - 1, by omega⟩
      exact ⟨M, by rw [fL_props_L14, if_pos (show Int32.ofNat (sN S) ≤ nI i from nI_le (by omega) (by omega))], fun j hj => h j (by omega)⟩
    | succ d ih =>
      intro i fuel M hi hfu h
      obtain ⟨fuel, rfl⟩ : ∃ g, fuel = g + 1 := ⟨fuel - 1, by omega⟩
      obtain ⟨M1, e1, h1⟩ := row (fL_props_L14 fuel) i (by omega) 7 0 8 M (by omega) (by omega) h (fun j hj => absurd hj (Nat.not_lt_zero j))
      obtain ⟨M2, e2, h2⟩ := ih (i + 1) fuel M1 (by omega) (by omega) h1
      refine ⟨M2, ?_, h2⟩
      rw [fL_props_L14, if_neg (show ¬ Int32.ofNat (sN S) ≤ nI i from nI_ge (by omega) (by omega))]
      exact e1.trans e2
  obtain ⟨M, e, h⟩ := all (sN S) 0 13 (fun _ _ => 0) (by omega) (by omega) (fun j hj => absurd hj (Nat.not_lt_zero j))
  refine ⟨M, ?_, h⟩
  unfold fL_props
  rw [pa_0, pz_b3, if_pos rfl, H.n, if_pos (pz_qin (by omega) (by decide)), pz_nI (by omega), pz_nm]
  exact e
theorem pg_many {n : Nat} {M P : Nat → Nat → Int32} (hn : n ≤ 12) (hM : gM n M P) (a : Int32) : fL_many n M a = some (nI (pKn P a n), M) := by
  have go : ∀ (d i fuel : Nat), i + d = n → d < fuel → fL_many_L11 n a fuel M a (nI (pKn P a i)) (nI n) (nI i) = some (nI (pKn P a n), M) := by
    intro d
    induction d with
    | zero =>
      intro i fuel hi hfu
      obtain ⟨fuel, rfl⟩ : ∃ g, fuel = g + 1 := ⟨fuel - 1, by omega⟩
      rw [fL_many_L11, if_pos (nI_le (by omega) (by omega)), show i = n by omega]
    | succ d ih =>
      intro i fuel hi hfu
      obtain ⟨fuel, rfl⟩ : ∃ g, fuel = g + 1 := ⟨fuel - 1, by omega⟩
      rw [fL_many_L11, if_neg (nI_ge (by omega) (by omega)), if_pos (pz_qin (by omega) (by omega)), pz_nI (by omega), pz_nm, hM i (by omega) 0 (by decide)]
      have e := ih (i + 1) fuel (by omega) (by omega)
      by_cases z : P i 0 = a
      · rw [if_pos z, pz_nm, pz_nm, nI_1, nI_1]
        rw [show pKn P a (i + 1) = pKn P a i + 1 by simp only [pKn]; rw [if_pos z]] at e
        exact e
      · rw [if_neg z, pz_nm, pz_nm, nI_1, Int32.add_zero]
        rw [show pKn P a (i + 1) = pKn P a i by simp only [pKn]; rw [if_neg z]; rfl] at e
        exact e
  unfold fL_many
  rw [pz_nm]
  exact go n 0 13 (by omega) (by omega)
theorem pg_there {n T a F : Nat} {M P : Nat → Nat → Int32} (hn : n ≤ 12) (ha : a ≤ 9) (hF : F ≤ 5) (hW : ∀ i, i < n → pWF T (P i)) (hM : gM n M P) : fL_there n M (nI a) (nI F) = some (nI (pRe P n a F), M) := by
  have cats : ∀ (d i fuel : Nat) (f1 : Nat → Int32), i + d = n → d < fuel → (∀ f, f < 5 → f1 f = if 0 < pCn P 3 (nI f) i then 1 else 0) → ∃ f2 : Nat → Int32, fL_there_L15 n (nI a) (nI F) fuel M f1 (nI a) (nI F) (nI n) (nI i) = fL_there_L69 n (nI a) (nI F) 6 M f2 (nI F) (nI a) 0 ∧ ∀ f, f < 5 → f2 f = if 0 < pCn P 3 (nI f) n then 1 else 0 := by
    intro d
    induction d with
    | zero =>
      intro i fuel f1 hi hfu h
      obtain ⟨fuel, rfl⟩ : ∃ g, fuel = g + 1 := ⟨fuel - 1, by omega⟩
      have : i = n := by omega
      subst this
      exact ⟨f1, by rw [fL_there_L15, if_pos (nI_le (by omega) (by omega))], h⟩
    | succ d ih =>
      intro i fuel f1 hi hfu h
      obtain ⟨fuel, rfl⟩ : ∃ g, fuel = g + 1 := ⟨fuel - 1, by omega⟩
      obtain ⟨fl, hfl, e1⟩ := (hW i (by omega)).fl
      have m1 : M i 1 = nI fl := (hM i (by omega) 1 (by decide)).trans e1
      have m0 : M i 0 = P i 0 := hM i (by omega) 0 (by decide)
      have q5 : qin (M i 1) 5 = true := by rw [m1]; exact pz_qin hfl (by decide)
      have c5 : (M i 1).toNatClampNeg = fl := by rw [m1]; exact pz_nI (by omega)
      rw [fL_there_L15, if_neg (nI_ge (by omega) (by omega)), if_pos (pz_qin (by omega) (by omega)), pz_nI (by omega), pz_nm, if_pos q5, c5, m0]
      have stp : ∀ v : Int32, v = (if 0 < pCn P 3 (nI fl) (i + 1) then 1 else 0) → ∀ f, f < 5 → upd f1 fl v f = if 0 < pCn P 3 (nI f) (i + 1) then 1 else 0 := by
        intro v hv f hf
        by_cases z : f = fl
        · subst z; rw [pz_u]; exact hv
        · rw [pz_un z, h f hf, pCn_f (fun y => z ((nI_eq (by omega) (by omega)).mp (y.2.symm.trans e1)))]
      by_cases z : f1 fl = 0
      · rw [if_pos z]
        by_cases y : P i 0 = 3
        · rw [if_pos y, if_pos q5, pz_nm, pz_nm, nI_1]
          exact ih (i + 1) fuel _ (by omega) (by omega) (stp 1 (by rw [pCn_t y e1, if_pos (by omega)]))
        · rw [if_neg y, if_pos q5, pz_nm, pz_nm, nI_1]
          exact ih (i + 1) fuel _ (by omega) (by omega) (stp 0 (by rw [pCn_f (fun q => y q.1), ← h fl hfl, z]))
      · have h1 := h fl hfl
        have hp : 0 < pCn P 3 (nI fl) i := Classical.byContradiction fun q => z (by rw [h1, if_neg q])
        rw [if_neg z, if_pos q5, pz_nm, pz_nm, nI_1]
        refine ih (i + 1) fuel _ (by omega) (by omega) (stp 1 ?_)
        have : pCn P 3 (nI fl) i ≤ pCn P 3 (nI fl) (i + 1) := by simp only [pCn]; omega
        rw [if_pos (by omega)]
  obtain ⟨f2, e, h2⟩ := cats n 0 13 (fun _ => 0) (by omega) (by omega) (fun f _ => rfl)
  have fall : ∀ (d i fuel : Nat), i + d = F → d < fuel → fL_there_L69 n (nI a) (nI F) fuel M f2 (nI F) (nI (a - pT P n i)) (nI i) = some (nI (pRe P n a F), M) := by
    intro d
    induction d with
    | zero =>
      intro i fuel hi hfu
      obtain ⟨fuel, rfl⟩ : ∃ g, fuel = g + 1 := ⟨fuel - 1, by omega⟩
      rw [fL_there_L69, if_pos (nI_le (by omega) (by omega)), show i = F by omega]; rfl
    | succ d ih =>
      intro i fuel hi hfu
      obtain ⟨fuel, rfl⟩ : ∃ g, fuel = g + 1 := ⟨fuel - 1, by omega⟩
      have e1 : (if (0 : Int32) < nI (a - pT P n i) - 1 then nI (a - pT P n i) - 1 else 0) = nI (a - pT P n i - 1) := pt_20 _ (by omega) 1 (by decide)
      have e2 : (if (0 : Int32) < nI (a - pT P n i - 1) - 1 then nI (a - pT P n i - 1) - 1 else 0) = nI (a - pT P n i - 1 - 1) := pt_20 _ (by omega) 1 (by decide)
      rw [fL_there_L69, if_neg (nI_ge (by omega) (by omega)), e1, pz_nm, if_pos (pz_qin (show i < 5 by omega) (by decide)), pz_nI (by omega), h2 i (by omega)]
      have e := ih (i + 1) fuel (by omega) (by omega)
      simp only [pT] at e
      by_cases z : 0 < pCn P 3 (nI i) n
      · rw [if_pos z] at e ⊢
        rw [if_neg (by decide), e2, pz_nm, pz_nm, nI_1, show a - pT P n i - 1 - 1 = a - (pT P n i + 2) by omega]
        exact e
      · rw [if_neg z] at e ⊢
        rw [if_pos rfl, pz_nm, nI_1, show a - pT P n i - 1 = a - (pT P n i + 1) by omega]
        exact e
  unfold fL_there
  rw [pz_nm]
  have e0 := fall F 0 6 (by omega) (by omega)
  exact e.trans e0
section
variable {n : Nat} {a2 : Int32} {k17 : (Nat → Nat → Int32) → (Nat → Int32) → Int32 → Int32 → Int32 → Int32 → Option ((Nat → Int32) × (Nat → Nat → Int32))} {M : Nat → Nat → Int32} {f1 : Nat → Int32} {x1 x3 x5 x6 x8 x9 s0 s1 : Int32} {j fl : Nat}
theorem pg_165 (h1 : M j 1 = nI fl) (hfl : fl < 5) : fL_shocks_L165 n a2 k17 M f1 x1 x3 x5 x6 j x8 s0 4 j = fL_shocks_L201 n a2 k17 (quw M j 4 s0) (upd f1 fl (if f1 fl = 0 then (if s0 = 1 then 1 else 0) else 1)) x1 (x3 + s0) x5 x6 j x8 := by
  have q1 : quw M j 4 s0 j 1 = nI fl := by rw [pz_wk (by decide)]; exact h1
  have q5 := pz_qin hfl (show 5 < 2 ^ 31 by decide)
  unfold fL_shocks_L165
  rw [if_pos (by decide), show (4 : Int32).toNatClampNeg = 4 from rfl, pz_nm, pz_w, pz_nm, q1, if_pos q5, pz_nI (by omega)]
  by_cases z : f1 fl = 0
  · rw [if_pos z, if_pos z]
    by_cases y : s0 = 1
    · rw [if_pos y, if_pos y, if_pos q5, pz_nm]
    · rw [if_neg y, if_neg y, if_pos q5, pz_nm]
  · rw [if_neg z, if_neg z, if_pos q5, pz_nm]
theorem pg_148 : fL_shocks_L148 n a2 k17 M f1 x1 x3 x5 x6 j x8 s0 2 j = fL_shocks_L165 n a2 k17 (quw M j 2 s0) f1 x1 x3 x5 x6 j x8 (if M j 3 ≤ 2 then 0 else 1) 4 j := by
  unfold fL_shocks_L148
  rw [if_pos (by decide), show (2 : Int32).toNatClampNeg = 2 from rfl, pz_nm, pz_wk (by decide)]
  split <;> rfl
theorem pg_117 : fL_shocks_L117 n a2 k17 M f1 x1 x3 x5 x6 j x8 x9 s0 s1 3 j = fL_shocks_L148 n a2 k17 (quw M j 3 (s1 + s0)) f1 x1 x3 x5 x6 j x8 (if x9 = 0 then M j 2 else if M j 2 ≤ 1 then M j 2 else M j 2 - 1) 2 j := by
  unfold fL_shocks_L117
  rw [if_pos (by decide), show (3 : Int32).toNatClampNeg = 3 from rfl, pz_nm, pz_wk (by decide)]
  split
  · rfl
  · split <;> rfl
theorem pg_100 : fL_shocks_L100 n a2 k17 M f1 x1 x3 x5 x6 j x8 x9 s0 s1 6 j = fL_shocks_L117 n a2 k17 (quw M j 6 (s1 + s0)) f1 x1 x3 x5 x6 j x8 x9 (if x9 = 0 then 0 else 1) (M j 3) 3 j := by
  unfold fL_shocks_L100
  rw [if_pos (by decide), show (6 : Int32).toNatClampNeg = 6 from rfl, pz_nm, pz_wk (by decide)]
  split <;> rfl
theorem pg_71 : fL_shocks_L71 n a2 k17 M f1 x1 x3 x5 x6 j x8 s0 = fL_shocks_L100 n a2 k17 M f1 x1 x3 x5 x6 j x8 s0 (if s0 = 0 then (if (2 : Int32) * x8 < M j 2 then 0 else 1) else 0) (M j 6) 6 j := by
  unfold fL_shocks_L71
  split
  · split <;> rfl
  · rfl
theorem pg_cup {T : Nat} {q : Nat → Int32} (ha : pAg (M j) q) (hq : pWF T q) (h0 : q 0 = 1) (h4 : q 4 = 0) (h1 : q 1 = nI fl) (hfl : fl < 5) : ∃ M' : Nat → Nat → Int32, (if x8 < M j 2 then fL_shocks_L71 n a2 k17 M f1 x1 x3 x5 x6 j x8 0 else fL_shocks_L71 n a2 k17 M f1 x1 x3 x5 x6 j x8 1) = fL_shocks_L201 n a2 k17 M' (upd f1 fl (if f1 fl = 0 then (if pCupR x8 q = 1 then 1 else 0) else 1)) x1 (x3 + pCupR x8 q) x5 x6 j x8 ∧ (∀ c, c ≠ j → M' c = M c) ∧ pAg (M' j) (pCupN x8 q) := by
  have m : ∀ k, k < 7 → M j k = q k := ha
  obtain ⟨f, mm, d, c, t, ⟨b1, b2, b3, b4⟩, g1, g2, g3, g5, g6, h | h | h⟩ := hq
  rotate_left
  · rw [h.1] at h0; cases h0
  · rw [h.1] at h0; cases h0
  obtain ⟨-, hm1, hd, e4, -⟩ := h
  have hd2 : d ≤ 2 := Classical.byContradiction fun z => by
    rw [e4, if_pos (by omega)] at h4; cases h4
  -- both ways
  have both : ∀ s : Int32, fL_shocks_L71 n a2 k17 M f1 x1 x3 x5 x6 j x8 s = fL_shocks_L201 n a2 k17 (quw (quw (quw (quw M j 6 (M j 6 + (if s = 0 then (if (2 : Int32) * x8 < M j 2 then 0 else 1) else 0))) j 3 (M j 3 + (if s = 0 then 0 else 1))) j 2 (if s = 0 then M j 2 else if M j 2 ≤ 1 then M j 2 else M j 2 - 1)) j 4 (if M j 3 + (if s = 0 then 0 else 1) ≤ 2 then 0 else 1)) (upd f1 fl (if f1 fl = 0 then (if (if M j 3 + (if s = 0 then 0 else 1) ≤ 2 then (0 : Int32) else 1) = 1 then 1 else 0) else 1)) x1 (x3 + (if M j 3 + (if s = 0 then 0 else 1) ≤ 2 then 0 else 1)) x5 x6 j x8 := by
    intro s
    rw [pg_71, pg_100, pg_117, pg_148, pz_w, pz_wk (by decide : (2 : Nat) ≠ 6)]
    rw [pg_165 (fl := fl) (by rw [pz_wk (by decide), pz_wk (by decide), pz_wk (by decide), m 1 (by decide)]; exact h1) hfl]
  have off : ∀ v6 v3 v2 v4 : Int32, ∀ c, c ≠ j → quw (quw (quw (quw M j 6 v6) j 3 v3) j 2 v2) j 4 v4 c = M c := fun v6 v3 v2 v4 c hc => by
    rw [pz_wr, pz_rn hc, pz_wr, pz_rn hc, pz_wr, pz_rn hc, pz_wr, pz_rn hc]
  have row : ∀ (v6 v3 v2 v4 : Int32) (p : Nat → Int32), p 0 = q 0 → p 1 = q 1 → p 2 = v2 → p 3 = v3 → p 4 = v4 → p 5 = q 5 → p 6 = v6 → pAg (quw (quw (quw (quw M j 6 v6) j 3 v3) j 2 v2) j 4 v4 j) p := by
    intro v6 v3 v2 v4 p p0 p1 p2 p3 p4 p5 p6 k hk
    rcases (show k = 0 ∨ k = 1 ∨ k = 2 ∨ k = 3 ∨ k = 4 ∨ k = 5 ∨ k = 6 by omega) with rfl | rfl | rfl | rfl | rfl | rfl | rfl
    · rw [pz_wk (by decide), pz_wk (by decide), pz_wk (by decide), pz_wk (by decide), p0, m 0 (by decide)]
    · rw [pz_wk (by decide), pz_wk (by decide), pz_wk (by decide), pz_wk (by decide), p1, m 1 (by decide)]
    · rw [pz_wk (by decide), pz_w, p2]
    · rw [pz_wk (by decide), pz_wk (by decide), pz_w, p3]
    · rw [pz_w, p4]
    · rw [pz_wk (by decide), pz_wk (by decide), pz_wk (by decide), pz_wk (by decide), p5, m 5 (by decide)]
    · rw [pz_wk (by decide), pz_wk (by decide), pz_wk (by decide), pz_w, p6]
  have e3 : M j 3 = nI d := (m 3 (by decide)).trans g3
  have e2 : M j 2 = q 2 := m 2 (by decide)
  have le2 : (nI d + 0 ≤ (2 : Int32)) := by rw [Int32.add_zero]; exact nI_le (b := 2) hd2 (by decide)
  by_cases z : x8 < M j 2
  · rw [if_pos z, both 0]
    have eR : pCupR x8 q = 0 := by unfold pCupR; rw [if_pos h4, if_pos (by rw [← e2]; exact z)]
    rw [if_pos rfl, if_pos rfl, if_pos rfl, e3, if_pos le2, eR]
    refine ⟨_, rfl, off _ _ _ _, ?_⟩
    have eN : pCupN x8 q = if 2 * x8 < q 2 then q else upd q 6 (q 6 + 1) := by unfold pCupN; rw [if_pos h4, if_pos (by rw [← e2]; exact z)]
    rw [eN, e2]
    by_cases y : (2 : Int32) * x8 < q 2
    · rw [if_pos y, if_pos y]
      exact row _ _ _ _ _ rfl rfl rfl (by rw [Int32.add_zero]; exact g3) h4 rfl (by rw [Int32.add_zero, m 6 (by decide)])
    · rw [if_neg y, if_neg y]
      exact row _ _ _ _ _ (pz_un (by decide)) (pz_un (by decide)) (pz_un (by decide)) (by rw [pz_un (by decide), Int32.add_zero]; exact g3) (by rw [pz_un (by decide)]; exact h4) (pz_un (by decide)) (by rw [pz_u, m 6 (by decide)])
  · rw [if_neg z, both 1]
    have zq : ¬ x8 < q 2 := by rw [← e2]; exact z
    have eR : pCupR x8 q = if q 3 + 1 < 3 then 0 else 1 := by unfold pCupR; rw [if_pos h4, if_neg zq]
    have eN : pCupN x8 q = upd (upd (upd q 3 (q 3 + 1)) 2 (if q 2 ≤ 1 then 1 else q 2 - 1)) 4 (if q 3 + 1 < 3 then 0 else 1) := by unfold pCupN; rw [if_pos h4, if_neg zq]
    have e34 : (if M j 3 + 1 ≤ 2 then (0 : Int32) else 1) = if q 3 + 1 < 3 then 0 else 1 := by
      rw [e3, g3, nI_1]
      by_cases y : d + 1 < 3
      · rw [if_pos (show nI (d + 1) ≤ 2 from nI_le (b := 2) (by omega) (by decide)), if_pos (show nI (d + 1) < 3 from nI_lt (b := 3) y (by decide))]
      · rw [if_neg (show ¬ nI (d + 1) ≤ 2 from nI_ge (a := 2) (by omega) (by omega)), if_neg (show ¬ nI (d + 1) < 3 from nI_nlt (b := 3) (by omega) (by omega))]
    rw [if_neg (show ¬ (1 : Int32) = 0 by decide), if_neg (show ¬ (1 : Int32) = 0 by decide), if_neg (show ¬ (1 : Int32) = 0 by decide), e34, eR, eN]
    refine ⟨_, rfl, off _ _ _ _, ?_⟩
    refine row _ _ _ _ _ (by rw [pz_un (by decide), pz_un (by decide), pz_un (by decide)]) (by rw [pz_un (by decide), pz_un (by decide), pz_un (by decide)]) (by
      rw [pz_un (by decide), pz_u, e2]
      by_cases y : q 2 ≤ 1
      · rw [if_pos y, if_pos y, g2]
        rw [g2] at y
        have : mm = 1 := by
          have h2 := Classical.byContradiction fun h9 : ¬ mm ≤ 1 => nI_ge (a := 1) (b := mm) (by omega) (by omega) y
          omega
        rw [this]; rfl
      · rw [if_neg y, if_neg y]) (by rw [pz_un (by decide), pz_un (by decide), pz_u, m 3 (by decide)]) pz_u (by rw [pz_un (by decide), pz_un (by decide), pz_un (by decide)]) (by rw [pz_un (by decide), pz_un (by decide), pz_un (by decide), Int32.add_zero, m 6 (by decide)])
end
