-- what is within its bounds
theorem pj_in (lo hi : Nat) (h : hi < 2 ^ 31) (hl : lo ≤ hi) (a : Int32) : (∃ n, lo ≤ n ∧ n ≤ hi ∧ a = nI n ∧ ¬ a < nI lo ∧ ¬ nI hi < a) ∨ (a < nI lo ∨ (¬ a < nI lo ∧ nI hi < a)) := by
  by_cases h1 : a < nI lo
  · exact Or.inr (Or.inl h1)
  · by_cases h2 : nI hi < a
    · exact Or.inr (Or.inr ⟨h1, h2⟩)
    · have q1 : ¬ a.toInt < (nI lo).toInt := fun z => h1 (Int32.lt_iff_toInt_lt.mpr z)
      have q2 : ¬ (nI hi).toInt < a.toInt := fun z => h2 (Int32.lt_iff_toInt_lt.mpr z)
      rw [nI_toInt (by omega)] at q1 q2
      refine Or.inl ⟨a.toInt.toNat, by omega, by omega, ?_, h1, h2⟩
      apply Int32.toInt_inj.mp
      rw [nI_toInt (by omega)]
      omega
theorem pj_str (a : Int32) : (∃ n, 1 ≤ n ∧ n ≤ 9 ∧ a = nI n) ∧ (∀ w, fX5_isStrength w a = some 1) ∧ (∀ w, fX6_isStrength w a = some 1) ∨ (∀ w, fX5_isStrength w a = some 0) ∧ (∀ w, fX6_isStrength w a = some 0) := by
  unfold fX5_isStrength fX6_isStrength fX6_in
  rcases pj_in 1 9 (by decide) (by decide) a with ⟨n, h1, h2, e, q1, q2⟩ | q | ⟨q1, q2⟩
  · have q1 : ¬ a < 1 := q1
    have q2 : ¬ (9 : Int32) < a := q2
    refine Or.inl ⟨⟨n, h1, h2, e⟩, fun w => ?_, fun w => ?_⟩
    · rw [if_neg q1, if_neg q2]
    · rw [if_neg q1, if_neg q2, pz_b]; rfl
  · have q : a < 1 := q
    refine Or.inr ⟨fun w => ?_, fun w => ?_⟩
    · rw [if_pos q]
    · rw [if_pos q, pz_b]; rfl
  · have q1 : ¬ a < 1 := q1
    have q2 : (9 : Int32) < a := q2
    refine Or.inr ⟨fun w => ?_, fun w => ?_⟩
    · rw [if_neg q1, if_pos q2]
    · rw [if_neg q1, if_pos q2, pz_b]; rfl
theorem pj_lt {a b : Int32} : ¬ a < b ↔ b ≤ a := by
  rw [Int32.lt_iff_toInt_lt, Int32.le_iff_toInt_le]; omega
theorem pj_floor (a : Int32) : (∃ n, n < 5 ∧ a = nI n) ∧ (∀ w, fX5_isFloor w a = some 1) ∧ (∀ w, fX6_isFloor w a = some 1) ∨ (∀ w, fX5_isFloor w a = some 0) ∧ (∀ w, fX6_isFloor w a = some 0) := by
  unfold fX6_isFloor fX6_in
  rcases pj_in 0 4 (by decide) (by decide) a with ⟨n, h1, h2, e, q1, q2⟩ | q | ⟨q1, q2⟩
  · have q1 : ¬ a < 0 := q1
    have q2 : ¬ (4 : Int32) < a := q2
    refine Or.inl ⟨⟨n, by omega, e⟩, fun w => ?_, fun w => ?_⟩
    · rw [e]; exact pz_fl (by omega)
    · rw [if_neg q1, if_neg q2, pz_b]; rfl
  · have q : a < 0 := q
    refine Or.inr ⟨fun w => ?_, fun w => ?_⟩
    · unfold fX5_isFloor; rw [if_pos q]
    · rw [if_pos q, pz_b]; rfl
  · have q1 : ¬ a < 0 := q1
    have q2 : (4 : Int32) < a := q2
    have q3 : (5 : Int32) ≤ a := by
      rw [Int32.le_iff_toInt_le]
      rw [Int32.lt_iff_toInt_lt] at q2
      have e4 : (4 : Int32).toInt = 4 := by decide
      have e5 : (5 : Int32).toInt = 5 := by decide
      omega
    refine Or.inr ⟨fun w => ?_, fun w => ?_⟩
    · unfold fX5_isFloor; rw [if_neg q1, if_pos q3]
    · rw [if_neg q1, if_pos q2, pz_b]; rfl
theorem pj_prop (n : Nat) (hn : n ≤ 12) (a : Int32) : (∃ i, i < n ∧ a = nI i ∧ ¬ a < 0 ∧ a < nI n) ∧ (∀ w : qMem, w 239 0 = nI n → fX6_isProp w a = some 1) ∨ (a < 0 ∨ (¬ a < 0 ∧ ¬ a < nI n)) ∧ (∀ w : qMem, w 239 0 = nI n → fX6_isProp w a = some 0) := by
  unfold fX6_isProp fX6_in
  by_cases h0 : n = 0
  · subst h0
    refine Or.inr ⟨?_, fun w hw => ?_⟩
    · by_cases q : a < 0
      · exact Or.inl q
      · exact Or.inr ⟨q, q⟩
    · rw [hw]
      by_cases q : a < 0
      · rw [if_pos q, pz_b]; rfl
      · have : nI 0 - 1 < a := by
          rw [Int32.lt_iff_toInt_lt] at q ⊢
          have e0 : (0 : Int32).toInt = 0 := by decide
          have e1 : (nI 0 - 1).toInt = -1 := by decide
          omega
        rw [if_neg q, if_pos this, pz_b]; rfl
  · have en : nI n - 1 = nI (n - 1) := by
      have := nI_pred (n - 1)
      rw [show n - 1 + 1 = n by omega] at this; exact this
    rcases pj_in 0 (n - 1) (by omega) (by omega) a with ⟨i, h1, h2, e, q1, q2⟩ | q | ⟨q1, q2⟩
    · have q1 : ¬ a < 0 := q1
      refine Or.inl ⟨⟨i, by omega, e, q1, by rw [e]; exact nI_lt (by omega) (by omega)⟩, fun w hw => ?_⟩
      rw [hw, en, if_neg q1, if_neg q2, pz_b]; rfl
    · have q : a < 0 := q
      refine Or.inr ⟨Or.inl q, fun w hw => ?_⟩
      rw [if_pos q, pz_b]; rfl
    · have q1 : ¬ a < 0 := q1
      refine Or.inr ⟨Or.inr ⟨q1, fun z => ?_⟩, fun w hw => ?_⟩
      · rw [Int32.lt_iff_toInt_lt, nI_toInt (by omega)] at q2 z
        omega
      · rw [hw, en, if_neg q1, if_pos q2, pz_b]; rfl
-- answers and refusals
theorem pc_ans (w : qMem) (v : Int32) : fX5_answered w v = some (0, quw w 228 10 v) := rfl
theorem pc_ref (w : qMem) (r d : Int32) : fX5_refuse w r d = some (3, quw (quw w 228 8 r) 228 9 d) := rfl
theorem pr_fail (w : qMem) (e : Int32) : fX6_fails w e = some (0, quw w 238 7 e) := rfl
theorem pr_ref (w : qMem) (e r d : Int32) : fX6_refuse w e r d = some (0, quw (quw (quw (quw w 238 7 e) 238 10 1) 238 8 r) 238 9 d) := rfl
theorem pOc.ok {w w1 : qMem} {v : Int32} (rs dt : Int32) {S : pSt} (h : pH w1 0 S) (f : ∀ c, 19 ≤ c → c ≠ 228 → w1 c = w c) (g : w1 228 = upd (w 228) 10 v) : pOc w w1 0 v rs dt S :=
  ⟨h, f, fun k _ _ q => by rw [g, pz_un q], fun _ => by rw [g, pz_u], fun q => absurd q (by decide), fun _ => ⟨by rw [g, pz_un (by decide)], by rw [g, pz_un (by decide)]⟩⟩
theorem pOc.no {w : qMem} {t : Int32} (v rs dt : Int32) {S : pSt} (h : pH w 0 S) (h0 : t ≠ 0) (h3 : t ≠ 3) : pOc w w t v rs dt S :=
  ⟨h, fun _ _ _ => rfl, fun _ _ _ _ => rfl, fun q => absurd q h0, fun q => absurd q h3, fun _ => ⟨rfl, rfl⟩⟩
theorem pOc.rf {w : qMem} (v rs dt : Int32) {T : Nat} {S : pSt} (hW : pW T S) (h : pH w 0 S) : pOc w (quw (quw w 228 8 rs) 228 9 dt) 3 v rs dt S :=
  ⟨ph_same hW (fun c _ h2 => by rw [pz_wr, pz_rn (by omega), pz_wr, pz_rn (by omega)]) h, fun c _ hc => by rw [pz_wr, pz_rn hc, pz_wr, pz_rn hc], fun k q1 q2 _ => by rw [pz_wk q2, pz_wk q1], fun q => absurd q (by decide), fun _ => ⟨by rw [pz_wk (by decide), pz_w], pz_w⟩, fun q => absurd rfl q⟩
theorem pOr.ok {w w1 : qMem} {v : Int32} (e rs dt : Int32) {S : pSt} (h : pR (w1 239) S) (f : ∀ c, c ≠ 238 → c ≠ 239 → w1 c = w c) (g : ∀ k, k ≠ 11 → w1 238 k = w 238 k) : pOr w w1 0 e v rs dt v S :=
  ⟨h, f, fun k _ _ _ _ q => g k q, fun _ => ⟨g 7 (by decide), rfl⟩, fun q => absurd rfl q, fun q => absurd q (by decide), fun _ => ⟨g 8 (by decide), g 9 (by decide), g 10 (by decide)⟩⟩
theorem pOr.no {w : qMem} {t e : Int32} (v rs dt r : Int32) {S : pSt} (h : pR (w 239) S) (h0 : t ≠ 0) (h3 : t ≠ 3) : pOr w (quw w 238 7 e) t e v rs dt r S :=
  ⟨by rw [pz_wr, pz_rn (by decide)]; exact h, fun c q _ => by rw [pz_wr, pz_rn q], fun k q _ _ _ _ => pz_wk q, fun q => absurd q h0, fun _ => pz_w, fun q => absurd q h3, fun _ => ⟨pz_wk (by decide), pz_wk (by decide), pz_wk (by decide)⟩⟩
theorem pOr.rf {w : qMem} {e : Int32} (v rs dt r : Int32) {S : pSt} (h : pR (w 239) S) : pOr w (quw (quw (quw (quw w 238 7 e) 238 10 1) 238 8 rs) 238 9 dt) 3 e v rs dt r S := by
  refine ⟨?_, fun c q _ => ?_, fun k q1 q2 q3 q4 _ => ?_, fun q => absurd q (by decide), fun _ => ?_, fun _ => ⟨?_, ?_, ?_⟩, fun q => absurd rfl q⟩
  · rw [pz_wr, pz_rn (by decide), pz_wr, pz_rn (by decide), pz_wr, pz_rn (by decide), pz_wr, pz_rn (by decide)]; exact h
  · rw [pz_wr, pz_rn q, pz_wr, pz_rn q, pz_wr, pz_rn q, pz_wr, pz_rn q]
  · rw [pz_wk q3, pz_wk q2, pz_wk q4, pz_wk q1]
  · rw [pz_wk (by decide), pz_wk (by decide), pz_wk (by decide), pz_w]
  · rw [pz_wk (by decide), pz_wk (by decide), pz_w]
  · rw [pz_wk (by decide), pz_w]
  · exact pz_w
-- shock
theorem po_shock (T : Nat) (E : Int32 → Int32) (a b : Int32) : pDo T 7 a b (fun w => fX6_shocks w (w 239 1)) E := by
  intro S hW
  obtain ⟨s, hs1, hs9, es⟩ := hW.2.2.2.2.1
  refine ⟨0, pMa (sN S) s (sP S), 0, 0, sShk s S, (sShk_W hs9 hW).mo (by omega), Or.inl rfl, fun q => absurd rfl q, fun w H => ?_, fun w H => ?_⟩
  · obtain ⟨w1, e1, k1, k2⟩ := pc_shock (h := 0) (by omega) hs9 hW H
    have e5 : w 0 5 = nI s := (H.2.2.2 0 (by decide)).trans es
    refine ⟨quw w1 228 10 (pMa (sN S) s (sP S)), ?_, pOc.ok 0 0 ?_ (fun c c1 c2 => ?_) ?_⟩
    · unfold fX5_tryOrder
      rw [if_neg (by decide), if_neg (by decide), if_neg (by decide), if_neg (by decide), if_neg (by decide), if_neg (by decide), if_pos rfl, e5, e1, pz_b2, pc_ans, pz_b2]
    · exact ph_same (sShk_W hs9 hW) (fun c _ h2 => by rw [pz_wr, pz_rn (by omega)]) k1
    · rw [pz_wr, pz_rn c2]; exact k2 c (by omega)
    · rw [pz_wr, pz_r, k2 228 (by omega)]
  · obtain ⟨w1, e1, k1, k2, k3, k4⟩ := pr_shock hs9 hW H
    have e5 : w 239 1 = nI s := (H.2.2.2 0 (by decide)).trans es
    exact ⟨_, w1, by simp only [e5]; exact e1, pOr.ok _ 0 0 k1 k2 k3⟩
-- set
def sSet (a : Nat) (S : pSt) : pSt := (sN S, sP S, sQ S, sL S, upd (sG S) 0 (nI a))
theorem po_set (T : Nat) (a b : Int32) : pDo T 6 a b (fun w => fX6_doSet w a) (fun t => if t = 2 then 1 else if t = 3 then 2 else 0) := by
  intro S hW
  obtain ⟨s, hs1, hs9, es⟩ := hW.2.2.2.2.1
  have c5 : ∀ w : qMem, pH w 0 S → w 0 5 = nI s := fun w H => (H.2.2.2 0 (by decide)).trans es
  have r5 : ∀ w : qMem, pR (w 239) S → w 239 1 = nI s := fun w H => (H.2.2.2 0 (by decide)).trans es
  have hO : ∀ w : qMem, fX5_tryOrder w 6 a b = qbd2 (fX5_trySetting w a) fun (r23 : Int32) (w24 : qMem) => some (r23, w24) := fun w => by
    unfold fX5_tryOrder
    rw [if_neg (by decide), if_neg (by decide), if_neg (by decide), if_neg (by decide), if_neg (by decide), if_pos rfl]
  rcases pj_str a with ⟨⟨x, x1, x9, ex⟩, q1, q2⟩ | ⟨q1, q2⟩
  · by_cases hz : nI s = a
    · refine ⟨3, 0, 3, a, S, hW.mo (by omega), by decide, fun _ => ⟨rfl, by decide⟩, fun w H => ?_, fun w H => ?_⟩
      · refine ⟨_, ?_, pOc.rf 0 3 a hW H⟩
        rw [hO]; unfold fX5_trySetting
        rw [q1, pz_b, if_neg (by decide), c5 w H, if_pos hz, pc_ref, pz_b2, pz_b2]
      · refine ⟨0, _, ?_, pOr.rf 0 3 a 0 H⟩
        show fX6_doSet w a = _
        unfold fX6_doSet
        rw [pz_nm, q2, pz_b, if_neg (by decide), r5 w H, if_pos hz, pr_ref, pz_b2]; rfl
    · refine ⟨0, nI s, 0, 0, sSet x S, ?_, by decide, fun q => absurd rfl q, fun w H => ?_, fun w H => ?_⟩
      · obtain ⟨h1, h2, h3, h4, h5, h6⟩ := hW.mo (T' := T + 100) (by omega)
        exact ⟨h1, h2, h3, h4, ⟨x, x1, x9, (pz_u : upd (sG S) 0 (nI x) 0 = nI x)⟩, h6⟩
      · refine ⟨quw (quw w 0 5 a) 228 10 (nI s), ?_, pOc.ok 0 0 ?_ (fun c c1 c2 => ?_) ?_⟩
        · rw [hO]; unfold fX5_trySetting
          rw [q1, pz_b, if_neg (by decide), c5 w H, if_neg hz, pz_nm, pz_nm, pc_ans, pz_b2, pz_b2]
        · obtain ⟨⟨H1, H2⟩, H3, H4, H5⟩ := H
          refine ⟨⟨?_, fun i hi k hk => ?_⟩, ?_, fun j hj => ?_, fun k hk => ?_⟩
          · rw [pz_wn (by decide), pz_wk (by decide)]; exact H1
          · have hi' : i < sN S := hi
            have := hW.1
            rw [pz_wn (by omega), pz_wn (by omega)]; exact H2 i hi k hk
          · rw [pz_wn (by decide), pz_wk (by decide)]; exact H3
          · rw [pz_wn (by decide), pz_wn (by decide)]; exact H4 j hj
          · rw [pz_wn (by decide)]
            show quw w 0 5 a 0 (5 + k) = upd (sG S) 0 (nI x) k
            by_cases k0 : k = 0
            · subst k0; rw [pz_w, pz_u, ex]
            · rw [pz_wk (by omega), pz_un k0]; exact H5 k hk
        · rw [pz_wr, pz_rn c2, pz_wr, pz_rn (by omega)]
        · rw [pz_wr, pz_r, pz_wr, pz_rn (by decide)]
      · refine ⟨nI s, quw w 239 1 a, ?_, pOr.ok _ 0 0 ?_ (fun c c1 c2 => ?_) (fun k _ => ?_)⟩
        · show fX6_doSet w a = _
          unfold fX6_doSet
          rw [pz_nm, q2, pz_b, if_neg (by decide), r5 w H, if_neg hz, pz_nm]
        · obtain ⟨⟨H1, H2⟩, H3, H4, H5⟩ := H
          have hq := hW.2.2.1
          refine ⟨⟨?_, fun i hi k hk => ?_⟩, ?_, fun j hj => ?_, fun k hk => ?_⟩
          · rw [pz_wk (by decide)]; exact H1
          · unfold pzS; rw [pz_wk (by omega)]; exact H2 i hi k hk
          · rw [pz_wk (by decide)]; exact H3
          · rw [pz_wk (by omega)]; exact H4 j hj
          · show quw w 239 1 a 239 (1 + k) = upd (sG S) 0 (nI x) k
            by_cases k0 : k = 0
            · subst k0; rw [pz_w, pz_u, ex]
            · rw [pz_wk (by omega), pz_un k0]; exact H5 k hk
        · rw [pz_wr, pz_rn c2]
        · exact pz_wn (by decide)
  · refine ⟨2, 0, 0, 0, S, hW.mo (by omega), by decide, fun _ => ⟨rfl, by decide⟩, fun w H => ?_, fun w H => ?_⟩
    · refine ⟨w, ?_, pOc.no 0 0 0 H (by decide) (by decide)⟩
      rw [hO]; unfold fX5_trySetting
      rw [q1, pz_b, if_pos rfl, pz_b2]
    · refine ⟨0, _, ?_, pOr.no 0 0 0 0 H (by decide) (by decide)⟩
      show fX6_doSet w a = _
      unfold fX6_doSet
      rw [pz_nm, q2, pz_b, if_pos rfl, pr_fail, pz_b2]; rfl
