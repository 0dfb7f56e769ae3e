-- cue
def pUp (P : Nat → Nat → Int32) (i : Nat) (p : Nat → Int32) : Nat → Nat → Int32 := fun j => if j = i then p else P j
theorem pUp_i (P : Nat → Nat → Int32) (i : Nat) (p : Nat → Int32) : pUp P i p i = p := if_pos rfl
theorem pUp_n (P : Nat → Nat → Int32) {i j : Nat} (p : Nat → Int32) (h : j ≠ i) : pUp P i p j = P j := if_neg h
def sCue (i : Nat) (v : Int32) (S : pSt) : pSt := (sN S, pUp (sP S) i (upd (sP S i) 5 v), sQ S, sL S, sG S)
theorem sCue_W {T i c : Nat} {S : pSt} (hi : i < sN S) (hc : c ≤ 9) (h0 : sP S i 0 = 2) (H : pW T S) : pW T (sCue i (nI c) S) := by
  obtain ⟨h1, h2, h3, h4, h5, h6⟩ := H
  refine ⟨h1, fun j hj => ?_, h3, h4, h5, fun f hf k hk => ?_⟩
  · show pWF T (pUp (sP S) i (upd (sP S i) 5 (nI c)) j)
    by_cases z : j = i
    · subst z
      rw [pUp_i]
      obtain ⟨f, m, d, c', t, ⟨b1, b2, b3, b4⟩, g1, g2, g3, g5, g6, g | g | g⟩ := h2 j hi
      · exact absurd (g.1.symm.trans h0) (by decide)
      · exact ⟨f, m, d, c, t, ⟨b1, b2, hc, b4⟩, g1, g2, g3, pz_u, g6, Or.inr (Or.inl g)⟩
      · exact absurd (g.1.symm.trans h0) (by decide)
    · rw [pUp_n _ _ z]; exact h2 j hj
  · have e : pCn (sP (sCue i (nI c) S)) k (nI f) (sN S) = pCn (sP S) k (nI f) (sN S) := pCn_eq k (nI f) _ (fun j _ => by
      show pUp (sP S) i (upd (sP S i) 5 (nI c)) j 0 = _ ∧ pUp (sP S) i (upd (sP S i) 5 (nI c)) j 1 = _
      by_cases z : j = i
      · subst z; rw [pUp_i]; exact ⟨rfl, rfl⟩
      · rw [pUp_n _ _ z]; exact ⟨rfl, rfl⟩)
    show pCn (sP (sCue i (nI c) S)) k (nI f) (sN S) ≤ 5
    rw [e]; exact h6 f hf k hk
theorem pH_up {w : qMem} {i : Nat} {g p : Nat → Int32} {S : pSt} (hn : sN S ≤ 12) (hi : i < sN S) (hg : pAg g p) (H : pH w 0 S) : pH (qur w (2 + i) g) 0 (sN S, pUp (sP S) i p, sQ S, sL S, sG S) := by
  obtain ⟨⟨H1, H2⟩, H3, H4, H5⟩ := H
  refine ⟨⟨by rw [pz_rn (by omega)]; exact H1, fun j hj => ?_⟩, by rw [pz_rn (by omega)]; exact H3, fun j hj => by rw [pz_rn (by omega)]; exact H4 j hj, fun k hk => by rw [pz_rn (by omega)]; exact H5 k hk⟩
  show pAg _ (pUp (sP S) i p j)
  by_cases z : j = i
  · subst z
    have e : 19 * 0 + 2 + j = 2 + j := by omega
    rw [e, pz_r, pUp_i]; exact hg
  · rw [pz_rn (by omega), pUp_n _ _ z]; exact H2 j hj
theorem pR_up {s s' : Nat → Int32} {i : Nat} {p : Nat → Int32} {S : pSt} (hn : sN S ≤ 12) (hq : sQ S ≤ 8) (hi : i < sN S) (h1 : ∀ j, j < 15 + 7 * i ∨ 22 + 7 * i ≤ j → s' j = s j) (h2 : pAg (pzS s' i) p) (H : pR s S) : pR s' (sN S, pUp (sP S) i p, sQ S, sL S, sG S) := by
  obtain ⟨⟨H1, H2⟩, H3, H4, H5⟩ := H
  refine ⟨⟨by rw [h1 _ (by omega)]; exact H1, fun j hj => ?_⟩, by rw [h1 _ (by omega)]; exact H3, fun j hj => ?_, fun k hk => by rw [h1 _ (by omega)]; exact H5 k hk⟩
  · show pAg _ (pUp (sP S) i p j)
    by_cases z : j = i
    · subst z; rw [pUp_i]; exact h2
    · rw [pUp_n _ _ z]
      intro k hk
      have := H2 j hj k hk
      unfold pzS at this ⊢
      rw [h1 _ (by omega)]; exact this
  · have hj' : j < sQ S := hj
    rw [h1 _ (by omega)]; exact H4 j hj
theorem pj_cue (a : Int32) : (∃ n, n ≤ 9 ∧ a = nI n) ∧ (a = 0 ∨ ¬ a = 0 ∧ ∀ w, fX5_isStrength w a = some 1) ∧ (∀ w, fX6_in w a 0 9 = some 1) ∨ (¬ a = 0 ∧ ∀ w, fX5_isStrength w a = some 0) ∧ (∀ w, fX6_in w a 0 9 = some 0) := by
  unfold fX5_isStrength fX6_in
  rcases pj_in 0 9 (by decide) (by decide) a with ⟨n, h1, h2, e, q1, q2⟩ | q | ⟨q1, q2⟩
  · have q1 : ¬ a < 0 := q1
    have q2 : ¬ (9 : Int32) < a := q2
    refine Or.inl ⟨⟨n, h2, e⟩, ?_, fun w => by rw [if_neg q1, if_neg q2]⟩
    by_cases n0 : n = 0
    · exact Or.inl (by rw [e, n0]; rfl)
    · have q3 : ¬ a < 1 := by rw [e]; exact nI_nlt (a := n) (b := 1) (by omega) (by omega)
      exact Or.inr ⟨by rw [e]; exact nI_ne0 (by omega) (by omega), fun w => by rw [if_neg q3, if_neg q2]⟩
  · have q : a < 0 := q
    have q3 : a < 1 := by
      rw [Int32.lt_iff_toInt_lt] at q ⊢
      have e0 : (0 : Int32).toInt = 0 := by decide
      have e1 : (1 : Int32).toInt = 1 := by decide
      omega
    exact Or.inr ⟨⟨fun z => by rw [z] at q; exact absurd q (by decide), fun w => by rw [if_pos q3]⟩, fun w => by rw [if_pos q]⟩
  · have q1 : ¬ a < 0 := q1
    have q2 : (9 : Int32) < a := q2
    exact Or.inr ⟨⟨fun z => by rw [z] at q2; exact absurd q2 (by decide), fun w => by rw [if_pos q2, ite_self]⟩, fun w => by rw [if_neg q1, if_pos q2]⟩
theorem po_cue (T : Nat) (a b : Int32) : pDo T 5 a b (fun w => fX6_doCue w a b) (fun t => t) := by
  intro S hW
  have hn := hW.1
  have hq := hW.2.2.1
  have hO : ∀ w : qMem, fX5_tryOrder w 5 a b = qbd2 (fX5_tryCueing w a b) fun (r19 : Int32) (w20 : qMem) => some (r19, w20) := fun w => by
    unfold fX5_tryOrder
    rw [if_neg (by decide), if_neg (by decide), if_neg (by decide), if_neg (by decide), if_pos rfl]
  rcases pj_prop (sN S) hn a with ⟨⟨i, hi, ea, a0, a1⟩, qp⟩ | ⟨qa, qp⟩
  · rcases pj_cue b with ⟨⟨c, hc, eb⟩, qb, qi⟩ | ⟨⟨qb0, qb⟩, qi⟩
    · have hT : ∀ w : qMem, pH w 0 S → fX5_tryCueing w a b = fX5_tryCueing_L30 w a b := fun w H => by
        unfold fX5_tryCueing
        have e2 : w 0 2 = nI (sN S) := H.1.1
        rw [if_neg a0, e2, if_pos a1]
        rcases qb with z | ⟨z, qs⟩
        · rw [if_pos z]
        · rw [if_neg z, qs, pz_b, if_neg (by decide)]
      have hA : ∀ w : qMem, pH w 0 S → pAg (w (2 + i)) (sP S i) := fun w H => by
        have := H.1.2 i hi
        rw [show 19 * 0 + 2 + i = 2 + i by omega] at this; exact this
      have hL : ∀ w : qMem, pH w 0 S → fX5_tryCueing_L30 w a b = (if sP S i 0 = 2 then (if sP S i 4 = 0 then (if sP S i 5 = b then some (3, quw (quw w 228 8 3) 228 9 b) else some (0, quw (quw w (2 + i) 5 b) 228 10 (sP S i 5))) else some (3, quw (quw w 228 8 6) 228 9 (sP S i 3))) else some (3, quw (quw w 228 8 4) 228 9 (sP S i 1))) := fun w H => by
        have hAg := hA w H
        unfold fX5_tryCueing_L30
        rw [ea, pz_at (h := 0) (by decide) hn hi H.1.1, pz_b, if_pos (pz_P (by decide) (by omega))]
        have e2 : 19 * 0 + 2 + i = 2 + i := by omega
        rw [e2, hAg 0 (by decide), hAg 4 (by decide), hAg 5 (by decide), hAg 3 (by decide), hAg 1 (by decide)]
        rfl
      have hD : ∀ w : qMem, pR (w 239) S → fX6_doCue w a b = (if sP S i 0 = 2 then (if sP S i 4 = 1 then some (0, quw (quw (quw (quw w 238 7 3) 238 10 1) 238 8 6) 238 9 (sP S i 3)) else (if sP S i 5 = b then some (0, quw (quw (quw (quw w 238 7 3) 238 10 1) 238 8 3) 238 9 b) else some (sP S i 5, quw w 239 (15 + 7 * i + 5) b))) else some (0, quw (quw (quw (quw w 238 7 3) 238 10 1) 238 8 4) 238 9 (sP S i 1))) := fun w H => by
        have hAg := H.1.2 i hi
        have g0 : w 239 (15 + 7 * i) = sP S i 0 := hAg 0 (by decide)
        have g1 : w 239 (15 + 7 * i + 1) = sP S i 1 := hAg 1 (by decide)
        have g3 : w 239 (15 + 7 * i + 3) = sP S i 3 := hAg 3 (by decide)
        have g4 : w 239 (15 + 7 * i + 4) = sP S i 4 := hAg 4 (by decide)
        have g5 : w 239 (15 + 7 * i + 5) = sP S i 5 := hAg 5 (by decide)
        obtain ⟨o0, o1, o2, o3, o4, o5, o6⟩ := pz_of_ (w := w) (i := i) (by omega)
        unfold fX6_doCue
        rw [qp w H.1.1, pz_b, if_neg (by decide), qi, pz_b, if_neg (by decide), ea]
        simp only [o0, o1, o3, o4, o5, pz_b]
        rw [g0, g1, g3, g4, g5, (pz_set_ (by omega) _).2.2.2.2.2.1]
        rfl
      have h4 := (hW.2.1 i hi).b4
      by_cases k0 : sP S i 0 = 2
      · rcases h4 with k4 | k4
        · by_cases k5 : sP S i 5 = b
          · refine ⟨3, 0, 3, b, S, hW.mo (by omega), by decide, fun _ => ⟨rfl, by decide⟩, fun w H => ⟨_, ?_, pOc.rf 0 3 b hW H⟩, fun w H => ⟨0, _, ?_, pOr.rf 0 3 b 0 H⟩⟩
            · rw [hO, hT w H, hL w H, if_pos k0, if_pos k4, if_pos k5, pz_b2]
            · show fX6_doCue w a b = _
              rw [hD w H, if_pos k0, if_neg (by rw [k4]; decide), if_pos k5]
          · refine ⟨0, sP S i 5, 0, 0, sCue i b S, ?_, by decide, fun q => absurd rfl q, fun w H => ⟨quw (quw w (2 + i) 5 b) 228 10 (sP S i 5), ?_, pOc.ok 0 0 ?_ (fun c c1 c2 => ?_) ?_⟩, fun w H => ⟨sP S i 5, quw w 239 (15 + 7 * i + 5) b, ?_, pOr.ok _ 0 0 ?_ (fun c c1 c2 => ?_) (fun k _ => ?_)⟩⟩
            · rw [eb]; exact (sCue_W hi hc k0 hW).mo (by omega)
            · rw [hO, hT w H, hL w H, if_pos k0, if_pos k4, if_neg k5, pz_b2]
            · refine pH_28 (T := T) _ ?_ (pH_up hn hi ((hA w H).up 5 rfl) H)
              rw [eb]; exact sCue_W hi hc k0 hW
            · rw [pz_wr, pz_rn c2, pz_wr, pz_rn (by omega)]
            · rw [pz_wr, pz_r, pz_wr, pz_rn (by omega)]
            · show fX6_doCue w a b = _
              rw [hD w H, if_pos k0, if_neg (by rw [k4]; decide), if_neg k5]
            · refine pR_up hn hq hi (fun j hj => pz_wk (by omega)) ?_ H
              intro k hk
              by_cases z : k = 5
              · subst z; unfold pzS; rw [pz_w, pz_u]
              · unfold pzS; rw [pz_wk (by omega), pz_un z]; exact H.1.2 i hi k hk
            · rw [pz_wr, pz_rn c2]
            · exact pz_wn (by decide)
        · refine ⟨3, 0, 6, sP S i 3, S, hW.mo (by omega), by decide, fun _ => ⟨rfl, by decide⟩, fun w H => ⟨_, ?_, pOc.rf 0 6 (sP S i 3) hW H⟩, fun w H => ⟨0, _, ?_, pOr.rf 0 6 (sP S i 3) 0 H⟩⟩
          · rw [hO, hT w H, hL w H, if_pos k0, if_neg (by rw [k4]; decide), pz_b2]
          · show fX6_doCue w a b = _
            rw [hD w H, if_pos k0, if_pos k4]
      · refine ⟨3, 0, 4, sP S i 1, S, hW.mo (by omega), by decide, fun _ => ⟨rfl, by decide⟩, fun w H => ⟨_, ?_, pOc.rf 0 4 (sP S i 1) hW H⟩, fun w H => ⟨0, _, ?_, pOr.rf 0 4 (sP S i 1) 0 H⟩⟩
        · rw [hO, hT w H, hL w H, if_neg k0, pz_b2]
        · show fX6_doCue w a b = _
          rw [hD w H, if_neg k0]
    · refine ⟨2, 0, 0, 0, S, hW.mo (by omega), by decide, fun _ => ⟨rfl, by decide⟩, fun w H => ⟨w, ?_, pOc.no 0 0 0 H (by decide) (by decide)⟩, fun w H => ⟨0, _, ?_, pOr.no 0 0 0 0 H (by decide) (by decide)⟩⟩
      · have e2 : w 0 2 = nI (sN S) := H.1.1
        rw [hO]; unfold fX5_tryCueing
        rw [if_neg a0, e2, if_pos a1, if_neg qb0, qb, pz_b, if_pos rfl, pz_b2]
      · show fX6_doCue w a b = _
        unfold fX6_doCue
        rw [qp w H.1.1, pz_b, if_neg (by decide), qi, pz_b, if_pos rfl, pr_fail, pz_b2]
  · refine ⟨1, 0, 0, 0, S, hW.mo (by omega), by decide, fun _ => ⟨rfl, by decide⟩, fun w H => ⟨w, ?_, pOc.no 0 0 0 H (by decide) (by decide)⟩, fun w H => ⟨0, _, ?_, pOr.no 0 0 0 0 H (by decide) (by decide)⟩⟩
    · have e2 : w 0 2 = nI (sN S) := H.1.1
      rw [hO]; unfold fX5_tryCueing
      rw [e2]
      rcases qa with z | ⟨z1, z2⟩
      · rw [if_pos z, pz_b2]
      · rw [if_neg z1, if_neg z2, pz_b2]
    · show fX6_doCue w a b = _
      unfold fX6_doCue
      rw [qp w H.1.1, pz_b, if_pos rfl, pr_fail, pz_b2]
