-- props looked at
theorem pq_19 {T : Nat} {w : qMem} (a1 a2 a3 : Int32) (H : pI T w) : ∃ w1 : qMem, qs_19 w a1 a2 a3 = some w1 ∧ pI (T + 2000) w1 := by
  obtain ⟨S, hW, hH, hR⟩ := H.1
  have hn := hW.1
  have e2 : w 0 2 = nI (sN S) := hH.1.1
  unfold qs_19 fL_isBroken fX5_isBroken fX5_propNumbered
  rcases pj_prop (sN S) hn a1 with ⟨⟨i, hi, ea, b1, b2⟩, qp⟩ | ⟨hb, qp⟩
  · refine ⟨quw w 238 7 0, ?_, (pI_7 H 0).mo (by omega)⟩
    have hA := hH.1.2 i hi
    have hB := hR.1.2 i hi
    have h4 := (hW.2.1 i hi).b4
    have g4 : w (19 * 0 + 2 + i) 4 = sP S i 4 := hA 4 (by decide)
    have g5 : quw w 238 7 0 239 (15 + 7 * i + 4) = sP S i 4 := pw_7.trans (hB 4 (by decide))
    rw [if_neg b1, e2, if_pos b2, ea, pz_at (h := 0) (by decide) hn hi hH.1.1, pz_b, if_pos (pz_P (by decide) (by omega)), pz_b3, if_pos rfl, if_pos (pz_P (by decide) (by omega)), g4, if_pos (pz_B h4)]
    have : qlh [3] (0 : Int32) (some (0, sP S i 4, w)) = some (0, sP S i 4, w) := rfl
    rw [this, pz_bn]; unfold fX6_isBroken fX6_isBroken_L14
    rw [← ea, qp w hR.1.1, pz_b, if_neg (by decide), pz_nm, pz_w, if_pos rfl, ea, (pz_of_ (by omega)).2.2.2.2.1, pz_b, g5]
    rcases h4 with z | z
    · rw [z, if_neg (by decide), pz_b2, fX6_thrown, pz_w, pz_b, if_pos rfl, if_pos rfl, if_pos rfl]
    · rw [z, if_pos rfl, pz_b2, fX6_thrown, pz_w, pz_b, if_pos rfl, if_pos rfl, if_pos rfl]
  · refine ⟨quw w 238 7 1, ?_, (pI_7 H 1).mo (by omega)⟩
    have h0 : (if a1 < 0 then some (3, 0, w) else if a1 < w 0 2 then qbd (fX0_propAt w 0 a1) fun (r4 : Nat) => if qisPb r4 = true then some (0, r4, w) else none else some (3, 0, w)) = some ((3 : Nat), (0 : Nat), w) := by
      rw [e2]
      rcases hb with z | ⟨z1, z2⟩
      · rw [if_pos z]
      · rw [if_neg z1, if_neg z2]
    rw [h0, pz_b3, if_neg (by decide)]
    have : qlh [3] (0 : Int32) (some (3, 0, w)) = some (1, 0, w) := rfl
    rw [this, pz_bn]; unfold fX6_isBroken fX6_isBroken_L14
    rw [qp w hR.1.1, pz_b, if_pos rfl, pz_nm, pz_w, if_neg (by decide), pz_b2, fX6_thrown, pz_w, pz_b, if_pos rfl, if_neg (by decide)]
theorem pq_10 {T : Nat} {w : qMem} (a1 a2 a3 : Int32) (H : pI T w) : ∃ w1 : qMem, qs_10 w a1 a2 a3 = some w1 ∧ pI (T + 2000) w1 := by
  obtain ⟨S, hW, hH, hR⟩ := H.1
  have hn := hW.1
  have e2 : w 0 2 = nI (sN S) := hH.1.1
  unfold qs_10 fL_propOf fX5_propOf fX5_propNumbered
  rcases pj_prop (sN S) hn a1 with ⟨⟨i, hi, ea, b1, b2⟩, qp⟩ | ⟨hb, qp⟩
  · have hA := hH.1.2 i hi
    have hB := hR.1.2 i hi
    have h4 := (hW.2.1 i hi).b4
    rw [if_neg b1, e2, if_pos b2, ea, pz_at (h := 0) (by decide) hn hi hH.1.1, pz_b, if_pos (pz_P (by decide) (by omega)), pz_b3, if_pos rfl, if_pos (pz_P (by decide) (by omega))]
    rcases pj_in 0 6 (by decide) (by decide) a2 with ⟨k, _, hk, ek, c1, c2⟩ | hc
    · have c1 : ¬ a2 < 0 := c1
      have c2 : ¬ (6 : Int32) < a2 := c2
      refine ⟨quw w 238 7 0, ?_, (pI_7 H 0).mo (by omega)⟩
      have hR6 : fX6_propOf w (nI i) a2 = some (sP S i k, quw w 238 7 0) := by
        have g5 : quw w 238 7 0 239 (15 + 7 * i + k) = sP S i k := pw_7.trans (hB k (by omega))
        unfold fX6_propOf
        have hin : fX6_in w a2 0 6 = some 1 := by unfold fX6_in; rw [if_neg c1, if_neg c2]
        rw [← ea, qp w hR.1.1, pz_b, if_neg (by decide), hin, pz_b, if_neg (by decide), pz_nm, pz_w, if_pos (by decide), ea, ek, pz_of (by omega) (by omega), pz_b, g5]
      have hC : ∀ v : Int32, v = sP S i k → (qbdn (qlh [3, 1] (0 : Int32) (some (0, v, w))) fun (k2 : Int32) (r1 : Int32) (w3 : qMem) => qbd2 (fX6_propOf w3 (nI i) a2) fun (b7 : Int32) (w9 : qMem) => qbd (fX6_thrown w9) fun (b10 : Int32) => if b10 = k2 then if k2 = 0 then if r1 = b7 then some w9 else none else some w9 else none) = some (quw w 238 7 0) := by
        intro v hv
        have : qlh [3, 1] (0 : Int32) (some (0, v, w)) = some (0, v, w) := rfl
        rw [this, pz_bn, hR6, pz_b2, fX6_thrown, pz_w, pz_b, if_pos rfl, if_pos rfl, if_pos hv]
      have hx : ∀ j, j < 7 → w (19 * 0 + 2 + i) j = sP S i j := fun j hj => hA j hj
      rw [hx 0 (by decide), hx 1 (by decide), hx 2 (by decide), hx 3 (by decide), hx 4 (by decide), hx 5 (by decide), hx 6 (by decide)]
      subst ek
      rcases k with _ | _ | _ | _ | _ | _ | _ | k
      · exact hC _ rfl
      · exact hC _ rfl
      · exact hC _ rfl
      · exact hC _ rfl
      · have e44 : (if sP S i 4 = 0 then some ((0 : Nat), (0 : Int32), w) else some (0, 1, w)) = some (0, sP S i 4, w) := by
          rcases h4 with z | z <;> rw [z] <;> rfl
        have e := hC (sP S i 4) rfl
        rw [← e44] at e
        exact e
      · exact hC _ rfl
      · exact hC _ rfl
      · omega
    · refine ⟨quw w 238 7 2, ?_, (pI_7 H 2).mo (by omega)⟩
      have ne : ∀ k, k ≤ 6 → ¬ a2 = nI k := fun k hk z => by
        rcases hc with q | ⟨_, q⟩
        · rw [z] at q; exact nI_nlt (a := k) (b := 0) (by omega) (by omega) q
        · rw [z] at q; exact nI_nlt (a := 6) (b := k) hk (by omega) q
      have hin : fX6_in w a2 0 6 = some 0 := by
        unfold fX6_in
        rcases hc with q | ⟨q1, q2⟩
        · have q : a2 < 0 := q
          rw [if_pos q]
        · have q1 : ¬ a2 < 0 := q1
          have q2 : (6 : Int32) < a2 := q2
          rw [if_neg q1, if_pos q2]
      rw [if_neg (show ¬ a2 = (0 : Int32) from ne 0 (by decide)), if_neg (show ¬ a2 = (1 : Int32) from ne 1 (by decide)), if_neg (show ¬ a2 = (2 : Int32) from ne 2 (by decide)), if_neg (show ¬ a2 = (3 : Int32) from ne 3 (by decide)), if_neg (show ¬ a2 = (4 : Int32) from ne 4 (by decide)), if_neg (show ¬ a2 = (5 : Int32) from ne 5 (by decide)), if_neg (show ¬ a2 = (6 : Int32) from ne 6 (by decide))]
      have : qlh [3, 1] (0 : Int32) (some (1, 0, w)) = some (2, 0, w) := rfl
      rw [this, pz_bn]; unfold fX6_propOf
      rw [← ea, qp w hR.1.1, pz_b, if_neg (by decide), hin, pz_b, if_pos rfl, pz_nm, pz_w, if_neg (by decide), pz_b2, fX6_thrown, pz_w, pz_b, if_pos rfl, if_neg (by decide)]
  · refine ⟨quw w 238 7 1, ?_, (pI_7 H 1).mo (by omega)⟩
    have h0 : (if a1 < 0 then some (3, 0, w) else if a1 < w 0 2 then qbd (fX0_propAt w 0 a1) fun (r4 : Nat) => if qisPb r4 = true then some (0, r4, w) else none else some (3, 0, w)) = some ((3 : Nat), (0 : Nat), w) := by
      rw [e2]
      rcases hb with z | ⟨z1, z2⟩
      · rw [if_pos z]
      · rw [if_neg z1, if_neg z2]
    rw [h0, pz_b3, if_neg (by decide)]
    have : qlh [3, 1] (0 : Int32) (some (3, 0, w)) = some (1, 0, w) := rfl
    rw [this, pz_bn]; unfold fX6_propOf
    rw [qp w hR.1.1, pz_b, if_pos rfl, pz_nm, pz_w, if_neg (by decide), pz_b2, fX6_thrown, pz_w, pz_b, if_pos rfl, if_neg (by decide)]
theorem pq_23 {T : Nat} {w : qMem} (a1 a2 a3 : Int32) (H : pI T w) : ∃ w1 : qMem, qs_23 w a1 a2 a3 = some w1 ∧ pI (T + 2000) w1 := by
  obtain ⟨S, hW, hH, hR⟩ := H.1
  have hn := hW.1
  have no : ∀ (_ : fL_onFloor w a1 a2 = some (1, 0, w)) (_ : fX6_onFloor w a1 a2 = some (0, quw w 238 7 1)), ∃ w1 : qMem, qs_23 w a1 a2 a3 = some w1 ∧ pI (T + 2000) w1 := fun h1 h2 => by
    refine ⟨quw w 238 7 1, ?_, (pI_7 H 1).mo (by omega)⟩
    unfold qs_23
    rw [h1, pz_bn, h2, pz_b2, fX6_thrown, pz_w, pz_b, if_pos rfl, if_neg (by decide)]
  have h21 : fX6_onFloor_L21 w a1 a2 = some (0, quw w 238 7 1) := by
    unfold fX6_onFloor_L21
    rw [pz_nm, pz_w, if_neg (by decide)]
  rcases pj_in 1 3 (by decide) (by decide) a1 with ⟨k, k1, k3, ek, c1, c2⟩ | hc
  · have c1 : ¬ a1 < 1 := c1
    have c2 : ¬ (3 : Int32) < a1 := c2
    have hin : fX6_in w a1 1 3 = some 1 := by unfold fX6_in; rw [if_neg c1, if_neg c2]
    rcases pj_floor a2 with ⟨⟨f, hf, ef⟩, q1, q2⟩ | ⟨q1, q2⟩
    · refine ⟨quw w 238 7 0, ?_, (pI_7 H 0).mo (by omega)⟩
      unfold qs_23 fL_onFloor fX5_onFloor
      rw [if_neg c1, if_neg c2, q1, pz_b, if_neg (by decide), pc_countOn (h := 0) (by decide) hn hH.1, pz_b]
      have : qlh [1] (0 : Int32) (some (0, nI (pCn (sP S) a1 a2 (sN S)), w)) = some (0, nI (pCn (sP S) a1 a2 (sN S)), w) := rfl
      rw [this, pz_bn]; unfold fX6_onFloor
      rw [hin, pz_b, if_neg (by decide), q2, pz_b, if_neg (by decide), pz_nm, pz_w, if_pos (by decide), pr_there hn (pR_7 0 hR).1, pz_b, pz_b2, fX6_thrown, pz_w, pz_b, if_pos rfl, if_pos rfl, if_pos rfl]
    · refine no ?_ ?_
      · unfold fL_onFloor fX5_onFloor
        rw [if_neg c1, if_neg c2, q1, pz_b, if_pos rfl]; rfl
      · unfold fX6_onFloor
        rw [hin, pz_b, if_neg (by decide), q2, pz_b, if_pos rfl, h21]
  · refine no ?_ ?_
    · unfold fL_onFloor fX5_onFloor
      rcases hc with q | ⟨q1, q2⟩
      · have q : a1 < 1 := q
        rw [if_pos q]; rfl
      · have q1 : ¬ a1 < 1 := q1
        have q2 : (3 : Int32) < a1 := q2
        rw [if_neg q1, if_pos q2]; rfl
    · unfold fX6_onFloor
      have hin : fX6_in w a1 1 3 = some 0 := by
        unfold fX6_in
        rcases hc with q | ⟨q1, q2⟩
        · have q : a1 < 1 := q
          rw [if_pos q]
        · have q1 : ¬ a1 < 1 := q1
          have q2 : (3 : Int32) < a1 := q2
          rw [if_neg q1, if_pos q2]
      rw [hin, pz_b, if_pos rfl, h21]
theorem pq_12 {T : Nat} {w : qMem} (a1 a2 a3 : Int32) (H : pI T w) : ∃ w1 : qMem, qs_12 w a1 a2 a3 = some w1 ∧ pI (T + 2000) w1 := by
  obtain ⟨S, hW, hH, hR⟩ := H.1
  have hn := hW.1
  generalize hx : (if a3 = 0 then (0 : Int32) else 1) = x at *
  have hqs : qs_12 w a1 a2 a3 = (qbdn (fL_on w a1 a2 x) fun (k2 : Int32) (r1 : Int32) (w3 : qMem) => qbd2 (fX6_on w3 a1 a2 x) fun (b7 : Int32) (w9 : qMem) => qbd (fX6_thrown w9) fun (b10 : Int32) => if b10 = k2 then if k2 = 0 then if r1 = b7 then some w9 else none else some w9 else none) := by
    unfold qs_12; rw [hx]
  rw [hqs]
  have h19 : fX6_on_L19 w a1 a2 = some (0, quw w 238 7 1) := by
    unfold fX6_on_L19
    rw [pz_nm, pz_w, if_neg (by decide)]
  rcases pj_str a1 with ⟨⟨a, x1, x9, ea⟩, q1, q2⟩ | ⟨q1, q2⟩
  · rcases pj_floor a2 with ⟨⟨f, hf, ef⟩, q3, q4⟩ | ⟨q3, q4⟩
    · have hC : ∃ w3 : qMem, fL_on w a1 a2 x = some (0, nI (pRe (sP S) (sN S) a f), w3) ∧ ∀ c, c ≠ 16 → c ≠ 17 → w3 c = w c := by
        unfold fL_on fX5_on
        rw [q1, pz_b, if_neg (by decide), q3, pz_b, if_neg (by decide)]
        by_cases z : x = 0
        · obtain ⟨w1, e1, k1, k2⟩ := pc_spread (h := 0) (by decide) hn x9 hW.2.1 hH.1
          refine ⟨w1, ?_, k1⟩
          rw [if_pos z]; unfold fX0_reachFloorByFloor
          have e1' : fX0_spread w 0 a1 = some w1 := by rw [ea]; exact e1
          rw [e1', pz_b, ef, pc_ro hf, pz_b, k2 f hf, pz_b2]; rfl
        · refine ⟨w, ?_, fun _ _ _ => rfl⟩
          rw [if_neg z, ea, ef, pc_ra (h := 0) (by decide) hn hH.1 x9 (by omega), pz_b]; rfl
      obtain ⟨w3, e3, k3⟩ := hC
      have hR3 : pR (quw w3 238 7 0 239) S := by rw [pz_wr, pz_rn (by decide), k3 239 (by decide) (by decide)]; exact hR
      refine ⟨quw w3 238 7 0, ?_, ?_⟩
      · rw [e3, pz_bn]; unfold fX6_on
        rw [q2, pz_b, if_neg (by decide), q4, pz_b, if_neg (by decide), pz_nm, pz_w, if_pos (by decide), ea, ef, pr_str hn hR3.1 x9 (by omega), pz_b, pz_b2, fX6_thrown, pz_w, pz_b, if_pos rfl, if_pos rfl, if_pos rfl]
      · exact (pI_obs H (fun c c1 c2 => by rw [pz_wr, pz_rn (by omega), k3 c (by omega) (by omega)]) (fun k k1 _ => by rw [pz_wk k1, k3 238 (by decide) (by decide)]) (fun k _ => by rw [pz_wn (by decide), k3 239 (by decide) (by decide)]) (fun c c1 => by rw [pz_wr, pz_rn (by omega), k3 c (by omega) (by omega)])).mo (by omega)
    · refine ⟨quw w 238 7 1, ?_, (pI_7 H 1).mo (by omega)⟩
      have : fL_on w a1 a2 x = some (1, 0, w) := by
        unfold fL_on fX5_on
        rw [q1, pz_b, if_neg (by decide), q3, pz_b, if_pos rfl]; rfl
      rw [this, pz_bn]; unfold fX6_on
      rw [q2, pz_b, if_neg (by decide), q4, pz_b, if_pos rfl, h19, pz_b2, fX6_thrown, pz_w, pz_b, if_pos rfl, if_neg (by decide)]
  · refine ⟨quw w 238 7 1, ?_, (pI_7 H 1).mo (by omega)⟩
    have : fL_on w a1 a2 x = some (1, 0, w) := by
      unfold fL_on fX5_on
      rw [q1, pz_b, if_pos rfl]; rfl
    rw [this, pz_bn]; unfold fX6_on
    rw [q2, pz_b, if_pos rfl, h19, pz_b2, fX6_thrown, pz_w, pz_b, if_pos rfl, if_neg (by decide)]
