-- the line looked at, a sign appended, the account
theorem pz_C {x : Int32} (h : pC1 x) : qisC x = true := by
  obtain ⟨m, hm, e⟩ := h
  subst e
  have e : (nI m).toInt = (m : Int) := nI_toInt (by omega)
  have z : (0 : Int32).toInt = 0 := by decide +kernel
  have z2 : (65535 : Int32).toInt = 65535 := by decide +kernel
  unfold qisC
  rw [Bool.and_eq_true, decide_eq_true_eq, decide_eq_true_eq, Int32.le_iff_toInt_le, Int32.le_iff_toInt_le, e, z, z2]
  omega
theorem pC1_u (x : Int32) : pC1 ((x.toUInt32 % 65536).toInt32) := ⟨x.toBitVec.toNat % 65536, by omega, pk_char x⟩
theorem pj_inl (n : Nat) (hn : n < 2 ^ 30) (a : Int32) : (∃ i, i < n ∧ a = nI i ∧ ¬ a < 0 ∧ a < nI n ∧ ∀ w, fX6_in w a 0 (nI n - 1) = some 1) ∨ ((a < 0 ∨ (¬ a < 0 ∧ ¬ a < nI n)) ∧ ∀ w, fX6_in w a 0 (nI n - 1) = some 0) := by
  unfold fX6_in
  by_cases q : a < 0
  · exact Or.inr ⟨Or.inl q, fun w => by rw [if_pos q]⟩
  · obtain ⟨j, hj, ej⟩ := nI_of q
    subst ej
    have e1 : (nI n - 1).toInt = (n : Int) - 1 := by
      rw [show (1 : Int32) = nI 1 from rfl, pk_sub_toInt hn (by decide)]; rfl
    by_cases z : j < n
    · refine Or.inl ⟨j, z, rfl, q, nI_lt z (by omega), fun w => ?_⟩
      rw [if_neg q, if_neg]
      rw [Int32.lt_iff_toInt_lt, e1, nI_toInt hj]; omega
    · refine Or.inr ⟨Or.inr ⟨q, nI_nlt (by omega) (by omega)⟩, fun w => ?_⟩
      rw [if_neg q, if_pos]
      rw [Int32.lt_iff_toInt_lt, e1, nI_toInt hj]; omega
theorem pq_26 {T : Nat} {w : qMem} (a1 a2 a3 : Int32) (H : pI T w) : ∃ w1 : qMem, qs_26 w a1 a2 a3 = some w1 ∧ pI (T + 2000) w1 := by
  obtain ⟨n, hn, l1, l2, l3⟩ := H.2.2.2.2.1
  unfold qs_26 fL_character fX5_character
  rcases pj_inl n (by omega) a1 with ⟨i, hi, ea, b1, b2, qp⟩ | ⟨hb, qp⟩
  · refine ⟨quw w 238 7 0, ?_, (pI_7 H 0).mo (by omega)⟩
    obtain ⟨g1, g2⟩ := l3 i hi
    have hC := pz_C g2
    have eS : fX2_signAt w a1 = some (w 237 i) := by
      unfold fX2_signAt
      rw [ea, if_neg (nI_pos (by omega)), if_neg (show ¬ (16 : Int32) ≤ nI i from nI_ge (b := 16) (by omega) (by omega)), if_pos (pz_qin (by omega) (by omega)), pz_nI (by omega), if_pos hC]
    rw [if_neg b1, l1, if_pos b2, eS, pz_b, if_pos hC]
    have : ∀ v : Int32, qlh [3] (0 : Int32) (some (0, v, w)) = some (0, v, w) := fun _ => rfl
    rw [this, pz_bn]; unfold fX6_character
    rw [l2, qp, pz_b, if_neg (by decide), pz_nm, pz_w, if_pos (by decide), ea, if_pos (pz_qin (by omega) (by omega)), pz_nI (by omega), pz_wn (by decide), ← g1, if_pos hC, pz_b2, fX6_thrown, pz_w, pz_b, if_pos rfl, if_pos rfl, if_pos rfl]
  · refine ⟨quw w 238 7 1, ?_, (pI_7 H 1).mo (by omega)⟩
    have h0 : qlh [3] (0 : Int32) (if a1 < 0 then some (3, 0, w) else if a1 < w 236 1 then qbd (fX2_signAt w a1) fun (r4 : Int32) => if qisC r4 = true then some (0, r4, w) else none else some (3, 0, w)) = some (1, 0, w) := by
      rw [l1]
      rcases hb with z | ⟨z1, z2⟩
      · rw [if_pos z]; rfl
      · rw [if_neg z1, if_neg z2]; rfl
    rw [h0, pz_bn]; unfold fX6_character
    rw [l2, qp, pz_b, if_pos rfl, pz_nm, pz_w, if_neg (by decide), pz_b2, fX6_thrown, pz_w, pz_b, if_pos rfl, if_neg (by decide)]
/-- text and line may change -/
theorem pI_tl {T : Nat} {w w' : qMem} (H : pI T w) (f1 : ∀ c, ¬ (231 ≤ c ∧ c ≤ 238) → c ≠ 244 → c ≠ 245 → w' c = w c) (f3 : ∀ k, k ≠ 7 → k ≠ 13 → k ≠ 15 → w' 238 k = w 238 k) (hT : pTx w') (hL : pLn w') : pI T w' := by
  obtain ⟨⟨S, s1, s2, s3⟩, ⟨d, x, hd, hx, a1, a2, a3, a4⟩, hv, _, _, e8, e9, e7⟩ := H
  have g28 : w' 228 = w 228 := f1 228 (by omega) (by decide) (by decide)
  have g29 : w' 229 = w 229 := f1 229 (by omega) (by decide) (by decide)
  refine ⟨⟨S, s1, ph_same s1 (fun c c1 c2 => f1 c (by omega) (by omega) (by omega)) s2, by rw [f1 239 (by omega) (by decide) (by decide)]; exact s3⟩, ⟨d, x, hd, hx, by rw [g29]; exact a1, by rw [g29]; exact a2, by rw [f3 6 (by decide) (by decide) (by decide)]; exact a3, fun j hj => ?_⟩, ?_, hT, hL, by rw [g28, f3 8 (by decide) (by decide) (by decide)]; exact e8, by rw [g28, f3 9 (by decide) (by decide) (by decide)]; exact e9, by rw [g28, f3 18 (by decide) (by decide) (by decide)]; exact e7⟩
  · obtain ⟨S, s1, s2, s3⟩ := a4 j hj
    exact ⟨S, s1, ph_same s1 (fun c c1 c2 => f1 c (by omega) (by omega) (by omega)) s2, by rw [f1 243 (by omega) (by decide) (by decide)]; exact s3⟩
  · rcases hv with ⟨a, b⟩ | ⟨a, b, S, hW, hS2, hR2⟩
    · exact Or.inl ⟨by rw [g28]; exact a, by rw [f3 4 (by decide) (by decide) (by decide)]; exact b⟩
    · exact Or.inr ⟨by rw [g28]; exact a, by rw [f3 4 (by decide) (by decide) (by decide)]; exact b, S, hW, ph_same hW (fun c c1 c2 => f1 c (by omega) (by omega) (by omega)) hS2, by rw [f1 242 (by omega) (by decide) (by decide)]; exact hR2⟩
theorem pTx_same {w w' : qMem} (H : pTx w) (h1 : w' 231 1 = w 231 1) (h2 : w' 232 = w 232) (h3 : w' 245 = w 245) (h4 : w' 238 15 = w 238 15) : pTx w' := by
  unfold pTx at H ⊢
  rw [h1, h2, h3, h4]; exact H
theorem pLn_same {w w' : qMem} (H : pLn w) (h1 : w' 236 1 = w 236 1) (h2 : w' 237 = w 237) (h3 : w' 244 = w 244) (h4 : w' 238 13 = w 238 13) : pLn w' := by
  unfold pLn at H ⊢
  rw [h1, h2, h3, h4]; exact H
theorem pc_app {w : qMem} {n : Nat} {x : Int32} (hn : n < 60) (t1 : w 231 1 = nI n) (hC : qisC x = true) : ∃ w3 : qMem, fX4_put w x = some w3 ∧ w3 231 1 = nI (n + 1) ∧ w3 232 n = x ∧ (∀ j, j ≠ n → w3 232 j = w 232 j) ∧ ∀ c, c ≠ 231 → c ≠ 232 → w3 c = w c := by
  refine ⟨quw (quw w 232 n x) 231 1 (nI (n + 1)), ?_, pz_w, ?_, fun j hj => ?_, fun c h1 h2 => ?_⟩
  · unfold fX4_put
    rw [t1, if_neg (nI_pos (by omega)), if_neg (show ¬ (60 : Int32) ≤ nI n from nI_ge (b := 60) (by omega) (by omega)), if_pos (pz_qin (by omega) (by omega)), if_pos hC, pz_nI (by omega), pz_nm, pz_nm, pz_wn (by decide), t1, nI_1]
  · rw [pz_wn (by decide), pz_w]
  · rw [pz_wn (by decide), pz_wk hj]
  · rw [pz_wr, pz_rn h1, pz_wr, pz_rn h2]
theorem pr_app {w : qMem} {n : Nat} {x : Int32} (hn : n < 60) (t2 : w 238 15 = nI n) (hC : qisC x = true) : ∃ w3 : qMem, fX6_append w x = some (nI (n + 1), w3) ∧ w3 238 15 = nI (n + 1) ∧ w3 238 7 = 0 ∧ w3 245 n = x ∧ (∀ j, j ≠ n → w3 245 j = w 245 j) ∧ (∀ c, c ≠ 238 → c ≠ 245 → w3 c = w c) ∧ ∀ k, k ≠ 7 → k ≠ 15 → w3 238 k = w 238 k := by
  have r15 : quw w 238 7 0 238 15 = nI n := by rw [pz_wk (by decide), t2]
  have r16 : quw (quw w 238 7 0) 245 n x 238 15 = nI n := by rw [pz_wn (by decide), r15]
  refine ⟨quw (quw (quw w 238 7 0) 245 n x) 238 15 (nI (n + 1)), ?_, pz_w, ?_, ?_, fun j hj => ?_, fun c h1 h2 => ?_, fun k h1 h2 => ?_⟩
  · unfold fX6_append fX6_append_L15
    rw [t2, if_neg (show ¬ nI n = 60 from fun q => absurd ((nI_eq (b := 60) (by omega) (by decide)).mp q) (by omega)), pz_nm, pz_w, if_pos (by decide), r15, if_pos (pz_qin (by omega) (by omega)), if_pos hC, pz_nI (by omega), pz_nm, pz_nm, r16, nI_1, pz_w]
  · rw [pz_wk (by decide), pz_wn (by decide), pz_w]
  · rw [pz_wn (by decide), pz_w]
  · rw [pz_wn (by decide), pz_wk hj, pz_wn (by decide)]
  · rw [pz_wr, pz_rn h1, pz_wr, pz_rn h2, pz_wr, pz_rn h1]
  · rw [pz_wk h2, pz_wn (by decide), pz_wk h1]
theorem pq_27 {T : Nat} {w : qMem} (a1 a2 a3 : Int32) (H : pI T w) : ∃ w1 : qMem, qs_27 w a1 a2 a3 = some w1 ∧ pI (T + 2000) w1 := by
  obtain ⟨n, hn, t1, t2, t3⟩ := H.2.2.2.1
  unfold qs_27 fL_append fX5_append
  have hC1 := pC1_u a1
  generalize ((a1).toUInt32 % 65536).toInt32 = x at hC1 ⊢
  have hC := pz_C hC1
  by_cases z : n = 60
  · refine ⟨quw w 238 7 1, ?_, (pI_7 H 1).mo (by omega)⟩
    rw [if_neg (show ¬ w 231 1 < 60 by rw [t1, z]; decide)]
    have : qlh [5] (0 : Int32) (some (5, 0, w)) = some (1, 0, w) := rfl
    rw [this, pz_bn]; unfold fX6_append fX6_append_L15
    rw [if_pos (show w 238 15 = 60 by rw [t2, z]; rfl), pz_nm, pz_w, if_neg (by decide), pz_b2, fX6_thrown, pz_w, pz_b, if_pos rfl, if_neg (by decide)]
  · obtain ⟨w3, eC, m1, mN, mJ, k1⟩ := pc_app (by omega) t1 hC
    obtain ⟨w9, eR, r1, r7, rN, rJ, k2, k3⟩ := pr_app (w := w3) (n := n) (by omega) (by rw [k1 238 (by decide) (by decide)]; exact t2) hC
    refine ⟨w9, ?_, pI.mo (T := T) (pI_tl H (fun c h1 h2 h3 => by rw [k2 c (by omega) h3, k1 c (by omega) (by omega)]) (fun k h1 h2 h3 => by rw [k3 k h1 h3, k1 238 (by decide) (by decide)]) ⟨n + 1, by omega, by rw [k2 231 (by decide) (by decide)]; exact m1, r1, fun j hj => ?_⟩ (pLn_same H.2.2.2.2.1 ?_ ?_ ?_ ?_)) (by omega)⟩
    · rw [if_pos (show w 231 1 < 60 by rw [t1]; exact nI_lt (b := 60) (by omega) (by omega)), eC, pz_b, m1]
      have : ∀ v : Int32, qlh [5] (0 : Int32) (some (0, v, w3)) = some (0, v, w3) := fun _ => rfl
      rw [this, pz_bn, eR, pz_b2, fX6_thrown, r7, pz_b, if_pos rfl, if_pos rfl, if_pos rfl]
    · rw [k2 232 (by decide) (by decide)]
      by_cases q : j = n
      · subst q; rw [mN, rN]; exact ⟨rfl, hC1⟩
      · rw [mJ j q, rJ j q, k1 245 (by decide) (by decide)]; exact t3 j (by omega)
    · rw [k2 236 (by decide) (by decide), k1 236 (by decide) (by decide)]
    · rw [k2 237 (by decide) (by decide), k1 237 (by decide) (by decide)]
    · rw [k2 244 (by decide) (by decide), k1 244 (by decide) (by decide)]
    · rw [k3 13 (by decide) (by decide), k1 238 (by decide) (by decide)]
-- how many are broken
def pBk (P : Nat → Nat → Int32) : Nat → Nat
  | 0 => 0
  | i + 1 => pBk P i + (if P i 4 = 0 then 0 else 1)
theorem pBk_le (P : Nat → Nat → Int32) : ∀ i, pBk P i ≤ i
  | 0 => Nat.le_refl 0
  | i + 1 => by have := pBk_le P i; simp only [pBk]; split <;> omega
theorem pc_cb_ {w : qMem} {h n : Nat} {P : Nat → Nat → Int32} (hh : h < 12) (hn : n ≤ 12) (H : pHC w h n P) : ∀ (d i fuel : Nat), i + d = n → d < fuel → fX0_countBroken_L4 w h fuel (nI (pBk P i)) (nI i) = some (nI (pBk P n))
  | 0, i, fuel + 1, e, _ => by
    have e : i = n := by omega
    subst e
    simp only [fX0_countBroken_L4, H.1]
    rw [if_pos (pz_ge (Nat.le_refl i) (by omega))]
  | d + 1, i, fuel + 1, e, hf => by
    have hi : i < n := by omega
    simp only [fX0_countBroken_L4, pz_at hh hn hi H.1, pz_b, pz_nm]
    rw [if_neg (by rw [H.1]; exact nI_ge hi (by omega)), if_pos (pz_P hh (by omega)), H.2 i hi 4 (by decide), nI_1, nI_1]
    have ih := pc_cb_ hh hn H d (i + 1) fuel (by omega) (by omega)
    by_cases h0 : P i 4 = 0
    · have e1 : pBk P (i + 1) = pBk P i := by simp only [pBk]; rw [if_pos h0]; rfl
      rw [if_pos h0, ← e1]; exact ih
    · have e1 : pBk P (i + 1) = pBk P i + 1 := by simp only [pBk]; rw [if_neg h0]
      rw [if_neg h0, ← e1]; exact ih
theorem pc_cb {w : qMem} {h n : Nat} {P : Nat → Nat → Int32} (hh : h < 12) (hn : n ≤ 12) (H : pHC w h n P) : fX0_countBroken w h = some (nI (pBk P n)) := pc_cb_ hh hn H n 0 100 (by omega) (by omega)
theorem pr_bm_ {w : qMem} {n : Nat} {P : Nat → Nat → Int32} (hn : n ≤ 12) (H : pHR (w 239) n P) (hb : ∀ i, i < n → P i 4 = 0 ∨ P i 4 = 1) : ∀ (d i fuel : Nat), i + d = n → d < fuel → fX6_brokenMany_L4 w fuel (nI (pBk P i)) (nI i) = some (nI (pBk P n))
  | 0, i, fuel + 1, e, _ => by
    have e : i = n := by omega
    subst e
    simp only [fX6_brokenMany_L4, H.1]
    rw [if_pos (pz_ge (Nat.le_refl i) (by omega))]
  | d + 1, i, fuel + 1, e, hf => by
    have hi : i < n := by omega
    obtain ⟨o0, o1, o2, o3, o4, o5, o6⟩ := pz_of_ (w := w) (i := i) (by omega)
    have q4 : w 239 (15 + 7 * i + 4) = P i 4 := H.2 i hi 4 (by decide)
    simp only [fX6_brokenMany_L4, o4, pz_b, pz_nm]
    rw [if_neg (by rw [H.1]; exact nI_ge hi (by omega)), q4, nI_1]
    have ih := pr_bm_ hn H hb d (i + 1) fuel (by omega) (by omega)
    rcases hb i hi with h0 | h0
    · have e1 : pBk P (i + 1) = pBk P i := by simp only [pBk]; rw [if_pos h0]; rfl
      rw [h0, Int32.add_zero, ← e1]; exact ih
    · have e1 : pBk P (i + 1) = pBk P i + 1 := by simp only [pBk]; rw [if_neg (by rw [h0]; decide)]
      rw [h0, nI_1, ← e1]; exact ih
theorem pr_bm {w : qMem} {n : Nat} {P : Nat → Nat → Int32} (hn : n ≤ 12) (H : pHR (w 239) n P) (hb : ∀ i, i < n → P i 4 = 0 ∨ P i 4 = 1) : fX6_brokenMany w = some (nI (pBk P n)) := pr_bm_ hn H hb n 0 100 (by omega) (by omega)
theorem pq_31 {T : Nat} {w : qMem} (a1 a2 a3 : Int32) (H : pI T w) : ∃ w1 : qMem, qs_31 w a1 a2 a3 = some w1 ∧ pI (T + 2000) w1 := by
  obtain ⟨S, hW, hH, hR⟩ := H.1
  have hn := hW.1
  obtain ⟨n, hn60, t1, t2, t3⟩ := H.2.2.2.1
  have hp := pHis_at H.2.1
  have hb : ∀ i, i < sN S → sP S i 4 = 0 ∨ sP S i 4 = 1 := fun i hi => (hW.2.1 i hi).b4
  have hR7 := pR_7 0 hR
  have ok : ∀ (x v : Int32), fX5_account w x = some (0, v, w) → fX6_in w x 0 12 = some 1 → fX6_account_L16 w x 0 = some (v, quw w 238 7 0) → ∃ w1 : qMem, qs_31 w x a2 a3 = some w1 ∧ pI (T + 2000) w1 := fun x v h1 h2 h3 => by
    refine ⟨quw w 238 7 0, ?_, (pI_7 H 0).mo (by omega)⟩
    unfold qs_31 fL_account fX6_account
    have : qlh [1] (0 : Int32) (some (0, v, w)) = some (0, v, w) := rfl
    rw [h1, this, pz_bn, h2, pz_b, if_neg (by decide), h3, pz_b2, fX6_thrown, pz_w, pz_b, if_pos rfl, if_pos rfl, if_pos rfl]
  rcases pj_in 0 12 (by decide) (by decide) a1 with ⟨k, _, hk, ek, c1, c2⟩ | hc
  · have c1 : ¬ a1 < 0 := c1
    have c2 : ¬ (12 : Int32) < a1 := c2
    have hin : fX6_in w a1 0 12 = some 1 := by unfold fX6_in; rw [if_neg c1, if_neg c2]
    subst ek
    have b2 : w 0 2 = nI (sN S) := hH.1.1
    have r0 : quw w 238 7 0 239 0 = nI (sN S) := hR7.1.1
    have b4 : w 0 4 = nI (sQ S) := hH.2.1
    have r6 : quw w 238 7 0 239 6 = nI (sQ S) := hR7.2.1
    have b5 : w 0 5 = sG S 0 := hH.2.2.2 0 (by decide)
    have b6 : w 0 6 = sG S 1 := hH.2.2.2 1 (by decide)
    have b7 : w 0 7 = sG S 2 := hH.2.2.2 2 (by decide)
    have b8 : w 0 8 = sG S 3 := hH.2.2.2 3 (by decide)
    have b9 : w 0 9 = sG S 4 := hH.2.2.2 4 (by decide)
    have r1 : quw w 238 7 0 239 1 = sG S 0 := hR7.2.2.2 0 (by decide)
    have r2 : quw w 238 7 0 239 2 = sG S 1 := hR7.2.2.2 1 (by decide)
    have r3 : quw w 238 7 0 239 3 = sG S 2 := hR7.2.2.2 2 (by decide)
    have r4 : quw w 238 7 0 239 4 = sG S 3 := hR7.2.2.2 3 (by decide)
    have r5 : quw w 238 7 0 239 5 = sG S 4 := hR7.2.2.2 4 (by decide)
    rcases k with _ | _ | _ | _ | _ | _ | _ | _ | _ | _ | _ | _ | _ | k
    · refine ok (0 : Int32) (nI (sN S)) (by unfold fX5_account; rw [if_pos rfl, b2]) hin ?_
      unfold fX6_account_L16
      rw [pz_nm, pz_w, if_pos (by decide), if_pos rfl, r0]
    · refine ok (1 : Int32) (nI (pKn (sP S) 1 (sN S))) (by unfold fX5_account; rw [if_neg (by decide), if_pos rfl, pc_countOf (h := 0) (by decide) hn hH.1, pz_b]) hin ?_
      unfold fX6_account_L16
      rw [pz_nm, pz_w, if_pos (by decide), if_neg (by decide), if_pos rfl, if_neg (by decide), pr_km hn hR7.1, pz_b]
    · refine ok (2 : Int32) (nI (pKn (sP S) 2 (sN S))) (by unfold fX5_account; rw [if_neg (by decide), if_neg (by decide), if_pos rfl, pc_countOf (h := 0) (by decide) hn hH.1, pz_b]) hin ?_
      unfold fX6_account_L16
      rw [pz_nm, pz_w, if_pos (by decide), if_neg (by decide), if_neg (by decide), if_pos rfl, if_neg (by decide), pr_km hn hR7.1, pz_b]
    · refine ok (3 : Int32) (nI (pKn (sP S) 3 (sN S))) (by unfold fX5_account; rw [if_neg (by decide), if_neg (by decide), if_neg (by decide), if_pos rfl, pc_countOf (h := 0) (by decide) hn hH.1, pz_b]) hin ?_
      unfold fX6_account_L16
      rw [pz_nm, pz_w, if_pos (by decide), if_neg (by decide), if_neg (by decide), if_neg (by decide), if_pos rfl, if_neg (by decide), pr_km hn hR7.1, pz_b]
    · refine ok (4 : Int32) (nI (pBk (sP S) (sN S))) (by unfold fX5_account; rw [if_neg (by decide), if_neg (by decide), if_neg (by decide), if_neg (by decide), if_pos rfl, pc_cb (h := 0) (by decide) hn hH.1, pz_b]) hin ?_
      unfold fX6_account_L16
      rw [pz_nm, pz_w, if_pos (by decide), if_neg (by decide), if_neg (by decide), if_neg (by decide), if_neg (by decide), if_pos rfl, pr_bm hn hR7.1 hb, pz_b]
    · refine ok (5 : Int32) (sG S 0) (by unfold fX5_account; rw [if_neg (by decide), if_neg (by decide), if_neg (by decide), if_neg (by decide), if_neg (by decide), if_pos rfl, b5]) hin ?_
      unfold fX6_account_L16
      rw [pz_nm, pz_w, if_pos (by decide), if_neg (by decide), if_neg (by decide), if_neg (by decide), if_neg (by decide), if_neg (by decide), if_pos rfl, r1]
    · refine ok (6 : Int32) (sG S 1) (by unfold fX5_account; rw [if_neg (by decide), if_neg (by decide), if_neg (by decide), if_neg (by decide), if_neg (by decide), if_neg (by decide), if_pos rfl, b6]) hin ?_
      unfold fX6_account_L16
      rw [pz_nm, pz_w, if_pos (by decide), if_neg (by decide), if_neg (by decide), if_neg (by decide), if_neg (by decide), if_neg (by decide), if_neg (by decide), if_pos rfl, if_pos (by decide), if_pos (by decide), show ((2 + (6 : Int32)) - 6).toNatClampNeg = 2 by decide, r2]
    · refine ok (7 : Int32) (sG S 2) (by unfold fX5_account; rw [if_neg (by decide), if_neg (by decide), if_neg (by decide), if_neg (by decide), if_neg (by decide), if_neg (by decide), if_neg (by decide), if_pos rfl, b7]) hin ?_
      unfold fX6_account_L16
      rw [pz_nm, pz_w, if_pos (by decide), if_neg (by decide), if_neg (by decide), if_neg (by decide), if_neg (by decide), if_neg (by decide), if_neg (by decide), if_neg (by decide), if_pos rfl, if_pos (by decide), if_pos (by decide), show ((2 + (7 : Int32)) - 6).toNatClampNeg = 3 by decide, r3]
    · refine ok (8 : Int32) (sG S 3) (by unfold fX5_account; rw [if_neg (by decide), if_neg (by decide), if_neg (by decide), if_neg (by decide), if_neg (by decide), if_neg (by decide), if_neg (by decide), if_neg (by decide), if_pos rfl, b8]) hin ?_
      unfold fX6_account_L16
      rw [pz_nm, pz_w, if_pos (by decide), if_neg (by decide), if_neg (by decide), if_neg (by decide), if_neg (by decide), if_neg (by decide), if_neg (by decide), if_neg (by decide), if_neg (by decide), if_pos rfl, if_pos (by decide), if_pos (by decide), show ((2 + (8 : Int32)) - 6).toNatClampNeg = 4 by decide, r4]
    · refine ok (9 : Int32) (sG S 4) (by unfold fX5_account; rw [if_neg (by decide), if_neg (by decide), if_neg (by decide), if_neg (by decide), if_neg (by decide), if_neg (by decide), if_neg (by decide), if_neg (by decide), if_neg (by decide), if_pos rfl, b9]) hin ?_
      unfold fX6_account_L16
      rw [pz_nm, pz_w, if_pos (by decide), if_neg (by decide), if_neg (by decide), if_neg (by decide), if_neg (by decide), if_neg (by decide), if_neg (by decide), if_neg (by decide), if_neg (by decide), if_neg (by decide), if_pos rfl, if_pos (by decide), if_pos (by decide), show ((2 + (9 : Int32)) - 6).toNatClampNeg = 5 by decide, r5]
    · refine ok (10 : Int32) (nI (sQ S)) (by unfold fX5_account; rw [if_neg (by decide), if_neg (by decide), if_neg (by decide), if_neg (by decide), if_neg (by decide), if_neg (by decide), if_neg (by decide), if_neg (by decide), if_neg (by decide), if_neg (by decide), if_pos rfl, b4]) hin ?_
      unfold fX6_account_L16
      rw [pz_nm, pz_w, if_pos (by decide), if_neg (by decide), if_neg (by decide), if_neg (by decide), if_neg (by decide), if_neg (by decide), if_neg (by decide), if_neg (by decide), if_neg (by decide), if_neg (by decide), if_neg (by decide), if_pos rfl, if_pos (by decide), if_pos (by decide), show ((2 + (10 : Int32)) - 6).toNatClampNeg = 6 by decide, r6]
    · refine ok (11 : Int32) (w 231 1) (by unfold fX5_account; rw [if_neg (by decide), if_neg (by decide), if_neg (by decide), if_neg (by decide), if_neg (by decide), if_neg (by decide), if_neg (by decide), if_neg (by decide), if_neg (by decide), if_neg (by decide), if_neg (by decide), if_pos rfl]) hin ?_
      unfold fX6_account_L16
      rw [pz_nm, pz_w, if_pos (by decide), if_neg (by decide), if_neg (by decide), if_neg (by decide), if_neg (by decide), if_neg (by decide), if_neg (by decide), if_neg (by decide), if_neg (by decide), if_neg (by decide), if_neg (by decide), if_neg (by decide), if_pos rfl, pz_wk (by decide), t2, t1]
    · refine ok (12 : Int32) (w 229 2) (by unfold fX5_account; rw [if_neg (by decide), if_neg (by decide), if_neg (by decide), if_neg (by decide), if_neg (by decide), if_neg (by decide), if_neg (by decide), if_neg (by decide), if_neg (by decide), if_neg (by decide), if_neg (by decide), if_neg (by decide), if_pos rfl]) hin ?_
      unfold fX6_account_L16
      rw [pz_nm, pz_w, if_pos (by decide), if_neg (by decide), if_neg (by decide), if_neg (by decide), if_neg (by decide), if_neg (by decide), if_neg (by decide), if_neg (by decide), if_neg (by decide), if_neg (by decide), if_neg (by decide), if_neg (by decide), if_neg (by decide), if_pos rfl, pz_wk (by decide), hp]
    · omega
  · refine ⟨quw w 238 7 1, ?_, (pI_7 H 1).mo (by omega)⟩
    have ne : ∀ k, k ≤ 12 → ¬ a1 = nI k := fun k hk z => by
      rcases hc with q | ⟨_, q⟩
      · rw [z] at q; exact nI_nlt (a := k) (b := 0) (by omega) (by omega) q
      · rw [z] at q; exact nI_nlt (a := 12) (b := k) hk (by omega) q
    have hin : fX6_in w a1 0 12 = some 0 := by
      unfold fX6_in
      rcases hc with q | ⟨q1, q2⟩
      · have q : a1 < 0 := q
        rw [if_pos q]
      · have q1 : ¬ a1 < 0 := q1
        have q2 : (12 : Int32) < a1 := q2
        rw [if_neg q1, if_pos q2]
    have hC : fX5_account w a1 = some (1, 0, w) := by
      unfold fX5_account
      rw [if_neg (show ¬ a1 = (0 : Int32) from ne 0 (by decide)), if_neg (show ¬ a1 = (1 : Int32) from ne 1 (by decide)), if_neg (show ¬ a1 = (2 : Int32) from ne 2 (by decide)), if_neg (show ¬ a1 = (3 : Int32) from ne 3 (by decide)), if_neg (show ¬ a1 = (4 : Int32) from ne 4 (by decide)), if_neg (show ¬ a1 = (5 : Int32) from ne 5 (by decide)), if_neg (show ¬ a1 = (6 : Int32) from ne 6 (by decide)), if_neg (show ¬ a1 = (7 : Int32) from ne 7 (by decide)), if_neg (show ¬ a1 = (8 : Int32) from ne 8 (by decide)), if_neg (show ¬ a1 = (9 : Int32) from ne 9 (by decide)), if_neg (show ¬ a1 = (10 : Int32) from ne 10 (by decide)), if_neg (show ¬ a1 = (11 : Int32) from ne 11 (by decide)), if_neg (show ¬ a1 = (12 : Int32) from ne 12 (by decide))]
    unfold qs_31 fL_account fX6_account
    have : qlh [1] (0 : Int32) (some (1, 0, w)) = some (1, 0, w) := rfl
    rw [hC, this, pz_bn, hin, pz_b, if_pos rfl]; unfold fX6_account_L16
    rw [pz_nm, pz_w, if_neg (by decide), pz_b2, fX6_thrown, pz_w, pz_b, if_pos rfl, if_neg (by decide)]
