-- an order read by class and reference
def pKf (w w1 : qMem) (i o : Nat) : Prop := (∀ c, c ≠ 231 → c ≠ 233 → c ≠ 234 → c ≠ 235 → w1 c = w c) ∧ (∀ k, k ≠ 6 → w1 231 k = w 231 k) ∧ w1 231 6 = nI o ∧ ∀ j, j ≠ i → w1 233 j = w 233 j ∧ w1 234 j = w 234 j ∧ w1 235 j = w 235 j
theorem pKf.c {w w1 w2 : qMem} {i o o' : Nat} (a : pKf w w1 i o) (b : pCf w1 w2 o') : pKf w w2 i o' := by
  refine ⟨fun c h1 h2 h3 h4 => by rw [b.1 c h1]; exact a.1 c h1 h2 h3 h4, fun k h => by rw [b.2.1 k h]; exact a.2.1 k h, b.2.2, fun j hj => ?_⟩
  rw [b.1 233 (by decide), b.1 234 (by decide), b.1 235 (by decide)]; exact a.2.2.2 j hj
theorem pKf.u {w w1 : qMem} {i o c0 : Nat} {v : Int32} (a : pKf w w1 i o) (hc : c0 = 233 ∨ c0 = 234 ∨ c0 = 235) : pKf w (quw w1 c0 i v) i o := by
  refine ⟨fun c h1 h2 h3 h4 => by rw [pz_wr, pz_rn (by omega)]; exact a.1 c h1 h2 h3 h4, fun k h => by rw [pz_wn (by omega)]; exact a.2.1 k h, by rw [pz_wn (by omega)]; exact a.2.2.1, fun j hj => ?_⟩
  have g : ∀ c, quw w1 c0 i v c j = w1 c j := fun c => by
    by_cases z : c = c0
    · rw [z, pz_wk hj]
    · rw [pz_wn z]
  rw [g, g, g]; exact a.2.2.2 j hj
theorem pKf.mk {w w1 : qMem} {i o : Nat} (b : pCf w w1 o) : pKf w w1 i o := ⟨fun c h _ _ _ => b.1 c h, b.2.1, b.2.2, fun j _ => by rw [b.1 233 (by decide), b.1 234 (by decide), b.1 235 (by decide)]; exact ⟨rfl, rfl, rfl⟩⟩
def pQh (w w1 : qMem) (i o : Nat) (e : Int32) : Prop := (∀ c, c ≠ 238 → c ≠ 246 → w1 c = w c) ∧ (∀ k, k ≠ 16 → k ≠ 17 → w1 238 k = w 238 k) ∧ w1 238 16 = nI o ∧ w1 238 17 = e ∧ ∀ j, j < 3 * i + 1 → w1 246 j = w 246 j
theorem pQh.tr {w w1 w2 : qMem} {i o o' : Nat} {e e' : Int32} (a : pQh w w1 i o e) (b : pQh w1 w2 i o' e') : pQh w w2 i o' e' := ⟨fun c h1 h2 => (b.1 c h1 h2).trans (a.1 c h1 h2), fun k h1 h2 => (b.2.1 k h1 h2).trans (a.2.1 k h1 h2), b.2.2.1, b.2.2.2.1, fun j hj => (b.2.2.2.2 j hj).trans (a.2.2.2.2 j hj)⟩
theorem pQh.mk {w w1 : qMem} {i o : Nat} {e : Int32} (b : pRf w w1 o e) : pQh w w1 i o e := ⟨fun c h _ => b.1 c h, b.2.1, b.2.2.1, b.2.2.2, fun j _ => by rw [b.1 246 (by decide)]⟩
theorem pQh.u {w w1 : qMem} {i o k0 : Nat} {e v : Int32} (a : pQh w w1 i o e) (hk : 3 * i + 1 ≤ k0) : pQh w (quw w1 246 k0 v) i o e := ⟨fun c h1 h2 => by rw [pz_wr, pz_rn h2]; exact a.1 c h1 h2, fun k h1 h2 => by rw [pz_wn (by decide)]; exact a.2.1 k h1 h2, by rw [pz_wn (by decide)]; exact a.2.2.1, by rw [pz_wn (by decide)]; exact a.2.2.2.1, fun j hj => by rw [pz_wk (by omega)]; exact a.2.2.2.2 j hj⟩
theorem pRs.q {w w1 : qMem} {t : Nat → Int32} {L o o' i : Nat} {e e' : Int32} (H : pRs w t L o e) (f : pQh w w1 i o' e') : pRs w1 t L o' e' := ⟨(f.2.1 15 (by decide) (by decide)).trans H.1, f.2.2.1, f.2.2.2.1, fun j hj => by rw [f.1 245 (by decide) (by decide)]; exact H.2.2.2 j hj⟩
def pQf (w w1 : qMem) (i o : Nat) (e : Int32) : Prop := (∀ c, c ≠ 238 → c ≠ 246 → w1 c = w c) ∧ (∀ k, k ≠ 16 → k ≠ 17 → k ≠ 20 → w1 238 k = w 238 k) ∧ w1 238 16 = nI o ∧ w1 238 17 = e ∧ w1 238 20 = nI (i + 1) ∧ ∀ j, j < 3 * i → w1 246 j = w 246 j
def pDd (D : qMem → Option (Int32 × qMem)) (i : Nat) (w1 : qMem) : Prop := ∀ w' : qMem, w' 246 (3 * i) = w1 246 (3 * i) → w' 246 (3 * i + 1) = w1 246 (3 * i + 1) → w' 246 (3 * i + 2) = w1 246 (3 * i + 2) → fX6_does w' (nI i) = qbd2 (D w') fun (_ : Int32) (w2 : qMem) => some w2
def pOrd (t : Nat → Int32) (L o : Nat) : Prop := ∃ (o' : Nat) (ok : Bool) (k a b : Int32) (D : qMem → Option (Int32 × qMem)) (E : Int32 → Int32), o ≤ o' ∧ o' ≤ L ∧ (ok = true → o + 5 ≤ o' ∧ ∀ T, pDo T k a b D E) ∧ (∀ (w : qMem) (i : Nat), i < 12 → pCs w t L o → ∃ w1 : qMem, fX4_readOrder w (nI i) = some (if ok = true then 1 else 0, w1) ∧ pKf w w1 i o' ∧ (ok = true → w1 233 i = k ∧ w1 234 i = a ∧ w1 235 i = b)) ∧ ∀ (w : qMem) (i : Nat), i < 12 → pRs w t L o 0 → w 238 20 = nI i → ∃ w1 : qMem, fX6_readOrder w = some w1 ∧ pQf w w1 i o' (if ok = true then 0 else 1) ∧ (ok = true → pDd D i w1)
-- the class
theorem pEn_ok {n : Nat} (h : n ≤ 100) (h1 : n ≠ 100) : 0 ≤ pEn n ∧ ¬ pEn n < 0 ∧ pEn n = nI n := by
  have e : pEn n = nI n := if_neg h1
  rw [e]; exact ⟨nI_pos' (by omega), nI_pos (by omega), rfl⟩
theorem pEn_no : ¬ 0 ≤ pEn 100 ∧ pEn 100 < 0 := by unfold pEn; rw [if_pos rfl]; exact ⟨by decide, by decide⟩
theorem pc_rdo {w w3 : qMem} {i j : Nat} (hi : i < 12) (hj : j < 10) (e : fX4_readWord w = some (nI (j + 1), w3)) : fX4_readOrder w (nI i) = (if nI (j + 1) = 7 then some (1, quw (quw (quw w3 233 i (nI (j + 1))) 234 i 0) 235 i 0) else if nI (j + 1) = 9 then some (1, quw (quw (quw w3 233 i (nI (j + 1))) 234 i 0) 235 i 0) else if nI (j + 1) = 10 then some (1, quw (quw (quw w3 233 i (nI (j + 1))) 234 i 0) 235 i 0) else if nI (j + 1) = 4 then fX4_readOrder_L93 (quw (quw (quw w3 233 i (nI (j + 1))) 234 i 0) 235 i 0) (nI i) (nI (j + 1)) 2 (nI i) else if nI (j + 1) = 5 then fX4_readOrder_L93 (quw (quw (quw w3 233 i (nI (j + 1))) 234 i 0) 235 i 0) (nI i) (nI (j + 1)) 2 (nI i) else fX4_readOrder_L93 (quw (quw (quw w3 233 i (nI (j + 1))) 234 i 0) 235 i 0) (nI i) (nI (j + 1)) 1 (nI i)) := by
  have q := pz_qin hi (by decide)
  unfold fX4_readOrder
  rw [e, pz_b2, if_neg (nI_ne0 (by omega) (by omega)), if_neg (nI_pos (by omega)), if_pos (show nI i < 12 from nI_lt (b := 12) hi (by decide)), if_pos q, pz_nI (by omega), pz_nm, if_pos q, pz_nm, if_pos q, pz_nm, if_neg (show ¬ (1 : Int32) = 0 by decide), if_pos (show (0 : Int32) = 0 from rfl)]
theorem pc_93a {w w1 : qMem} {i n : Nat} {x2 s0 : Int32} (hi : i < 12) (hn : n ≤ 100) (e1 : fX4_readNumber w s0 = some (pEn n, w1)) (hx : x2 = 4 ∨ x2 = 6 ∨ x2 = 8) : fX4_readOrder_L93 w (nI i) x2 s0 (nI i) = some (if n = 100 then 0 else 1, quw w1 234 i (pEn n)) := by
  have q := pz_qin hi (by decide)
  unfold fX4_readOrder_L93
  rw [e1, pz_b2, if_pos q, pz_nI (by omega), pz_nm, if_pos q, pz_w]
  by_cases z : n = 100
  · subst z
    rw [if_neg pEn_no.1, if_pos rfl]
  · rw [if_pos (pEn_ok hn z).1, if_neg z]
    rcases hx with h | h | h
    · rw [if_pos h]
    · rw [if_neg (by rw [h]; decide), if_pos h]
    · rw [if_neg (by rw [h]; decide), if_neg (by rw [h]; decide), if_pos h]
theorem pc_93b {w w1 w3 : qMem} {i n n2 : Nat} {x2 s0 : Int32} (hi : i < 12) (hn : n ≤ 100) (hn2 : n2 ≤ 100) (e1 : fX4_readNumber w s0 = some (pEn n, w1)) (hx : ¬ x2 = 4 ∧ ¬ x2 = 6 ∧ ¬ x2 = 8) (e2 : n ≠ 100 → fX4_readNumber (quw w1 234 i (pEn n)) 1 = some (pEn n2, w3)) : fX4_readOrder_L93 w (nI i) x2 s0 (nI i) = (if n = 100 then some (0, quw w1 234 i (pEn n)) else some (if n2 = 100 then 0 else 1, quw w3 235 i (pEn n2))) := by
  have q := pz_qin hi (by decide)
  unfold fX4_readOrder_L93
  rw [e1, pz_b2, if_pos q, pz_nI (by omega), pz_nm, if_pos q, pz_w]
  by_cases z : n = 100
  · subst z
    rw [if_neg pEn_no.1, if_pos rfl]
  · rw [if_pos (pEn_ok hn z).1, if_neg z, if_neg hx.1, if_neg hx.2.1, if_neg hx.2.2, e2 z, pz_b2, if_pos q, pz_nm, if_pos q, pz_w]
    by_cases y : n2 = 100
    · subst y
      rw [if_pos pEn_no.2, if_pos rfl]
    · rw [if_neg (pEn_ok hn2 y).2.1, if_neg y]
-- the reference
theorem pk_31 (i : Nat) : nI (3 * i) + 1 = nI (3 * i + 1) ∧ nI (3 * i) + 2 = nI (3 * i + 2) := ⟨nI_1 _, nI_add _ 2⟩
theorem pr_rdo {w w6 : qMem} {i : Nat} {r5 : Int32} (hi : i < 12) (h17 : w 238 17 = 0) (h20 : w 238 20 = nI i) (e : fX6_word (quw w 238 20 (nI (i + 1))) = some (r5, w6)) : fX6_readOrder w = (if r5 < 6 then fX6_readOrder_L49 (quw w6 246 (3 * i) r5) (nI (3 * i)) r5 else if r5 = 7 then fX6_readOrder_L49 (quw w6 246 (3 * i) r5) (nI (3 * i)) r5 else fX6_readOrder_L84 (quw w6 246 (3 * i) r5) (nI (3 * i)) r5) := by
  have e3 : (3 : Int32) * nI i = nI (3 * i) := pk_mul 3 i
  unfold fX6_readOrder
  rw [if_pos h17, h20, e3, pz_nm, nI_1, pz_nm, e, pz_b2, if_pos (pz_qin (by omega) (by omega)), pz_nI (by omega), pz_nm]
theorem pr_49 {w w1 w2 : qMem} {i : Nat} {x2 r : Int32} (hi : i < 12) (e1 : fX6_skip w (qtx.getD 12 []) = some w1) (e2 : pRn (decide (x2 = 3 ∨ x2 = 4)) w1 = some (r, w2)) : fX6_readOrder_L49 w (nI (3 * i)) x2 = fX6_readOrder_L84 (quw w2 246 (3 * i + 1) r) (nI (3 * i)) x2 := by
  unfold pRn at e2
  unfold fX6_readOrder_L49
  rw [e1, pz_b, (pk_31 i).1]
  by_cases z : x2 = 3
  · rw [if_pos (decide_eq_true (Or.inl z))] at e2
    rw [if_pos z, e2, pz_b2, if_pos (pz_qin (by omega) (by omega)), pz_nI (by omega), pz_nm]
  · rw [if_neg z]
    by_cases y : x2 = 4
    · rw [if_pos (decide_eq_true (Or.inr y))] at e2
      rw [if_pos y, e2, pz_b2, if_pos (pz_qin (by omega) (by omega)), pz_nI (by omega), pz_nm]
    · rw [if_neg (fun h => (of_decide_eq_true h).elim z y)] at e2
      rw [if_neg y, e2, pz_b2, if_pos (pz_qin (by omega) (by omega)), pz_nI (by omega), pz_nm]
theorem pr_84y {w w1 w2 : qMem} {i : Nat} {x2 r : Int32} (hi : i < 12) (hx : x2 < 3 ∨ x2 = 4) (e1 : fX6_skip w (qtx.getD 12 []) = some w1) (e2 : pRn false w1 = some (r, w2)) : fX6_readOrder_L84 w (nI (3 * i)) x2 = some (quw w2 246 (3 * i + 2) r) := by
  have e2 : fX6_digit w1 = some (r, w2) := e2
  unfold fX6_readOrder_L84
  rw [(pk_31 i).2, e1, pz_b, e2, pz_b2, if_pos (pz_qin (by omega) (by omega)), pz_nI (by omega), pz_nm]
  by_cases z : x2 < 3
  · rw [if_pos z]
  · rw [if_neg z, if_pos (hx.resolve_left z)]
theorem pr_84n {w : qMem} {x1 x2 : Int32} (h1 : ¬ x2 < 3) (h2 : ¬ x2 = 4) : fX6_readOrder_L84 w x1 x2 = some w := by
  unfold fX6_readOrder_L84
  rw [if_neg h1, if_neg h2]
theorem pr_e1 {w : qMem} {t : Nat → Int32} {L o : Nat} (H : pRs w t L o 1) (two : Bool) : ∃ w2 : qMem, fX6_skip w (qtx.getD 12 []) = some w ∧ pRn two w = some (0, w2) ∧ pRf w w2 o 1 := by
  unfold pRn
  by_cases z : two = true
  · obtain ⟨w2, e2, f2⟩ := pr_nue H
    exact ⟨w2, pr_ske H _, by rw [if_pos z]; exact e2, f2⟩
  · obtain ⟨w2, e2, f2⟩ := pr_die H
    exact ⟨w2, pr_ske H _, by rw [if_neg z]; exact e2, f2⟩
theorem pr_84e {w : qMem} {t : Nat → Int32} {L o i : Nat} (hi : i < 12) (H : pRs w t L o 1) (x2 : Int32) : ∃ w1 : qMem, fX6_readOrder_L84 w (nI (3 * i)) x2 = some w1 ∧ pQh w w1 i o 1 := by
  by_cases z : x2 < 3 ∨ x2 = 4
  · obtain ⟨w2, e1, e2, f2⟩ := pr_e1 H false
    exact ⟨_, pr_84y hi z e1 e2, (pQh.mk f2).u (by omega)⟩
  · exact ⟨w, pr_84n (fun y => z (Or.inl y)) (fun y => z (Or.inr y)), pQh.mk (pRf.rf H)⟩
theorem pr_49e {w : qMem} {t : Nat → Int32} {L o i : Nat} (hi : i < 12) (H : pRs w t L o 1) (x2 : Int32) : ∃ w1 : qMem, fX6_readOrder_L49 w (nI (3 * i)) x2 = some w1 ∧ pQh w w1 i o 1 := by
  obtain ⟨w2, e1, e2, f2⟩ := pr_e1 H (decide (x2 = 3 ∨ x2 = 4))
  have g := (pQh.mk (i := i) f2).u (k0 := 3 * i + 1) (v := 0) (by omega)
  obtain ⟨w3, e3, f3⟩ := pr_84e hi (H.q g) x2
  exact ⟨w3, (pr_49 hi e1 e2).trans e3, g.tr f3⟩
/-- from the word's end to the order's end -/
theorem pQf.mk {w w6 w1 : qMem} {i o1 o : Nat} {e1 e r : Int32} (f : pRf (quw w 238 20 (nI (i + 1))) w6 o1 e1) (g : pQh (quw w6 246 (3 * i) r) w1 i o e) : pQf w w1 i o e ∧ w1 246 (3 * i) = r := by
  refine ⟨⟨fun c h1 h2 => ?_, fun k h1 h2 h3 => ?_, g.2.2.1, g.2.2.2.1, ?_, fun j hj => ?_⟩, ?_⟩
  · rw [g.1 c h1 h2, pz_wr, pz_rn h2, f.1 c h1, pz_wr, pz_rn h1]
  · rw [g.2.1 k h1 h2, pz_wn (by decide), f.2.1 k h1 h2, pz_wk h3]
  · rw [g.2.1 20 (by decide) (by decide), pz_wn (by decide), f.2.1 20 (by decide) (by decide), pz_w]
  · rw [g.2.2.2.2 j (by omega), pz_wk (by omega), f.1 246 (by decide), pz_wn (by decide)]
  · rw [g.2.2.2.2 (3 * i) (by omega), pz_w]
theorem pRs.w20 {w : qMem} {t : Nat → Int32} {L o : Nat} {e v : Int32} (H : pRs w t L o e) : pRs (quw w 238 20 v) t L o e := ⟨by rw [pz_wk (by decide)]; exact H.1, by rw [pz_wk (by decide)]; exact H.2.1, by rw [pz_wk (by decide)]; exact H.2.2.1, fun j hj => by rw [pz_wn (by decide)]; exact H.2.2.2 j hj⟩
theorem pRs.w246 {w : qMem} {t : Nat → Int32} {L o k : Nat} {e v : Int32} (H : pRs w t L o e) : pRs (quw w 246 k v) t L o e := ⟨by rw [pz_wn (by decide)]; exact H.1, by rw [pz_wn (by decide)]; exact H.2.1, by rw [pz_wn (by decide)]; exact H.2.2.1, fun j hj => by rw [pz_wn (by decide)]; exact H.2.2.2 j hj⟩
theorem pCs.w3 {w : qMem} {t : Nat → Int32} {L o i c0 : Nat} {v : Int32} (hc : c0 = 233 ∨ c0 = 234 ∨ c0 = 235) (H : pCs w t L o) : pCs (quw w c0 i v) t L o := ⟨by rw [pz_wn (by omega)]; exact H.1, by rw [pz_wn (by omega)]; exact H.2.1, fun j hj => by rw [pz_wn (by omega)]; exact H.2.2 j hj⟩
/-- no word -/
theorem pb_g0 {t : Nat → Int32} {L o o1 : Nat} (h1 : o ≤ o1) (h2 : o1 ≤ L) (hc : ∀ w : qMem, pCs w t L o → ∃ w1 : qMem, fX4_readWord w = some (0, w1) ∧ pCf w w1 o1) (hr : ∀ w : qMem, pRs w t L o 0 → ∃ (r : Int32) (w1 : qMem), fX6_word w = some (r, w1) ∧ pRf w w1 o1 1) : pOrd t L o := by
  refine ⟨o1, false, 0, 0, 0, fun _ => none, fun _ => 0, h1, h2, fun q => absurd q (by decide), fun w i hi H => ?_, fun w i hi H h20 => ?_⟩
  · obtain ⟨w1, e1, f1⟩ := hc w H
    refine ⟨w1, ?_, pKf.mk f1, fun q => absurd q (by decide)⟩
    unfold fX4_readOrder
    rw [e1, pz_b2, if_pos rfl]; rfl
  · obtain ⟨r, w6, e1, f1⟩ := hr _ (H.w20 (v := nI (i + 1)))
    have H6 := ((H.w20 (v := nI (i + 1))).f f1).w246 (k := 3 * i) (v := r)
    obtain ⟨w1, e2, f2⟩ := pr_49e hi H6 r
    obtain ⟨w2, e3, f3⟩ := pr_84e hi H6 r
    rw [pr_rdo hi H.2.2.1 h20 e1]
    by_cases z : r < 6 ∨ r = 7
    · refine ⟨w1, ?_, (pQf.mk f1 f2).1, fun q => absurd q (by decide)⟩
      rcases z with z | z
      · rw [if_pos z]; exact e2
      · rw [if_neg (by rw [z]; decide), if_pos z]; exact e2
    · refine ⟨w2, ?_, (pQf.mk f1 f3).1, fun q => absurd q (by decide)⟩
      rw [if_neg (fun y => z (Or.inl y)), if_neg (fun y => z (Or.inr y))]; exact e3
