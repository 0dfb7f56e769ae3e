-- an order read by class and reference
def pKf (w w1 : qMem) (i o : Nat) : Prop := (∀ c, c ≠ 231 → c ≠ 233 → c ≠ 234 → c ≠ 235 → w1 c = w c) ∧ (∀ k, k ≠ 6 → w1 231 k = w 231 k) ∧ w1 231 6 = nI o ∧ ∀ j, j ≠ i → w1 233 j = w 233 j ∧ w1 234 j = w 234 j ∧ w1 235 j = w 235 j
theorem pKf.c {w w1 w2 : qMem} {i o o' : Nat} (a : pKf w w1 i o) (b : pCf w1 w2 o') : pKf w w2 i o' := by
  refine ⟨fun c h1 h2 h3 h4 => by rw [b.1 c h1]; exact a.1 c h1 h2 h3 h4, fun k h => by rw [b.2.1 k h]; exact a.2.1 k h, b.2.2, fun j hj => ?_⟩
  rw [b.1 233 (by decide), b.1 234 (by decide), b.1 235 (by decide)]; exact a.2.2.2 j hj
theorem pKf.u {w w1 : qMem} {i o c0 : Nat} {v : Int32} (a : pKf w w1 i o) (hc : c0 = 233 ∨ c0 = 234 ∨ c0 = 235) : pKf w (quw w1 c0 i v) i o := by
  refine ⟨fun c h1 h2 h3 h4 => by rw [pz_wr, pz_rn (by omega)]; exact a.1 c h1 h2 h3 h4, fun k h => by rw [pz_wn (by omega)]; exact a.2.1 k h, by rw [pz_wn (by omega)]; exact a.2.2.1, fun j hj => ?_⟩
  have g : ∀ c, quw w1 c0 i v c j = w1 c j := fun c => by
    by_cases z : c = c0
    · rw [z, pz_wk hj]
    · rw [pz_wn z]
  rw [g, g, g]; exact a.2.2.2 j hj
theorem pKf.mk {w w1 : qMem} {i o : Nat} (b : pCf w w1 o) : pKf w w1 i o := ⟨fun c h _ _ _ => b.1 c h, b.2.1, b.2.2, fun j _ => by rw [b.1 233 (by decide), b.1 234 (by decide), b.1 235 (by decide)]; exact ⟨rfl, rfl, rfl⟩⟩
-- the class
theorem pEn_ok {n : Nat} (h : n ≤ 100) (h1 : n ≠ 100) : 0 ≤ pEn n ∧ ¬ pEn n < 0 ∧ pEn n = nI n := by
  have e : pEn n = nI n := if_neg h1
  rw [e]; exact ⟨nI_pos' (by omega), nI_pos (by omega), rfl⟩
theorem pEn_no : ¬ 0 ≤ pEn 100 ∧ pEn 100 < 0 := by unfold pEn; rw [if_pos rfl]; exact ⟨by decide, by decide⟩
theorem pc_rdo {w w3 : qMem} {i j : Nat} (hi : i < 12) (hj : j < 10) (e : fX4_readWord w = some (nI (j + 1), w3)) : fX4_readOrder w (nI i) = (if nI (j + 1) = 7 then some (1, quw (quw (quw w3 233 i (nI (j + 1))) 234 i 0) 235 i 0) else if nI (j + 1) = 9 then some (1, quw (quw (quw w3 233 i (nI (j + 1))) 234 i 0) 235 i 0) else if nI (j + 1) = 10 then some (1, quw (quw (quw w3 233 i (nI (j + 1))) 234 i 0) 235 i 0) else if nI (j + 1) = 4 then fX4_readOrder_L93 (quw (quw (quw w3 233 i (nI (j + 1))) 234 i 0) 235 i 0) (nI i) (nI (j + 1)) 2 (nI i) else if nI (j + 1) = 5 then fX4_readOrder_L93 (quw (quw (quw w3 233 i (nI (j + 1))) 234 i 0) 235 i 0) (nI i) (nI (j + 1)) 2 (nI i) else fX4_readOrder_L93 (quw (quw (quw w3 233 i (nI (j + 1))) 234 i 0) 235 i 0) (nI i) (nI (j + 1)) 1 (nI i)) := by
  have q := pz_qin hi (by decide)
  unfold fX4_readOrder
  rw [e, pz_b2, if_neg (nI_ne0 (by omega) (by omega)), if_neg (nI_pos (by omega)), if_pos (show nI i < 12 from nI_lt (b := 12) hi (by decide)), if_pos q, pz_nI (by omega), pz_nm, if_pos q, pz_nm, if_pos q, pz_nm, if_neg (show ¬ (1 : Int32) = 0 by decide), if_pos (show (0 : Int32) = 0 from rfl)]
theorem pc_93a {w w1 : qMem} {i n : Nat} {x2 s0 : Int32} (hi : i < 12) (hn : n ≤ 100) (e1 : fX4_readNumber w s0 = some (pEn n, w1)) (hx : x2 = 4 ∨ x2 = 6 ∨ x2 = 8) : fX4_readOrder_L93 w (nI i) x2 s0 (nI i) = some (if n = 100 then 0 else 1, quw w1 234 i (pEn n)) := by
  have q := pz_qin hi (by decide)
  unfold fX4_readOrder_L93
  rw [e1, pz_b2, if_pos q, pz_nI (by omega), pz_nm, if_pos q, pz_w]
  by_cases z : n = 100
  · subst z
    rw [if_neg pEn_no.1, if_pos rfl]
  · rw [if_pos (pEn_ok hn z).1, if_neg z]
    rcases hx with h | h | h
    · rw [if_pos h]
    · rw [if_neg (by rw [h]; decide), if_pos h]
    · rw [if_neg (by rw [h]; decide), if_neg (by rw [h]; decide), if_pos h]
theorem pc_93b {w w1 w3 : qMem} {i n n2 : Nat} {x2 s0 : Int32} (hi : i < 12) (hn : n ≤ 100) (hn2 : n2 ≤ 100) (e1 : fX4_readNumber w s0 = some (pEn n, w1)) (hx : ¬ x2 = 4 ∧ ¬ x2 = 6 ∧ ¬ x2 = 8) (e2 : n ≠ 100 → fX4_readNumber (quw w1 234 i (pEn n)) 1 = some (pEn n2, w3)) : fX4_readOrder_L93 w (nI i) x2 s0 (nI i) = (if n = 100 then some (0, quw w1 234 i (pEn n)) else some (if n2 = 100 then 0 else 1, quw w3 235 i (pEn n2))) := by
  have q := pz_qin hi (by decide)
  unfold fX4_readOrder_L93
  rw [e1, pz_b2, if_pos q, pz_nI (by omega), pz_nm, if_pos q, pz_w]
  by_cases z : n = 100
  · subst z
    rw [if_neg pEn_no.1, if_pos rfl]
  · rw [if_pos (pEn_ok hn z).1, if_neg z, if_neg hx.1, if_neg hx.2.1, if_neg hx.2.2, e2 z, pz_b2, if_pos q, pz_nm, if_pos q, pz_w]
    by_cases y : n2 = 100
    · subst y
      rw [if_pos pEn_no.2, if_pos rfl]
    · rw [if_neg (pEn_ok hn2 y).2.1, if_neg y]
-- the reference
theorem pk_31 (i : Nat) : nI (3 * i) + 1 = nI (3 * i + 1) ∧ nI (3 * i) + 2 = nI (3 * i + 2) := ⟨nI_1 _, nI_add _ 2⟩
theorem pCs.w3 {w : qMem} {t : Nat → Int32} {L o i c0 : Nat} {v : Int32} (hc : c0 = 233 ∨ c0 = 234 ∨ c0 = 235) (H : pCs w t L o) : pCs (quw w c0 i v) t L o := ⟨by rw [pz_wn (by omega)]; exact H.1, by rw [pz_wn (by omega)]; exact H.2.1, fun j hj => by rw [pz_wn (by omega)]; exact H.2.2 j hj⟩
