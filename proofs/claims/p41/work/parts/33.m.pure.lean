-- the law's row of ranks: the prop at a place
def pAtK (w : qMem) (k a : Int32) : Option (Int32 × qMem) := qlw [4] [(-13)] (qbd3 (fX5_numberInOrder w k a) fun (k3 : Nat) (r5 : Int32) (w2 : qMem) => if k3 = 0 then some (0, r5, w2) else some (k3, 0, w2))
theorem pA_cup (w : qMem) (a : Int32) : fL_cupAt w a = pAtK w 1 a := rfl
theorem pA_lamp (w : qMem) (a : Int32) : fL_lampAt w a = pAtK w 2 a := rfl
theorem pA_cat (w : qMem) (a : Int32) : fL_catAt w a = pAtK w 3 a := rfl
theorem pA_none {T : Nat} {w : qMem} {S : pSt} {L : List pSt} (H : pIc T w S L) (hT : T < 2 ^ 30) {k a : Int32} (h : ∀ r, r < pKn (sP S) k (sN S) → nI r ≠ a) : pAtK w k a = some (-13, w) := by
  have hn := H.1.1
  have e1 : fX0_numberInOrder_L2 w 0 100 k a (nI 0) = some (-1) := by
    rcases pc_no (h := 0) (by decide) hn hT H.1.2.1 H.2.1.1 k a (sN S) 0 100 (by omega) (by omega) with ⟨g, _⟩ | ⟨j, _, hj, hk, ej, _⟩
    · exact g
    · exact absurd ej (h _ (pRk_lt hj hk))
  unfold pAtK fX5_numberInOrder fX0_numberInOrder
  rw [show (0 : Int32) = nI 0 from rfl, e1, pz_b]
  rfl
theorem pA_some {T : Nat} {w : qMem} {S : pSt} {L : List pSt} (H : pIc T w S L) (hT : T < 2 ^ 30) {k : Int32} {r : Nat} (hr : r < pKn (sP S) k (sN S)) : ∃ i, i < sN S ∧ sP S i 0 = k ∧ pRk (sP S) k (sN S) i = r ∧ pAtK w k (nI r) = some (nI i, w) := by
  have hn := H.1.1
  have hle := pKn_le (sP S) k (sN S)
  rcases pc_no (h := 0) (by decide) hn hT H.1.2.1 H.2.1.1 k (nI r) (sN S) 0 100 (by omega) (by omega) with ⟨_, g⟩ | ⟨j, _, hj, hk, ej, e1⟩
  · obtain ⟨i, hi, hk, er⟩ := pRk_on hr
    exact absurd (by rw [er]) (g i (by omega) hi hk)
  · have lt := pRk_lt hj hk
    rw [nI_eq (by omega) (by omega)] at ej
    refine ⟨j, hj, hk, ej, ?_⟩
    unfold pAtK fX5_numberInOrder fX0_numberInOrder
    have e2 : fX0_numberInOrder_L2 w 0 100 k (nI r) 0 = some (nI j) := e1
    rw [e2, pz_b, if_pos (nI_nn j (by omega)), pz_b3, if_pos rfl, qlw_0]
/-- of two props of one kind, one place apart: how their keys stand -/
theorem pA_key {P : Nat → Nat → Int32} {k : Int32} {n i j : Nat} (hi : i < n) (hj : j < n) (hk : P i 0 = k) (hk2 : P j 0 = k) (h : pRk P k n i + 1 = pRk P k n j) : pKy (P j) < pKy (P i) ∨ (pKy (P i) = pKy (P j) ∧ i < j) := by
  by_cases z : pKy (P j) < pKy (P i) ∨ (pKy (P i) = pKy (P j) ∧ i < j)
  · exact z
  · have hne : i ≠ j := fun e => by subst e; omega
    have := pRk_le (P := P) (k := k) (n := n) (i := j) (j := i) hj hk2 (by omega)
    omega
