-- reading a text, by class and reference: the text t of L signs, the place o; the reference's error e
def pCs (w : qMem) (t : Nat → Int32) (L o : Nat) : Prop := w 231 1 = nI L ∧ w 231 6 = nI o ∧ ∀ j, j < L → w 232 j = t j
def pCf (w w1 : qMem) (o : Nat) : Prop := (∀ c, c ≠ 231 → w1 c = w c) ∧ (∀ k, k ≠ 6 → w1 231 k = w 231 k) ∧ w1 231 6 = nI o
theorem pCs.f {w w1 : qMem} {t : Nat → Int32} {L o o' : Nat} (H : pCs w t L o) (f : pCf w w1 o') : pCs w1 t L o' := ⟨(f.2.1 1 (by decide)).trans H.1, f.2.2, fun j hj => by rw [f.1 232 (by decide)]; exact H.2.2 j hj⟩
theorem pCf.tr {w w1 w2 : qMem} {o o' : Nat} (a : pCf w w1 o) (b : pCf w1 w2 o') : pCf w w2 o' := ⟨fun c h => (b.1 c h).trans (a.1 c h), fun k h => (b.2.1 k h).trans (a.2.1 k h), b.2.2⟩
theorem pCf.rf {w : qMem} {t : Nat → Int32} {L o : Nat} (H : pCs w t L o) : pCf w w o := ⟨fun _ _ => rfl, fun _ _ => rfl, H.2.1⟩
theorem pCf.mk6 (w : qMem) (o : Nat) : pCf w (quw w 231 6 (nI o)) o := ⟨fun c h => by rw [pz_wr, pz_rn h], fun k h => pz_wk h, pz_w⟩
-- the class: a sign
theorem pc_nx {w : qMem} {t : Nat → Int32} {L o : Nat} (hL : L ≤ 60) (H : pCs w t L o) {j : Nat} (hj : j < 2 ^ 30) (x : Int32) : fX4_isNext w (nI j) x = some (if j < L ∧ t j = x then 1 else 0) := by
  unfold fX4_isNext
  rw [if_neg (nI_pos (by omega)), H.1]
  by_cases z : j < L
  · rw [if_neg (nI_ge z (by omega)), if_neg (show ¬ (60 : Int32) ≤ nI j from nI_ge (b := 60) (by omega) (by omega)), if_pos (pz_qin (by omega) (by omega)), pz_nI (by omega), H.2.2 j z]
    by_cases y : t j = x
    · rw [if_pos y, if_pos ⟨z, y⟩]
    · rw [if_neg y, if_neg (fun q => y q.2)]
  · rw [if_pos (nI_le (by omega) (by omega)), if_neg (fun q => z q.1)]
theorem pc_sg1 {w : qMem} {t : Nat → Int32} {L o : Nat} (hL : L ≤ 60) (ho : o ≤ L) (H : pCs w t L o) {x : Int32} (h : o < L ∧ t o = x) : ∃ w1 : qMem, fX4_readSign w x = some (1, w1) ∧ pCf w w1 (o + 1) := by
  refine ⟨_, ?_, pCf.mk6 w (o + 1)⟩
  unfold fX4_readSign
  rw [H.2.1, pc_nx hL H (by omega), if_pos h, pz_b, if_neg (by decide), pz_nm, nI_1]
theorem pc_sg0 {w : qMem} {t : Nat → Int32} {L o : Nat} (hL : L ≤ 60) (ho : o ≤ L) (H : pCs w t L o) {x : Int32} (h : ¬ (o < L ∧ t o = x)) : fX4_readSign w x = some (0, w) := by
  unfold fX4_readSign
  rw [H.2.1, pc_nx hL H (by omega), if_neg h, pz_b, if_pos rfl]
-- how many signs of a word stand next
def pCm (t : Nat → Int32) (L : Nat) : Nat → List Int32 → Nat
  | _, [] => 0
  | o, c :: cs => if o < L ∧ t o = c then pCm t L (o + 1) cs + 1 else 0
theorem pCm_t {t : Nat → Int32} {L o : Nat} {c : Int32} {cs : List Int32} (h : o < L ∧ t o = c) : pCm t L o (c :: cs) = pCm t L (o + 1) cs + 1 := if_pos h
theorem pCm_f {t : Nat → Int32} {L o : Nat} {c : Int32} {cs : List Int32} (h : ¬ (o < L ∧ t o = c)) : pCm t L o (c :: cs) = 0 := if_neg h
theorem pCm_le {t : Nat → Int32} {L : Nat} : ∀ (ts : List Int32) (o : Nat), pCm t L o ts ≤ ts.length
  | [], _ => Nat.le_refl 0
  | c :: cs, o => by
    have ih := pCm_le cs (o + 1) (t := t) (L := L)
    by_cases h : o < L ∧ t o = c
    · rw [pCm_t h]; show _ ≤ cs.length + 1; omega
    · rw [pCm_f h]; exact Nat.zero_le _
theorem pCm_at {t : Nat → Int32} {L : Nat} : ∀ (ts : List Int32) (o i : Nat), i < pCm t L o ts → o + i < L ∧ t (o + i) = ts.getD i 0
  | [], _, i, h => absurd h (Nat.not_lt_zero _)
  | c :: cs, o, i, h => by
    by_cases q : o < L ∧ t o = c
    · rw [pCm_t q] at h
      rcases i with _ | i
      · exact q
      · have ih := pCm_at (t := t) (L := L) cs (o + 1) i (by omega)
        rw [show o + (i + 1) = o + 1 + i by omega]; exact ih
    · rw [pCm_f q] at h; exact absurd h (Nat.not_lt_zero _)
theorem pl_d {l : List Int32} {x : Nat} (h : x < l.length) : l.drop x = l.getD x 0 :: l.drop (x + 1) := by
  rw [List.drop_eq_getElem_cons h, List.getD_eq_getElem?_getD, List.getElem?_eq_getElem h]; rfl
theorem pz_on (n : Nat) : Int32.ofNat n = nI n := rfl
theorem pc_al {w : qMem} {t : Nat → Int32} {L o : Nat} (hL : L ≤ 60) (ho : o ≤ L) (H : pCs w t L o) {ts : List Int32} (hl : ts.length ≤ 50) : ∀ (d x fuel : Nat), x + d = ts.length → d < fuel → fX4_countAlike_L2 w ts fuel (nI x) = some (nI (x + pCm t L (o + x) (ts.drop x)))
  | 0, x, fuel + 1, e, _ => by
    have e : x = ts.length := by omega
    simp only [fX4_countAlike_L2]
    rw [if_pos (show Int32.ofNat ts.length ≤ nI x from nI_le (by omega) (by omega)), List.drop_eq_nil_of_le (by omega)]
    exact congrArg some (congrArg nI (show ts.length = x + 0 by omega))
  | d + 1, x, fuel + 1, e, hf => by
    have hx : x < ts.length := by omega
    have ih := pc_al hL ho H hl d (x + 1) fuel (by omega) (by omega)
    simp only [fX4_countAlike_L2, H.2.1, nI_add, pz_nI (show x < 2 ^ 31 by omega), pz_nm, nI_1]
    rw [if_neg (show ¬ Int32.ofNat ts.length ≤ nI x from nI_ge hx (by omega)), if_pos (pz_qin hx (by omega)), pc_nx hL H (by omega), pz_b, pl_d hx]
    by_cases q : o + x < L ∧ t (o + x) = ts.getD x 0
    · rw [if_pos q, if_neg (by decide), pCm_t q, ih, show x + 1 + pCm t L (o + (x + 1)) (ts.drop (x + 1)) = x + (pCm t L (o + x + 1) (ts.drop (x + 1)) + 1) by rw [show o + (x + 1) = o + x + 1 by omega]; omega]
    · rw [if_neg q, if_pos rfl, pCm_f q]; rfl
theorem pc_alike {w : qMem} {t : Nat → Int32} {L o : Nat} (hL : L ≤ 60) (ho : o ≤ L) (H : pCs w t L o) {ts : List Int32} (hl : ts.length ≤ 50) : fX4_countAlike w ts = some (nI (pCm t L o ts)) := by
  have := pc_al hL ho H hl ts.length 0 100 (by omega) (by omega)
  rw [Nat.zero_add, Nat.add_zero, List.drop_zero] at this; exact this
theorem pj_lt1 {x c : Int32} : (¬ x < c ∧ ¬ c < x) ↔ x = c := by
  rw [pj_lt, pj_lt]
  constructor
  · intro h; exact Int32.le_antisymm h.2 h.1
  · intro h; rw [h]; exact ⟨Int32.le_refl _, Int32.le_refl _⟩
