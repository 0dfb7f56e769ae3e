-- reading a text, by class and reference: the text t of L signs, the place o; the reference's error e
def pCs (w : qMem) (t : Nat → Int32) (L o : Nat) : Prop := w 231 1 = nI L ∧ w 231 6 = nI o ∧ ∀ j, j < L → w 232 j = t j
def pRs (w : qMem) (t : Nat → Int32) (L o : Nat) (e : Int32) : Prop := w 238 15 = nI L ∧ w 238 16 = nI o ∧ w 238 17 = e ∧ ∀ j, j < L → w 245 j = t j
def pCf (w w1 : qMem) (o : Nat) : Prop := (∀ c, c ≠ 231 → w1 c = w c) ∧ (∀ k, k ≠ 6 → w1 231 k = w 231 k) ∧ w1 231 6 = nI o
def pRf (w w1 : qMem) (o : Nat) (e : Int32) : Prop := (∀ c, c ≠ 238 → w1 c = w c) ∧ (∀ k, k ≠ 16 → k ≠ 17 → w1 238 k = w 238 k) ∧ w1 238 16 = nI o ∧ w1 238 17 = e
theorem pCs.f {w w1 : qMem} {t : Nat → Int32} {L o o' : Nat} (H : pCs w t L o) (f : pCf w w1 o') : pCs w1 t L o' := ⟨(f.2.1 1 (by decide)).trans H.1, f.2.2, fun j hj => by rw [f.1 232 (by decide)]; exact H.2.2 j hj⟩
theorem pRs.f {w w1 : qMem} {t : Nat → Int32} {L o o' : Nat} {e e' : Int32} (H : pRs w t L o e) (f : pRf w w1 o' e') : pRs w1 t L o' e' := ⟨(f.2.1 15 (by decide) (by decide)).trans H.1, f.2.2.1, f.2.2.2, fun j hj => by rw [f.1 245 (by decide)]; exact H.2.2.2 j hj⟩
theorem pCf.tr {w w1 w2 : qMem} {o o' : Nat} (a : pCf w w1 o) (b : pCf w1 w2 o') : pCf w w2 o' := ⟨fun c h => (b.1 c h).trans (a.1 c h), fun k h => (b.2.1 k h).trans (a.2.1 k h), b.2.2⟩
theorem pRf.tr {w w1 w2 : qMem} {o o' : Nat} {e e' : Int32} (a : pRf w w1 o e) (b : pRf w1 w2 o' e') : pRf w w2 o' e' := ⟨fun c h => (b.1 c h).trans (a.1 c h), fun k h h2 => (b.2.1 k h h2).trans (a.2.1 k h h2), b.2.2⟩
theorem pCf.rf {w : qMem} {t : Nat → Int32} {L o : Nat} (H : pCs w t L o) : pCf w w o := ⟨fun _ _ => rfl, fun _ _ => rfl, H.2.1⟩
theorem pRf.rf {w : qMem} {t : Nat → Int32} {L o : Nat} {e : Int32} (H : pRs w t L o e) : pRf w w o e := ⟨fun _ _ => rfl, fun _ _ _ => rfl, H.2.1, H.2.2.1⟩
theorem pCf.mk6 (w : qMem) (o : Nat) : pCf w (quw w 231 6 (nI o)) o := ⟨fun c h => by rw [pz_wr, pz_rn h], fun k h => pz_wk h, pz_w⟩
theorem pRf.mk7 (w : qMem) {o : Nat} (e : Int32) (h : w 238 16 = nI o) : pRf w (quw w 238 17 e) o e := ⟨fun c h => by rw [pz_wr, pz_rn h], fun k h h2 => pz_wk h2, by rw [pz_wk (by decide)]; exact h, pz_w⟩
theorem pRf.mk67 (w : qMem) (o : Nat) (e : Int32) : pRf w (quw (quw w 238 17 e) 238 16 (nI o)) o e := ⟨fun c h => by rw [pz_wr, pz_rn h, pz_wr, pz_rn h], fun k h h2 => by rw [pz_wk h, pz_wk h2], pz_w, by rw [pz_wk (by decide), pz_w]⟩
-- the class: a sign
theorem pc_nx {w : qMem} {t : Nat → Int32} {L o : Nat} (hL : L ≤ 60) (H : pCs w t L o) {j : Nat} (hj : j < 2 ^ 30) (x : Int32) : fX4_isNext w (nI j) x = some (if j < L ∧ t j = x then 1 else 0) := by
  unfold fX4_isNext
  rw [if_neg (nI_pos (by omega)), H.1]
  by_cases z : j < L
  · rw [if_neg (nI_ge z (by omega)), if_neg (show ¬ (60 : Int32) ≤ nI j from nI_ge (b := 60) (by omega) (by omega)), if_pos (pz_qin (by omega) (by omega)), pz_nI (by omega), H.2.2 j z]
    by_cases y : t j = x
    · rw [if_pos y, if_pos ⟨z, y⟩]
    · rw [if_neg y, if_neg (fun q => y q.2)]
  · rw [if_pos (nI_le (by omega) (by omega)), if_neg (fun q => z q.1)]
theorem pc_sg1 {w : qMem} {t : Nat → Int32} {L o : Nat} (hL : L ≤ 60) (ho : o ≤ L) (H : pCs w t L o) {x : Int32} (h : o < L ∧ t o = x) : ∃ w1 : qMem, fX4_readSign w x = some (1, w1) ∧ pCf w w1 (o + 1) := by
  refine ⟨_, ?_, pCf.mk6 w (o + 1)⟩
  unfold fX4_readSign
  rw [H.2.1, pc_nx hL H (by omega), if_pos h, pz_b, if_neg (by decide), pz_nm, nI_1]
theorem pc_sg0 {w : qMem} {t : Nat → Int32} {L o : Nat} (hL : L ≤ 60) (ho : o ≤ L) (H : pCs w t L o) {x : Int32} (h : ¬ (o < L ∧ t o = x)) : fX4_readSign w x = some (0, w) := by
  unfold fX4_readSign
  rw [H.2.1, pc_nx hL H (by omega), if_neg h, pz_b, if_pos rfl]
-- the reference: a sign
theorem pr_h0 {w : qMem} {t : Nat → Int32} {L o : Nat} (hL : L ≤ 60) (ho : o ≤ L) (H : pRs w t L o 0) (a b : Int32) : fX6_isHere w a b = some (if o < L ∧ ¬ t o < a ∧ ¬ b < t o then 1 else 0) := by
  unfold fX6_isHere fX6_in
  rw [if_pos H.2.2.1, H.1, H.2.1]
  by_cases z : o < L
  · rw [if_neg (nI_ge z (by omega)), if_pos (pz_qin (by omega) (by omega)), pz_nI (by omega), H.2.2.2 o z]
    by_cases y : t o < a
    · rw [if_pos y, pz_b, if_pos rfl, if_neg (fun q => q.2.1 y)]
    · rw [if_neg y]
      by_cases x : b < t o
      · rw [if_pos x, pz_b, if_pos rfl, if_neg (fun q => q.2.2 x)]
      · rw [if_neg x, pz_b, if_neg (by decide), if_pos ⟨z, y, x⟩]
  · rw [if_pos (nI_le (by omega) (by omega)), if_neg (fun q => z q.1)]
theorem pr_h1 {w : qMem} {t : Nat → Int32} {L o : Nat} (H : pRs w t L o 1) (a b : Int32) : fX6_isHere w a b = some 0 := by
  unfold fX6_isHere
  rw [if_neg (by rw [H.2.2.1]; decide)]
theorem pr_s1 {w : qMem} {t : Nat → Int32} {L o : Nat} (hL : L ≤ 60) (ho : o ≤ L) (H : pRs w t L o 0) {a b : Int32} (h : o < L ∧ ¬ t o < a ∧ ¬ b < t o) : ∃ w1 : qMem, fX6_sign w a b = some (t o - a, w1) ∧ pRf w w1 (o + 1) 0 := by
  refine ⟨_, ?_, pRf.mk67 w (o + 1) 0⟩
  have r16 : quw w 238 17 0 238 16 = nI o := by rw [pz_wk (by decide)]; exact H.2.1
  unfold fX6_sign fX6_sign_L22
  rw [if_pos H.2.2.1, pr_h0 hL ho H, if_pos h, pz_b, if_neg (by decide), if_pos (by decide), pz_nm, pz_w, if_pos rfl, pz_nm, r16, nI_1, pz_w, nI_pred, if_pos (pz_qin (by omega) (by omega)), pz_nI (by omega), pz_wn (by decide), pz_wn (by decide), H.2.2.2 o h.1]
theorem pr_s0 {w : qMem} {t : Nat → Int32} {L o : Nat} (hL : L ≤ 60) (ho : o ≤ L) (H : pRs w t L o 0) {a b : Int32} (h : ¬ (o < L ∧ ¬ t o < a ∧ ¬ b < t o)) : ∃ w1 : qMem, fX6_sign w a b = some (0, w1) ∧ pRf w w1 o 1 := by
  refine ⟨_, ?_, pRf.mk7 w 1 H.2.1⟩
  unfold fX6_sign fX6_sign_L22
  rw [if_pos H.2.2.1, pr_h0 hL ho H, if_neg h, pz_b, if_pos rfl, if_pos (by decide), pz_nm, pz_w, if_neg (by decide)]
theorem pr_se {w : qMem} {t : Nat → Int32} {L o : Nat} (H : pRs w t L o 1) (a b : Int32) : ∃ w1 : qMem, fX6_sign w a b = some (0, w1) ∧ pRf w w1 o 1 := by
  refine ⟨_, ?_, pRf.mk7 w 1 H.2.1⟩
  unfold fX6_sign fX6_sign_L22
  rw [if_neg (show ¬ w 238 17 = 0 by rw [H.2.2.1]; decide), if_pos (by decide), pz_nm, pz_w, if_neg (by decide)]
-- how many signs of a word stand next
def pCm (t : Nat → Int32) (L : Nat) : Nat → List Int32 → Nat
  | _, [] => 0
  | o, c :: cs => if o < L ∧ t o = c then pCm t L (o + 1) cs + 1 else 0
theorem pCm_t {t : Nat → Int32} {L o : Nat} {c : Int32} {cs : List Int32} (h : o < L ∧ t o = c) : pCm t L o (c :: cs) = pCm t L (o + 1) cs + 1 := if_pos h
theorem pCm_f {t : Nat → Int32} {L o : Nat} {c : Int32} {cs : List Int32} (h : ¬ (o < L ∧ t o = c)) : pCm t L o (c :: cs) = 0 := if_neg h
theorem pCm_le {t : Nat → Int32} {L : Nat} : ∀ (ts : List Int32) (o : Nat), pCm t L o ts ≤ ts.length
  | [], _ => Nat.le_refl 0
  | c :: cs, o => by
    have ih := pCm_le cs (o + 1) (t := t) (L := L)
    by_cases h : o < L ∧ t o = c
    · rw [pCm_t h]; show _ ≤ cs.length + 1; omega
    · rw [pCm_f h]; exact Nat.zero_le _
theorem pCm_at {t : Nat → Int32} {L : Nat} : ∀ (ts : List Int32) (o i : Nat), i < pCm t L o ts → o + i < L ∧ t (o + i) = ts.getD i 0
  | [], _, i, h => absurd h (Nat.not_lt_zero _)
  | c :: cs, o, i, h => by
    by_cases q : o < L ∧ t o = c
    · rw [pCm_t q] at h
      rcases i with _ | i
      · exact q
      · have ih := pCm_at (t := t) (L := L) cs (o + 1) i (by omega)
        rw [show o + (i + 1) = o + 1 + i by omega]; exact ih
    · rw [pCm_f q] at h; exact absurd h (Nat.not_lt_zero _)
theorem pl_d {l : List Int32} {x : Nat} (h : x < l.length) : l.drop x = l.getD x 0 :: l.drop (x + 1) := by
  rw [List.drop_eq_getElem_cons h, List.getD_eq_getElem?_getD, List.getElem?_eq_getElem h]; rfl
theorem pz_on (n : Nat) : Int32.ofNat n = nI n := rfl
theorem pc_al {w : qMem} {t : Nat → Int32} {L o : Nat} (hL : L ≤ 60) (ho : o ≤ L) (H : pCs w t L o) {ts : List Int32} (hl : ts.length ≤ 50) : ∀ (d x fuel : Nat), x + d = ts.length → d < fuel → fX4_countAlike_L2 w ts fuel (nI x) = some (nI (x + pCm t L (o + x) (ts.drop x)))
  | 0, x, fuel + 1, e, _ => by
    have e : x = ts.length := by omega
    simp only [fX4_countAlike_L2]
    rw [if_pos (show Int32.ofNat ts.length ≤ nI x from nI_le (by omega) (by omega)), List.drop_eq_nil_of_le (by omega)]
    exact congrArg some (congrArg nI (show ts.length = x + 0 by omega))
  | d + 1, x, fuel + 1, e, hf => by
    have hx : x < ts.length := by omega
    have ih := pc_al hL ho H hl d (x + 1) fuel (by omega) (by omega)
    simp only [fX4_countAlike_L2, H.2.1, nI_add, pz_nI (show x < 2 ^ 31 by omega), pz_nm, nI_1]
    rw [if_neg (show ¬ Int32.ofNat ts.length ≤ nI x from nI_ge hx (by omega)), if_pos (pz_qin hx (by omega)), pc_nx hL H (by omega), pz_b, pl_d hx]
    by_cases q : o + x < L ∧ t (o + x) = ts.getD x 0
    · rw [if_pos q, if_neg (by decide), pCm_t q, ih, show x + 1 + pCm t L (o + (x + 1)) (ts.drop (x + 1)) = x + (pCm t L (o + x + 1) (ts.drop (x + 1)) + 1) by rw [show o + (x + 1) = o + x + 1 by omega]; omega]
    · rw [if_neg q, if_pos rfl, pCm_f q]; rfl
theorem pr_al {w : qMem} {t : Nat → Int32} {L o : Nat} {e0 : Int32} (hL : L ≤ 60) (ho : o ≤ L) (H : pRs w t L o e0) {ts : List Int32} (hl : ts.length ≤ 50) : ∀ (d x fuel : Nat), x + d = ts.length → d < fuel → fX6_common_L2 w ts fuel (nI x) = some (nI (x + pCm t L (o + x) (ts.drop x)))
  | 0, x, fuel + 1, e, _ => by
    have e : x = ts.length := by omega
    simp only [fX6_common_L2]
    rw [if_pos (show Int32.ofNat ts.length ≤ nI x from nI_le (by omega) (by omega)), List.drop_eq_nil_of_le (by omega)]
    exact congrArg some (congrArg nI (show x = x + 0 from rfl))
  | d + 1, x, fuel + 1, e, hf => by
    have hx : x < ts.length := by omega
    have ih := pr_al hL ho H hl d (x + 1) fuel (by omega) (by omega)
    simp only [fX6_common_L2, H.1, H.2.1, nI_add, pz_nI (show x < 2 ^ 31 by omega), pz_nI (show o + x < 2 ^ 31 by omega), pz_nm, nI_1]
    rw [if_neg (show ¬ Int32.ofNat ts.length ≤ nI x from nI_ge hx (by omega)), pl_d hx]
    by_cases z : o + x < L
    · rw [if_neg (nI_ge z (by omega)), if_pos (pz_qin (by omega) (by omega)), if_pos (pz_qin hx (by omega)), H.2.2.2 _ z]
      by_cases y : t (o + x) = ts.getD x 0
      · rw [if_pos y, pCm_t ⟨z, y⟩, ih, show x + 1 + pCm t L (o + (x + 1)) (ts.drop (x + 1)) = x + (pCm t L (o + x + 1) (ts.drop (x + 1)) + 1) by rw [show o + (x + 1) = o + x + 1 by omega]; omega]
      · rw [if_neg y, pCm_f (fun q => y q.2)]; rfl
    · rw [if_pos (nI_le (by omega) (by omega)), pCm_f (fun q => z q.1)]; rfl
theorem pc_alike {w : qMem} {t : Nat → Int32} {L o : Nat} (hL : L ≤ 60) (ho : o ≤ L) (H : pCs w t L o) {ts : List Int32} (hl : ts.length ≤ 50) : fX4_countAlike w ts = some (nI (pCm t L o ts)) := by
  have := pc_al hL ho H hl ts.length 0 100 (by omega) (by omega)
  rw [Nat.zero_add, Nat.add_zero, List.drop_zero] at this; exact this
theorem pr_alike {w : qMem} {t : Nat → Int32} {L o : Nat} {e0 : Int32} (hL : L ≤ 60) (ho : o ≤ L) (H : pRs w t L o e0) {ts : List Int32} (hl : ts.length ≤ 50) : fX6_common w ts = some (nI (pCm t L o ts)) := by
  have := pr_al hL ho H hl ts.length 0 100 (by omega) (by omega)
  rw [Nat.zero_add, Nat.add_zero, List.drop_zero] at this; exact this
theorem pj_lt1 {x c : Int32} : (¬ x < c ∧ ¬ c < x) ↔ x = c := by
  rw [pj_lt, pj_lt]
  constructor
  · intro h; exact Int32.le_antisymm h.2 h.1
  · intro h; rw [h]; exact ⟨Int32.le_refl _, Int32.le_refl _⟩
theorem pr_sk_ {t : Nat → Int32} {L : Nat} (hL : L ≤ 60) {ts : List Int32} (hl : ts.length ≤ 50) : ∀ (d x fuel o : Nat) (w : qMem), x + d = ts.length → d < fuel → o ≤ L → pRs w t L o 0 → ∃ w1 : qMem, fX6_skip_L2 ts fuel w (nI x) = some w1 ∧ pRf w w1 (o + pCm t L o (ts.drop x)) (if pCm t L o (ts.drop x) = d then 0 else 1)
  | 0, x, fuel + 1, o, w, e, _, ho, H => by
    refine ⟨w, ?_, ?_⟩
    · simp only [fX6_skip_L2]
      rw [if_pos (show Int32.ofNat ts.length ≤ nI x from nI_le (by omega) (by omega))]
    · rw [List.drop_eq_nil_of_le (by omega)]; exact pRf.rf H
  | d + 1, x, fuel + 1, o, w, e, hf, ho, H => by
    have hx : x < ts.length := by omega
    rw [pl_d hx]
    by_cases q : o < L ∧ t o = ts.getD x 0
    · obtain ⟨w1, e1, f1⟩ := pr_s1 hL ho H (a := ts.getD x 0) (b := ts.getD x 0) ⟨q.1, pj_lt1.mpr q.2⟩
      obtain ⟨w2, e2, f2⟩ := pr_sk_ hL hl d (x + 1) fuel (o + 1) w1 (by omega) (by omega) (by omega) (H.f f1)
      refine ⟨w2, ?_, ?_⟩
      · simp only [fX6_skip_L2, pz_nI (show x < 2 ^ 31 by omega), pz_nm, nI_1]
        rw [if_neg (show ¬ Int32.ofNat ts.length ≤ nI x from nI_ge hx (by omega)), if_pos H.2.2.1, if_pos (pz_qin hx (by omega)), if_pos (pz_qin hx (by omega)), e1, pz_b2]
        exact e2
      · rw [pCm_t q, show o + (pCm t L (o + 1) (ts.drop (x + 1)) + 1) = o + 1 + pCm t L (o + 1) (ts.drop (x + 1)) by omega]
        have f3 := f1.tr f2
        by_cases z : pCm t L (o + 1) (ts.drop (x + 1)) = d
        · rw [if_pos z] at f3; rw [if_pos (by omega)]; exact f3
        · rw [if_neg z] at f3; rw [if_neg (by omega)]; exact f3
    · obtain ⟨w1, e1, f1⟩ := pr_s0 hL ho H (a := ts.getD x 0) (b := ts.getD x 0) (fun y => q ⟨y.1, pj_lt1.mp y.2⟩)
      have H1 := H.f f1
      refine ⟨w1, ?_, ?_⟩
      · simp only [fX6_skip_L2, pz_nI (show x < 2 ^ 31 by omega), pz_nm, nI_1]
        rw [if_neg (show ¬ Int32.ofNat ts.length ≤ nI x from nI_ge hx (by omega)), if_pos H.2.2.1, if_pos (pz_qin hx (by omega)), if_pos (pz_qin hx (by omega)), e1, pz_b2]
        rcases fuel with _ | fuel
        · omega
        · simp only [fX6_skip_L2]
          by_cases z : Int32.ofNat ts.length ≤ nI (x + 1)
          · rw [if_pos z]
          · rw [if_neg z, if_neg (by rw [H1.2.2.1]; decide)]
      · rw [pCm_f q, if_neg (by omega)]; exact f1
theorem pr_sk {w : qMem} {t : Nat → Int32} {L o : Nat} (hL : L ≤ 60) (ho : o ≤ L) (H : pRs w t L o 0) {ts : List Int32} (hl : ts.length ≤ 50) : ∃ w1 : qMem, fX6_skip w ts = some w1 ∧ pRf w w1 (o + pCm t L o ts) (if pCm t L o ts = ts.length then 0 else 1) := by
  have := pr_sk_ hL hl ts.length 0 100 o w (by omega) (by omega) ho H
  rw [List.drop_zero] at this; exact this
theorem pr_ske_ {w : qMem} {t : Nat → Int32} {L o : Nat} (H : pRs w t L o 1) (ts : List Int32) (fuel : Nat) (x : Int32) : fX6_skip_L2 ts (fuel + 1) w x = some w := by
  simp only [fX6_skip_L2]
  by_cases z : Int32.ofNat ts.length ≤ x
  · rw [if_pos z]
  · rw [if_neg z, if_neg (by rw [H.2.2.1]; decide)]
theorem pr_ske {w : qMem} {t : Nat → Int32} {L o : Nat} (H : pRs w t L o 1) (ts : List Int32) : fX6_skip w ts = some w := pr_ske_ H ts 99 0
