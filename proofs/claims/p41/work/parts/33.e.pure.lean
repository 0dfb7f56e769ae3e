theorem pd_any (T : Nat) (k a b : Int32) : pDc T k a b (fun _ _ _ _ _ => True) := by
  have we : ∀ {E : pSt → Int32 → Int32 → Int32 → pSt → Prop}, pDc T k a b E → pDc T k a b (fun _ _ _ _ _ => True) := fun h S hW => by
    obtain ⟨t, v, rs, dt, S', h1, h2, h3, -, h5⟩ := h S hW
    exact ⟨t, v, rs, dt, S', h1, h2, h3, trivial, h5⟩
  by_cases k1 : k = 1
  · exact we (pd_put T (Or.inl k1) a b)
  by_cases k2 : k = 2
  · exact we (pd_put T (Or.inr (Or.inl k2)) a b)
  by_cases k3 : k = 3
  · exact we (pd_put T (Or.inr (Or.inr k3)) a b)
  by_cases k4 : k = 4
  · subst k4; exact we (pd_take T a b)
  by_cases k5 : k = 5
  · subst k5; exact we (pd_cue T a b)
  by_cases k6 : k = 6
  · subst k6; exact we (pd_set T a b)
  by_cases k7 : k = 7
  · subst k7; exact we (pd_shock T a b)
  by_cases k8 : k = 8
  · subst k8; exact we (pd_add T a b)
  by_cases k9 : k = 9
  · subst k9; exact we (pd_perform T a b)
  by_cases k10 : k = 10
  · subst k10; exact we (pd_quiet T a b)
  intro S hW
  refine ⟨2, 0, 0, 0, S, hW.mo (by omega), by decide, fun _ => rfl, trivial, fun w H => ⟨w, ?_, pOc.no 0 0 0 H (by decide) (by decide)⟩⟩
  unfold fX5_tryOrder
  rw [if_neg k1, if_neg k2, if_neg k3, if_neg k4, if_neg k5, if_neg k6, if_neg k7, if_neg k8, if_neg k9, if_neg k10]
-- a text read
theorem pe_word {t : Nat → Int32} {L o : Nat} (hL : L ≤ 60) (ho : o ≤ L) {w : qMem} (H : pCs w t L o) : ∃ (r : Int32) (o' : Nat) (w1 : qMem), fX4_readWord w = some (r, w1) ∧ pCf w w1 o' ∧ o' ≤ L ∧ (r = 0 ∨ ∃ j, j < 10 ∧ r = nI (j + 1)) := by
  rcases pc_rw hL ho H 10 0 100 0 (by omega) (by omega) (by omega) with ⟨j, _, g2, g3, w1, g4, g5⟩ | ⟨g1, M', g2, g3, g4, w1, g5, g6⟩
  · exact ⟨_, _, w1, g4, g5, pCw_L ho, Or.inr ⟨j, g2, rfl⟩⟩
  · refine ⟨0, o + M', w1, g5, g6, ?_, Or.inl rfl⟩
    rcases g4 with g4 | ⟨j, _, q2, q3⟩
    · omega
    · have := pCw_L (t := t) (j := j) ho
      omega
theorem pe_num (two : Bool) {t : Nat → Int32} {L o : Nat} (hL : L ≤ 60) (ho : o ≤ L) {w : qMem} (H : pCs w t L o) : ∃ (n o' : Nat) (w1 : qMem), fX4_readNumber w (if two = true then 2 else 1) = some (pEn n, w1) ∧ pCf w w1 o' ∧ o' ≤ L ∧ n ≤ 100 := by
  unfold fX4_readNumber
  by_cases b : o < L ∧ t o = 32
  · obtain ⟨w1, e1, f1⟩ := pc_sg1 hL ho H b
    have ho1 : o + 1 ≤ L := b.1
    rw [e1, pz_b2, if_neg (by decide)]
    rcases pc_di hL ho1 (H.f f1) with ⟨_, e2⟩ | ⟨d1, q1, w2, e2, f2⟩
    · rw [e2, pz_b2, if_pos (by decide)]
      exact ⟨100, o + 1, w1, rfl, f1, ho1, Nat.le_refl _⟩
    · have ho2 : o + 2 ≤ L := q1
      rw [e2, pz_b2, if_neg (nI_pos (by omega))]
      by_cases z : two = true
      · rw [if_pos z, if_neg (by decide)]
        rcases pc_di (o := o + 2) hL ho2 ((H.f f1).f f2) with ⟨_, e3⟩ | ⟨d3, q3, w3, e3, f3⟩
        · rw [e3, pz_b2, if_pos (by decide)]
          exact ⟨pDi t L (o + 1), o + 2, w2, by rw [pEn, if_neg (by omega)], f1.tr f2, ho2, by omega⟩
        · rw [e3, pz_b2, if_neg (nI_pos (by omega))]
          exact ⟨10 * pDi t L (o + 1) + pDi t L (o + 2), o + 3, w3, by rw [pEn, if_neg (by omega), show (10 : Int32) = nI 10 from rfl, pk_mul, nI_add, Nat.mul_comm], (f1.tr f2).tr f3, q3, by omega⟩
      · rw [if_neg z, if_pos (by decide)]
        exact ⟨pDi t L (o + 1), o + 2, w2, by rw [pEn, if_neg (by omega)], f1.tr f2, ho2, by omega⟩
  · rw [pc_sg0 hL ho H b, pz_b2, if_pos rfl]
    exact ⟨100, o, w, rfl, pCf.rf H, ho, Nat.le_refl _⟩
theorem pe_93 {t : Nat → Int32} {L o i : Nat} (hL : L ≤ 60) (ho : o ≤ L) (hi : i < 12) (two : Bool) {x2 : Int32} {w w0 : qMem} (H : pCs w t L o) (f : pKf w0 w i o) : ∃ (r : Int32) (o' : Nat) (w1 : qMem), fX4_readOrder_L93 w (nI i) x2 (if two = true then 2 else 1) (nI i) = some (r, w1) ∧ pKf w0 w1 i o' ∧ o' ≤ L := by
  obtain ⟨n, o1, w1, e1, f1, h1, hn⟩ := pe_num two hL ho H
  have k1 := f.c f1
  by_cases hx : x2 = 4 ∨ x2 = 6 ∨ x2 = 8
  · exact ⟨_, o1, _, pc_93a hi hn e1 hx, k1.u (Or.inr (Or.inl rfl)), h1⟩
  · have hx' : ¬ x2 = 4 ∧ ¬ x2 = 6 ∧ ¬ x2 = 8 := ⟨fun z => hx (Or.inl z), fun z => hx (Or.inr (Or.inl z)), fun z => hx (Or.inr (Or.inr z))⟩
    have H2 : pCs (quw w1 234 i (pEn n)) t L o1 := (H.f f1).w3 (Or.inr (Or.inl rfl))
    obtain ⟨n2, o2, w3, e3, f3, h3, hn2⟩ := pe_num false hL h1 H2
    have e3 : fX4_readNumber (quw w1 234 i (pEn n)) 1 = some (pEn n2, w3) := e3
    have k2 : pKf w0 (quw w1 234 i (pEn n)) i o1 := k1.u (Or.inr (Or.inl rfl))
    rw [pc_93b hi hn hn2 e1 hx' (fun _ => e3)]
    by_cases z : n = 100
    · exact ⟨0, o1, _, if_pos z, k2, h1⟩
    · exact ⟨_, o2, _, if_neg z, (k2.c f3).u (Or.inr (Or.inr rfl)), h3⟩
theorem pe_ord {t : Nat → Int32} {L o i : Nat} (hL : L ≤ 60) (ho : o ≤ L) (hi : i < 12) {w : qMem} (H : pCs w t L o) : ∃ (r : Int32) (o' : Nat) (w1 : qMem), fX4_readOrder w (nI i) = some (r, w1) ∧ pKf w w1 i o' ∧ o' ≤ L := by
  obtain ⟨r, o1, w3, e, f, h1, hr⟩ := pe_word hL ho H
  rcases hr with rfl | ⟨j, hj, rfl⟩
  · refine ⟨0, o1, w3, ?_, pKf.mk f, h1⟩
    unfold fX4_readOrder
    rw [e, pz_b2, if_pos rfl]
  · rw [pc_rdo hi hj e]
    have k3 : pKf w (quw (quw (quw w3 233 i (nI (j + 1))) 234 i 0) 235 i 0) i o1 := (((pKf.mk f).u (Or.inl rfl)).u (Or.inr (Or.inl rfl))).u (Or.inr (Or.inr rfl))
    have H3 : pCs (quw (quw (quw w3 233 i (nI (j + 1))) 234 i 0) 235 i 0) t L o1 := (((H.f f).w3 (Or.inl rfl)).w3 (Or.inr (Or.inl rfl))).w3 (Or.inr (Or.inr rfl))
    split
    · exact ⟨1, o1, _, rfl, k3, h1⟩
    split
    · exact ⟨1, o1, _, rfl, k3, h1⟩
    split
    · exact ⟨1, o1, _, rfl, k3, h1⟩
    split
    · exact pe_93 hL h1 hi true H3 k3
    split
    · exact pe_93 hL h1 hi true H3 k3
    · exact pe_93 hL h1 hi false H3 k3
/-- what reading leaves alone -/
def pLe (w w1 : qMem) : Prop := (∀ c, c ≠ 231 → c ≠ 233 → c ≠ 234 → c ≠ 235 → w1 c = w c) ∧ ∀ k, k ≠ 5 → k ≠ 6 → w1 231 k = w 231 k
theorem pLe.tr {w w1 w2 : qMem} (a : pLe w w1) (b : pLe w1 w2) : pLe w w2 := ⟨fun c h1 h2 h3 h4 => (b.1 c h1 h2 h3 h4).trans (a.1 c h1 h2 h3 h4), fun k h1 h2 => (b.2 k h1 h2).trans (a.2 k h1 h2)⟩
theorem pe_read {t : Nat → Int32} {L : Nat} (hL : L ≤ 60) : ∀ (d i fuel o : Nat) (w : qMem), i + d = 12 → d < fuel → o ≤ L → pCs w t L o → w 231 5 = nI i → ∃ (r : Int32) (w1 : qMem), fX4_read_L12 fuel w (nI i) = some (r, w1) ∧ pLe w w1 ∧ (r < 0 → ∃ N, N ≤ 12 ∧ w1 231 5 = nI N) := by
  intro d
  induction d with
  | zero =>
    intro i fuel o w hi hfu ho H h5
    obtain ⟨fuel, rfl⟩ : ∃ g, fuel = g + 1 := ⟨fuel - 1, by omega⟩
    have : i = 12 := by omega
    subst this
    exact ⟨_, w, by rw [fX4_read_L12, if_pos (by decide)], ⟨fun _ _ _ _ _ => rfl, fun _ _ _ => rfl⟩, fun _ => ⟨12, Nat.le_refl _, h5⟩⟩
  | succ d ih =>
    intro i fuel o w hi hfu ho H h5
    obtain ⟨fuel, rfl⟩ : ∃ g, fuel = g + 1 := ⟨fuel - 1, by omega⟩
    obtain ⟨r, o', w6, e6, f6, h6⟩ := pe_ord hL ho (by omega : i < 12) H
    have l6 : pLe w w6 := ⟨f6.1, fun k _ h2 => f6.2.1 k h2⟩
    have g5 : w6 231 5 = nI i := (f6.2.1 5 (by decide)).trans h5
    rw [fX4_read_L12, if_neg (show ¬ (12 : Int32) ≤ nI i from nI_ge (b := 12) (by omega) (by omega)), e6, pz_b2]
    by_cases z : r = 0
    · rw [if_pos z]
      exact ⟨_, w6, rfl, l6, fun _ => ⟨i, by omega, g5⟩⟩
    · have H6 := H.k f6
      have H8 : pCs (quw w6 231 5 (nI (i + 1))) t L o' := ⟨by rw [pz_wk (by decide)]; exact H6.1, by rw [pz_wk (by decide)]; exact H6.2.1, fun j hj => by rw [pz_wn (by decide)]; exact H6.2.2 j hj⟩
      have l8 : pLe w (quw w6 231 5 (nI (i + 1))) := l6.tr ⟨fun c h1 _ _ _ => by rw [pz_wr, pz_rn h1], fun k h1 _ => pz_wk h1⟩
      rw [if_neg z, g5, nI_1, pz_nm]
      by_cases y : quw w6 231 5 (nI (i + 1)) 231 6 < quw w6 231 5 (nI (i + 1)) 231 1
      · rw [if_pos y]
        by_cases x : o' < L ∧ t o' = 59
        · obtain ⟨w12, e12, f12⟩ := pc_sg1 hL h6 H8 x
          rw [e12, pz_b2, if_neg (by decide), pz_nm]
          obtain ⟨r1, w1, e1, l1, v1⟩ := ih (i + 1) fuel (o' + 1) w12 (by omega) (by omega) x.1 (H8.f f12) (by rw [f12.2.1 5 (by decide), pz_w])
          exact ⟨r1, w1, e1, (l8.tr ⟨fun c h1 _ _ _ => f12.1 c h1, fun k _ h2 => f12.2.1 k h2⟩).tr l1, v1⟩
        · rw [pc_sg0 hL h6 H8 x, pz_b2, if_pos rfl]
          exact ⟨_, _, rfl, l8, fun _ => ⟨i + 1, by omega, pz_w⟩⟩
      · rw [if_neg y]
        exact ⟨_, _, rfl, l8, fun _ => ⟨i + 1, by omega, pz_w⟩⟩
-- the orders of a text carried out
theorem pe_51 {T0 x d : Nat} {w0 : qMem} {S : pSt} {L : List pSt} (hL : L.length ≤ 7) (hx : x ≤ 8) (hd : d ≤ 8) (a1 : w0 229 1 = nI x) (a2 : w0 229 2 = nI d) (hLd : L.length ≤ d) (h6 : ∀ (j : Nat) (S : pSt), L[j]? = some S → pW T0 S ∧ pH w0 (3 + (x + 8 - j) % 9) S) (hW : pW T0 S) (hN : pH w0 (3 + x) S) (h231 : w0 231 1 = 0) {N : Nat} (hN12 : N ≤ 12) (hN5 : w0 231 5 = nI N) : ∀ (n i fuel T : Nat) (w : qMem) (S' : pSt) (t : Int32), i + n = N → n < fuel → T0 ≤ T → pW T S' → pH w 0 S' → (t = 0 ∨ t = 1 ∨ t = 2 ∨ t = 3) → (∀ c, 19 ≤ c → c ≠ 228 → w c = w0 c) → ∃ (k : Nat) (r : Int32) (w1 : qMem) (S1 : pSt), fX5_run_L51 fuel w t (nI i) = some (k, r, w1) ∧ (k = 0 ∧ 0 ≤ r ∧ pIc (T + 100 * n) w1 S1 (S :: L) ∨ (k = 1 ∨ k = 2) ∧ pIc (T + 100 * n) w1 S L) := by
  have done : ∀ (T n : Nat) (w : qMem) (S' : pSt) (t : Int32), T0 ≤ T → pW T S' → pH w 0 S' → (t = 0 ∨ t = 1 ∨ t = 2 ∨ t = 3) → (∀ c, 19 ≤ c → c ≠ 228 → w c = w0 c) → ∃ (k : Nat) (r : Int32) (w1 : qMem) (S1 : pSt), fX5_run_L101 w t = some (k, r, w1) ∧ (k = 0 ∧ 0 ≤ r ∧ pIc (T + 100 * n) w1 S1 (S :: L) ∨ (k = 1 ∨ k = 2) ∧ pIc (T + 100 * n) w1 S L) := by
    intro T n w S' t hT hW' hH ht hf
    unfold fX5_run_L101
    by_cases z : t = 0
    · obtain ⟨w3, e3, k1, k2, k3⟩ := pc_keep (w := w) hx hd (by rw [hf 229 (by omega) (by omega)]; exact a1) (by rw [hf 229 (by omega) (by omega)]; exact a2)
      rw [if_pos z, e3, pz_b]
      refine ⟨0, _, w3, S', rfl, Or.inl ⟨rfl, ?_, hW'.mo (by omega), ph_same hW' (fun c _ h2 => k1 c (by omega)) hH, ?_, ?_⟩⟩
      · rw [k1 231 (by decide), hf 231 (by omega) (by omega), hN5]; exact nI_nn _ (by omega)
      · refine (pHs.push (T := T0) (w := w0) hx hd hLd hL h6 hW (ph_same hW (fun c h1 h2 => ?_) hN) (fun c q1 q2 q3 => ?_) k2 k3).mo (by omega)
        · rw [k1 c (by omega), hf c (by omega) (by omega)]
        · rw [k1 c (by omega), hf c (by omega) (by omega)]
      · rw [k1 231 (by decide), hf 231 (by omega) (by omega)]; exact h231
    · obtain ⟨w2, e2, g1, g2⟩ := pc_cnt (w := w) hx (by rw [hf 229 (by omega) (by omega)]; exact a1) hW (ph_same hW (fun c h1 h2 => hf c (by omega) (by omega)) hN)
      have hI : pIc (T + 100 * n) w2 S L := by
        refine ⟨hW.mo (by omega), g1, pHs.mo (T := T0) ⟨x, d, hx, hd, ?_, ?_, hLd, fun j S2 hj => ?_⟩ (by omega), ?_⟩
        · rw [g2 229 (by omega), hf 229 (by omega) (by omega)]; exact a1
        · rw [g2 229 (by omega), hf 229 (by omega) (by omega)]; exact a2
        · obtain ⟨q1, q2⟩ := h6 j S2 hj
          exact ⟨q1, ph_same q1 (fun c b1 b2 => by rw [g2 c (by omega), hf c (by omega) (by omega)]) q2⟩
        · rw [g2 231 (by omega), hf 231 (by omega) (by omega)]; exact h231
      rw [if_neg z, e2, pz_b]
      by_cases y : t = 3
      · exact ⟨2, 0, w2, S, by rw [if_pos y], Or.inr ⟨Or.inr rfl, hI⟩⟩
      · exact ⟨1, 0, w2, S, by rw [if_neg y], Or.inr ⟨Or.inl rfl, hI⟩⟩
  intro n
  induction n with
  | zero =>
    intro i fuel T w S' t hi hfu hT hW' hH ht hf
    obtain ⟨fuel, rfl⟩ : ∃ g, fuel = g + 1 := ⟨fuel - 1, by omega⟩
    rw [fX5_run_L51, hf 231 (by omega) (by omega), hN5, if_pos (nI_le (by omega) (by omega))]
    exact done T 0 w S' t hT hW' hH ht hf
  | succ n ih =>
    intro i fuel T w S' t hi hfu hT hW' hH ht hf
    obtain ⟨fuel, rfl⟩ : ∃ g, fuel = g + 1 := ⟨fuel - 1, by omega⟩
    rw [fX5_run_L51, hf 231 (by omega) (by omega), hN5, if_neg (nI_ge (by omega) (by omega))]
    by_cases z : t = 0
    · have q12 := pz_qin (show i < 12 by omega) (by decide)
      have q8 : ¬ (12 : Int32) ≤ nI i := nI_ge (b := 12) (by omega) (by decide)
      have n0 : ¬ nI i < 0 := nI_pos (by omega)
      unfold fX4_wordAt fX4_firstAt fX4_secondAt
      rw [if_pos z, if_neg n0, if_neg q8, if_pos q12, if_neg n0, if_neg q8, if_pos q12, if_neg n0, if_neg q8, if_pos q12, pz_b, pz_b, pz_b]
      obtain ⟨t2, v, rs, dt, S2, hW2, ht2, -, -, hC⟩ := pd_any T (w 233 (nI i).toNatClampNeg) (w 234 (nI i).toNatClampNeg) (w 235 (nI i).toNatClampNeg) S' hW'
      obtain ⟨w1, e1, c1, c2, -⟩ := hC w hH
      rw [e1, pz_b2, pz_nm, nI_1]
      obtain ⟨k, r, w2, S1, g1, g2⟩ := ih (i + 1) fuel (T + 100) w1 S2 t2 (by omega) (by omega) (by omega) hW2 c1 ht2 (fun c h1 h2 => by rw [c2 c h1 h2, hf c h1 h2])
      refine ⟨k, r, w2, S1, g1, ?_⟩
      rw [show T + 100 * (n + 1) = T + 100 + 100 * n by omega]
      exact g2
    · rw [if_neg z]
      exact done T (n + 1) w S' t hT hW' hH ht hf
/-- a change of the law's, done or not -/
def pStp (T : Nat) (S : pSt) (L : List pSt) (o : Option (Int32 × qMem)) : Prop := ∃ (r : Int32) (w1 : qMem) (S' : pSt), o = some (r, w1) ∧ (0 ≤ r ∧ pIc T w1 S' (S :: L) ∨ r < 0 ∧ pIc T w1 S L)
theorem pe_runs {T n : Nat} {w w0 : qMem} {S : pSt} {L : List pSt} (hL : L.length ≤ 7) (H : pIc T w0 S L) (hn : n ≤ 60) (h1 : w 231 1 = nI n) (hf : ∀ c, c ≠ 231 → c ≠ 232 → w c = w0 c) : pStp (T + 1200) S L (fL_runs w) := by
  obtain ⟨hW, hH, ⟨x, d, hx, hd, a1, a2, hLd, h6⟩, h231⟩ := H
  obtain ⟨w2, e2, c2, i2, f2, g2⟩ := pc_read0 h1
  obtain ⟨r, w3, e3, l3, v3⟩ := pe_read hn 12 0 100 0 w2 (by omega) (by omega) (Nat.zero_le _) c2 i2
  unfold fL_runs fX5_run
  have e3 : fX4_read_L12 100 w2 0 = some (r, w3) := e3
  rw [e2, e3, pz_b2, pz_nm, pz_nm]
  have fr : ∀ c, ¬ (228 ≤ c ∧ c ≤ 235 ∧ c ≠ 229 ∧ c ≠ 230) → quw (quw w3 228 7 r) 231 1 0 c = w0 c := fun c hc => by
    rw [pz_wr, pz_rn (by omega), pz_wr, pz_rn (by omega), l3.1 c (by omega) (by omega) (by omega) (by omega), f2 c (by omega), hf c (by omega) (by omega)]
  have e7 : quw (quw w3 228 7 r) 231 1 0 228 7 = r := by rw [pz_wn (by decide), pz_w]
  rw [e7]
  have b1 : quw (quw w3 228 7 r) 231 1 0 229 1 = nI x := by rw [fr 229 (by omega)]; exact a1
  have b2 : quw (quw w3 228 7 r) 231 1 0 229 2 = nI d := by rw [fr 229 (by omega)]; exact a2
  have b0 : pH (quw (quw w3 228 7 r) 231 1 0) 0 S := ph_same hW (fun c _ q2 => fr c (by omega)) hH
  by_cases z : r < 0
  · obtain ⟨N, hN, hN5⟩ := v3 z
    obtain ⟨w8, e8, n1, n2⟩ := pc_note hx b1 hW b0
    rw [if_pos z, e8, pz_b]
    obtain ⟨k, r1, w1, S1, g1, g2⟩ := pe_51 (T0 := T) (w0 := w8) (S := S) hL hx hd (by rw [n2 229 (by omega)]; exact b1) (by rw [n2 229 (by omega)]; exact b2) hLd (fun j S2 hj => by
      have hl : j < L.length := (List.getElem?_eq_some_iff.mp hj).1
      obtain ⟨q1, q2⟩ := h6 j S2 hj
      exact ⟨q1, ph_same q1 (fun c y1 y2 => by rw [n2 c (by omega), fr c (by omega)]) q2⟩) hW n1 (by rw [n2 231 (by omega)]; exact pz_w) hN (by rw [n2 231 (by omega), pz_wk (by decide), pz_wn (by decide)]; exact hN5) N 0 100 T w8 S 0 (by omega) (by omega) (Nat.le_refl _) hW (ph_same hW (fun c _ q2 => n2 c (by omega)) b0) (Or.inl rfl) (fun _ _ _ => rfl)
    have g1 : fX5_run_L51 100 w8 0 0 = some (k, r1, w1) := g1
    rw [g1]
    rcases g2 with ⟨rfl, q1, q2⟩ | ⟨rfl | rfl, q2⟩
    · exact ⟨r1, w1, S1, rfl, Or.inl ⟨q1, q2.mo (by omega)⟩⟩
    · exact ⟨-1, w1, S1, rfl, Or.inr ⟨by decide, q2.mo (by omega)⟩⟩
    · exact ⟨-2, w1, S1, rfl, Or.inr ⟨by decide, q2.mo (by omega)⟩⟩
  · rw [if_neg z]
    refine ⟨-1, _, S, rfl, Or.inr ⟨by decide, hW.mo (by omega), b0, pHs.mo (T := T) ⟨x, d, hx, hd, b1, b2, hLd, fun j S2 hj => ?_⟩ (by omega), pz_w⟩⟩
    obtain ⟨q1, q2⟩ := h6 j S2 hj
    exact ⟨q1, ph_same q1 (fun c y1 y2 => fr c (by omega)) q2⟩
theorem pe_run {T : Nat} {w0 : qMem} {S : pSt} {L : List pSt} {ts : List Int32} (hL : L.length ≤ 7) (H : pIc T w0 S L) (ht : ts.length ≤ 39) (hts : ∀ x ∈ ts, pC1 x) : ∀ (d i fuel : Nat) (w : qMem), i + d = ts.length → d < fuel → w 231 1 = nI i → (∀ c, c ≠ 231 → c ≠ 232 → w c = w0 c) → pStp (T + 1200) S L (fL_run_L2 ts fuel w (nI i)) := by
  intro d
  induction d with
  | zero =>
    intro i fuel w hi hfu h1 hf
    obtain ⟨fuel, rfl⟩ : ∃ g, fuel = g + 1 := ⟨fuel - 1, by omega⟩
    rw [fL_run_L2, if_pos (show Int32.ofNat ts.length ≤ nI i from nI_le (by omega) (by omega))]
    obtain ⟨r, w1, S', e, h⟩ := pe_runs hL H (by omega) h1 hf
    exact ⟨r, w1, S', by rw [e, pz_b2], h⟩
  | succ d ih =>
    intro i fuel w hi hfu h1 hf
    obtain ⟨fuel, rfl⟩ : ∃ g, fuel = g + 1 := ⟨fuel - 1, by omega⟩
    rw [fL_run_L2, if_neg (show ¬ Int32.ofNat ts.length ≤ nI i from nI_ge (by omega) (by omega)), if_pos (pz_qin (by omega) (by omega)), pz_nI (by omega)]
    have hx : pC1 (ts.getD i 0) := hts _ (by
      rw [List.getD_eq_getElem?_getD, List.getElem?_eq_getElem (by omega : i < ts.length)]
      exact List.getElem_mem _)
    obtain ⟨w3, e3, g1, g2, g3, g4⟩ := pc_app (w := w) (by omega : i < 60) h1 (pz_C hx)
    have e : fL_append w (ts.getD i 0) = some (nI i + 1, w3) := by
      unfold fL_append fX5_append
      rw [h1, if_pos (show nI i < (60 : Int32) from nI_lt (b := 60) (by omega) (by decide)), e3, pz_b, g1, qlw_0, nI_1]
    rw [e, pz_b2, if_pos rfl, pz_nm, nI_1]
    exact ih (i + 1) fuel w3 (by omega) (by omega) g1 (fun c c1 c2 => by rw [g4 c c1 c2, hf c c1 c2])
theorem pL_run {T : Nat} {w : qMem} {S : pSt} {L : List pSt} {ts : List Int32} (hL : L.length ≤ 7) (H : pIc T w S L) (ht : ts.length ≤ 39) (hts : ∀ x ∈ ts, pC1 x) : pStp (T + 1200) S L (fL_run w ts) := pe_run hL H ht hts ts.length 0 40 w (by omega) (by omega) H.2.2.2 (fun _ _ _ => rfl)
