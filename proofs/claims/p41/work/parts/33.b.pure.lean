/-- the states that undoing brings back, the latest first -/
def pHs (T : Nat) (w : qMem) (L : List pSt) : Prop := ∃ x d : Nat, x ≤ 8 ∧ d ≤ 8 ∧ w 229 1 = nI x ∧ w 229 2 = nI d ∧ L.length ≤ d ∧ ∀ (j : Nat) (S : pSt), L[j]? = some S → pW T S ∧ pH w (3 + (x + 8 - j) % 9) S
/-- what holds of the class between two calls -/
def pIc (T : Nat) (w : qMem) (S : pSt) (L : List pSt) : Prop := pW T S ∧ pH w 0 S ∧ pHs T w L ∧ w 231 1 = 0
theorem pHs.mo {T T' : Nat} {w : qMem} {L : List pSt} (h : pHs T w L) (e : T ≤ T') : pHs T' w L := by
  obtain ⟨x, d, h1, h2, h3, h4, h5, h6⟩ := h
  exact ⟨x, d, h1, h2, h3, h4, h5, fun j S hj => ⟨(h6 j S hj).1.mo e, (h6 j S hj).2⟩⟩
theorem pHs.same {T : Nat} {w w' : qMem} {L : List pSt} (h : pHs T w L) (f : ∀ c, 57 ≤ c → c < 228 → w' c = w c) (g1 : w' 229 1 = w 229 1) (g2 : w' 229 2 = w 229 2) : pHs T w' L := by
  obtain ⟨x, d, h1, h2, h3, h4, h5, h6⟩ := h
  exact ⟨x, d, h1, h2, g1.trans h3, g2.trans h4, h5, fun j S hj => ⟨(h6 j S hj).1, ph_same (h6 j S hj).1 (fun c q1 q2 => f c (by omega) (by omega)) (h6 j S hj).2⟩⟩
theorem pIc.mo {T T' : Nat} {w : qMem} {S : pSt} {L : List pSt} (h : pIc T w S L) (e : T ≤ T') : pIc T' w S L := ⟨h.1.mo e, h.2.1, h.2.2.1.mo e, h.2.2.2⟩
/-- a look that writes at most to the hall's rows, to the thought, and past the script -/
theorem pIc.look {T : Nat} {w w' : qMem} {S : pSt} {L : List pSt} (h : pIc T w S L) (f : ∀ c, (c < 16 ∨ (57 ≤ c ∧ c < 228) ∨ c = 229 ∨ c = 231) → w' c = w c) : pIc T w' S L :=
  ⟨h.1, ph_cg2 h.1 (fun c q1 q2 => f c (by omega)) h.2.1, h.2.2.1.same (fun c q1 q2 => f c (by omega)) (by rw [f 229 (by omega)]) (by rw [f 229 (by omega)]), by rw [f 231 (by omega)]; exact h.2.2.2⟩
theorem pHs.push {T x d : Nat} {w w' : qMem} {S : pSt} {L : List pSt} (hx : x ≤ 8) (hd : d ≤ 8) (hL : L.length ≤ d) (hL7 : L.length ≤ 7) (h6 : ∀ (j : Nat) (S : pSt), L[j]? = some S → pW T S ∧ pH w (3 + (x + 8 - j) % 9) S) (hW : pW T S) (hN : pH w' (3 + x) S) (f : ∀ c, 57 ≤ c → c < 228 → (c < 19 * (3 + x) ∨ 19 * (3 + x) + 19 ≤ c) → w' c = w c) (g1 : w' 229 1 = nI ((x + 1) % 9)) (g2 : w' 229 2 = nI (if d = 8 then 8 else d + 1)) : pHs T w' (S :: L) := by
  refine ⟨(x + 1) % 9, if d = 8 then 8 else d + 1, by omega, by split <;> omega, g1, g2, ?_, fun j S1 hj => ?_⟩
  · show L.length + 1 ≤ _
    split <;> omega
  · cases j with
    | zero =>
      cases hj
      refine ⟨hW, ?_⟩
      rw [show ((x + 1) % 9 + 8 - 0) % 9 = x by omega]
      exact hN
    | succ j =>
      have hj : L[j]? = some S1 := hj
      have hl : j < L.length := (List.getElem?_eq_some_iff.mp hj).1
      obtain ⟨q1, q2⟩ := h6 j S1 hj
      refine ⟨q1, ?_⟩
      rw [show ((x + 1) % 9 + 8 - (j + 1)) % 9 = (x + 8 - j) % 9 by omega]
      exact ph_same q1 (fun c a1 a2 => f c (by omega) (by omega) (by omega)) q2
theorem pc_change {T : Nat} {k a b : Int32} {E : pSt → Int32 → Int32 → Int32 → pSt → Prop} (hD : pDc T k a b E) {w : qMem} {S : pSt} {L : List pSt} (H : pIc T w S L) (hL : L.length ≤ 7) : ∃ (t v rs : Int32) (S' : pSt) (w1 : qMem), fX5_change w k a b = some (t, w1) ∧ (t = 0 ∨ t = 1 ∨ t = 2 ∨ t = 3) ∧ E S t v rs S' ∧ (t = 0 → w1 228 10 = v ∧ pIc (T + 100) w1 S' (S :: L)) ∧ (t ≠ 0 → pIc (T + 100) w1 S L) ∧ (t = 3 → w1 228 8 = rs) := by
  obtain ⟨hW, hH, ⟨x, d, hx, hd, a1, a2, hLd, h6⟩, h231⟩ := id H
  obtain ⟨t, v, rs, dt, S', hW', ht, hS', hE, hC⟩ := hD S hW
  obtain ⟨w1, e1, n1, n2⟩ := pc_note hx a1 hW hH
  obtain ⟨w2, e2, c1, c2, c3, c4, c5, c6⟩ := hC w1 (ph_same hW (fun c _ h2 => n2 c (by omega)) hH)
  unfold fX5_change
  rw [e1, pz_b, e2, pz_b2]
  by_cases ht0 : t = 0
  · subst ht0
    obtain ⟨w3, e3, k1, k2, k3⟩ := pc_keep (w := w2) hx hd (by rw [c2 229 (by omega) (by omega), n2 229 (by omega)]; exact a1) (by rw [c2 229 (by omega) (by omega), n2 229 (by omega)]; exact a2)
    refine ⟨0, v, rs, S', w3, by rw [if_pos rfl, e3, pz_b], Or.inl rfl, hE, fun _ => ⟨by rw [k1 228 (by decide)]; exact c4 rfl, hW', ph_same hW' (fun c _ h2 => k1 c (by omega)) c1, ?_, ?_⟩, fun z => absurd rfl z, fun z => absurd z (by decide)⟩
    · refine (pHs.push (T := T) (w := w) hx hd hLd hL h6 hW ?_ (fun c q1 q2 q3 => ?_) k2 k3).mo (by omega)
      · exact ph_same hW (fun c h1 h2 => by rw [k1 c (by omega), c2 c (by omega) (by omega)]) n1
      · rw [k1 c (by omega), c2 c (by omega) (by omega), n2 c q3]
    · rw [k1 231 (by decide), c2 231 (by omega) (by omega), n2 231 (by omega)]; exact h231
  · have := hS' ht0
    subst this
    refine ⟨t, v, rs, S', w2, by rw [if_neg ht0], ht, hE, fun z => absurd z ht0, fun _ => ⟨hW', c1, ?_, ?_⟩, fun z => (c5 z).1⟩
    · refine pHs.mo (T := T) ⟨x, d, hx, hd, ?_, ?_, hLd, fun j S1 hj => ?_⟩ (by omega)
      · rw [c2 229 (by omega) (by omega), n2 229 (by omega)]; exact a1
      · rw [c2 229 (by omega) (by omega), n2 229 (by omega)]; exact a2
      · have hl : j < L.length := (List.getElem?_eq_some_iff.mp hj).1
        obtain ⟨q1, q2⟩ := h6 j S1 hj
        exact ⟨q1, ph_same q1 (fun c b1 b2 => by rw [c2 c (by omega) (by omega), n2 c (by omega)]) q2⟩
    · rw [c2 231 (by omega) (by omega), n2 231 (by omega)]; exact h231
/-- a call of the law that changes the hall or is refused -/
def pStep (T : Nat) (S : pSt) (L : List pSt) (o : Option (Int32 × qMem)) (E : pSt → Int32 → Int32 → Int32 → pSt → Prop) : Prop := ∃ (t v rs : Int32) (S' : pSt) (r : Int32) (w1 : qMem), o = some (r, w1) ∧ (t = 0 ∨ t = 1 ∨ t = 2 ∨ t = 3) ∧ E S t v rs S' ∧ (t = 0 → r = v ∧ pIc (T + 100) w1 S' (S :: L)) ∧ (t ≠ 0 → r < 0 ∧ pIc (T + 100) w1 S L) ∧ (t = 3 → w1 228 8 = rs)
theorem qlw_0 (es : List Nat) (vs : List Int32) (r : Int32) (w : qMem) : qlw es vs (some (0, r, w)) = some (r, w) := rfl
theorem ps_put {T : Nat} {w : qMem} {S : pSt} {L : List pSt} {k : Int32} (hk : k = 1 ∨ k = 2 ∨ k = 3) (a b : Int32) (H : pIc T w S L) (hL : L.length ≤ 7) : pStep T S L (qlw [1, 2] [(-1), (-2)] (qbd3 (fX5_placed w k a b) fun (k3 : Nat) (r5 : Int32) (w2 : qMem) => if k3 = 0 then some (0, r5, w2) else some (k3, 0, w2))) (eP a b) := by
  obtain ⟨t, v, rs, S', w1, e, ht, hE, h0, hn, h3⟩ := pc_change (pd_put T hk a b) H hL
  unfold fX5_placed
  rw [e, pz_b2]
  rcases ht with rfl | rfl | rfl | rfl
  · exact ⟨0, v, rs, S', v, w1, by rw [if_neg (by decide), if_neg (by decide), pz_b3, if_pos rfl, qlw_0, (h0 rfl).1], Or.inl rfl, hE, fun _ => ⟨rfl, (h0 rfl).2⟩, fun z => absurd rfl z, fun z => absurd z (by decide)⟩
  · exact absurd rfl hE.1
  · exact ⟨2, v, rs, S', -1, w1, by rw [if_pos rfl, pz_b3]; rfl, by decide, hE, fun z => absurd z (by decide), fun _ => ⟨by decide, hn (by decide)⟩, fun z => absurd z (by decide)⟩
  · exact ⟨3, v, rs, S', -2, w1, by rw [if_neg (by decide), if_pos rfl, pz_b3]; rfl, by decide, hE, fun z => absurd z (by decide), fun _ => ⟨by decide, hn (by decide)⟩, fun _ => h3 rfl⟩
theorem ps_str {T : Nat} {w : qMem} {S : pSt} {L : List pSt} {k : Int32} {a : Int32} {E : pSt → Int32 → Int32 → Int32 → pSt → Prop} (hD : pDc T k a 0 E) (hE1 : ∀ S t v rs S', E S t v rs S' → t ≠ 1) (H : pIc T w S L) (hL : L.length ≤ 7) : pStep T S L (qlw [1, 2] [(-1), (-2)] (qbd3 (fX5_strengthTold w k a) fun (k3 : Nat) (r5 : Int32) (w2 : qMem) => if k3 = 0 then some (0, r5, w2) else some (k3, 0, w2))) E := by
  obtain ⟨t, v, rs, S', w1, e, ht, hE, h0, hn, h3⟩ := pc_change hD H hL
  unfold fX5_strengthTold
  rw [e, pz_b2]
  rcases ht with rfl | rfl | rfl | rfl
  · exact ⟨0, v, rs, S', v, w1, by rw [if_neg (by decide), if_neg (by decide), pz_b3, if_pos rfl, qlw_0, (h0 rfl).1], Or.inl rfl, hE, fun _ => ⟨rfl, (h0 rfl).2⟩, fun z => absurd rfl z, fun z => absurd z (by decide)⟩
  · exact absurd rfl (hE1 _ _ _ _ _ hE)
  · exact ⟨2, v, rs, S', -1, w1, by rw [if_pos rfl, pz_b3]; rfl, by decide, hE, fun z => absurd z (by decide), fun _ => ⟨by decide, hn (by decide)⟩, fun z => absurd z (by decide)⟩
  · exact ⟨3, v, rs, S', -2, w1, by rw [if_neg (by decide), if_pos rfl, pz_b3]; rfl, by decide, hE, fun z => absurd z (by decide), fun _ => ⟨by decide, hn (by decide)⟩, fun _ => h3 rfl⟩
theorem ps_cup {T : Nat} {w : qMem} {S : pSt} {L : List pSt} (a b : Int32) (H : pIc T w S L) (hL : L.length ≤ 7) : pStep T S L (fL_cup w a b) (eP a b) := ps_put (Or.inl rfl) a b H hL
theorem ps_lamp {T : Nat} {w : qMem} {S : pSt} {L : List pSt} (a b : Int32) (H : pIc T w S L) (hL : L.length ≤ 7) : pStep T S L (fL_lamp w a b) (eP a b) := ps_put (Or.inr (Or.inl rfl)) a b H hL
theorem ps_cat {T : Nat} {w : qMem} {S : pSt} {L : List pSt} (a b : Int32) (H : pIc T w S L) (hL : L.length ≤ 7) : pStep T S L (fL_cat w a b) (eP a b) := ps_put (Or.inr (Or.inr rfl)) a b H hL
theorem ps_set {T : Nat} {w : qMem} {S : pSt} {L : List pSt} (a : Int32) (H : pIc T w S L) (hL : L.length ≤ 7) : pStep T S L (fL_set w a) (eS a) := ps_str (pd_set T a 0) (fun _ _ _ _ _ h => h.1) H hL
theorem ps_add {T : Nat} {w : qMem} {S : pSt} {L : List pSt} (a : Int32) (H : pIc T w S L) (hL : L.length ≤ 7) : pStep T S L (fL_add w a) (eA a) := ps_str (pd_add T a 0) (fun _ _ _ _ _ h => h.1) H hL
theorem ps_take {T : Nat} {w : qMem} {S : pSt} {L : List pSt} (a : Int32) (H : pIc T w S L) (hL : L.length ≤ 7) : pStep T S L (fL_take w a) eV := by
  obtain ⟨t, v, rs, S', w1, e, ht, hE, h0, hn, h3⟩ := pc_change (pd_take T a 0) H hL
  unfold fL_take fX5_take
  rw [e, pz_b2]
  by_cases z : t = 0
  · subst z
    exact ⟨0, v, rs, S', v, w1, by rw [if_pos rfl, qlw_0, (h0 rfl).1], Or.inl rfl, hE, fun _ => ⟨rfl, (h0 rfl).2⟩, fun z => absurd rfl z, fun z => absurd z (by decide)⟩
  · exact ⟨t, v, rs, S', -1, w1, by rw [if_neg z]; rfl, ht, hE, fun y => absurd y z, fun _ => ⟨by decide, hn z⟩, h3⟩
theorem ps_perform {T : Nat} {w : qMem} {S : pSt} {L : List pSt} (H : pIc T w S L) (hL : L.length ≤ 7) : pStep T S L (fL_perform w) eV := by
  obtain ⟨t, v, rs, S', w1, e, ht, hE, h0, hn, h3⟩ := pc_change (pd_perform T 0 0) H hL
  unfold fL_perform fX5_perform
  rw [e, pz_b2]
  by_cases z : t = 0
  · subst z
    exact ⟨0, v, rs, S', v, w1, by rw [if_pos rfl, qlw_0, (h0 rfl).1], Or.inl rfl, hE, fun _ => ⟨rfl, (h0 rfl).2⟩, fun z => absurd rfl z, fun z => absurd z (by decide)⟩
  · exact ⟨t, v, rs, S', -2, w1, by rw [if_neg z]; rfl, ht, hE, fun y => absurd y z, fun _ => ⟨by decide, hn z⟩, h3⟩
theorem ps_cue {T : Nat} {w : qMem} {S : pSt} {L : List pSt} (a b : Int32) (H : pIc T w S L) (hL : L.length ≤ 7) : pStep T S L (fL_cue w a b) (eC a b) := by
  obtain ⟨t, v, rs, S', w1, e, ht, hE, h0, hn, h3⟩ := pc_change (pd_cue T a b) H hL
  unfold fL_cue fX5_cue
  rw [e, pz_b2]
  rcases ht with rfl | rfl | rfl | rfl
  · exact ⟨0, v, rs, S', v, w1, by rw [if_neg (by decide), if_neg (by decide), if_neg (by decide), qlw_0, (h0 rfl).1], Or.inl rfl, hE, fun _ => ⟨rfl, (h0 rfl).2⟩, fun z => absurd rfl z, fun z => absurd z (by decide)⟩
  · exact ⟨1, v, rs, S', -1, w1, by rw [if_pos rfl]; rfl, by decide, hE, fun z => absurd z (by decide), fun _ => ⟨by decide, hn (by decide)⟩, fun z => absurd z (by decide)⟩
  · exact ⟨2, v, rs, S', -2, w1, by rw [if_neg (by decide), if_pos rfl]; rfl, by decide, hE, fun z => absurd z (by decide), fun _ => ⟨by decide, hn (by decide)⟩, fun z => absurd z (by decide)⟩
  · exact ⟨3, v, rs, S', -3, w1, by rw [if_neg (by decide), if_neg (by decide), if_pos rfl]; rfl, by decide, hE, fun z => absurd z (by decide), fun _ => ⟨by decide, hn (by decide)⟩, fun _ => h3 rfl⟩
theorem ps_shock {T : Nat} {w : qMem} {S : pSt} {L : List pSt} (H : pIc T w S L) (hL : L.length ≤ 7) : pStep T S L (fX5_shock w) eH := by
  obtain ⟨t, v, rs, S', w1, e, ht, hE, h0, hn, h3⟩ := pc_change (pd_shock T 0 0) H hL
  unfold fX5_shock
  rw [e, pz_b2]
  obtain rfl := hE.1
  exact ⟨0, v, rs, S', v, w1, by rw [(h0 rfl).1], Or.inl rfl, hE, fun _ => ⟨rfl, (h0 rfl).2⟩, fun z => absurd rfl z, fun z => absurd z (by decide)⟩
theorem ps_quiet {T : Nat} {w : qMem} {S : pSt} {L : List pSt} (H : pIc T w S L) (hL : L.length ≤ 7) : pStep T S L (fX5_quiet w) eQ := by
  obtain ⟨t, v, rs, S', w1, e, ht, hE, h0, hn, h3⟩ := pc_change (pd_quiet T 0 0) H hL
  unfold fX5_quiet
  rw [e, pz_b2]
  obtain rfl := hE.1
  exact ⟨0, v, rs, S', v, w1, by rw [(h0 rfl).1], Or.inl rfl, hE, fun _ => ⟨rfl, (h0 rfl).2⟩, fun z => absurd rfl z, fun z => absurd z (by decide)⟩
