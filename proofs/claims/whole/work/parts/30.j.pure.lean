-- a change, by the class and then by the reference
theorem pI_rest {T T' : Nat} {w w' : qMem} (H : pI T w) (hT : T ≤ T') (f1 : ∀ c, ((19 * 2 ≤ c ∧ c < 57) ∨ (231 ≤ c ∧ c < 238) ∨ c = 242 ∨ c = 244 ∨ c = 245) → w' c = w c) (f2 : ∀ k, k ≠ 8 → k ≠ 9 → k ≠ 10 → w' 228 k = w 228 k) (f3 : ∀ k, k = 4 ∨ k = 13 ∨ k = 15 ∨ k = 18 → w' 238 k = w 238 k) (hS : ∃ S : pSt, pW T' S ∧ pH w' 0 S ∧ pR (w' 239) S) (hH : pHis T' w') (h8 : w' 228 8 = w' 238 8) (h9 : w' 228 9 = w' 238 9) : pI T' w' := by
  obtain ⟨_, _, hv, ⟨n, hn, t1, t2, t3⟩, ⟨m, hm, l1, l2, l3⟩, e8, e9, e7⟩ := H
  refine ⟨hS, hH, ?_, ⟨n, hn, ?_, ?_, fun j hj => ?_⟩, ⟨m, hm, ?_, ?_, fun j hj => ?_⟩, h8, h9, ?_⟩
  · rcases hv with ⟨a, b⟩ | ⟨a, b, S, hW, hS2, hR2⟩
    · exact Or.inl ⟨by rw [f2 6 (by decide) (by decide) (by decide)]; exact a, by rw [f3 4 (by decide)]; exact b⟩
    · refine Or.inr ⟨by rw [f2 6 (by decide) (by decide) (by decide)]; exact a, by rw [f3 4 (by decide)]; exact b, S, hW.mo hT, ph_same hW (fun c h1 h2 => f1 c (Or.inl ⟨h1, by omega⟩)) hS2, by rw [f1 242 (by decide)]; exact hR2⟩
  · rw [f1 231 (by decide)]; exact t1
  · rw [f3 15 (by decide)]; exact t2
  · rw [f1 232 (by decide), f1 245 (by decide)]; exact t3 j hj
  · rw [f1 236 (by decide)]; exact l1
  · rw [f3 13 (by decide)]; exact l2
  · rw [f1 237 (by decide), f1 244 (by decide)]; exact l3 j hj
  · rw [f2 7 (by decide) (by decide) (by decide), f3 18 (by decide)]; exact e7
theorem pHis_same {T T' x : Nat} {w w' : qMem} (hT : T ≤ T') (H : pHis T w) (hx : x ≤ 8) (h1 : w 229 1 = nI x) (f : ∀ c, (57 ≤ c ∧ c < 228) → (c < 19 * (3 + x) ∨ 19 * (3 + x) + 19 ≤ c) → w' c = w c) (g : w' 229 = w 229) (g6 : w' 238 6 = w 238 6) (g3 : w' 243 = w 243) : pHis T' w' := by
  obtain ⟨d, x', hd, hx', a1, a2, a3, a4⟩ := H
  have ex : x' = x := (nI_eq (by omega) (by omega)).mp (a1.symm.trans h1)
  subst ex
  refine ⟨d, x', hd, hx', by rw [g]; exact a1, by rw [g]; exact a2, g6.trans a3, fun j hj => ?_⟩
  obtain ⟨S, s1, s2, s3⟩ := a4 j hj
  refine ⟨S, s1.mo hT, ph_same s1 (fun c c1 c2 => f c (by omega) (by omega)) s2, ?_⟩
  rw [g3]; exact s3
theorem pHis_push {T T' d x e : Nat} {w w' : qMem} {S : pSt} (hT : T ≤ T') (hd : d ≤ 8) (hx : x ≤ 8) (h4 : ∀ j, j < d → ∃ S : pSt, pW T S ∧ pH w (3 + (x + 8 - j) % 9) S ∧ pR (fun k => w 243 (99 * (d - 1 - j) + k)) S) (f : ∀ c, (57 ≤ c ∧ c < 228) → (c < 19 * (3 + x) ∨ 19 * (3 + x) + 19 ≤ c) → w' c = w c) (g1 : w' 229 1 = nI ((x + 1) % 9)) (g2 : w' 229 2 = nI (if d = 8 then 8 else d + 1)) (g6 : w' 238 6 = nI (e + 1)) (hS : pW T S) (hH : pH w' (3 + x) S) (hR : pR (fun k => w' 243 (99 * e + k)) S) (hr : (d < 8 ∧ e = d ∧ ∀ k, k < 99 * d → w' 243 k = w 243 k) ∨ (d = 8 ∧ e = 7 ∧ ∀ k, k < 693 → w' 243 k = w 243 (99 + k))) : pHis T' w' := by
  refine ⟨e + 1, (x + 1) % 9, by omega, by omega, g1, ?_, g6, fun j hj => ?_⟩
  · rw [g2]; rcases hr with ⟨a, b, _⟩ | ⟨a, b, _⟩
    · rw [if_neg (by omega), b]
    · rw [if_pos a, b]
  · by_cases j0 : j = 0
    · subst j0
      refine ⟨S, hS.mo hT, ?_, ?_⟩
      · rw [show ((x + 1) % 9 + 8 - 0) % 9 = x by omega]; exact hH
      · exact hR
    · have hj1 : j - 1 < d := by omega
      obtain ⟨S1, s1, s2, s3⟩ := h4 (j - 1) hj1
      refine ⟨S1, s1.mo hT, ?_, ?_⟩
      · rw [show ((x + 1) % 9 + 8 - j) % 9 = (x + 8 - (j - 1)) % 9 by omega]
        exact ph_same s1 (fun c c1 c2 => f c (by omega) (by omega)) s2
      · refine pr_cg s1 (fun k hk => ?_) s3
        rcases hr with ⟨a, b, q⟩ | ⟨a, b, q⟩
        · subst b
          show w' 243 (99 * (e + 1 - 1 - j) + k) = w 243 (99 * (e - 1 - (j - 1)) + k)
          rw [q _ (by omega), show e + 1 - 1 - j = e - 1 - (j - 1) by omega]
        · subst a b
          show w' 243 (99 * (7 + 1 - 1 - j) + k) = w 243 (99 * (8 - 1 - (j - 1)) + k)
          rw [q _ (by omega)]
          congr 1; omega
def pOc (w w1 : qMem) (t v rs dt : Int32) (S : pSt) : Prop := pH w1 0 S ∧ (∀ c, 19 ≤ c → c ≠ 228 → w1 c = w c) ∧ (∀ k, k ≠ 8 → k ≠ 9 → k ≠ 10 → w1 228 k = w 228 k) ∧ (t = 0 → w1 228 10 = v) ∧ (t = 3 → w1 228 8 = rs ∧ w1 228 9 = dt) ∧ (t ≠ 3 → w1 228 8 = w 228 8 ∧ w1 228 9 = w 228 9)
def pOr (w w1 : qMem) (t e v rs dt r : Int32) (S : pSt) : Prop := pR (w1 239) S ∧ (∀ c, c ≠ 238 → c ≠ 239 → w1 c = w c) ∧ (∀ k, k ≠ 7 → k ≠ 8 → k ≠ 9 → k ≠ 10 → k ≠ 11 → w1 238 k = w 238 k) ∧ (t = 0 → w1 238 7 = w 238 7 ∧ r = v) ∧ (t ≠ 0 → w1 238 7 = e) ∧ (t = 3 → w1 238 10 = 1 ∧ w1 238 8 = rs ∧ w1 238 9 = dt) ∧ (t ≠ 3 → w1 238 8 = w 238 8 ∧ w1 238 9 = w 238 9 ∧ w1 238 10 = w 238 10)
/-- an order, done by both -/
def pDo (T : Nat) (k a b : Int32) (D : qMem → Option (Int32 × qMem)) (E : Int32 → Int32) : Prop := ∀ S : pSt, pW T S → ∃ (t v rs dt : Int32) (S' : pSt), pW (T + 100) S' ∧ (t = 0 ∨ t = 1 ∨ t = 2 ∨ t = 3) ∧ (t ≠ 0 → S' = S ∧ (E t = 1 ∨ E t = 2 ∨ E t = 3)) ∧ (∀ w : qMem, pH w 0 S → ∃ w1 : qMem, fX5_tryOrder w k a b = some (t, w1) ∧ pOc w w1 t v rs dt S') ∧ ∀ w : qMem, pR (w 239) S → ∃ (r : Int32) (w1 : qMem), D w = some (r, w1) ∧ pOr w w1 t (E t) v rs dt r S'
theorem pr_change {T : Nat} {k a b : Int32} {D : qMem → Option (Int32 × qMem)} {E : Int32 → Int32} (hD : pDo T k a b D E) {w : qMem} (H : pI T w) : ∃ (t v : Int32) (wc wr : qMem), fX5_change w k a b = some (t, wc) ∧ (t = 0 → wc 228 10 = v) ∧ (qbd (fX6_keep wc) fun (w2 : qMem) => qbd2 (D w2) fun (r4 : Int32) (w5 : qMem) => qbd2 (fX6_ends w5 r4) fun (r7 : Int32) (w8 : qMem) => some (r7, w8)) = some (if t = 0 then v else 0, wr) ∧ wr 238 7 = (if t = 0 then 0 else E t) ∧ pI (T + 100) wr ∧ (t = 0 ∨ t = 1 ∨ t = 2 ∨ t = 3) ∧ (t ≠ 0 → (E t = 1 ∨ E t = 2 ∨ E t = 3)) := by
  obtain ⟨⟨S, hW, hH, hR⟩, hHis, hSav, hTx, hLn, hE8, hE9, hE7⟩ := id H
  obtain ⟨d, x, hd, hx, a1, a2, a3, a4⟩ := id hHis
  obtain ⟨t, v, rs, dt, S', hW', ht, hS', hC, hRf⟩ := hD S hW
  obtain ⟨w1, e1, n1, n2⟩ := pc_note hx a1 hW hH
  obtain ⟨w2, e2, c1, c2, c3, c4, c5, c6⟩ := hC w1 (ph_same hW (fun c _ h2 => n2 c (by omega)) hH)
  unfold fX5_change
  rw [e1, pz_b, e2, pz_b2]
  -- the class's end of it
  by_cases ht0 : t = 0
  · subst ht0
    obtain ⟨w3, e3, k1, k2, k3⟩ := pc_keep (w := w2) hx hd (by rw [c2 229 (by omega) (by omega), n2 229 (by omega)]; exact a1) (by rw [c2 229 (by omega) (by omega), n2 229 (by omega)]; exact a2)
    obtain ⟨w4, e4, r1, r2, r3⟩ := pr_keep w3
    have w3c : ∀ c, 238 ≤ c → w3 c = w c := fun c hc => by rw [k1 c (by omega), c2 c (by omega) (by omega), n2 c (by omega)]
    obtain ⟨r, w5, e5, o1, o2, o3, o4, o5, o6, o7⟩ := hRf w4 (by rw [r2 239 (by decide) (by decide), w3c 239 (by decide)]; exact hR)
    have h57 : w5 238 7 = 0 := by rw [(o4 rfl).1, r3, pz_u]
    obtain ⟨w6, e, e6, s1, s2, s3, s4⟩ := pr_end0 (w := w5) (x1 := r) hd (by rw [o3 6 (by decide) (by decide) (by decide) (by decide) (by decide), r3, pz_un (by decide), w3c 238 (by decide)]; exact a3) h57
    have wl : ∀ c, c < 238 → w6 c = w3 c := fun c hc => by rw [s1 c (by omega) (by omega), o2 c (by omega) (by omega), r2 c (by omega) (by omega)]
    refine ⟨0, v, w3, w6, by rw [if_pos rfl, e3, pz_b], fun _ => by rw [k1 228 (by decide)]; exact c4 rfl, ?_, ?_, ?_, Or.inl rfl, fun z => absurd rfl z⟩
    · rw [e4, pz_b, e5, pz_b2, e6, pz_b2, if_pos rfl, (o4 rfl).2]
    · rw [if_pos rfl, s2, pz_un (by decide)]; exact h57
    · have w5k : ∀ k, k ≠ 7 → k ≠ 8 → k ≠ 9 → k ≠ 10 → k ≠ 11 → w5 238 k = w 238 k := fun k q1 q2 q3 q4 q5 => by rw [o3 k q1 q2 q3 q4 q5, r3, pz_un q1, w3c 238 (by decide)]
      refine pI_rest H (by omega) (fun c hc => ?_) (fun k q1 q2 q3 => ?_) (fun k hk => ?_) ⟨S', hW', ?_, ?_⟩ ?_ ?_ ?_
      · by_cases hc2 : c < 238
        · rw [wl c hc2, k1 c (by omega), c2 c (by omega) (by omega), n2 c (by omega)]
        · rw [s1 c (by omega) (by omega), o2 c (by omega) (by omega), r2 c (by omega) (by omega), w3c c (by omega)]
      · rw [wl 228 (by decide), k1 228 (by decide), c3 k q1 q2 q3, n2 228 (by omega)]
      · rw [s2, pz_un (by omega), w5k k (by omega) (by omega) (by omega) (by omega) (by omega)]
      · exact ph_same hW' (fun c _ h2 => by rw [wl c (by omega), k1 c (by omega)]) c1
      · rw [s1 239 (by decide) (by decide)]; exact o1
      · refine pHis_push (T := T) (w := w) (S := S) (e := e) (by omega) hd hx a4 (fun c q1 q2 => ?_) ?_ ?_ ?_ hW ?_ ?_ ?_
        · rw [wl c (by omega), k1 c (by omega), c2 c (by omega) (by omega), n2 c q2]
        · rw [wl 229 (by decide)]; exact k2
        · rw [wl 229 (by decide)]; exact k3
        · rw [s2, pz_u]
        · exact ph_same hW (fun c h1 h2 => by rw [wl c (by omega), k1 c (by omega), c2 c (by omega) (by omega)]) n1
        · refine pr_cg hW (fun k hk => ?_) hR
          show w6 243 (99 * e + k) = w 239 k
          rw [s4 k hk, o2 240 (by decide) (by decide), r1 k hk, w3c 239 (by decide)]
        · have w53 : w5 243 = w 243 := by rw [o2 243 (by decide) (by decide), r2 243 (by decide) (by decide), w3c 243 (by decide)]
          rw [← w53]; exact s3
      · have q := (c6 (by decide)).1
        have q2 := (o7 (by decide)).1
        rw [wl 228 (by decide), k1 228 (by decide), q, n2 228 (by omega), s2, pz_un (by decide), q2, r3, pz_un (by decide), w3c 238 (by decide)]; exact hE8
      · have q := (c6 (by decide)).2
        have q2 := (o7 (by decide)).2.1
        rw [wl 228 (by decide), k1 228 (by decide), q, n2 228 (by omega), s2, pz_un (by decide), q2, r3, pz_un (by decide), w3c 238 (by decide)]; exact hE9
  · obtain ⟨hSS, hEt⟩ := hS' ht0
    subst hSS
    obtain ⟨w4, e4, r1, r2, r3⟩ := pr_keep w2
    have w2c : ∀ c, 229 ≤ c → w2 c = w c := fun c hc => by rw [c2 c (by omega) (by omega), n2 c (by omega)]
    obtain ⟨r, w5, e5, o1, o2, o3, o4, o5, o6, o7⟩ := hRf w4 (by rw [r2 239 (by decide) (by decide), w2c 239 (by decide)]; exact hR)
    have h57 : w5 238 7 = E t := o5 ht0
    obtain ⟨w6, e6, s1, s2⟩ := pr_end1 (w := w5) (x1 := r) (by rw [h57]; rcases hEt with q | q | q <;> rw [q] <;> decide)
    have wl : ∀ c, c < 238 → w6 c = w2 c := fun c hc => by rw [s1 c (by omega), o2 c (by omega) (by omega), r2 c (by omega) (by omega)]
    have w5k : ∀ k, k ≠ 7 → k ≠ 8 → k ≠ 9 → k ≠ 10 → k ≠ 11 → w6 238 k = w 238 k := fun k q1 q2 q3 q4 q5 => by rw [s1 238 (by decide), o3 k q1 q2 q3 q4 q5, r3, pz_un q1, w2c 238 (by decide)]
    refine ⟨t, v, w2, w6, by rw [if_neg ht0], fun z => absurd z ht0, ?_, ?_, ?_, ht, fun _ => hEt⟩
    · rw [e4, pz_b, e5, pz_b2, e6, pz_b2, if_neg ht0]
    · rw [if_neg ht0, s1 238 (by decide)]; exact h57
    · refine pI_rest H (by omega) (fun c hc => ?_) (fun k q1 q2 q3 => ?_) (fun k hk => ?_) ⟨S', hW', ?_, ?_⟩ ?_ ?_ ?_
      · by_cases hc2 : c < 238
        · rw [wl c hc2, c2 c (by omega) (by omega), n2 c (by omega)]
        · rw [s1 c (by omega), o2 c (by omega) (by omega), r2 c (by omega) (by omega), w2c c (by omega)]
      · rw [wl 228 (by decide), c3 k q1 q2 q3, n2 228 (by omega)]
      · exact w5k k (by omega) (by omega) (by omega) (by omega) (by omega)
      · exact ph_same hW' (fun c _ h2 => by rw [wl c (by omega)]) c1
      · refine pr_cg hW (fun k hk => ?_) hR
        rw [s2 k hk, o2 240 (by decide) (by decide), r1 k hk, w2c 239 (by decide)]
      · refine pHis_same (by omega) hHis hx a1 (fun c q1 q2 => ?_) ?_ ?_ ?_
        · rw [wl c (by omega), c2 c (by omega) (by omega), n2 c q2]
        · rw [wl 229 (by decide), w2c 229 (by decide)]
        · exact w5k 6 (by decide) (by decide) (by decide) (by decide) (by decide)
        · rw [s1 243 (by decide), o2 243 (by decide) (by decide), r2 243 (by decide) (by decide), w2c 243 (by decide)]
      · by_cases q3 : t = 3
        · rw [wl 228 (by decide), (c5 q3).1, s1 238 (by decide), (o6 q3).2.1]
        · rw [wl 228 (by decide), (c6 q3).1, n2 228 (by omega), s1 238 (by decide), (o7 q3).1, r3, pz_un (by decide), w2c 238 (by decide)]; exact hE8
      · by_cases q3 : t = 3
        · rw [wl 228 (by decide), (c5 q3).2, s1 238 (by decide), (o6 q3).2.2]
        · rw [wl 228 (by decide), (c6 q3).2, n2 228 (by omega), s1 238 (by decide), (o7 q3).2.1, r3, pz_un (by decide), w2c 238 (by decide)]; exact hE9
