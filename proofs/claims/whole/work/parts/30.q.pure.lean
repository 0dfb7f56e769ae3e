-- the calls that change, and the invariant
theorem pHis.mo {T T' : Nat} {w : qMem} (h : pHis T w) (e : T ≤ T') : pHis T' w := by
  obtain ⟨d, x, h1, h2, h3, h4, h5, h6⟩ := h
  refine ⟨d, x, h1, h2, h3, h4, h5, fun j hj => ?_⟩
  obtain ⟨S, s1, s2⟩ := h6 j hj
  exact ⟨S, s1.mo e, s2⟩
theorem pSav.mo {T T' : Nat} {w : qMem} (h : pSav T w) (e : T ≤ T') : pSav T' w := by
  rcases h with h | ⟨h1, h2, S, s1, s2⟩
  · exact Or.inl h
  · exact Or.inr ⟨h1, h2, S, s1.mo e, s2⟩
theorem pI.mo {T T' : Nat} {w : qMem} (h : pI T w) (e : T ≤ T') : pI T' w := by
  obtain ⟨⟨S, s1, s2⟩, h1, h2, h3⟩ := h
  exact ⟨⟨S, s1.mo e, s2⟩, h1.mo e, h2.mo e, h3⟩
theorem pq_0 {T : Nat} {w : qMem} (a1 a2 a3 : Int32) (H : pI T w) : ∃ w1 : qMem, qs_0 w a1 a2 a3 = some w1 ∧ pI (T + 2000) w1 := by
  obtain ⟨t, v, wc, wr, e1, ev, e2, e7, hI, ht, hE⟩ := pr_change (po_put T (Or.inl rfl) a1 a2) H
  refine ⟨wr, ?_, hI.mo (by omega)⟩
  rcases ht with rfl | rfl | rfl | rfl
  · have ev := ev rfl
    have e7 : wr 238 7 = 0 := e7
    have e2 : fX6_cup wc a1 a2 = some (v, wr) := e2
    have e1 : fL_cup w a1 a2 = some (0, v, wc) := by
      unfold fL_cup fX5_cup fX5_placed
      rw [e1, pz_b2, ev]; rfl
    unfold qs_0
    rw [e1, pz_bn, e2, pz_b2, fX6_thrown, e7, pz_b]
    rw [if_pos rfl, if_pos rfl, if_pos rfl]
  · exact absurd (hE (by decide)) (by decide)
  · have e7 : wr 238 7 = 1 := e7
    have e2 : fX6_cup wc a1 a2 = some (0, wr) := e2
    have e1 : fL_cup w a1 a2 = some (1, 0, wc) := by
      unfold fL_cup fX5_cup fX5_placed
      rw [e1, pz_b2]; rfl
    unfold qs_0
    rw [e1, pz_bn, e2, pz_b2, fX6_thrown, e7, pz_b]
    rw [if_pos rfl, if_neg (by decide)]
  · have e7 : wr 238 7 = 2 := e7
    have e2 : fX6_cup wc a1 a2 = some (0, wr) := e2
    have e1 : fL_cup w a1 a2 = some (2, 0, wc) := by
      unfold fL_cup fX5_cup fX5_placed
      rw [e1, pz_b2]; rfl
    unfold qs_0
    rw [e1, pz_bn, e2, pz_b2, fX6_thrown, e7, pz_b]
    rw [if_pos rfl, if_neg (by decide)]
theorem pq_1 {T : Nat} {w : qMem} (a1 a2 a3 : Int32) (H : pI T w) : ∃ w1 : qMem, qs_1 w a1 a2 a3 = some w1 ∧ pI (T + 2000) w1 := by
  obtain ⟨t, v, wc, wr, e1, ev, e2, e7, hI, ht, hE⟩ := pr_change (po_put T (Or.inr (Or.inl rfl)) a1 a2) H
  refine ⟨wr, ?_, hI.mo (by omega)⟩
  rcases ht with rfl | rfl | rfl | rfl
  · have ev := ev rfl
    have e7 : wr 238 7 = 0 := e7
    have e2 : fX6_lamp wc a1 a2 = some (v, wr) := e2
    have e1 : fL_lamp w a1 a2 = some (0, v, wc) := by
      unfold fL_lamp fX5_lamp fX5_placed
      rw [e1, pz_b2, ev]; rfl
    unfold qs_1
    rw [e1, pz_bn, e2, pz_b2, fX6_thrown, e7, pz_b]
    rw [if_pos rfl, if_pos rfl, if_pos rfl]
  · exact absurd (hE (by decide)) (by decide)
  · have e7 : wr 238 7 = 1 := e7
    have e2 : fX6_lamp wc a1 a2 = some (0, wr) := e2
    have e1 : fL_lamp w a1 a2 = some (1, 0, wc) := by
      unfold fL_lamp fX5_lamp fX5_placed
      rw [e1, pz_b2]; rfl
    unfold qs_1
    rw [e1, pz_bn, e2, pz_b2, fX6_thrown, e7, pz_b]
    rw [if_pos rfl, if_neg (by decide)]
  · have e7 : wr 238 7 = 2 := e7
    have e2 : fX6_lamp wc a1 a2 = some (0, wr) := e2
    have e1 : fL_lamp w a1 a2 = some (2, 0, wc) := by
      unfold fL_lamp fX5_lamp fX5_placed
      rw [e1, pz_b2]; rfl
    unfold qs_1
    rw [e1, pz_bn, e2, pz_b2, fX6_thrown, e7, pz_b]
    rw [if_pos rfl, if_neg (by decide)]
theorem pq_2 {T : Nat} {w : qMem} (a1 a2 a3 : Int32) (H : pI T w) : ∃ w1 : qMem, qs_2 w a1 a2 a3 = some w1 ∧ pI (T + 2000) w1 := by
  obtain ⟨t, v, wc, wr, e1, ev, e2, e7, hI, ht, hE⟩ := pr_change (po_put T (Or.inr (Or.inr rfl)) a1 a2) H
  refine ⟨wr, ?_, hI.mo (by omega)⟩
  rcases ht with rfl | rfl | rfl | rfl
  · have ev := ev rfl
    have e7 : wr 238 7 = 0 := e7
    have e2 : fX6_cat wc a1 a2 = some (v, wr) := e2
    have e1 : fL_cat w a1 a2 = some (0, v, wc) := by
      unfold fL_cat fX5_cat fX5_placed
      rw [e1, pz_b2, ev]; rfl
    unfold qs_2
    rw [e1, pz_bn, e2, pz_b2, fX6_thrown, e7, pz_b]
    rw [if_pos rfl, if_pos rfl, if_pos rfl]
  · exact absurd (hE (by decide)) (by decide)
  · have e7 : wr 238 7 = 1 := e7
    have e2 : fX6_cat wc a1 a2 = some (0, wr) := e2
    have e1 : fL_cat w a1 a2 = some (1, 0, wc) := by
      unfold fL_cat fX5_cat fX5_placed
      rw [e1, pz_b2]; rfl
    unfold qs_2
    rw [e1, pz_bn, e2, pz_b2, fX6_thrown, e7, pz_b]
    rw [if_pos rfl, if_neg (by decide)]
  · have e7 : wr 238 7 = 2 := e7
    have e2 : fX6_cat wc a1 a2 = some (0, wr) := e2
    have e1 : fL_cat w a1 a2 = some (2, 0, wc) := by
      unfold fL_cat fX5_cat fX5_placed
      rw [e1, pz_b2]; rfl
    unfold qs_2
    rw [e1, pz_bn, e2, pz_b2, fX6_thrown, e7, pz_b]
    rw [if_pos rfl, if_neg (by decide)]
theorem pq_3 {T : Nat} {w : qMem} (a1 a2 a3 : Int32) (H : pI T w) : ∃ w1 : qMem, qs_3 w a1 a2 a3 = some w1 ∧ pI (T + 2000) w1 := by
  obtain ⟨t, v, wc, wr, e1, ev, e2, e7, hI, ht, hE⟩ := pr_change (po_take T a1 0) H
  refine ⟨wr, ?_, hI.mo (by omega)⟩
  rcases ht with rfl | rfl | rfl | rfl
  · have ev := ev rfl
    have e7 : wr 238 7 = 0 := e7
    have e2 : fX6_take wc a1 = some (v, wr) := e2
    have e1 : fL_take w a1 = some (0, v, wc) := by
      unfold fL_take fX5_take
      rw [e1, pz_b2, ev]; rfl
    unfold qs_3
    rw [e1, pz_bn, e2, pz_b2, fX6_thrown, e7, pz_b]
    rw [if_pos rfl, if_pos rfl, if_pos rfl]
  · have e7 : wr 238 7 = 1 := e7
    have e2 : fX6_take wc a1 = some (0, wr) := e2
    have e1 : fL_take w a1 = some (1, 0, wc) := by
      unfold fL_take fX5_take
      rw [e1, pz_b2]; rfl
    unfold qs_3
    rw [e1, pz_bn, e2, pz_b2, fX6_thrown, e7, pz_b]
    rw [if_pos rfl, if_neg (by decide)]
  · exact absurd (hE (by decide)) (by decide)
  · exact absurd (hE (by decide)) (by decide)
theorem pq_4 {T : Nat} {w : qMem} (a1 a2 a3 : Int32) (H : pI T w) : ∃ w1 : qMem, qs_4 w a1 a2 a3 = some w1 ∧ pI (T + 2000) w1 := by
  obtain ⟨t, v, wc, wr, e1, ev, e2, e7, hI, ht, hE⟩ := pr_change (po_cue T a1 a2) H
  refine ⟨wr, ?_, hI.mo (by omega)⟩
  rcases ht with rfl | rfl | rfl | rfl
  · have ev := ev rfl
    have e7 : wr 238 7 = 0 := e7
    have e2 : fX6_cue wc a1 a2 = some (v, wr) := e2
    have e1 : fL_cue w a1 a2 = some (0, v, wc) := by
      unfold fL_cue fX5_cue
      rw [e1, pz_b2, ev]; rfl
    unfold qs_4
    rw [e1, pz_bn, e2, pz_b2, fX6_thrown, e7, pz_b]
    rw [if_pos rfl, if_pos rfl, if_pos rfl]
  · have e7 : wr 238 7 = 1 := e7
    have e2 : fX6_cue wc a1 a2 = some (0, wr) := e2
    have e1 : fL_cue w a1 a2 = some (1, 0, wc) := by
      unfold fL_cue fX5_cue
      rw [e1, pz_b2]; rfl
    unfold qs_4
    rw [e1, pz_bn, e2, pz_b2, fX6_thrown, e7, pz_b]
    rw [if_pos rfl, if_neg (by decide)]
  · have e7 : wr 238 7 = 2 := e7
    have e2 : fX6_cue wc a1 a2 = some (0, wr) := e2
    have e1 : fL_cue w a1 a2 = some (2, 0, wc) := by
      unfold fL_cue fX5_cue
      rw [e1, pz_b2]; rfl
    unfold qs_4
    rw [e1, pz_bn, e2, pz_b2, fX6_thrown, e7, pz_b]
    rw [if_pos rfl, if_neg (by decide)]
  · have e7 : wr 238 7 = 3 := e7
    have e2 : fX6_cue wc a1 a2 = some (0, wr) := e2
    have e1 : fL_cue w a1 a2 = some (3, 0, wc) := by
      unfold fL_cue fX5_cue
      rw [e1, pz_b2]; rfl
    unfold qs_4
    rw [e1, pz_bn, e2, pz_b2, fX6_thrown, e7, pz_b]
    rw [if_pos rfl, if_neg (by decide)]
theorem pq_5 {T : Nat} {w : qMem} (a1 a2 a3 : Int32) (H : pI T w) : ∃ w1 : qMem, qs_5 w a1 a2 a3 = some w1 ∧ pI (T + 2000) w1 := by
  obtain ⟨t, v, wc, wr, e1, ev, e2, e7, hI, ht, hE⟩ := pr_change (po_set T a1 0) H
  refine ⟨wr, ?_, hI.mo (by omega)⟩
  rcases ht with rfl | rfl | rfl | rfl
  · have ev := ev rfl
    have e7 : wr 238 7 = 0 := e7
    have e2 : fX6_set wc a1 = some (v, wr) := e2
    have e1 : fL_set w a1 = some (0, v, wc) := by
      unfold fL_set fX5_set fX5_strengthTold
      rw [e1, pz_b2, ev]; rfl
    unfold qs_5
    rw [e1, pz_bn, e2, pz_b2, fX6_thrown, e7, pz_b]
    rw [if_pos rfl, if_pos rfl, if_pos rfl]
  · exact absurd (hE (by decide)) (by decide)
  · have e7 : wr 238 7 = 1 := e7
    have e2 : fX6_set wc a1 = some (0, wr) := e2
    have e1 : fL_set w a1 = some (1, 0, wc) := by
      unfold fL_set fX5_set fX5_strengthTold
      rw [e1, pz_b2]; rfl
    unfold qs_5
    rw [e1, pz_bn, e2, pz_b2, fX6_thrown, e7, pz_b]
    rw [if_pos rfl, if_neg (by decide)]
  · have e7 : wr 238 7 = 2 := e7
    have e2 : fX6_set wc a1 = some (0, wr) := e2
    have e1 : fL_set w a1 = some (2, 0, wc) := by
      unfold fL_set fX5_set fX5_strengthTold
      rw [e1, pz_b2]; rfl
    unfold qs_5
    rw [e1, pz_bn, e2, pz_b2, fX6_thrown, e7, pz_b]
    rw [if_pos rfl, if_neg (by decide)]
theorem pq_6 {T : Nat} {w : qMem} (a1 a2 a3 : Int32) (H : pI T w) : ∃ w1 : qMem, qs_6 w a1 a2 a3 = some w1 ∧ pI (T + 2000) w1 := by
  obtain ⟨t, v, wc, wr, e1, ev, e2, e7, hI, ht, hE⟩ := pr_change (po_shock T (fun _ => 0) 0 0) H
  refine ⟨wr, ?_, hI.mo (by omega)⟩
  rcases ht with rfl | rfl | rfl | rfl
  · have ev := ev rfl
    have e7 : wr 238 7 = 0 := e7
    have e2 : fX6_shock wc = some (v, wr) := e2
    have e1 : fX5_shock w = some (v, wc) := by
      unfold fX5_shock
      rw [e1, pz_b2, ev]
    unfold qs_6
    rw [e1, pz_b2, e2, pz_b2, if_pos rfl]
  · exact absurd (hE (by decide)) (by decide)
  · exact absurd (hE (by decide)) (by decide)
  · exact absurd (hE (by decide)) (by decide)
theorem pq_7 {T : Nat} {w : qMem} (a1 a2 a3 : Int32) (H : pI T w) : ∃ w1 : qMem, qs_7 w a1 a2 a3 = some w1 ∧ pI (T + 2000) w1 := by
  obtain ⟨t, v, wc, wr, e1, ev, e2, e7, hI, ht, hE⟩ := pr_change (po_add T a1 0) H
  refine ⟨wr, ?_, hI.mo (by omega)⟩
  rcases ht with rfl | rfl | rfl | rfl
  · have ev := ev rfl
    have e7 : wr 238 7 = 0 := e7
    have e2 : fX6_add wc a1 = some (v, wr) := e2
    have e1 : fL_add w a1 = some (0, v, wc) := by
      unfold fL_add fX5_add fX5_strengthTold
      rw [e1, pz_b2, ev]; rfl
    unfold qs_7
    rw [e1, pz_bn, e2, pz_b2, fX6_thrown, e7, pz_b]
    rw [if_pos rfl, if_pos rfl, if_pos rfl]
  · exact absurd (hE (by decide)) (by decide)
  · have e7 : wr 238 7 = 1 := e7
    have e2 : fX6_add wc a1 = some (0, wr) := e2
    have e1 : fL_add w a1 = some (1, 0, wc) := by
      unfold fL_add fX5_add fX5_strengthTold
      rw [e1, pz_b2]; rfl
    unfold qs_7
    rw [e1, pz_bn, e2, pz_b2, fX6_thrown, e7, pz_b]
    rw [if_pos rfl, if_neg (by decide)]
  · have e7 : wr 238 7 = 2 := e7
    have e2 : fX6_add wc a1 = some (0, wr) := e2
    have e1 : fL_add w a1 = some (2, 0, wc) := by
      unfold fL_add fX5_add fX5_strengthTold
      rw [e1, pz_b2]; rfl
    unfold qs_7
    rw [e1, pz_bn, e2, pz_b2, fX6_thrown, e7, pz_b]
    rw [if_pos rfl, if_neg (by decide)]
theorem pq_8 {T : Nat} {w : qMem} (a1 a2 a3 : Int32) (H : pI T w) : ∃ w1 : qMem, qs_8 w a1 a2 a3 = some w1 ∧ pI (T + 2000) w1 := by
  obtain ⟨t, v, wc, wr, e1, ev, e2, e7, hI, ht, hE⟩ := pr_change (po_perform T 0 0) H
  refine ⟨wr, ?_, hI.mo (by omega)⟩
  rcases ht with rfl | rfl | rfl | rfl
  · have ev := ev rfl
    have e7 : wr 238 7 = 0 := e7
    have e2 : fX6_perform wc = some (v, wr) := e2
    have e1 : fL_perform w = some (0, v, wc) := by
      unfold fL_perform fX5_perform
      rw [e1, pz_b2, ev]; rfl
    unfold qs_8
    rw [e1, pz_bn, e2, pz_b2, fX6_thrown, e7, pz_b]
    rw [if_pos rfl, if_pos rfl, if_pos rfl]
  · exact absurd (hE (by decide)) (by decide)
  · exact absurd (hE (by decide)) (by decide)
  · have e7 : wr 238 7 = 1 := e7
    have e2 : fX6_perform wc = some (0, wr) := e2
    have e1 : fL_perform w = some (1, 0, wc) := by
      unfold fL_perform fX5_perform
      rw [e1, pz_b2]; rfl
    unfold qs_8
    rw [e1, pz_bn, e2, pz_b2, fX6_thrown, e7, pz_b]
    rw [if_pos rfl, if_neg (by decide)]
theorem pq_9 {T : Nat} {w : qMem} (a1 a2 a3 : Int32) (H : pI T w) : ∃ w1 : qMem, qs_9 w a1 a2 a3 = some w1 ∧ pI (T + 2000) w1 := by
  obtain ⟨t, v, wc, wr, e1, ev, e2, e7, hI, ht, hE⟩ := pr_change (po_quiet T (fun _ => 0) 0 0) H
  refine ⟨wr, ?_, hI.mo (by omega)⟩
  rcases ht with rfl | rfl | rfl | rfl
  · have ev := ev rfl
    have e7 : wr 238 7 = 0 := e7
    have e2 : fX6_quiet wc = some (v, wr) := e2
    have e1 : fX5_quiet w = some (v, wc) := by
      unfold fX5_quiet
      rw [e1, pz_b2, ev]
    unfold qs_9
    rw [e1, pz_b2, e2, pz_b2, if_pos rfl]
  · exact absurd (hE (by decide)) (by decide)
  · exact absurd (hE (by decide)) (by decide)
  · exact absurd (hE (by decide)) (by decide)
