/-- a builder's bytes hold the text t -/
def lSB (t : List Int32) (cap : Nat) (f : Nat → Int32) : Prop := qasc t = true ∧ t.length ≤ 60 ∧ t.length ≤ cap ∧ cap ≤ 130 ∧ (∀ j, j < t.length → f j = t.getD j 0) ∧ sb_Fit f
/-- the digits of a number below 100 -/
def ldig (k : Nat) : List Int32 := if k < 10 then [nI (48 + k)] else [nI (48 + k / 10), nI (48 + k % 10)]
theorem ldig_asc : ∀ k, k < 100 → qasc (ldig k) = true := by decide +kernel
theorem ldig_len (k : Nat) : (ldig k).length = if k < 10 then 1 else 2 := by unfold ldig; split <;> rfl
theorem lchr_asc : ∀ k, k < 128 → qasc [nI k] = true := by decide +kernel
theorem lSB_0 : lSB [] 16 (fun _ => 0) := ⟨by decide, by decide, by decide, by decide, fun j hj => absurd hj (by simp), fun _ => (by decide : fits .byte (.int 0) = true)⟩
theorem qasc_app {t u : List Int32} (ht : qasc t = true) (hu : qasc u = true) (hl : (t ++ u).length < 1000) : qasc (t ++ u) = true := by
  simp only [qasc, Bool.and_eq_true, List.all_eq_true, decide_eq_true_eq] at ht hu ⊢
  refine ⟨hl, fun x hx => ?_⟩
  rcases List.mem_append.mp hx with h | h
  · exact ht.2 x h
  · exact hu.2 x h
theorem lSB_app {t u : List Int32} {cap c1 : Nat} {f f1 : Nat → Int32} (h : lSB t cap f) (hu : qasc u = true) (hl : t.length + u.length ≤ 60) (h1 : c1 = lcap (t.length + u.length) cap) (h2 : ∀ j, j < t.length → f1 j = f j) (h3 : ∀ j, j < u.length → f1 (t.length + j) = u.getD j 0) (h4 : sb_Fit f1) : lSB (t ++ u) c1 f1 := by
  obtain ⟨g1, g2, g3, g4, g5, g6⟩ := h
  have hb := lcap_b hl g4
  have hlen : (t ++ u).length = t.length + u.length := List.length_append
  refine ⟨qasc_app g1 hu (by omega), by omega, by omega, by omega, fun j hj => ?_, h4⟩
  by_cases hj1 : j < t.length
  · rw [h2 j hj1, g5 j hj1]
    simp only [List.getD_eq_getElem?_getD]
    rw [List.getElem?_append_left hj1]
  · have := h3 (j - t.length) (by omega)
    rw [show t.length + (j - t.length) = j by omega] at this
    rw [this]
    simp only [List.getD_eq_getElem?_getD]
    rw [List.getElem?_append_right (by omega)]
theorem lSB_aps {t u : List Int32} {cap a b : Nat} {f : Nat → Int32} {x : Nat × Nat × (Nat → Int32)} (h : lSB t cap f) (hu : qasc u = true) (hl : t.length + u.length ≤ 60) (hY : a = b ∧ x.2.1 = lcap (t.length + u.length) cap ∧ (∀ j, j < t.length → x.2.2 j = f j) ∧ (∀ j, j < u.length → x.2.2 (t.length + j) = u.getD j 0) ∧ sb_Fit x.2.2) : a = b ∧ lSB (t ++ u) x.2.1 x.2.2 := ⟨hY.1, lSB_app h hu hl hY.2.1 hY.2.2.1 hY.2.2.2.1 hY.2.2.2.2⟩
theorem lSB_apc {t : List Int32} {cap a b k : Nat} {f : Nat → Int32} {x : Nat × Nat × (Nat → Int32)} (h : lSB t cap f) (hk : k < 128) (hl : t.length + 1 ≤ 60) (hY : a = b ∧ x.2.1 = lcap (t.length + 1) cap ∧ (∀ j, j < t.length → x.2.2 j = f j) ∧ (∀ j, j < 1 → x.2.2 (t.length + j) = nI k) ∧ sb_Fit x.2.2) : a = b ∧ lSB (t ++ [nI k]) x.2.1 x.2.2 := ⟨hY.1, lSB_app h (lchr_asc k hk) hl hY.2.1 hY.2.2.1 (fun j hj => by
  have hj1 : j < 1 := hj
  rw [hY.2.2.2.1 j hj1, show j = 0 by omega]; rfl) hY.2.2.2.2⟩
theorem lSB_api {t : List Int32} {cap a b k : Nat} {f : Nat → Int32} {x : Nat × Nat × (Nat → Int32)} (h : lSB t cap f) (hk : k < 100) (hl : t.length + 2 ≤ 60) (hY : a = b ∧ x.2.1 = lcap (t.length + (if k < 10 then 1 else 2)) cap ∧ (∀ j, j < t.length → x.2.2 j = f j) ∧ (∀ j, j < (if k < 10 then 1 else 2) → x.2.2 (t.length + j) = if j + 1 = (if k < 10 then 1 else 2) then nI (48 + k % 10) else nI (48 + k / 10)) ∧ sb_Fit x.2.2) : a = b ∧ lSB (t ++ ldig k) x.2.1 x.2.2 := by
  refine ⟨hY.1, lSB_app h (ldig_asc k hk) (by rw [ldig_len]; split <;> omega) (by rw [ldig_len]; exact hY.2.1) hY.2.2.1 (fun j hj => ?_) hY.2.2.2.2⟩
  rw [ldig_len] at hj
  rw [hY.2.2.2.1 j hj]
  unfold ldig
  by_cases h10 : k < 10
  · simp only [if_pos h10] at hj ⊢
    have : j = 0 := by omega
    subst this
    rw [if_pos (by omega), show k % 10 = k by omega]; rfl
  · simp only [if_neg h10] at hj ⊢
    rcases (show j = 0 ∨ j = 1 by omega) with rfl | rfl
    · rw [if_neg (by omega)]; rfl
    · rw [if_pos (by omega)]; rfl
theorem lq_nI {x : Int32} {N : Nat} (h : qin x N = true) (hN : N ≤ 2 ^ 31) : x = nI x.toNatClampNeg := by
  have h0 : (0 : Int32) ≤ x := Int32.not_lt.mp (lq_nn h)
  have h1 : 0 ≤ x.toInt := Int32.le_iff_toInt_le.mp h0
  apply Int32.toInt_inj.mp
  have h2 : x.toNatClampNeg = x.toInt.toNat := rfl
  have h3 := x.toInt_lt
  rw [h2]
  show x.toInt = (Int32.ofNat x.toInt.toNat).toInt
  rw [Int32.toInt_ofNat_of_lt (by omega)]
  omega
def lSD (b L : Nat) (xs : Nat → Int32) (o1 o2 : Nat) (A : Nat → Prop) (U : State) (H : Heap) : Prop := lSc b L xs A U H ∧ lDg o1 o2 A U H
theorem lSD_k {b L o1 o2 : Nat} {xs : Nat → Int32} : qXk (lSD b L xs o1 o2) := fun A B s U H H1 h ha hq hAB => ⟨lSc_k A B s U H H1 h.1 ha hq hAB, lDg_k A B s U H H1 h.2 ha hq hAB⟩
theorem lad_lt {s : State} {H : Heap} {locs : List Loc} {D : va_G} {G : Nat → ClassId} {ad : Nat → Nat} {X0 ex g : va_W} {w : qMem} (hR : lR D X0 (lX (qcells G ad w) ex g) s H locs) : ∀ k, k < 238 → ad k < H.size := fun k hk => (lP_in hR.1 _ (lX_mc (ex := ex) (g := g) (G := G) (ad := ad) (w := w) (k := k) hk)).lt
