-- orders: counting
def pCt (p : Nat → Bool) : Nat → Nat
  | 0 => 0
  | i + 1 => pCt p i + (if p i = true then 1 else 0)
theorem pCt_t {p : Nat → Bool} {i : Nat} (h : p i = true) : pCt p (i + 1) = pCt p i + 1 := by simp only [pCt]; rw [if_pos h]
theorem pCt_f {p : Nat → Bool} {i : Nat} (h : ¬ p i = true) : pCt p (i + 1) = pCt p i := by simp only [pCt]; rw [if_neg h]; rfl
theorem pCt_mo {p q : Nat → Bool} : ∀ n, (∀ i, i < n → p i = true → q i = true) → pCt p n ≤ pCt q n
  | 0, _ => Nat.le_refl 0
  | n + 1, h => by
    have ih := pCt_mo n (fun i hi => h i (by omega))
    by_cases z : p n = true
    · rw [pCt_t z, pCt_t (h n (by omega) z)]; omega
    · rw [pCt_f z]
      by_cases y : q n = true
      · rw [pCt_t y]; omega
      · rw [pCt_f y]; exact ih
theorem pCt_eq {p q : Nat → Bool} : ∀ n, (∀ i, i < n → p i = q i) → pCt p n = pCt q n
  | 0, _ => rfl
  | n + 1, h => by
    have ih := pCt_eq n (fun i hi => h i (by omega))
    simp only [pCt]; rw [ih, h n (by omega)]
theorem pCt_lt {p q : Nat → Bool} : ∀ n, (∀ i, i < n → p i = true → q i = true) → (∃ i, i < n ∧ q i = true ∧ ¬ p i = true) → pCt p n < pCt q n
  | 0, _, ⟨i, hi, _⟩ => absurd hi (Nat.not_lt_zero _)
  | n + 1, h, ⟨i, hi, h1, h2⟩ => by
    by_cases z : i = n
    · subst z
      have := pCt_mo i (p := p) (q := q) (fun j hj => h j (by omega))
      rw [pCt_f h2, pCt_t h1]; omega
    · have ih := pCt_lt n (fun j hj => h j (by omega)) ⟨i, by omega, h1, h2⟩
      by_cases y : p n = true
      · rw [pCt_t y, pCt_t (h n (by omega) y)]; omega
      · rw [pCt_f y]
        by_cases x : q n = true
        · rw [pCt_t x]; omega
        · rw [pCt_f x]; exact ih
theorem pCt_all : ∀ n, pCt (fun _ => true) n = n
  | 0 => rfl
  | n + 1 => by rw [pCt_t rfl, pCt_all n]
theorem pCt_rm {q : Nat → Bool} {a : Nat} : ∀ n, a < n → q a = true → pCt (fun v => q v && decide (v ≠ a)) n + 1 = pCt q n
  | 0, h, _ => absurd h (Nat.not_lt_zero _)
  | n + 1, h, hq => by
    by_cases z : a = n
    · subst z
      have e : pCt (fun v => q v && decide (v ≠ a)) a = pCt q a := pCt_eq a (fun i hi => by rw [decide_eq_true (show i ≠ a by omega), Bool.and_true])
      rw [pCt_t hq, pCt_f (p := fun v => q v && decide (v ≠ a)) (by simp), e]
    · have ih := pCt_rm n (by omega) hq
      have e : (q n && decide (n ≠ a)) = q n := by rw [decide_eq_true (show n ≠ a by omega), Bool.and_true]
      by_cases y : q n = true
      · rw [pCt_t y, pCt_t (p := fun v => q v && decide (v ≠ a)) (e.trans y)]; omega
      · rw [pCt_f y, pCt_f (p := fun v => q v && decide (v ≠ a)) (fun h => y (e.symm.trans h))]; exact ih
theorem pCt_in {p : Nat → Bool} {f : Nat → Nat} {M : Nat} : ∀ (n : Nat) (q : Nat → Bool), (∀ i, i < n → p i = true → f i < M ∧ q (f i) = true) → (∀ i j, i < n → j < n → p i = true → p j = true → f i = f j → i = j) → pCt p n ≤ pCt q M
  | 0, _, _, _ => Nat.zero_le _
  | n + 1, q, h1, h2 => by
    by_cases z : p n = true
    · obtain ⟨g1, g2⟩ := h1 n (by omega) z
      have ih := pCt_in n (fun v => q v && decide (v ≠ f n)) (fun i hi hp => ⟨(h1 i (by omega) hp).1, by
        have hne : f i ≠ f n := fun e => absurd (h2 i n (by omega) (by omega) hp z e) (by omega)
        show (q (f i) && decide (f i ≠ f n)) = true
        rw [(h1 i (by omega) hp).2, decide_eq_true hne]; rfl⟩) (fun i j hi hj => h2 i j (by omega) (by omega))
      have := pCt_rm M g1 g2
      rw [pCt_t z]; omega
    · rw [pCt_f z]
      exact pCt_in n q (fun i hi => h1 i (by omega)) (fun i j hi hj => h2 i j (by omega) (by omega))
theorem pCt_on {p : Nat → Bool} {f : Nat → Nat} {n : Nat} (h1 : ∀ i, i < n → p i = true → f i < pCt p n) (h2 : ∀ i j, i < n → j < n → p i = true → p j = true → f i = f j → i = j) (r : Nat) (hr : r < pCt p n) : ∃ i, i < n ∧ p i = true ∧ f i = r := by
  refine Classical.byContradiction fun hno => ?_
  have key := pCt_in (M := pCt p n) n (fun v => decide (v ≠ r)) (fun i hi hp => ⟨h1 i hi hp, decide_eq_true (fun e => hno ⟨i, hi, hp, e⟩)⟩) h2
  have e := pCt_rm (q := fun _ => true) (a := r) (pCt p n) hr rfl
  have e3 : pCt (fun v => true && decide (v ≠ r)) (pCt p n) = pCt (fun v => decide (v ≠ r)) (pCt p n) := pCt_eq _ (fun i _ => Bool.true_and _)
  rw [e3, pCt_all] at e
  omega
-- a prop's key, its rank
def pKy (p : Nat → Int32) : Nat := if p 0 = 1 then 100 * (p 2).toNatClampNeg + 50 - (p 3).toNatClampNeg else if p 0 = 2 then 100 * (p 3).toNatClampNeg + (p 2).toNatClampNeg else (p 6).toNatClampNeg
def pOf (P : Nat → Nat → Int32) (k : Int32) (i j : Nat) : Bool := decide (P j 0 = k ∧ (pKy (P i) < pKy (P j) ∨ (pKy (P j) = pKy (P i) ∧ j < i)))
def pRk (P : Nat → Nat → Int32) (k : Int32) (n i : Nat) : Nat := pCt (pOf P k i) n
theorem pOf_i {P : Nat → Nat → Int32} {k : Int32} {i j : Nat} : pOf P k i j = true ↔ (P j 0 = k ∧ (pKy (P i) < pKy (P j) ∨ (pKy (P j) = pKy (P i) ∧ j < i))) := decide_eq_true_iff
theorem pKn_ct (P : Nat → Nat → Int32) (k : Int32) : ∀ n, pKn P k n = pCt (fun j => decide (P j 0 = k)) n
  | 0 => rfl
  | n + 1 => by
    simp only [pKn, pCt]
    rw [pKn_ct P k n]
    by_cases z : P n 0 = k
    · rw [if_pos z, if_pos (decide_eq_true z)]
    · rw [if_neg z, if_neg (fun h => z (of_decide_eq_true h))]
theorem pRk_lt {P : Nat → Nat → Int32} {k : Int32} {n i : Nat} (hi : i < n) (hk : P i 0 = k) : pRk P k n i < pKn P k n := by
  rw [pKn_ct]
  refine pCt_lt n (fun j _ hj => decide_eq_true (pOf_i.mp hj).1) ⟨i, hi, decide_eq_true hk, fun h => ?_⟩
  have := (pOf_i.mp h).2
  omega
theorem pRk_le {P : Nat → Nat → Int32} {k : Int32} {n i j : Nat} (hi : i < n) (hk : P i 0 = k) (h : pKy (P j) < pKy (P i) ∨ (pKy (P i) = pKy (P j) ∧ i < j)) : pRk P k n i < pRk P k n j := by
  refine pCt_lt n (fun l _ hl => ?_) ⟨i, hi, pOf_i.mpr ⟨hk, h⟩, fun y => ?_⟩
  · have := pOf_i.mp hl
    exact pOf_i.mpr ⟨this.1, by have := this.2; omega⟩
  · have := (pOf_i.mp y).2
    omega
theorem pRk_in {P : Nat → Nat → Int32} {k : Int32} {n i j : Nat} (hi : i < n) (hj : j < n) (hk : P i 0 = k) (hk2 : P j 0 = k) (e : pRk P k n i = pRk P k n j) : i = j := by
  refine Classical.byContradiction fun hne => ?_
  by_cases h : pKy (P j) < pKy (P i) ∨ (pKy (P i) = pKy (P j) ∧ i < j)
  · have := pRk_le hi hk h; omega
  · have := pRk_le (j := i) hj hk2 (by omega); omega
theorem pRk_on {P : Nat → Nat → Int32} {k : Int32} {n r : Nat} (hr : r < pKn P k n) : ∃ i, i < n ∧ P i 0 = k ∧ pRk P k n i = r := by
  rw [pKn_ct] at hr
  obtain ⟨i, h1, h2, h3⟩ := pCt_on (p := fun j => decide (P j 0 = k)) (f := pRk P k n) (n := n) (fun i hi hp => by rw [← pKn_ct]; exact pRk_lt hi (of_decide_eq_true hp)) (fun i j hi hj hp hq e => pRk_in hi hj (of_decide_eq_true hp) (of_decide_eq_true hq) e) r hr
  exact ⟨i, h1, of_decide_eq_true h2, h3⟩
theorem pKy_1 {T : Nat} {p : Nat → Int32} (h : pWF T p) (h0 : p 0 = 1) : ∃ m d, m ≤ 9 ∧ d ≤ 3 ∧ p 2 = nI m ∧ p 3 = nI d ∧ pKy p = 100 * m + 50 - d := by
  obtain ⟨f, m, d, cu, t, ⟨_, hm, _, _⟩, _, h2, h3, _, _, hk⟩ := h
  rcases hk with ⟨_, _, hd, _, _⟩ | ⟨z, _⟩ | ⟨z, _⟩
  · refine ⟨m, d, hm, hd, h2, h3, ?_⟩
    unfold pKy
    rw [if_pos h0, h2, h3, nI_clamp (by omega), nI_clamp (by omega)]
  · exact absurd (h0.symm.trans z) (by decide)
  · exact absurd (h0.symm.trans z) (by decide)
theorem pKy_2 {T : Nat} {p : Nat → Int32} (h : pWF T p) (h0 : p 0 = 2) : ∃ m d, m ≤ 9 ∧ d ≤ 40 ∧ p 2 = nI m ∧ p 3 = nI d ∧ pKy p = 100 * d + m := by
  obtain ⟨f, m, d, cu, t, ⟨_, hm, _, _⟩, _, h2, h3, _, _, hk⟩ := h
  rcases hk with ⟨z, _⟩ | ⟨_, _, hd, _⟩ | ⟨z, _⟩
  · exact absurd (h0.symm.trans z) (by decide)
  · refine ⟨m, d, hm, hd, h2, h3, ?_⟩
    unfold pKy
    rw [if_neg (by rw [h0]; decide), if_pos h0, h2, h3, nI_clamp (by omega), nI_clamp (by omega)]
  · exact absurd (h0.symm.trans z) (by decide)
theorem pKy_3 {T : Nat} (hT : T < 2 ^ 30) {p : Nat → Int32} (h : pWF T p) (h0 : p 0 = 3) : ∃ t, t ≤ T ∧ p 6 = nI t ∧ pKy p = t := by
  obtain ⟨f, m, d, cu, t, ⟨_, hm, _, ht⟩, _, h2, h3, _, h6, hk⟩ := h
  refine ⟨t, ht, h6, ?_⟩
  unfold pKy
  rw [if_neg (by rw [h0]; decide), if_neg (by rw [h0]; decide), h6, nI_clamp (by omega)]
-- the class compares
theorem pj_cmp (w : qMem) (a b : Int32) : ∃ r : Int32, fJ6_compare_7cf53 w a b = some r := by
  unfold fJ6_compare_7cf53
  by_cases z : b ≤ a
  · rw [if_pos z]
    by_cases y : a = b
    · rw [if_pos y]; exact ⟨_, rfl⟩
    · rw [if_neg y]; exact ⟨_, rfl⟩
  · rw [if_neg z]; exact ⟨_, rfl⟩
theorem pj_cmpN (w : qMem) {a b : Nat} (ha : a < 2 ^ 31) (hb : b < 2 ^ 31) : ∃ r : Int32, fJ6_compare_7cf53 w (nI a) (nI b) = some r ∧ (r < 0 ↔ a < b) ∧ (r = 0 ↔ a = b) := by
  unfold fJ6_compare_7cf53
  by_cases z : b ≤ a
  · rw [if_pos (nI_le z ha)]
    by_cases y : a = b
    · rw [if_pos (by rw [y])]
      exact ⟨0, rfl, ⟨fun h => absurd h (by decide), fun h => by omega⟩, ⟨fun _ => y, fun _ => rfl⟩⟩
    · rw [if_neg (fun h => y ((nI_eq ha hb).mp h))]
      exact ⟨1, rfl, ⟨fun h => absurd h (by decide), fun h => by omega⟩, ⟨fun h => absurd h (by decide), fun h => absurd h y⟩⟩
  · rw [if_neg (fun h => z ((nI_leI hb ha).mp h))]
    exact ⟨-1, rfl, ⟨fun _ => by omega, fun _ => by decide⟩, ⟨fun h => absurd h (by decide), fun h => by omega⟩⟩
theorem pc_ord0 (w : qMem) (c c1 : Nat) : ∃ r : Int32, fX3_orderTo w c c1 = some r := by
  unfold fX3_orderTo
  obtain ⟨r1, e1⟩ := pj_cmp w (w c1 2) (w c 2)
  obtain ⟨r2, e2⟩ := pj_cmp w (w c 3) (w c1 3)
  obtain ⟨r3, e3⟩ := pj_cmp w (w c1 3) (w c 3)
  obtain ⟨r4, e4⟩ := pj_cmp w (w c1 6) (w c 6)
  by_cases z : w c 0 = 1
  · rw [if_pos z, e1, pz_b]
    by_cases y : r1 = 0
    · rw [if_pos y, e2]; exact ⟨_, rfl⟩
    · rw [if_neg y]; exact ⟨_, rfl⟩
  · rw [if_neg z]
    by_cases x : w c 0 = 2
    · rw [if_pos x, e3, pz_b]
      by_cases y : r3 = 0
      · rw [if_pos y, e1]; exact ⟨_, rfl⟩
      · rw [if_neg y]; exact ⟨_, rfl⟩
    · rw [if_neg x, e4]; exact ⟨_, rfl⟩
theorem pc_ord {w : qMem} {c c1 T : Nat} {p q : Nat → Int32} (hT : T < 2 ^ 30) (hp : pWF T p) (hq : pWF T q) (e : pAg (w c) p) (e1 : pAg (w c1) q) (hk : p 0 = q 0) : ∃ r : Int32, fX3_orderTo w c c1 = some r ∧ (r < 0 ↔ pKy q < pKy p) ∧ (r = 0 ↔ pKy p = pKy q) := by
  unfold fX3_orderTo
  rw [e 0 (by decide), e 2 (by decide), e 3 (by decide), e 6 (by decide), e1 2 (by decide), e1 3 (by decide), e1 6 (by decide)]
  rcases hp.k with h0 | h0 | h0
  · obtain ⟨m, d, hm, hd, p2, p3, kp⟩ := pKy_1 hp h0
    obtain ⟨m', d', hm', hd', q2, q3, kq⟩ := pKy_1 hq (hk.symm.trans h0)
    obtain ⟨r1, c1, a1, b1⟩ := pj_cmpN w (a := m') (b := m) (by omega) (by omega)
    obtain ⟨r2, c2, a2, b2⟩ := pj_cmpN w (a := d) (b := d') (by omega) (by omega)
    rw [if_pos h0, p2, q2, p3, q3, kp, kq, c1, pz_b]
    by_cases z : r1 = 0
    · have := b1.mp z
      rw [if_pos z, c2, pz_b]
      exact ⟨r2, rfl, by rw [a2]; omega, by rw [b2]; omega⟩
    · have nz : ¬ m' = m := fun q => z (b1.mpr q)
      rw [if_neg z]
      exact ⟨r1, rfl, by rw [a1]; omega, ⟨fun y => absurd y z, fun y => by exfalso; omega⟩⟩
  · obtain ⟨m, d, hm, hd, p2, p3, kp⟩ := pKy_2 hp h0
    obtain ⟨m', d', hm', hd', q2, q3, kq⟩ := pKy_2 hq (hk.symm.trans h0)
    obtain ⟨r1, c1, a1, b1⟩ := pj_cmpN w (a := d') (b := d) (by omega) (by omega)
    obtain ⟨r2, c2, a2, b2⟩ := pj_cmpN w (a := m') (b := m) (by omega) (by omega)
    rw [if_neg (show ¬ p 0 = 1 by rw [h0]; decide), if_pos h0, p2, q2, p3, q3, kp, kq, c1, pz_b]
    by_cases z : r1 = 0
    · have := b1.mp z
      rw [if_pos z, c2, pz_b]
      exact ⟨r2, rfl, by rw [a2]; omega, by rw [b2]; omega⟩
    · have nz : ¬ d' = d := fun q => z (b1.mpr q)
      rw [if_neg z]
      exact ⟨r1, rfl, by rw [a1]; omega, ⟨fun y => absurd y z, fun y => by exfalso; omega⟩⟩
  · obtain ⟨t, ht, p6, kp⟩ := pKy_3 hT hp h0
    obtain ⟨t', ht', q6, kq⟩ := pKy_3 hT hq (hk.symm.trans h0)
    obtain ⟨r1, c1, a1, b1⟩ := pj_cmpN w (a := t') (b := t) (by omega) (by omega)
    rw [if_neg (show ¬ p 0 = 1 by rw [h0]; decide), if_neg (show ¬ p 0 = 2 by rw [h0]; decide), p6, q6, kp, kq, c1, pz_b]
    exact ⟨r1, rfl, by rw [a1], by rw [b1]; omega⟩
-- the reference compares
theorem pj_subN {a b : Nat} (ha : a < 2 ^ 30) (hb : b < 2 ^ 30) : (0 < nI a - nI b ↔ b < a) ∧ (nI a - nI b = 0 ↔ a = b) := by
  have e := pk_sub_toInt ha hb
  have z : (0 : Int32).toInt = 0 := by decide
  constructor
  · rw [Int32.lt_iff_toInt_lt, e, z]; omega
  · rw [← Int32.toInt_inj, e, z]; omega
