-- reading the memory
theorem pz_nm {α β : Type} (e : α) (k : α → β) : qnm e k = k e := rfl
theorem pz_b {α β : Type} (x : α) (k : α → Option β) : qbd (some x) k = k x := rfl
theorem pz_b2 {α γ β : Type} (x : α) (y : γ) (k : α → γ → Option β) : qbd2 (some (x, y)) k = k x y := rfl
theorem pz_b3 {α γ δ β : Type} (x : α) (y : γ) (z : δ) (k : α → γ → δ → Option β) : qbd3 (some (x, y, z)) k = k x y z := rfl
theorem pz_r {w : qMem} {c : Nat} {g : Nat → Int32} : qur w c g c = g := if_pos rfl
theorem pz_rn {w : qMem} {c c' : Nat} {g : Nat → Int32} (h : c' ≠ c) : qur w c g c' = w c' := if_neg h
theorem pz_w {w : qMem} {c k : Nat} {v : Int32} : quw w c k v c k = v := by simp [quw, qur, upd]
theorem pz_wk {w : qMem} {c k k' : Nat} {v : Int32} (h : k' ≠ k) : quw w c k v c k' = w c k' := by simp [quw, qur, upd, h]
theorem pz_wn {w : qMem} {c c' k k' : Nat} {v : Int32} (h : c' ≠ c) : quw w c k v c' k' = w c' k' := by simp [quw, qur, h]
theorem pz_wr {w : qMem} {c k : Nat} {v : Int32} : quw w c k v = qur w c (upd (w c) k v) := rfl
theorem pz_rr {w : qMem} {c : Nat} {g g1 : Nat → Int32} : qur (qur w c g) c g1 = qur w c g1 := by
  funext c'; by_cases h : c' = c <;> simp [qur, h]
theorem pz_rs (w : qMem) (c : Nat) : qur w c (w c) = w := by
  funext c'; by_cases h : c' = c
  · subst h; exact pz_r
  · exact pz_rn h
theorem pz_u {f : Nat → Int32} {k : Nat} {v : Int32} : upd f k v k = v := if_pos rfl
theorem pz_un {f : Nat → Int32} {k j : Nat} {v : Int32} (h : j ≠ k) : upd f k v j = f j := if_neg h
theorem pz_us (f : Nat → Int32) (k : Nat) : upd f k (f k) = f := by
  funext j; by_cases h : j = k
  · subst h; exact pz_u
  · exact pz_un h
theorem pz_qin {i n : Nat} (h : i < n) (hn : n < 2 ^ 31) : qin (nI i) n = true := by
  have : i < 2 ^ 31 := by omega
  simp only [qin, Bool.and_eq_true, decide_eq_true_eq, nI_toInt this]
  omega
theorem pz_nI {n : Nat} (h : n < 2 ^ 31) : (nI n).toNatClampNeg = n := nI_clamp h
theorem pz_P {h i : Nat} (hh : h < 12) (hi : i < 12) : qisPb (19 * h + 2 + i) = true := by
  simp only [qisPb, Bool.and_eq_true, decide_eq_true_eq]
  omega
theorem pz_at {w : qMem} {h i n : Nat} (hh : h < 12) (hn : n ≤ 12) (hi : i < n) (hw : w (19 * h) 2 = nI n) : fX0_propAt w h (nI i) = some (19 * h + 2 + i) := by
  have h1 : ¬ nI i < 0 := nI_pos (by omega)
  have h2 : ¬ nI n ≤ nI i := nI_ge (by omega) (by omega)
  have h3 : nI i < 12 := nI_lt (b := 12) (by omega) (by omega)
  simp only [fX0_propAt, hw]
  rw [if_neg h1, if_neg h2, if_pos h3, if_pos (pz_qin (by omega) (by omega)), pz_nI (by omega)]
theorem pz_B {x : Int32} (h : x = 0 ∨ x = 1) : qisB x = true := by
  rcases h with h | h <;> subst h <;> decide
-- a prop of the reference's row
def pzS (s : Nat → Int32) (i : Nat) : Nat → Int32 := fun k => s (15 + 7 * i + k)
def pzR (s : Nat → Int32) (i : Nat) (p : Nat → Int32) : Nat → Int32 := fun j => if 15 + 7 * i ≤ j ∧ j < 22 + 7 * i then p (j - (15 + 7 * i)) else s j
theorem pzR_s (s : Nat → Int32) (i : Nat) : pzR s i (pzS s i) = s := by
  funext j; simp only [pzR, pzS]
  split
  · congr 1; omega
  · rfl
theorem pzR_u (s : Nat → Int32) (i : Nat) (p : Nat → Int32) (k : Nat) (v : Int32) (h : k < 7) : upd (pzR s i p) (15 + 7 * i + k) v = pzR s i (upd p k v) := by
  funext j; simp only [pzR, upd]
  by_cases h1 : j = 15 + 7 * i + k
  · subst h1
    rw [if_pos rfl, if_pos (by omega), if_pos (by omega)]
  · rw [if_neg h1]
    split
    · rw [if_neg (by omega)]
    · rfl
theorem pzR_k (s : Nat → Int32) (i : Nat) (p : Nat → Int32) (k : Nat) (h : k < 7) : pzR s i p (15 + 7 * i + k) = p k := by
  simp only [pzR]
  rw [if_pos (by omega)]
  congr 1; omega
theorem pzR_n (s : Nat → Int32) (i : Nat) (p : Nat → Int32) (j : Nat) (h : j < 15 + 7 * i ∨ 22 + 7 * i ≤ j) : pzR s i p j = s j := by
  simp only [pzR]
  rw [if_neg (by omega)]
theorem pz_of0 (i k : Nat) : (15 + 7 * nI i) + nI k = nI (15 + 7 * i + k) := by
  have e : (7 : Int32) * nI i = nI (7 * i) := pk_mul 7 i
  have e2 : (15 : Int32) = nI 15 := rfl
  rw [e, e2, nI_add, nI_add]
