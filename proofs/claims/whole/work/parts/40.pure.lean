-- every step, every run
def pS0 : pSt := (0, fun _ _ => 0, 0, fun _ => 0, fun k => if k = 0 then 1 else 0)
theorem pS0_W : pW 0 pS0 := ⟨by decide, fun i hi => absurd hi (Nat.not_lt_zero _), by decide, fun j hj => absurd hj (Nat.not_lt_zero _), ⟨1, by decide, by decide, rfl⟩, fun f _ k _ => Nat.zero_le 5⟩
theorem pI_0 : pI 0 qw0 := by
  refine ⟨⟨pS0, pS0_W, ⟨⟨rfl, fun i hi => absurd hi (Nat.not_lt_zero _)⟩, rfl, fun j hj => absurd hj (Nat.not_lt_zero _), fun k hk => ?_⟩, ⟨⟨rfl, fun i hi => absurd hi (Nat.not_lt_zero _)⟩, rfl, fun j hj => absurd hj (Nat.not_lt_zero _), fun k hk => ?_⟩⟩, ⟨0, 0, by decide, by decide, rfl, rfl, rfl, fun j hj => absurd hj (Nat.not_lt_zero _)⟩, Or.inl ⟨rfl, rfl⟩, ⟨0, by decide, rfl, rfl, fun j hj => absurd hj (Nat.not_lt_zero _)⟩, ⟨0, by decide, rfl, rfl, fun j hj => absurd hj (Nat.not_lt_zero _)⟩, rfl, rfl, rfl⟩
  · rcases k with _ | _ | _ | _ | _ | k
    · rfl
    · rfl
    · rfl
    · rfl
    · rfl
    · omega
  · rcases k with _ | _ | _ | _ | _ | k
    · rfl
    · rfl
    · rfl
    · rfl
    · rfl
    · omega
theorem pq_step {T : Nat} {w : qMem} (hT : T < 2 ^ 30) (H : pI T w) (op a1 a2 a3 : Int32) : ∃ w1 : qMem, qstep w op a1 a2 a3 = some w1 ∧ pI (T + 2000) w1 := by
  unfold qstep
  by_cases c_0 : op = 0
  · rw [if_pos c_0]; exact pq_0 a1 a2 a3 H
  rw [if_neg c_0]
  by_cases c_1 : op = 1
  · rw [if_pos c_1]; exact pq_1 a1 a2 a3 H
  rw [if_neg c_1]
  by_cases c_2 : op = 2
  · rw [if_pos c_2]; exact pq_2 a1 a2 a3 H
  rw [if_neg c_2]
  by_cases c_3 : op = 3
  · rw [if_pos c_3]; exact pq_3 a1 a2 a3 H
  rw [if_neg c_3]
  by_cases c_4 : op = 4
  · rw [if_pos c_4]; exact pq_4 a1 a2 a3 H
  rw [if_neg c_4]
  by_cases c_5 : op = 5
  · rw [if_pos c_5]; exact pq_5 a1 a2 a3 H
  rw [if_neg c_5]
  by_cases c_6 : op = 6
  · rw [if_pos c_6]; exact pq_6 a1 a2 a3 H
  rw [if_neg c_6]
  by_cases c_7 : op = 7
  · rw [if_pos c_7]; exact pq_7 a1 a2 a3 H
  rw [if_neg c_7]
  by_cases c_8 : op = 8
  · rw [if_pos c_8]; exact pq_8 a1 a2 a3 H
  rw [if_neg c_8]
  by_cases c_9 : op = 9
  · rw [if_pos c_9]; exact pq_9 a1 a2 a3 H
  rw [if_neg c_9]
  by_cases c_10 : op = 10
  · rw [if_pos c_10]; exact pq_10 a1 a2 a3 H
  rw [if_neg c_10]
  by_cases c_11 : op = 11
  · rw [if_pos c_11]; exact pq_11 a1 a2 a3 H
  rw [if_neg c_11]
  by_cases c_12 : op = 12
  · rw [if_pos c_12]; exact pq_12 a1 a2 a3 H
  rw [if_neg c_12]
  by_cases c_13 : op = 13
  · rw [if_pos c_13]; exact pq_13 a1 a2 a3 H
  rw [if_neg c_13]
  by_cases c_14 : op = 14
  · rw [if_pos c_14]; exact pq_14 a1 a2 a3 H
  rw [if_neg c_14]
  by_cases c_15 : op = 15
  · rw [if_pos c_15]; exact pq_15 a1 a2 a3 H
  rw [if_neg c_15]
  by_cases c_16 : op = 16
  · rw [if_pos c_16]; exact pq_16 a1 a2 a3 H
  rw [if_neg c_16]
  by_cases c_17 : op = 17
  · rw [if_pos c_17]; exact pq_17 a1 a2 a3 H
  rw [if_neg c_17]
  by_cases c_18 : op = 18
  · rw [if_pos c_18]; exact pq_18 a1 a2 a3 H
  rw [if_neg c_18]
  by_cases c_19 : op = 19
  · rw [if_pos c_19]; exact pq_19 a1 a2 a3 H
  rw [if_neg c_19]
  by_cases c_20 : op = 20
  · rw [if_pos c_20]; exact pq_20 hT a1 a2 a3 H
  rw [if_neg c_20]
  by_cases c_21 : op = 21
  · rw [if_pos c_21]; exact pq_21 hT a1 a2 a3 H
  rw [if_neg c_21]
  by_cases c_22 : op = 22
  · rw [if_pos c_22]; exact pq_22 hT a1 a2 a3 H
  rw [if_neg c_22]
  by_cases c_23 : op = 23
  · rw [if_pos c_23]; exact pq_23 a1 a2 a3 H
  rw [if_neg c_23]
  by_cases c_24 : op = 24
  · rw [if_pos c_24]; exact pq_24 a1 a2 a3 H
  rw [if_neg c_24]
  by_cases c_25 : op = 25
  · rw [if_pos c_25]; exact pq_25 a1 a2 a3 H
  rw [if_neg c_25]
  by_cases c_26 : op = 26
  · rw [if_pos c_26]; exact pq_26 a1 a2 a3 H
  rw [if_neg c_26]
  by_cases c_27 : op = 27
  · rw [if_pos c_27]; exact pq_27 a1 a2 a3 H
  rw [if_neg c_27]
  by_cases c_28 : op = 28
  · rw [if_pos c_28]; exact pq_28 a1 a2 a3 H
  rw [if_neg c_28]
  by_cases c_29 : op = 29
  · rw [if_pos c_29]; exact pq_29 a1 a2 a3 H
  rw [if_neg c_29]
  by_cases c_30 : op = 30
  · rw [if_pos c_30]; exact pq_30 a1 a2 a3 H
  rw [if_neg c_30]
  by_cases c_31 : op = 31
  · rw [if_pos c_31]; exact pq_31 a1 a2 a3 H
  rw [if_neg c_31]
  by_cases c_32 : op = 32
  · rw [if_pos c_32]; exact pq_32 a1 a2 a3 H
  rw [if_neg c_32]
  by_cases c_33 : op = 33
  · rw [if_pos c_33]; exact pq_33 a1 a2 a3 H
  rw [if_neg c_33]
  by_cases c_34 : op = 34
  · rw [if_pos c_34]; exact pq_34 a1 a2 a3 H
  rw [if_neg c_34]
  by_cases c_35 : op = 35
  · rw [if_pos c_35]; exact pq_35 a1 a2 a3 H
  rw [if_neg c_35]
  by_cases c_36 : op = 36
  · rw [if_pos c_36]; exact pq_36 a1 a2 a3 H
  rw [if_neg c_36]
  by_cases c_37 : op = 37
  · rw [if_pos c_37]; exact pq_37 a1 a2 a3 H
  rw [if_neg c_37]
  exact ⟨w, rfl, H.mo (by omega)⟩
theorem pq_run (xs : Nat → Int32) : ∀ (n i T : Nat) (w : qMem), T + 2000 * n < 2 ^ 30 → pI T w → qrun xs n i w
  | 0, _, _, _, _, _ => trivial
  | n + 1, i, T, w, hT, H => by
    obtain ⟨w1, e1, H1⟩ := pq_step (by omega) H (xs i &&& 63) (xs (i + 1)) (xs (i + 2)) (xs (i + 3))
    exact ⟨w1, e1, pq_run xs n (i + 4) (T + 2000) w1 (by omega) H1⟩
theorem pure_run (xs : Nat → Int32) (n : Nat) (h : n ≤ 512) : qrun xs n 0 qw0 := pq_run xs n 0 0 qw0 (by omega) pI_0
