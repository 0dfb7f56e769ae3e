-- what is within its bounds
theorem pj_in (lo hi : Nat) (h : hi < 2 ^ 31) (hl : lo ≤ hi) (a : Int32) : (∃ n, lo ≤ n ∧ n ≤ hi ∧ a = nI n ∧ ¬ a < nI lo ∧ ¬ nI hi < a) ∨ (a < nI lo ∨ (¬ a < nI lo ∧ nI hi < a)) := by
  by_cases h1 : a < nI lo
  · exact Or.inr (Or.inl h1)
  · by_cases h2 : nI hi < a
    · exact Or.inr (Or.inr ⟨h1, h2⟩)
    · have q1 : ¬ a.toInt < (nI lo).toInt := fun z => h1 (Int32.lt_iff_toInt_lt.mpr z)
      have q2 : ¬ (nI hi).toInt < a.toInt := fun z => h2 (Int32.lt_iff_toInt_lt.mpr z)
      rw [nI_toInt (by omega)] at q1 q2
      refine Or.inl ⟨a.toInt.toNat, by omega, by omega, ?_, h1, h2⟩
      apply Int32.toInt_inj.mp
      rw [nI_toInt (by omega)]
      omega
theorem pj_lt {a b : Int32} : ¬ a < b ↔ b ≤ a := by
  rw [Int32.lt_iff_toInt_lt, Int32.le_iff_toInt_le]; omega
-- answers and refusals
theorem pc_ans (w : qMem) (v : Int32) : fX5_answered w v = some (0, quw w 228 10 v) := rfl
theorem pc_ref (w : qMem) (r d : Int32) : fX5_refuse w r d = some (3, quw (quw w 228 8 r) 228 9 d) := rfl
theorem pOc.ok {w w1 : qMem} {v : Int32} (rs dt : Int32) {S : pSt} (h : pH w1 0 S) (f : ∀ c, 19 ≤ c → c ≠ 228 → w1 c = w c) (g : w1 228 = upd (w 228) 10 v) : pOc w w1 0 v rs dt S :=
  ⟨h, f, fun k _ _ q => by rw [g, pz_un q], fun _ => by rw [g, pz_u], fun q => absurd q (by decide), fun _ => ⟨by rw [g, pz_un (by decide)], by rw [g, pz_un (by decide)]⟩⟩
theorem pOc.no {w : qMem} {t : Int32} (v rs dt : Int32) {S : pSt} (h : pH w 0 S) (h0 : t ≠ 0) (h3 : t ≠ 3) : pOc w w t v rs dt S :=
  ⟨h, fun _ _ _ => rfl, fun _ _ _ _ => rfl, fun q => absurd q h0, fun q => absurd q h3, fun _ => ⟨rfl, rfl⟩⟩
theorem pOc.rf {w : qMem} (v rs dt : Int32) {T : Nat} {S : pSt} (hW : pW T S) (h : pH w 0 S) : pOc w (quw (quw w 228 8 rs) 228 9 dt) 3 v rs dt S :=
  ⟨ph_same hW (fun c _ h2 => by rw [pz_wr, pz_rn (by omega), pz_wr, pz_rn (by omega)]) h, fun c _ hc => by rw [pz_wr, pz_rn hc, pz_wr, pz_rn hc], fun k q1 q2 _ => by rw [pz_wk q2, pz_wk q1], fun q => absurd q (by decide), fun _ => ⟨by rw [pz_wk (by decide), pz_w], pz_w⟩, fun q => absurd rfl q⟩
-- set
def sSet (a : Nat) (S : pSt) : pSt := (sN S, sP S, sQ S, sL S, upd (sG S) 0 (nI a))
