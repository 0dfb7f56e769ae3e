theorem qcells_len {G : Nat → ClassId} {ad : Nat → Nat} {w : qMem} : (qcells G ad w).length = 238 := by simp [qcells]
theorem qshp_hall {G : Nat → ClassId} {a ad : Nat → Nat} {f : Nat → Int32} {h m : Nat} (hh : h < 12) (hm : m < 19) (e : ∀ r : Nat, r < 19 → ad (19 * h + r) = a r) : qle (qshp G a f m) (qshp G ad f (19 * h + m)) := by
  rcases Nat.lt_or_ge m 1 with h0 | h0
  · have : m = 0 := by omega
    subst this
    rw [show qshp G a f 0 = _ from qsh_hall G a f (h := 0) (by decide), show qshp G ad f (19 * h + 0) = _ from qsh_hall G ad f hh, e 1 (by decide), e 14 (by decide), e 15 (by decide), e 16 (by decide), e 17 (by decide), e 18 (by decide)]
    exact qle_rf
  · rcases Nat.lt_or_ge m 2 with h1 | h1
    · have : m = 1 := by omega
      subst this
      rw [show qshp G a f 1 = _ from qsh_props G a f (h := 0) (by decide), qsh_props G ad f hh]
      refine qle_q (fun j hj => ?_)
      rw [show 19 * h + 2 + j = 19 * h + (2 + j) by omega, e (2 + j) (by omega)]
    · rcases Nat.lt_or_ge m 15 with h2 | h2
      · rw [qsh_prop G a f (c := m) ⟨by omega, by omega, by omega⟩, qsh_prop G ad f (c := 19 * h + m) ⟨by omega, by omega, by omega⟩]
        exact qle_rf
      · have hq : m = 15 ∨ m = 16 ∨ m = 17 ∨ m = 18 := by omega
        rcases hq with rfl | rfl | rfl | rfl
        · exact qle_eq ((qsh_planned G a f (h := 0) (by decide)).trans (qsh_planned G ad f hh).symm)
        · exact qle_eq ((qsh_hasCat G a f (h := 0) (by decide)).trans (qsh_hasCat G ad f hh).symm)
        · exact qle_eq ((qsh_reach G a f (h := 0) (by decide)).trans (qsh_reach G ad f hh).symm)
        · exact qle_eq ((qsh_hasBr G a f (h := 0) (by decide)).trans (qsh_hasBr G ad f hh).symm)
/-- the memory at the start -/
def qw0 (k j : Nat) : Int32 := if k < 228 then qwz (k % 19) j else if k = 228 then (if j = 7 then -1 else 0) else 0
def qad (a1 a2 a3 as : Nat → Nat) (ts : List Nat) (sk sv : Nat → Nat) (k : Nat) : Nat := if k < 19 then a1 k else if k < 38 then a2 (k - 19) else if k < 57 then a3 (k - 38) else if k < 228 then as (k - 57) else if k < 238 then ts.getD (k - 228) 0 else if k < 2000 then sk (k - 1000) else sv (k - 2000)
def qaix (k : Nat) : Nat := if k < 57 then k + 1 else if k < 228 then k + 3 else if k = 228 then 0 else if k < 231 then k - 171 else k
theorem qaix_inj {j k : Nat} (hj : j < 240) (hk : k < 240) (e : qaix j = qaix k) : j = k := by
  unfold qaix at e
  split at e <;> (try split at e) <;> (try split at e) <;> (try split at e) <;> (try split at e) <;> (try split at e) <;> (try split at e) <;> (try split at e) <;> omega
section
variable {D : va_G} {G : Nat → ClassId} {A0 : Nat → Prop} {H : Heap} {h0 q7 k1 q9 s1 s2 s3 s4 q11 l1 : Nat} {a1 a2 a3 as : Nat → Nat} {f : Nat → Option Nat} {sk sv : Nat → Nat}
abbrev qtsl (h0 q7 k1 q9 s1 s2 s3 s4 q11 l1 : Nat) : List Nat := [h0, q7, k1, q9, s1, s2, s3, s4, q11, l1]
abbrev qrestw (G : Nat → ClassId) (q9 s1 s2 s3 s4 q11 l1 : Nat) (tl : va_W) : va_W := [(q9, .inr (7, [.ref s1, .int 0, .ref s2, .ref s3, .ref s4, .int 0, .int 0])), (s1, .inl (G 2, 60, .inl (fun _ => 0))), (s2, .inl (G 0, 12, .inl (fun _ => 0))), (s3, .inl (G 0, 12, .inl (fun _ => 0))), (s4, .inl (G 0, 12, .inl (fun _ => 0))), (q11, .inr (5, [.ref l1, .int 0])), (l1, .inl (G 2, 16, .inl (fun _ => 0)))] ++ tl
abbrev qprew (G : Nat → ClassId) (h0 q7 k1 q9 q11 : Nat) (a1 a2 a3 as : Nat → Nat) (f : Nat → Option Nat) : va_W := [(h0, .inr (8, [.ref (a1 0), .ref (a2 0), .ref (a3 0), .ref q7, .ref q9, .ref q11, .int 0, .int (-1), .int 0, .int 0, .int 0]))] ++ (qhw G a1 ++ (qhw G a2 ++ (qhw G a3 ++ (qwh G q7 k1 f ++ qcan 171 as (qhs G as)))))
theorem qprew_len : (qprew G h0 q7 k1 q9 q11 a1 a2 a3 as f).length = 231 := by
  simp [qprew, qhw, qcan_len]
theorem q_final {tl : va_W} (hf : ∀ j : Nat, j < 9 → f j = some (as (19 * j))) (hP : va_P D vwCl (qprew G h0 q7 k1 q9 q11 a1 a2 a3 as f ++ qrestw G q9 s1 s2 s3 s4 q11 l1 tl) H) (hD : va_D A0 (qprew G h0 q7 k1 q9 q11 a1 a2 a3 as f ++ qrestw G q9 s1 s2 s3 s4 q11 l1 tl)) (htl : tl.length ≤ 2) : va_P D vwCl (qcells G (qad a1 a2 a3 as (qtsl h0 q7 k1 q9 s1 s2 s3 s4 q11 l1) sk sv) qw0 ++ tl) H ∧ va_D A0 (qcells G (qad a1 a2 a3 as (qtsl h0 q7 k1 q9 s1 s2 s3 s4 q11 l1) sk sv) qw0 ++ tl) := by
  generalize had : qad a1 a2 a3 as (qtsl h0 q7 k1 q9 s1 s2 s3 s4 q11 l1) sk sv = ad
  have e1 : ∀ r : Nat, r < 19 → ad (19 * 0 + r) = a1 r := fun r hr => by rw [← had]; unfold qad; rw [if_pos (by omega)]; congr 1; omega
  have e2 : ∀ r : Nat, r < 19 → ad (19 * 1 + r) = a2 r := fun r hr => by rw [← had]; unfold qad; rw [if_neg (by omega), if_pos (by omega)]; congr 1; omega
  have e3 : ∀ r : Nat, r < 19 → ad (19 * 2 + r) = a3 r := fun r hr => by rw [← had]; unfold qad; rw [if_neg (by omega), if_neg (by omega), if_pos (by omega)]; congr 1; omega
  have e4 : ∀ r : Nat, r < 171 → ad (57 + r) = as r := fun r hr => by rw [← had]; unfold qad; rw [if_neg (by omega), if_neg (by omega), if_neg (by omega), if_pos (by omega)]; congr 1; omega
  have e5 : ∀ r : Nat, r < 10 → ad (228 + r) = (qtsl h0 q7 k1 q9 s1 s2 s3 s4 q11 l1).getD r 0 := fun r hr => by rw [← had]; unfold qad; rw [if_neg (by omega), if_neg (by omega), if_neg (by omega), if_neg (by omega), if_pos (by omega), show 228 + r - 228 = r by omega]
  have wz : ∀ k : Nat, k < 228 → qw0 k = qwz (k % 19) := fun k hk => by funext j; unfold qw0; rw [if_pos hk]
  have pre : ∀ (i : Nat) (x : Nat × va_E), i < 231 → (qprew G h0 q7 k1 q9 q11 a1 a2 a3 as f)[i]? = some x → (qprew G h0 q7 k1 q9 q11 a1 a2 a3 as f ++ qrestw G q9 s1 s2 s3 s4 q11 l1 tl)[i]? = some x := fun i x hi hx => by rw [List.getElem?_append_left (by rw [qprew_len]; exact hi)]; exact hx
  have pos : ∀ (i : Nat) (x : Nat × va_E), 231 ≤ i → (qrestw G q9 s1 s2 s3 s4 q11 l1 tl)[i - 231]? = some x → (qprew G h0 q7 k1 q9 q11 a1 a2 a3 as f ++ qrestw G q9 s1 s2 s3 s4 q11 l1 tl)[i]? = some x := fun i x hi hx => by rw [List.getElem?_append_right (by rw [qprew_len]; exact hi), qprew_len]; exact hx
  refine qre hP hD qaix (fun k q y hk => ?_) (fun j k hj hk e => qaix_inj (by simp [qcells_len] at hj; omega) (by simp [qcells_len] at hk; omega) e)
  rcases Nat.lt_or_ge k 238 with hk1 | hk1
  · rw [List.getElem?_append_left (by rw [qcells_len]; exact hk1), qat G ad qw0 hk1] at hk
    cases hk
    rcases Nat.lt_or_ge k 228 with hk2 | hk2
    · rw [wz k hk2]
      rcases Nat.lt_or_ge k 19 with h1 | h1
      · refine ⟨qshp G a1 (qwz k) k, pre _ _ (by unfold qaix; rw [if_pos (by omega)]; omega) ?_, ?_⟩
        · rw [show qaix k = k + 1 by unfold qaix; rw [if_pos (by omega)]]
          show (qhw G a1 ++ _)[k]? = _
          rw [List.getElem?_append_left (by show k < (qhw G a1).length; unfold qhw; rw [qcan_len]; exact h1)]
          unfold qhw
          rw [qcan_at h1, ← e1 k h1, Nat.mul_zero, Nat.zero_add]
        · have := qshp_hall (G := G) (f := qwz (k % 19)) (h := 0) (m := k) (by decide) h1 e1
          rw [Nat.mul_zero, Nat.zero_add] at this
          rw [Nat.mod_eq_of_lt h1] at this ⊢
          exact this
      · rcases Nat.lt_or_ge k 38 with h2 | h2
        · refine ⟨qshp G a2 (qwz (k - 19)) (k - 19), pre _ _ (by unfold qaix; rw [if_pos (by omega)]; omega) ?_, ?_⟩
          · rw [show qaix k = 19 + (k - 19) + 1 by unfold qaix; rw [if_pos (by omega)]; omega]
            show (qhw G a1 ++ (qhw G a2 ++ _))[19 + (k - 19)]? = _
            rw [List.getElem?_append_right (by unfold qhw; rw [qcan_len]; omega), show 19 + (k - 19) - (qhw G a1).length = k - 19 by unfold qhw; rw [qcan_len]; omega, List.getElem?_append_left (by unfold qhw; rw [qcan_len]; omega)]
            unfold qhw
            rw [qcan_at (by omega), ← e2 (k - 19) (by omega), show 19 * 1 + (k - 19) = k by omega]
          · have := qshp_hall (G := G) (f := qwz (k % 19)) (h := 1) (m := k - 19) (by decide) (by omega) e2
            rw [show 19 * 1 + (k - 19) = k by omega, show k % 19 = k - 19 by omega] at this
            rw [show k % 19 = k - 19 by omega]
            exact this
        · rcases Nat.lt_or_ge k 57 with h3 | h3
          · refine ⟨qshp G a3 (qwz (k - 38)) (k - 38), pre _ _ (by unfold qaix; rw [if_pos (by omega)]; omega) ?_, ?_⟩
            · rw [show qaix k = 19 + (19 + (k - 38)) + 1 by unfold qaix; rw [if_pos (by omega)]; omega]
              show (qhw G a1 ++ (qhw G a2 ++ (qhw G a3 ++ _)))[19 + (19 + (k - 38))]? = _
              rw [List.getElem?_append_right (by unfold qhw; rw [qcan_len]; omega), show 19 + (19 + (k - 38)) - (qhw G a1).length = 19 + (k - 38) by unfold qhw; rw [qcan_len]; omega, List.getElem?_append_right (by unfold qhw; rw [qcan_len]; omega), show 19 + (k - 38) - (qhw G a2).length = k - 38 by unfold qhw; rw [qcan_len]; omega, List.getElem?_append_left (by unfold qhw; rw [qcan_len]; omega)]
              unfold qhw
              rw [qcan_at (by omega), ← e3 (k - 38) (by omega), show 19 * 2 + (k - 38) = k by omega]
            · have := qshp_hall (G := G) (f := qwz (k % 19)) (h := 2) (m := k - 38) (by decide) (by omega) e3
              rw [show 19 * 2 + (k - 38) = k by omega, show k % 19 = k - 38 by omega] at this
              rw [show k % 19 = k - 38 by omega]
              exact this
          · refine ⟨qhs G as (k - 57), pre _ _ (by unfold qaix; rw [if_neg (by omega), if_pos (by omega)]; omega) ?_, ?_⟩
            · rw [show qaix k = 19 + (19 + (19 + (2 + (k - 57)))) + 1 by unfold qaix; rw [if_neg (by omega), if_pos (by omega)]; omega]
              show (qhw G a1 ++ (qhw G a2 ++ (qhw G a3 ++ (qwh G q7 k1 f ++ _))))[19 + (19 + (19 + (2 + (k - 57))))]? = _
              rw [List.getElem?_append_right (by unfold qhw; rw [qcan_len]; omega), show 19 + (19 + (19 + (2 + (k - 57)))) - (qhw G a1).length = 19 + (19 + (2 + (k - 57))) by unfold qhw; rw [qcan_len]; omega, List.getElem?_append_right (by unfold qhw; rw [qcan_len]; omega), show 19 + (19 + (2 + (k - 57))) - (qhw G a2).length = 19 + (2 + (k - 57)) by unfold qhw; rw [qcan_len]; omega, List.getElem?_append_right (by unfold qhw; rw [qcan_len]; omega), show 19 + (2 + (k - 57)) - (qhw G a3).length = 2 + (k - 57) by unfold qhw; rw [qcan_len]; omega, List.getElem?_append_right (by show 2 ≤ _; omega), show 2 + (k - 57) - (qwh G q7 k1 f).length = k - 57 by show 2 + (k - 57) - 2 = _; omega, qcan_at (by omega), ← e4 (k - 57) (by omega), show 57 + (k - 57) = k by omega]
            · have hm : (k - 57) % 19 < 19 := Nat.mod_lt _ (by decide)
              have := qshp_hall (G := G) (a := fun r => as (19 * ((k - 57) / 19) + r)) (ad := ad) (f := qwz (k % 19)) (h := 3 + (k - 57) / 19) (m := (k - 57) % 19) (by omega) hm (fun r hr => by rw [← e4 _ (by omega)]; congr 1; omega)
              rw [show 19 * (3 + (k - 57) / 19) + (k - 57) % 19 = k by omega] at this
              unfold qhs
              rw [show (k - 57) % 19 = k % 19 by omega] at this ⊢
              exact this
    · have hq : k = 228 ∨ k = 229 ∨ k = 230 ∨ k = 231 ∨ k = 232 ∨ k = 233 ∨ k = 234 ∨ k = 235 ∨ k = 236 ∨ k = 237 := by omega
      have w0 : ∀ k : Nat, k = 229 ∨ k = 230 ∨ (231 ≤ k ∧ k ≤ 237) → qw0 k = fun _ => 0 := fun k h => by funext j; unfold qw0; rw [if_neg (by omega), if_neg (by omega)]
      have d0 : ad 0 = a1 0 := e1 0 (by decide)
      have d19 : ad 19 = a2 0 := e2 0 (by decide)
      have d38 : ad 38 = a3 0 := e3 0 (by decide)
      have t228 : ad 228 = h0 := e5 0 (by decide)
      have t229 : ad 229 = q7 := e5 1 (by decide)
      have t230 : ad 230 = k1 := e5 2 (by decide)
      have t231 : ad 231 = q9 := e5 3 (by decide)
      have t232 : ad 232 = s1 := e5 4 (by decide)
      have t233 : ad 233 = s2 := e5 5 (by decide)
      have t234 : ad 234 = s3 := e5 6 (by decide)
      have t235 : ad 235 = s4 := e5 7 (by decide)
      have t236 : ad 236 = q11 := e5 8 (by decide)
      have t237 : ad 237 = l1 := e5 9 (by decide)
      rcases hq with rfl | rfl | rfl | rfl | rfl | rfl | rfl | rfl | rfl | rfl
      · refine ⟨_, pre 0 _ (by decide) (by rw [t228]; rfl), qle_eq ?_⟩
        rw [show qshp G ad (qw0 228) 228 = _ from qsh_228 G ad _]
        unfold qfs_X5
        rw [d0, d19, d38, t229, t231, t236]
        rfl
      · refine ⟨.inr (4, [.ref k1, .int 0, .int 0]), pre 58 _ (by decide) (by rw [t229]; show (qhw G a1 ++ (qhw G a2 ++ (qhw G a3 ++ (qwh G q7 k1 f ++ qcan 171 as (qhs G as)))))[57]? = some (q7, .inr (4, [.ref k1, .int 0, .int 0])); rw [List.getElem?_append_right (by unfold qhw; rw [qcan_len]; decide), show 57 - (qhw G a1).length = 38 by unfold qhw; rw [qcan_len], List.getElem?_append_right (by unfold qhw; rw [qcan_len]; decide), show 38 - (qhw G a2).length = 19 by unfold qhw; rw [qcan_len], List.getElem?_append_right (by unfold qhw; rw [qcan_len]; decide), show 19 - (qhw G a3).length = 0 by unfold qhw; rw [qcan_len]]; rfl), qle_eq ?_⟩
        rw [show qshp G ad (qw0 229) 229 = _ from qsh_229 G ad _]
        unfold qfs_X1
        rw [t230]
        rfl
      · refine ⟨.inl (G 4, 9, .inr (.inr (.inr (.inr f)))), pre 59 _ (by decide) (by rw [t230]; show (qhw G a1 ++ (qhw G a2 ++ (qhw G a3 ++ (qwh G q7 k1 f ++ qcan 171 as (qhs G as)))))[58]? = some (k1, .inl (G 4, 9, .inr (.inr (.inr (.inr f))))); rw [List.getElem?_append_right (by unfold qhw; rw [qcan_len]; decide), show 58 - (qhw G a1).length = 39 by unfold qhw; rw [qcan_len], List.getElem?_append_right (by unfold qhw; rw [qcan_len]; decide), show 39 - (qhw G a2).length = 20 by unfold qhw; rw [qcan_len], List.getElem?_append_right (by unfold qhw; rw [qcan_len]; decide), show 20 - (qhw G a3).length = 1 by unfold qhw; rw [qcan_len]]; rfl), ?_⟩
        rw [show qshp G ad (qw0 230) 230 = _ from qsh_230 G ad _]
        refine qle_q (fun j hj => ?_)
        rw [hf j hj, show 19 * (3 + j) = 57 + 19 * j by omega, e4 _ (by omega)]
      · refine ⟨_, pos 231 _ (by decide) (by rw [t231]; rfl), ?_⟩
        rw [show qshp G ad (qw0 231) 231 = _ from qsh_231 G ad _]
        refine qle_eq ?_
        unfold qfs_X4
        rw [t232, t233, t234, t235]
        rfl
      · refine ⟨_, pos 232 _ (by decide) (by rw [t232]; rfl), ?_⟩
        rw [show qshp G ad (qw0 232) 232 = _ from qsh_232 G ad _]
        exact qle_i (fun j _ => rfl)
      · refine ⟨_, pos 233 _ (by decide) (by rw [t233]; rfl), ?_⟩
        rw [show qshp G ad (qw0 233) 233 = _ from qsh_233 G ad _]
        exact qle_i (fun j _ => rfl)
      · refine ⟨_, pos 234 _ (by decide) (by rw [t234]; rfl), ?_⟩
        rw [show qshp G ad (qw0 234) 234 = _ from qsh_234 G ad _]
        exact qle_i (fun j _ => rfl)
      · refine ⟨_, pos 235 _ (by decide) (by rw [t235]; rfl), ?_⟩
        rw [show qshp G ad (qw0 235) 235 = _ from qsh_235 G ad _]
        exact qle_i (fun j _ => rfl)
      · refine ⟨_, pos 236 _ (by decide) (by rw [t236]; rfl), ?_⟩
        rw [show qshp G ad (qw0 236) 236 = _ from qsh_236 G ad _]
        refine qle_eq ?_
        unfold qfs_X2
        rw [t237]
        rfl
      · refine ⟨_, pos 237 _ (by decide) (by rw [t237]; rfl), ?_⟩
        rw [show qshp G ad (qw0 237) 237 = _ from qsh_237 G ad _]
        exact qle_i (fun j _ => rfl)
  · rw [List.getElem?_append_right (by rw [qcells_len]; exact hk1), qcells_len] at hk
    refine ⟨y, pos _ _ (by unfold qaix; rw [if_neg (by omega), if_neg (by omega), if_neg (by omega), if_neg (by omega)]; omega) ?_, qle_rf⟩
    rw [show qaix k - 231 = 7 + (k - 238) by unfold qaix; rw [if_neg (by omega), if_neg (by omega), if_neg (by omega), if_neg (by omega)]; omega, List.getElem?_append_right (by show 7 ≤ _; omega)]
    show tl[7 + (k - 238) - 7]? = _
    rw [show 7 + (k - 238) - 7 = k - 238 by omega]
    exact hk
end
