def qtml : List (String × Nat) := [("QuakeRehearsal$Script", 74), ("QuakeRehearsal$Script", 76), ("QuakeRehearsal$Script", 78), ("QuakeRehearsal$Script", 80), ("QuakeRehearsal$Script", 82), ("QuakeRehearsal$Script", 84), ("QuakeRehearsal$Script", 86), ("QuakeRehearsal$Script", 88), ("QuakeRehearsal$Script", 90), ("QuakeRehearsal$Script", 92), ("QuakeRehearsalModel", 180), ("QuakeRehearsalModel", 210), ("QuakeRehearsalModel", 238), ("QuakeRehearsalModel", 212), ("QuakeRehearsal", 305), ("QuakeRehearsal", 307), ("QuakeRehearsal", 69), ("QuakeRehearsal", 76), ("QuakeRehearsal", 81), ("QuakeRehearsal", 300), ("QuakeRehearsal", 309), ("QuakeRehearsal", 88), ("QuakeRehearsal", 117), ("QuakeRehearsal", 124), ("QuakeRehearsal", 138), ("QuakeRehearsal", 170), ("QuakeRehearsal", 303), ("QuakeRehearsal", 184), ("QuakeRehearsal", 199), ("QuakeRehearsal", 208), ("QuakeRehearsal", 218), ("QuakeRehearsal", 244), ("QuakeRehearsal", 246), ("QuakeRehearsal", 248), ("QuakeRehearsal", 271), ("QuakeRehearsal", 285), ("QuakeRehearsal", 291), ("QuakeRehearsal", 293), ("QuakeRehearsal", 298), ("java/util/Arrays", 337)]
def qtm (i : Nat) : Term := Term.string (qtml.getD i ("", 0)).1 (qtml.getD i ("", 0)).2
def qfl : List Cond := flatC (Jvm.Cond.and given_1 narrow_1)
theorem qfl_exi : ∀ i, i < 40 → qfl[([808, 815, 823, 830, 838, 845, 852, 861, 868, 879, 1115, 1122, 1198, 1126, 338, 366, 399, 415, 450, 472, 507, 534, 560, 587, 621, 650, 684, 714, 739, 772, 888, 913, 936, 970, 993, 1021, 1042, 1064, 1091, 1185] : List Nat).getD i 0]? = some (Cond.exactly (qtm i) "java/lang/String") := by decide +kernel
theorem qfl_ex (i : Nat) (h : i < 40) : (Cond.exactly (qtm i) "java/lang/String") ∈ qfl := List.mem_of_getElem? (qfl_exi i h)
theorem qfl_coi : ∀ i, i < 14 → qfl[([809, 816, 824, 831, 839, 846, 853, 862, 869, 880, 1116, 1123, 1199, 1127] : List Nat).getD i 0]? = some (Cond.eq (.field (qtm i) "java/lang/String" "coder" "B") (.int 0)) := by decide +kernel
theorem qfl_co (i : Nat) (h : i < 14) : (Cond.eq (.field (qtm i) "java/lang/String" "coder" "B") (.int 0)) ∈ qfl := List.mem_of_getElem? (qfl_coi i h)
theorem qfl_ari : ∀ i, i < 14 → qfl[([810, 817, 825, 832, 840, 847, 854, 863, 870, 881, 1117, 1124, 1200, 1128] : List Nat).getD i 0]? = some (Cond.arrayOf (.field (qtm i) "java/lang/String" "value" "[B") .byte) := by decide +kernel
theorem qfl_ar (i : Nat) (h : i < 14) : (Cond.arrayOf (.field (qtm i) "java/lang/String" "value" "[B") .byte) ∈ qfl := List.mem_of_getElem? (qfl_ari i h)
theorem qfl_lei : ∀ i, i < 14 → qfl[([811, 818, 826, 833, 841, 848, 855, 864, 871, 882, 1118, 1125, 1201, 1129] : List Nat).getD i 0]? = some (Cond.eq (.length (.field (qtm i) "java/lang/String" "value" "[B")) (.int (Int32.ofNat (qtx.getD i []).length))) := by decide +kernel
theorem qfl_le (i : Nat) (h : i < 14) : (Cond.eq (.length (.field (qtm i) "java/lang/String" "value" "[B")) (.int (Int32.ofNat (qtx.getD i []).length))) ∈ qfl := List.mem_of_getElem? (qfl_lei i h)
theorem qfl_e0_0 : ∀ j, j < 3 → qfl[812 + j]? = some (Cond.eq (.elem (.field (qtm 0) "java/lang/String" "value" "[B") (.int (Int32.ofNat (0 + j)))) (.int ((qtx.getD 0 []).getD (0 + j) 0))) := by decide +kernel
theorem qfl_e1_0 : ∀ j, j < 4 → qfl[819 + j]? = some (Cond.eq (.elem (.field (qtm 1) "java/lang/String" "value" "[B") (.int (Int32.ofNat (0 + j)))) (.int ((qtx.getD 1 []).getD (0 + j) 0))) := by decide +kernel
theorem qfl_e2_0 : ∀ j, j < 3 → qfl[827 + j]? = some (Cond.eq (.elem (.field (qtm 2) "java/lang/String" "value" "[B") (.int (Int32.ofNat (0 + j)))) (.int ((qtx.getD 2 []).getD (0 + j) 0))) := by decide +kernel
theorem qfl_e3_0 : ∀ j, j < 4 → qfl[834 + j]? = some (Cond.eq (.elem (.field (qtm 3) "java/lang/String" "value" "[B") (.int (Int32.ofNat (0 + j)))) (.int ((qtx.getD 3 []).getD (0 + j) 0))) := by decide +kernel
theorem qfl_e4_0 : ∀ j, j < 3 → qfl[842 + j]? = some (Cond.eq (.elem (.field (qtm 4) "java/lang/String" "value" "[B") (.int (Int32.ofNat (0 + j)))) (.int ((qtx.getD 4 []).getD (0 + j) 0))) := by decide +kernel
theorem qfl_e5_0 : ∀ j, j < 3 → qfl[849 + j]? = some (Cond.eq (.elem (.field (qtm 5) "java/lang/String" "value" "[B") (.int (Int32.ofNat (0 + j)))) (.int ((qtx.getD 5 []).getD (0 + j) 0))) := by decide +kernel
theorem qfl_e6_0 : ∀ j, j < 5 → qfl[856 + j]? = some (Cond.eq (.elem (.field (qtm 6) "java/lang/String" "value" "[B") (.int (Int32.ofNat (0 + j)))) (.int ((qtx.getD 6 []).getD (0 + j) 0))) := by decide +kernel
theorem qfl_e7_0 : ∀ j, j < 3 → qfl[865 + j]? = some (Cond.eq (.elem (.field (qtm 7) "java/lang/String" "value" "[B") (.int (Int32.ofNat (0 + j)))) (.int ((qtx.getD 7 []).getD (0 + j) 0))) := by decide +kernel
theorem qfl_e8_0 : ∀ j, j < 7 → qfl[872 + j]? = some (Cond.eq (.elem (.field (qtm 8) "java/lang/String" "value" "[B") (.int (Int32.ofNat (0 + j)))) (.int ((qtx.getD 8 []).getD (0 + j) 0))) := by decide +kernel
theorem qfl_e9_0 : ∀ j, j < 5 → qfl[883 + j]? = some (Cond.eq (.elem (.field (qtm 9) "java/lang/String" "value" "[B") (.int (Int32.ofNat (0 + j)))) (.int ((qtx.getD 9 []).getD (0 + j) 0))) := by decide +kernel
theorem qfl_e10_0 : ∀ j, j < 3 → qfl[1119 + j]? = some (Cond.eq (.elem (.field (qtm 10) "java/lang/String" "value" "[B") (.int (Int32.ofNat (0 + j)))) (.int ((qtx.getD 10 []).getD (0 + j) 0))) := by decide +kernel
theorem qfl_e11_0 : ∀ j, j < 0 → qfl[0 + j]? = some (Cond.eq (.elem (.field (qtm 11) "java/lang/String" "value" "[B") (.int (Int32.ofNat (0 + j)))) (.int ((qtx.getD 11 []).getD (0 + j) 0))) := by decide +kernel
theorem qfl_e12_0 : ∀ j, j < 1 → qfl[1202 + j]? = some (Cond.eq (.elem (.field (qtm 12) "java/lang/String" "value" "[B") (.int (Int32.ofNat (0 + j)))) (.int ((qtx.getD 12 []).getD (0 + j) 0))) := by decide +kernel
theorem qfl_e13_0 : ∀ j, j < 10 → qfl[1130 + j]? = some (Cond.eq (.elem (.field (qtm 13) "java/lang/String" "value" "[B") (.int (Int32.ofNat (0 + j)))) (.int ((qtx.getD 13 []).getD (0 + j) 0))) := by decide +kernel
theorem qfl_e13_10 : ∀ j, j < 10 → qfl[1140 + j]? = some (Cond.eq (.elem (.field (qtm 13) "java/lang/String" "value" "[B") (.int (Int32.ofNat (10 + j)))) (.int ((qtx.getD 13 []).getD (10 + j) 0))) := by decide +kernel
theorem qfl_e13_20 : ∀ j, j < 10 → qfl[1150 + j]? = some (Cond.eq (.elem (.field (qtm 13) "java/lang/String" "value" "[B") (.int (Int32.ofNat (20 + j)))) (.int ((qtx.getD 13 []).getD (20 + j) 0))) := by decide +kernel
theorem qfl_e13_30 : ∀ j, j < 10 → qfl[1160 + j]? = some (Cond.eq (.elem (.field (qtm 13) "java/lang/String" "value" "[B") (.int (Int32.ofNat (30 + j)))) (.int ((qtx.getD 13 []).getD (30 + j) 0))) := by decide +kernel
theorem qfl_e13_40 : ∀ j, j < 10 → qfl[1170 + j]? = some (Cond.eq (.elem (.field (qtm 13) "java/lang/String" "value" "[B") (.int (Int32.ofNat (40 + j)))) (.int ((qtx.getD 13 []).getD (40 + j) 0))) := by decide +kernel
theorem qfl_el (i : Nat) (h : i < 14) (j : Nat) (hj : j < (qtx.getD i []).length) : (Cond.eq (.elem (.field (qtm i) "java/lang/String" "value" "[B") (.int (Int32.ofNat j))) (.int ((qtx.getD i []).getD j 0))) ∈ qfl := by
  match i, h, hj with
  | 0, _, hj =>
    have := qfl_e0_0 j hj
    rw [Nat.zero_add] at this
    exact List.mem_of_getElem? this
  | 1, _, hj =>
    have := qfl_e1_0 j hj
    rw [Nat.zero_add] at this
    exact List.mem_of_getElem? this
  | 2, _, hj =>
    have := qfl_e2_0 j hj
    rw [Nat.zero_add] at this
    exact List.mem_of_getElem? this
  | 3, _, hj =>
    have := qfl_e3_0 j hj
    rw [Nat.zero_add] at this
    exact List.mem_of_getElem? this
  | 4, _, hj =>
    have := qfl_e4_0 j hj
    rw [Nat.zero_add] at this
    exact List.mem_of_getElem? this
  | 5, _, hj =>
    have := qfl_e5_0 j hj
    rw [Nat.zero_add] at this
    exact List.mem_of_getElem? this
  | 6, _, hj =>
    have := qfl_e6_0 j hj
    rw [Nat.zero_add] at this
    exact List.mem_of_getElem? this
  | 7, _, hj =>
    have := qfl_e7_0 j hj
    rw [Nat.zero_add] at this
    exact List.mem_of_getElem? this
  | 8, _, hj =>
    have := qfl_e8_0 j hj
    rw [Nat.zero_add] at this
    exact List.mem_of_getElem? this
  | 9, _, hj =>
    have := qfl_e9_0 j hj
    rw [Nat.zero_add] at this
    exact List.mem_of_getElem? this
  | 10, _, hj =>
    have := qfl_e10_0 j hj
    rw [Nat.zero_add] at this
    exact List.mem_of_getElem? this
  | 11, _, hj => exact absurd hj (Nat.not_lt_zero j)
  | 12, _, hj =>
    have := qfl_e12_0 j hj
    rw [Nat.zero_add] at this
    exact List.mem_of_getElem? this
  | 13, _, hj =>
    have hj : j < 50 := hj
    by_cases h0 : j < 10
    · have := qfl_e13_0 (j - 0) (by omega)
      rw [show 0 + (j - 0) = j by omega] at this
      exact List.mem_of_getElem? this
    by_cases h10 : j < 20
    · have := qfl_e13_10 (j - 10) (by omega)
      rw [show 10 + (j - 10) = j by omega] at this
      exact List.mem_of_getElem? this
    by_cases h20 : j < 30
    · have := qfl_e13_20 (j - 20) (by omega)
      rw [show 20 + (j - 20) = j by omega] at this
      exact List.mem_of_getElem? this
    by_cases h30 : j < 40
    · have := qfl_e13_30 (j - 30) (by omega)
      rw [show 30 + (j - 30) = j by omega] at this
      exact List.mem_of_getElem? this
    by_cases h40 : j < 50
    · have := qfl_e13_40 (j - 40) (by omega)
      rw [show 40 + (j - 40) = j by omega] at this
      exact List.mem_of_getElem? this
    omega
  | i + 14, h, _ => exact absurd h (by omega)
theorem qfl_e1 : (Cond.eq (qtm 11) (.string "java/lang/StringLatin1" 151)) ∈ qfl := List.mem_of_getElem? (i := 1184) (by decide +kernel)
theorem qfl_e2 : (Cond.eq (qtm 11) (.string "java/lang/StringUTF16" 295)) ∈ qfl := List.mem_of_getElem? (i := 1196) (by decide +kernel)
theorem qfl_sr : ∀ r ∈ qstr, Cond.stringRef r.1 r.2.1 r.2.2.1 ∈ lw_tbl := by decide +kernel
theorem qfl_ix : ∀ r ∈ qstr, r.2.2.2 < 40 ∧ (Term.string r.1 r.2.1 = qtm r.2.2.2 ∨ (r.2.2.2 = 11 ∧ (Term.string r.1 r.2.1 = .string "java/lang/StringLatin1" 151 ∨ Term.string r.1 r.2.1 = .string "java/lang/StringUTF16" 295))) := by decide +kernel
theorem q_strings {args : Array Value} {s : State} (hts : ∀ w ∈ lw_tbl, w.before args s = true) (hgv : (Jvm.Cond.and given_1 narrow_1).before args s = true) : ∃ sk sv : Nat → Nat, (∀ i : Nat, i < 14 → va_O "java/lang/String" (sk i) (fun q => s.heap.size ≤ q) s s.heap ∧ va_OF "java/lang/String" "coder" "B" (.int 0) (sk i) (fun q => s.heap.size ≤ q) s s.heap ∧ va_OF "java/lang/String" "value" "[B" (.ref (sv i)) (sk i) (fun q => s.heap.size ≤ q) s s.heap ∧ va_T .byte (sv i) (qtx.getD i []).length (fun j => .int ((qtx.getD i []).getD j 0)) (fun q => s.heap.size ≤ q) s s.heap) ∧ ∀ r ∈ qstr, vk_R r.1 r.2.1 r.2.2.1 (sk r.2.2.2) s := by
  have hs := flat_of_before _ hgv
  have hA : ∀ a : Nat, a < s.heap.size → ¬ (fun q => s.heap.size ≤ q) a := fun a h => Nat.not_le.mpr h
  have h0 : ∀ i : Nat, ∃ q : Nat × Nat, i < 40 → (qtm i).eval args s none [] s = some (.ref q.1) ∧ va_O "java/lang/String" q.1 (fun q => s.heap.size ≤ q) s s.heap ∧ (i < 14 → va_OF "java/lang/String" "coder" "B" (.int 0) q.1 (fun q => s.heap.size ≤ q) s s.heap ∧ va_OF "java/lang/String" "value" "[B" (.ref q.2) q.1 (fun q => s.heap.size ≤ q) s s.heap ∧ va_T .byte q.2 (qtx.getD i []).length (fun j => .int ((qtx.getD i []).getD j 0)) (fun q => s.heap.size ≤ q) s s.heap) := by
    intro i
    by_cases hi : i < 40
    · obtain ⟨a, c, cA, kA, q1, q2, q3, q4, q5, q6, -⟩ := Cond.exactly_spec (args := args) (first := s) (o := none) (s := s) (idx := []) (t := qtm i) (cls := "java/lang/String") (hs _ (qfl_ex i hi))
      have hO : va_O "java/lang/String" a (fun q => s.heap.size ≤ q) s s.heap := ⟨cA, q3, q5, by rw [q6]; exact q2, hA a (Array.getElem?_eq_some_iff.mp q3).1⟩
      by_cases h14 : i < 14
      · have hlt : (qtx.getD i []).length < 2 ^ 31 := Nat.lt_of_lt_of_le (qasc_len (qtx_asc i h14)) (by decide)
        obtain ⟨t, ht, hT⟩ := va_Tof (f := fun j => .int ((qtx.getD i []).getD j 0)) (A := fun q => s.heap.size ≤ q) hlt (hs _ (qfl_ar i h14)) (va_eqt (hs _ (qfl_le i h14))) (fun j hj => va_eqt (hs _ (qfl_el i h14 j hj))) hA
        exact ⟨(a, t), fun _ => ⟨q1, hO, fun _ => ⟨vk_OFof q1 (va_eqt (hs _ (qfl_co i h14))) hA, vk_OFof q1 ht hA, hT⟩⟩⟩
      · exact ⟨(a, 0), fun _ => ⟨q1, hO, fun h => absurd h h14⟩⟩
    · exact ⟨(0, 0), fun h => absurd h hi⟩
  obtain ⟨ad, had⟩ := Classical.axiomOfChoice h0
  refine ⟨fun i => (ad i).1, fun i => (ad i).2, fun i hi => ?_, fun r hr => ?_⟩
  · obtain ⟨-, g1, g2⟩ := had i (by omega)
    obtain ⟨g2, g3, g4⟩ := g2 hi
    exact ⟨g1, g2, g3, g4⟩
  · obtain ⟨h1, h2⟩ := qfl_ix r hr
    obtain ⟨g1, -, -⟩ := had _ h1
    refine vk_R.of (A := args) (hts _ (qfl_sr r hr)) ?_
    have key : (Term.string r.1 r.2.1).eval args s none [] s = some (.ref (ad r.2.2.2).1) := by
      rcases h2 with h2 | ⟨h3, h2 | h2⟩
      · rw [h2]; exact g1
      · rw [h3] at g1 ⊢
        rw [h2]; exact va_eqR (hs _ qfl_e1) g1
      · rw [h3] at g1 ⊢
        rw [h2]; exact va_eqR (hs _ qfl_e2) g1
    exact key
theorem qcl_in : ∀ q ∈ vwCl, (∀ w ∈ u_ws q.1 q.2.1 q.2.2, w ∈ lw_tbl) := by decide +kernel
theorem qcl_inst : ∀ q ∈ vwCl, ∃ n, n < 30 ∧ Cond.instantiable q.1 n ∈ lw_tbl := by decide +kernel
theorem q_tables {args : Array Value} {s : State} (hts : ∀ w ∈ lw_tbl, w.before args s = true) : ∃ (D : va_G) (G : Nat → ClassId), va_K D vwCl (qtys G) s := by
  have h1 : ∀ k : Nat, ∃ d : ClassId × (Nat → Nat), ∀ q : vw_C, vwCl[k]? = some q → u_Kn s q.1 q.2.1 q.2.2 d.1 d.2 := fun k => by
    cases h : vwCl[k]? with
    | none => exact ⟨(0, fun _ => 0), fun q hq => by cases hq⟩
    | some q =>
      have hm := List.mem_of_getElem? h
      obtain ⟨n, -, hn⟩ := qcl_inst q hm
      obtain ⟨cC, iS, hu⟩ := u_known hts (qcl_in q hm) (hts _ hn)
      exact ⟨(cC, iS), fun q' hq => by cases hq; exact hu⟩
  obtain ⟨d, hd⟩ := Classical.axiomOfChoice h1
  have pr : ∀ ty : FieldType, (∀ C, ty ≠ .object C) → Cond.arrayClass ty ∈ lw_tbl → ∃ cA : ClassId, ArrOfT s cA ty ∧ va_RA s cA ty := fun ty hne hw => by
    obtain ⟨c, k, comp, g1, g2, g3⟩ := Cond.arrayClass_spec (hts _ hw)
    refine ⟨c, fun n z => ⟨fun k h => (by cases h), k, g2, comp, g3⟩, ?_⟩
    cases ty with
    | object C => exact absurd rfl (hne C)
    | _ => exact g1
  have po : ∀ C : String, Cond.arrayOver (.object C) ∈ lw_tbl → ∃ cA : ClassId, ArrOfT s cA (.object C) ∧ va_RA s cA (.object C) := fun C hw => by
    obtain ⟨comp, c, k, g1, g2, g3, g4, g5⟩ := Cond.arrayOver_spec (hts _ hw)
    exact ⟨c, fun n z => ⟨fun k h => (by cases h), k, g3, comp, g4⟩, k, comp, g3, g4, g1, g5⟩
  obtain ⟨g0, k0⟩ := pr .int (fun C h => by cases h) (by decide +kernel)
  obtain ⟨g1, k1⟩ := pr .boolean (fun C h => by cases h) (by decide +kernel)
  obtain ⟨g2, k2⟩ := pr .char (fun C h => by cases h) (by decide +kernel)
  obtain ⟨g3, k3⟩ := po RX3 (by decide +kernel)
  obtain ⟨g4, k4⟩ := po RX0 (by decide +kernel)
  obtain ⟨g5, k5⟩ := pr .byte (fun C h => by cases h) (by decide +kernel)
  refine ⟨(fun k => (d k).1, fun k => (d k).2), fun k => match k with | 0 => g0 | 1 => g1 | 2 => g2 | 3 => g3 | 4 => g4 | _ => g5, fun c q hq => hd c q hq, fun k q hk => ?_⟩
  match k, hk with
  | 0, hk => cases hk; exact k0
  | 1, hk => cases hk; exact k1
  | 2, hk => cases hk; exact k2
  | 3, hk => cases hk; exact k3
  | 4, hk => cases hk; exact k4
  | 5, hk => cases hk; exact k5
  | k + 6, hk => simp [qtys] at hk
theorem q_flags {l : Launch} (h : l.flags = flags0) : l.stackTraces = false := by
  unfold Launch.stackTraces
  rw [h]
  decide
theorem q_wc {args : Array Value} {s : State} {D : va_G} {G : Nat → ClassId} (hts : ∀ w ∈ lw_tbl, w.before args s = true) (hK : va_K D vwCl (qtys G) s) : qwc D G s := ⟨hK, fun w hw => va_Nw.of (q_kp_tab (List.mem_filter.mp hw).2) (hts _ (List.mem_filter.mp hw).1), va_AO.of (hts (.arrayOver (.object RX3)) (by decide +kernel)), va_AO.of (hts (.arrayOver (.object RX0)) (by decide +kernel))⟩
theorem qfl_n1 : (Cond.not (.castable "java/lang/UnsupportedOperationException" "java/lang/IllegalArgumentException")) ∈ qfl := by decide +kernel
theorem qfl_n2 : (Cond.not (.castable "java/lang/IllegalArgumentException" "java/lang/IndexOutOfBoundsException")) ∈ qfl := by decide +kernel
theorem qfl_n3 : (Cond.not (.castable "java/lang/UnsupportedOperationException" "java/lang/IndexOutOfBoundsException")) ∈ qfl := by decide +kernel
theorem q_ncs {args : Array Value} {s : State} (hgv : (Jvm.Cond.and given_1 narrow_1).before args s = true) : qNcs s := by
  have hs := flat_of_before _ hgv
  exact ⟨va_Nc.of (hs _ qfl_n1), va_Nc.of (hs _ qfl_n2), va_Nc.of (hs _ qfl_n3)⟩
theorem qfl_z1 : (Cond.eq (.static RJ0 "COMPACT_STRINGS" "Z") (.int 1)) ∈ qfl := by decide +kernel
theorem qfl_z2 : (Cond.isRef (.static RJ3 "SIOOBE_FORMATTER" "Ljava/util/function/BiFunction;")) ∈ qfl := by decide +kernel
theorem qfl_z3 : (Cond.isRef (.static Bundle.tN "UNASSIGNED_STACK" Bundle.steD)) ∈ qfl := by decide +kernel
theorem qfl_z4 : (Cond.isRef (.static Bundle.tN "SUPPRESSED_SENTINEL" Bundle.listD)) ∈ qfl := by decide +kernel
theorem q_X0 {args : Array Value} {s : State} {D : va_G} {G : Nat → ClassId} (hts : ∀ w ∈ lw_tbl, w.before args s = true) (hgv : (Jvm.Cond.and given_1 narrow_1).before args s = true) (hwc : qwc D G s) : ∃ sk sv : Nat → Nat, ∀ ad : Nat → Nat, (∀ k : Nat, k < 247 → s.heap.size ≤ ad k) → (∀ i : Nat, i < 40 → ad (1000 + i) = sk i) → (∀ i : Nat, i < 14 → ad (2000 + i) = sv i) → qX ad (qAdr ad s.heap.size) s s.heap := by
  have hs := flat_of_before _ hgv
  have hA : ∀ a : Nat, a < s.heap.size → ¬ (fun q => s.heap.size ≤ q) a := fun a h => Nat.not_le.mpr h
  obtain ⟨sk, sv, h1, h2⟩ := q_strings hts hgv
  refine ⟨sk, sv, fun ad had hk hv => ?_⟩
  have hAB : ∀ q, qAdr ad s.heap.size q → (fun q => s.heap.size ≤ q) q := fun q h => h.elim (fun ⟨k, hk, e⟩ => by rw [e]; exact had k hk) (fun h => h)
  refine ⟨⟨⟨(va_Zof (hts (.laysStatic RJ0 "COMPACT_STRINGS" "Z") (by decide +kernel)) (hts (.initialized RJ0) (by decide +kernel)) (va_eqi (hs _ qfl_z1)) hA).narrow hAB, (va_Zqof (hts (.laysStatic RJ3 "SIOOBE_FORMATTER" "Ljava/util/function/BiFunction;") (by decide +kernel)) (hts (.initialized RJ3) (by decide +kernel)) (hs _ qfl_z2) hA).narrow hAB⟩, fun i hi => ?_⟩, fun r hr => ?_, (vx_Zqof (hts (.laysStatic Bundle.tN "UNASSIGNED_STACK" Bundle.steD) (by decide +kernel)) (hts (.initialized Bundle.tN) (by decide +kernel)) (hs _ qfl_z3) hA).narrow hAB, (vx_Zqof (hts (.laysStatic Bundle.tN "SUPPRESSED_SENTINEL" Bundle.listD) (by decide +kernel)) (hts (.initialized Bundle.tN) (by decide +kernel)) (hs _ qfl_z4) hA).narrow hAB, hwc.2.1⟩
  · obtain ⟨g1, g2, g3, g4⟩ := h1 i hi
    rw [hk i (by omega), hv i hi]
    exact ⟨g1.narrow hAB, g2.narrow hAB, g3.narrow hAB, g4.narrow hAB⟩
  · rw [hk _ (qfl_ix r hr).1]
    exact h2 r hr
