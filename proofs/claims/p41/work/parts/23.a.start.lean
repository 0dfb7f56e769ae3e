def qtml : List (String × Nat) := [("QuakeRehearsal$Script", 74), ("QuakeRehearsal$Script", 76), ("QuakeRehearsal$Script", 78), ("QuakeRehearsal$Script", 80), ("QuakeRehearsal$Script", 82), ("QuakeRehearsal$Script", 84), ("QuakeRehearsal$Script", 86), ("QuakeRehearsal$Script", 88), ("QuakeRehearsal$Script", 90), ("QuakeRehearsal$Script", 92), ("QuakeRehearsalLaw", 250), ("QuakeRehearsalLaw", 255), ("QuakeRehearsalLaw", 263), ("QuakeRehearsalLaw", 269), ("QuakeRehearsalLaw", 271), ("QuakeRehearsalLaw", 273), ("QuakeRehearsalLaw", 303), ("QuakeRehearsalLaw", 305), ("QuakeRehearsalLaw", 307), ("QuakeRehearsalLaw", 309), ("QuakeRehearsal", 305), ("QuakeRehearsal", 307), ("QuakeRehearsal", 271), ("QuakeRehearsal", 248), ("QuakeRehearsal", 69), ("QuakeRehearsal", 76), ("QuakeRehearsal", 81), ("QuakeRehearsal", 300), ("QuakeRehearsal", 309), ("QuakeRehearsal", 117), ("QuakeRehearsal", 138), ("QuakeRehearsal", 170), ("QuakeRehearsal", 124), ("QuakeRehearsal", 303), ("QuakeRehearsal", 184), ("QuakeRehearsal", 285), ("QuakeRehearsal", 291), ("java/util/Arrays", 337), ("QuakeRehearsal", 199), ("QuakeRehearsal", 88), ("QuakeRehearsal", 208), ("QuakeRehearsal", 218), ("QuakeRehearsal", 244), ("QuakeRehearsal", 246), ("QuakeRehearsal", 293)]
def qtm (i : Nat) : Term := Term.string (qtml.getD i ("", 0)).1 (qtml.getD i ("", 0)).2
def qfl : List Cond := flatC (Jvm.Cond.and given_1 narrow_1)
theorem qfl_exi : ∀ i, i < 45 → qfl[([965, 972, 980, 987, 995, 1002, 1009, 1018, 1025, 1036, 785, 792, 796, 808, 813, 818, 882, 896, 908, 918, 316, 344, 377, 405, 428, 444, 479, 501, 536, 563, 590, 619, 653, 687, 717, 742, 763, 801, 823, 856, 929, 1045, 1070, 1093, 1127] : List Nat).getD i 0]? = some (Cond.exactly (qtm i) "java/lang/String") := by decide +kernel
theorem qfl_ex (i : Nat) (h : i < 45) : (Cond.exactly (qtm i) "java/lang/String") ∈ qfl := List.mem_of_getElem? (qfl_exi i h)
theorem qfl_coi : ∀ i, i < 20 → qfl[([966, 973, 981, 988, 996, 1003, 1010, 1019, 1026, 1037, 786, 793, 797, 809, 814, 819, 883, 897, 909, 919] : List Nat).getD i 0]? = some (Cond.eq (.field (qtm i) "java/lang/String" "coder" "B") (.int 0)) := by decide +kernel
theorem qfl_co (i : Nat) (h : i < 20) : (Cond.eq (.field (qtm i) "java/lang/String" "coder" "B") (.int 0)) ∈ qfl := List.mem_of_getElem? (qfl_coi i h)
theorem qfl_ari : ∀ i, i < 20 → qfl[([967, 974, 982, 989, 997, 1004, 1011, 1020, 1027, 1038, 787, 794, 798, 810, 815, 820, 884, 898, 910, 920] : List Nat).getD i 0]? = some (Cond.arrayOf (.field (qtm i) "java/lang/String" "value" "[B") .byte) := by decide +kernel
theorem qfl_ar (i : Nat) (h : i < 20) : (Cond.arrayOf (.field (qtm i) "java/lang/String" "value" "[B") .byte) ∈ qfl := List.mem_of_getElem? (qfl_ari i h)
theorem qfl_lei : ∀ i, i < 20 → qfl[([968, 975, 983, 990, 998, 1005, 1012, 1021, 1028, 1039, 788, 795, 799, 811, 816, 821, 885, 899, 911, 921] : List Nat).getD i 0]? = some (Cond.eq (.length (.field (qtm i) "java/lang/String" "value" "[B")) (.int (Int32.ofNat (qtx.getD i []).length))) := by decide +kernel
theorem qfl_le (i : Nat) (h : i < 20) : (Cond.eq (.length (.field (qtm i) "java/lang/String" "value" "[B")) (.int (Int32.ofNat (qtx.getD i []).length))) ∈ qfl := List.mem_of_getElem? (qfl_lei i h)
theorem qfl_e0_0 : ∀ j, j < 3 → qfl[969 + j]? = some (Cond.eq (.elem (.field (qtm 0) "java/lang/String" "value" "[B") (.int (Int32.ofNat (0 + j)))) (.int ((qtx.getD 0 []).getD (0 + j) 0))) := by decide +kernel
theorem qfl_e1_0 : ∀ j, j < 4 → qfl[976 + j]? = some (Cond.eq (.elem (.field (qtm 1) "java/lang/String" "value" "[B") (.int (Int32.ofNat (0 + j)))) (.int ((qtx.getD 1 []).getD (0 + j) 0))) := by decide +kernel
theorem qfl_e2_0 : ∀ j, j < 3 → qfl[984 + j]? = some (Cond.eq (.elem (.field (qtm 2) "java/lang/String" "value" "[B") (.int (Int32.ofNat (0 + j)))) (.int ((qtx.getD 2 []).getD (0 + j) 0))) := by decide +kernel
theorem qfl_e3_0 : ∀ j, j < 4 → qfl[991 + j]? = some (Cond.eq (.elem (.field (qtm 3) "java/lang/String" "value" "[B") (.int (Int32.ofNat (0 + j)))) (.int ((qtx.getD 3 []).getD (0 + j) 0))) := by decide +kernel
theorem qfl_e4_0 : ∀ j, j < 3 → qfl[999 + j]? = some (Cond.eq (.elem (.field (qtm 4) "java/lang/String" "value" "[B") (.int (Int32.ofNat (0 + j)))) (.int ((qtx.getD 4 []).getD (0 + j) 0))) := by decide +kernel
theorem qfl_e5_0 : ∀ j, j < 3 → qfl[1006 + j]? = some (Cond.eq (.elem (.field (qtm 5) "java/lang/String" "value" "[B") (.int (Int32.ofNat (0 + j)))) (.int ((qtx.getD 5 []).getD (0 + j) 0))) := by decide +kernel
theorem qfl_e6_0 : ∀ j, j < 5 → qfl[1013 + j]? = some (Cond.eq (.elem (.field (qtm 6) "java/lang/String" "value" "[B") (.int (Int32.ofNat (0 + j)))) (.int ((qtx.getD 6 []).getD (0 + j) 0))) := by decide +kernel
theorem qfl_e7_0 : ∀ j, j < 3 → qfl[1022 + j]? = some (Cond.eq (.elem (.field (qtm 7) "java/lang/String" "value" "[B") (.int (Int32.ofNat (0 + j)))) (.int ((qtx.getD 7 []).getD (0 + j) 0))) := by decide +kernel
theorem qfl_e8_0 : ∀ j, j < 7 → qfl[1029 + j]? = some (Cond.eq (.elem (.field (qtm 8) "java/lang/String" "value" "[B") (.int (Int32.ofNat (0 + j)))) (.int ((qtx.getD 8 []).getD (0 + j) 0))) := by decide +kernel
theorem qfl_e9_0 : ∀ j, j < 5 → qfl[1040 + j]? = some (Cond.eq (.elem (.field (qtm 9) "java/lang/String" "value" "[B") (.int (Int32.ofNat (0 + j)))) (.int ((qtx.getD 9 []).getD (0 + j) 0))) := by decide +kernel
theorem qfl_e10_0 : ∀ j, j < 3 → qfl[789 + j]? = some (Cond.eq (.elem (.field (qtm 10) "java/lang/String" "value" "[B") (.int (Int32.ofNat (0 + j)))) (.int ((qtx.getD 10 []).getD (0 + j) 0))) := by decide +kernel
theorem qfl_e11_0 : ∀ j, j < 0 → qfl[0 + j]? = some (Cond.eq (.elem (.field (qtm 11) "java/lang/String" "value" "[B") (.int (Int32.ofNat (0 + j)))) (.int ((qtx.getD 11 []).getD (0 + j) 0))) := by decide +kernel
theorem qfl_e12_0 : ∀ j, j < 1 → qfl[800 + j]? = some (Cond.eq (.elem (.field (qtm 12) "java/lang/String" "value" "[B") (.int (Int32.ofNat (0 + j)))) (.int ((qtx.getD 12 []).getD (0 + j) 0))) := by decide +kernel
theorem qfl_e13_0 : ∀ j, j < 1 → qfl[812 + j]? = some (Cond.eq (.elem (.field (qtm 13) "java/lang/String" "value" "[B") (.int (Int32.ofNat (0 + j)))) (.int ((qtx.getD 13 []).getD (0 + j) 0))) := by decide +kernel
theorem qfl_e14_0 : ∀ j, j < 1 → qfl[817 + j]? = some (Cond.eq (.elem (.field (qtm 14) "java/lang/String" "value" "[B") (.int (Int32.ofNat (0 + j)))) (.int ((qtx.getD 14 []).getD (0 + j) 0))) := by decide +kernel
theorem qfl_e15_0 : ∀ j, j < 1 → qfl[822 + j]? = some (Cond.eq (.elem (.field (qtm 15) "java/lang/String" "value" "[B") (.int (Int32.ofNat (0 + j)))) (.int ((qtx.getD 15 []).getD (0 + j) 0))) := by decide +kernel
theorem qfl_e16_0 : ∀ j, j < 10 → qfl[886 + j]? = some (Cond.eq (.elem (.field (qtm 16) "java/lang/String" "value" "[B") (.int (Int32.ofNat (0 + j)))) (.int ((qtx.getD 16 []).getD (0 + j) 0))) := by decide +kernel
theorem qfl_e17_0 : ∀ j, j < 8 → qfl[900 + j]? = some (Cond.eq (.elem (.field (qtm 17) "java/lang/String" "value" "[B") (.int (Int32.ofNat (0 + j)))) (.int ((qtx.getD 17 []).getD (0 + j) 0))) := by decide +kernel
theorem qfl_e18_0 : ∀ j, j < 6 → qfl[912 + j]? = some (Cond.eq (.elem (.field (qtm 18) "java/lang/String" "value" "[B") (.int (Int32.ofNat (0 + j)))) (.int ((qtx.getD 18 []).getD (0 + j) 0))) := by decide +kernel
theorem qfl_e19_0 : ∀ j, j < 7 → qfl[922 + j]? = some (Cond.eq (.elem (.field (qtm 19) "java/lang/String" "value" "[B") (.int (Int32.ofNat (0 + j)))) (.int ((qtx.getD 19 []).getD (0 + j) 0))) := by decide +kernel
theorem qfl_el (i : Nat) (h : i < 20) (j : Nat) (hj : j < (qtx.getD i []).length) : (Cond.eq (.elem (.field (qtm i) "java/lang/String" "value" "[B") (.int (Int32.ofNat j))) (.int ((qtx.getD i []).getD j 0))) ∈ qfl := by
  match i, h, hj with
  | 0, _, hj =>
    have := qfl_e0_0 j hj
    rw [Nat.zero_add] at this
    exact List.mem_of_getElem? this
  | 1, _, hj =>
    have := qfl_e1_0 j hj
    rw [Nat.zero_add] at this
    exact List.mem_of_getElem? this
  | 2, _, hj =>
    have := qfl_e2_0 j hj
    rw [Nat.zero_add] at this
    exact List.mem_of_getElem? this
  | 3, _, hj =>
    have := qfl_e3_0 j hj
    rw [Nat.zero_add] at this
    exact List.mem_of_getElem? this
  | 4, _, hj =>
    have := qfl_e4_0 j hj
    rw [Nat.zero_add] at this
    exact List.mem_of_getElem? this
  | 5, _, hj =>
    have := qfl_e5_0 j hj
    rw [Nat.zero_add] at this
    exact List.mem_of_getElem? this
  | 6, _, hj =>
    have := qfl_e6_0 j hj
    rw [Nat.zero_add] at this
    exact List.mem_of_getElem? this
  | 7, _, hj =>
    have := qfl_e7_0 j hj
    rw [Nat.zero_add] at this
    exact List.mem_of_getElem? this
  | 8, _, hj =>
    have := qfl_e8_0 j hj
    rw [Nat.zero_add] at this
    exact List.mem_of_getElem? this
  | 9, _, hj =>
    have := qfl_e9_0 j hj
    rw [Nat.zero_add] at this
    exact List.mem_of_getElem? this
  | 10, _, hj =>
    have := qfl_e10_0 j hj
    rw [Nat.zero_add] at this
    exact List.mem_of_getElem? this
  | 11, _, hj => exact absurd hj (Nat.not_lt_zero j)
  | 12, _, hj =>
    have := qfl_e12_0 j hj
    rw [Nat.zero_add] at this
    exact List.mem_of_getElem? this
  | 13, _, hj =>
    have := qfl_e13_0 j hj
    rw [Nat.zero_add] at this
    exact List.mem_of_getElem? this
  | 14, _, hj =>
    have := qfl_e14_0 j hj
    rw [Nat.zero_add] at this
    exact List.mem_of_getElem? this
  | 15, _, hj =>
    have := qfl_e15_0 j hj
    rw [Nat.zero_add] at this
    exact List.mem_of_getElem? this
  | 16, _, hj =>
    have := qfl_e16_0 j hj
    rw [Nat.zero_add] at this
    exact List.mem_of_getElem? this
  | 17, _, hj =>
    have := qfl_e17_0 j hj
    rw [Nat.zero_add] at this
    exact List.mem_of_getElem? this
  | 18, _, hj =>
    have := qfl_e18_0 j hj
    rw [Nat.zero_add] at this
    exact List.mem_of_getElem? this
  | 19, _, hj =>
    have := qfl_e19_0 j hj
    rw [Nat.zero_add] at this
    exact List.mem_of_getElem? this
  | i + 20, h, _ => exact absurd h (by omega)
theorem qfl_sr : ∀ r ∈ qstr, Cond.stringRef r.1 r.2.1 r.2.2.1 ∈ lw_tbl := by decide +kernel
theorem qfl_ix : ∀ r ∈ qstr, r.2.2.2 < 45 ∧ Term.string r.1 r.2.1 = qtm r.2.2.2 := by decide +kernel
theorem q_strings {args : Array Value} {s : State} (hts : ∀ w ∈ lw_tbl, w.before args s = true) (hgv : (Jvm.Cond.and given_1 narrow_1).before args s = true) : ∃ sk sv : Nat → Nat, (∀ i : Nat, i < 20 → va_O "java/lang/String" (sk i) (fun q => s.heap.size ≤ q) s s.heap ∧ va_OF "java/lang/String" "coder" "B" (.int 0) (sk i) (fun q => s.heap.size ≤ q) s s.heap ∧ va_OF "java/lang/String" "value" "[B" (.ref (sv i)) (sk i) (fun q => s.heap.size ≤ q) s s.heap ∧ va_T .byte (sv i) (qtx.getD i []).length (fun j => .int ((qtx.getD i []).getD j 0)) (fun q => s.heap.size ≤ q) s s.heap) ∧ ∀ r ∈ qstr, vk_R r.1 r.2.1 r.2.2.1 (sk r.2.2.2) s := by
  have hs := flat_of_before _ hgv
  have hA : ∀ a : Nat, a < s.heap.size → ¬ (fun q => s.heap.size ≤ q) a := fun a h => Nat.not_le.mpr h
  have h0 : ∀ i : Nat, ∃ q : Nat × Nat, i < 45 → (qtm i).eval args s none [] s = some (.ref q.1) ∧ va_O "java/lang/String" q.1 (fun q => s.heap.size ≤ q) s s.heap ∧ (i < 20 → va_OF "java/lang/String" "coder" "B" (.int 0) q.1 (fun q => s.heap.size ≤ q) s s.heap ∧ va_OF "java/lang/String" "value" "[B" (.ref q.2) q.1 (fun q => s.heap.size ≤ q) s s.heap ∧ va_T .byte q.2 (qtx.getD i []).length (fun j => .int ((qtx.getD i []).getD j 0)) (fun q => s.heap.size ≤ q) s s.heap) := by
    intro i
    by_cases hi : i < 45
    · obtain ⟨a, c, cA, kA, q1, q2, q3, q4, q5, q6, -⟩ := Cond.exactly_spec (args := args) (first := s) (o := none) (s := s) (idx := []) (t := qtm i) (cls := "java/lang/String") (hs _ (qfl_ex i hi))
      have hO : va_O "java/lang/String" a (fun q => s.heap.size ≤ q) s s.heap := ⟨cA, q3, q5, by rw [q6]; exact q2, hA a (Array.getElem?_eq_some_iff.mp q3).1⟩
      by_cases h20 : i < 20
      · have hlt : (qtx.getD i []).length < 2 ^ 31 := Nat.lt_of_lt_of_le (qasc_len (qtx_asc i h20)) (by decide)
        obtain ⟨t, ht, hT⟩ := va_Tof (f := fun j => .int ((qtx.getD i []).getD j 0)) (A := fun q => s.heap.size ≤ q) hlt (hs _ (qfl_ar i h20)) (va_eqt (hs _ (qfl_le i h20))) (fun j hj => va_eqt (hs _ (qfl_el i h20 j hj))) hA
        exact ⟨(a, t), fun _ => ⟨q1, hO, fun _ => ⟨vk_OFof q1 (va_eqt (hs _ (qfl_co i h20))) hA, vk_OFof q1 ht hA, hT⟩⟩⟩
      · exact ⟨(a, 0), fun _ => ⟨q1, hO, fun h => absurd h h20⟩⟩
    · exact ⟨(0, 0), fun h => absurd h hi⟩
  obtain ⟨ad, had⟩ := Classical.axiomOfChoice h0
  refine ⟨fun i => (ad i).1, fun i => (ad i).2, fun i hi => ?_, fun r hr => ?_⟩
  · obtain ⟨-, g1, g2⟩ := had i (by omega)
    obtain ⟨g2, g3, g4⟩ := g2 hi
    exact ⟨g1, g2, g3, g4⟩
  · obtain ⟨h1, h2⟩ := qfl_ix r hr
    obtain ⟨g1, -, -⟩ := had _ h1
    refine vk_R.of (A := args) (hts _ (qfl_sr r hr)) ?_
    have key : (Term.string r.1 r.2.1).eval args s none [] s = some (.ref (ad r.2.2.2).1) := by rw [h2]; exact g1
    exact key
theorem qcl_in : ∀ q ∈ vwCl, (∀ w ∈ u_ws q.1 q.2.1 q.2.2, w ∈ lw_tbl) := by decide +kernel
theorem qcl_inst : ∀ q ∈ vwCl, ∃ n, n < 30 ∧ Cond.instantiable q.1 n ∈ lw_tbl := by decide +kernel
theorem q_tables {args : Array Value} {s : State} (hts : ∀ w ∈ lw_tbl, w.before args s = true) : ∃ (D : va_G) (G : Nat → ClassId), va_K D vwCl (qtys G) s := by
  have h1 : ∀ k : Nat, ∃ d : ClassId × (Nat → Nat), ∀ q : vw_C, vwCl[k]? = some q → u_Kn s q.1 q.2.1 q.2.2 d.1 d.2 := fun k => by
    cases h : vwCl[k]? with
    | none => exact ⟨(0, fun _ => 0), fun q hq => by cases hq⟩
    | some q =>
      have hm := List.mem_of_getElem? h
      obtain ⟨n, -, hn⟩ := qcl_inst q hm
      obtain ⟨cC, iS, hu⟩ := u_known hts (qcl_in q hm) (hts _ hn)
      exact ⟨(cC, iS), fun q' hq => by cases hq; exact hu⟩
  obtain ⟨d, hd⟩ := Classical.axiomOfChoice h1
  have pr : ∀ ty : FieldType, (∀ C, ty ≠ .object C) → Cond.arrayClass ty ∈ lw_tbl → ∃ cA : ClassId, ArrOfT s cA ty ∧ va_RA s cA ty := fun ty hne hw => by
    obtain ⟨c, k, comp, g1, g2, g3⟩ := Cond.arrayClass_spec (hts _ hw)
    refine ⟨c, fun n z => ⟨fun k h => (by cases h), k, g2, comp, g3⟩, ?_⟩
    cases ty with
    | object C => exact absurd rfl (hne C)
    | _ => exact g1
  have po : ∀ C : String, Cond.arrayOver (.object C) ∈ lw_tbl → ∃ cA : ClassId, ArrOfT s cA (.object C) ∧ va_RA s cA (.object C) := fun C hw => by
    obtain ⟨comp, c, k, g1, g2, g3, g4, g5⟩ := Cond.arrayOver_spec (hts _ hw)
    exact ⟨c, fun n z => ⟨fun k h => (by cases h), k, g3, comp, g4⟩, k, comp, g3, g4, g1, g5⟩
  obtain ⟨g0, k0⟩ := pr .int (fun C h => by cases h) (by decide +kernel)
  obtain ⟨g1, k1⟩ := pr .boolean (fun C h => by cases h) (by decide +kernel)
  obtain ⟨g2, k2⟩ := pr .char (fun C h => by cases h) (by decide +kernel)
  obtain ⟨g3, k3⟩ := po RX3 (by decide +kernel)
  obtain ⟨g4, k4⟩ := po RX0 (by decide +kernel)
  obtain ⟨g5, k5⟩ := pr .byte (fun C h => by cases h) (by decide +kernel)
  obtain ⟨g6, k6⟩ := pr .long (fun C h => by cases h) (by decide +kernel)
  obtain ⟨g7, k7⟩ : ∃ cA : ClassId, ArrOfT s cA (.array .int) ∧ va_RA s cA (.array .int) := by
    obtain ⟨comp, c, k, a1, a2, a3, a4⟩ := Cond.arrayOver_specA (hts (.arrayOver (.array .int)) (by decide +kernel))
    exact ⟨c, fun n z => ⟨fun k h => (by cases h), k, a2, comp, a3⟩, a4⟩
  refine ⟨(fun k => (d k).1, fun k => (d k).2), fun k => match k with | 0 => g0 | 1 => g1 | 2 => g2 | 3 => g3 | 4 => g4 | 5 => g5 | 6 => g6 | _ => g7, fun c q hq => hd c q hq, fun k q hk => ?_⟩
  match k, hk with
  | 0, hk => cases hk; exact k0
  | 1, hk => cases hk; exact k1
  | 2, hk => cases hk; exact k2
  | 3, hk => cases hk; exact k3
  | 4, hk => cases hk; exact k4
  | 5, hk => cases hk; exact k5
  | 6, hk => cases hk; exact k6
  | 7, hk => cases hk; exact k7
  | k + 8, hk => simp [qtys] at hk
theorem q_flags {l : Launch} (h : l.flags = flags0) : l.stackTraces = false := by
  unfold Launch.stackTraces
  rw [h]
  decide
theorem q_wc {args : Array Value} {s : State} {D : va_G} {G : Nat → ClassId} (hts : ∀ w ∈ lw_tbl, w.before args s = true) (hK : va_K D vwCl (qtys G) s) : qwc D G s := ⟨hK, fun w hw => va_Nw.of (q_kp_tab (List.mem_filter.mp hw).2) (hts _ (List.mem_filter.mp hw).1), va_AO.of (hts (.arrayOver (.object RX3)) (by decide +kernel)), va_AO.of (hts (.arrayOver (.object RX0)) (by decide +kernel))⟩
theorem qfl_n1 : (Cond.not (.castable "java/lang/UnsupportedOperationException" "java/lang/IllegalArgumentException")) ∈ qfl := by decide +kernel
theorem qfl_n2 : (Cond.not (.castable "java/lang/IllegalArgumentException" "java/lang/IndexOutOfBoundsException")) ∈ qfl := by decide +kernel
theorem qfl_n3 : (Cond.not (.castable "java/lang/UnsupportedOperationException" "java/lang/IndexOutOfBoundsException")) ∈ qfl := by decide +kernel
theorem q_prv : ∀ x ∈ lpvs, Cond.privateMethod x ∈ lw_tbl := by decide +kernel
theorem q_ncs {args : Array Value} {s : State} (hts : ∀ w ∈ lw_tbl, w.before args s = true) (hgv : (Jvm.Cond.and given_1 narrow_1).before args s = true) : qNcs s := by
  have hs := flat_of_before _ hgv
  exact ⟨va_Nc.of (hs _ qfl_n1), va_Nc.of (hs _ qfl_n2), va_Nc.of (hs _ qfl_n3), va_AOA.of (hts (.arrayOver (.array .int)) (by decide +kernel)), fun x hx => hts _ (q_prv x hx)⟩
theorem qfl_z1 : (Cond.eq (.static RJ0 "COMPACT_STRINGS" "Z") (.int 1)) ∈ qfl := by decide +kernel
theorem qfl_z2 : (Cond.isRef (.static RJ3 "SIOOBE_FORMATTER" "Ljava/util/function/BiFunction;")) ∈ qfl := by decide +kernel
theorem qfl_z3 : (Cond.isRef (.static Bundle.tN "UNASSIGNED_STACK" Bundle.steD)) ∈ qfl := by decide +kernel
theorem qfl_z4 : (Cond.isRef (.static Bundle.tN "SUPPRESSED_SENTINEL" Bundle.listD)) ∈ qfl := by decide +kernel
theorem q_X0 {args : Array Value} {s : State} {D : va_G} {G : Nat → ClassId} (hts : ∀ w ∈ lw_tbl, w.before args s = true) (hgv : (Jvm.Cond.and given_1 narrow_1).before args s = true) (hwc : qwc D G s) : ∃ sk sv : Nat → Nat, ∀ (ad : Nat → Nat) (A : Nat → Prop), (∀ q, A q → s.heap.size ≤ q) → (∀ i : Nat, i < 45 → ad (1000 + i) = sk i) → (∀ i : Nat, i < 20 → ad (2000 + i) = sv i) → qX ad A s s.heap := by
  have hs := flat_of_before _ hgv
  have hA : ∀ a : Nat, a < s.heap.size → ¬ (fun q => s.heap.size ≤ q) a := fun a h => Nat.not_le.mpr h
  obtain ⟨sk, sv, h1, h2⟩ := q_strings hts hgv
  refine ⟨sk, sv, fun ad A hAB hk hv => ?_⟩
  refine ⟨⟨⟨(va_Zof (hts (.laysStatic RJ0 "COMPACT_STRINGS" "Z") (by decide +kernel)) (hts (.initialized RJ0) (by decide +kernel)) (va_eqi (hs _ qfl_z1)) hA).narrow hAB, (va_Zqof (hts (.laysStatic RJ3 "SIOOBE_FORMATTER" "Ljava/util/function/BiFunction;") (by decide +kernel)) (hts (.initialized RJ3) (by decide +kernel)) (hs _ qfl_z2) hA).narrow hAB⟩, fun i hi => ?_⟩, fun r hr => ?_, (vx_Zqof (hts (.laysStatic Bundle.tN "UNASSIGNED_STACK" Bundle.steD) (by decide +kernel)) (hts (.initialized Bundle.tN) (by decide +kernel)) (hs _ qfl_z3) hA).narrow hAB, (vx_Zqof (hts (.laysStatic Bundle.tN "SUPPRESSED_SENTINEL" Bundle.listD) (by decide +kernel)) (hts (.initialized Bundle.tN) (by decide +kernel)) (hs _ qfl_z4) hA).narrow hAB, hwc.2.1⟩
  · obtain ⟨g1, g2, g3, g4⟩ := h1 i hi
    rw [hk i (by omega), hv i hi]
    exact ⟨g1.narrow hAB, g2.narrow hAB, g3.narrow hAB, g4.narrow hAB⟩
  · rw [hk _ (qfl_ix r hr).1]
    exact h2 r hr
theorem qfl_do0 : ∀ j, j < 10 → qfl[14 + j]? = some (Cond.eq (.elem (.static RJ6 "DigitOnes" "[B") (.int (Int32.ofNat (0 + j)))) (.int (nI (48 + (0 + j) % 10)))) := by decide +kernel
theorem qfl_do10 : ∀ j, j < 10 → qfl[24 + j]? = some (Cond.eq (.elem (.static RJ6 "DigitOnes" "[B") (.int (Int32.ofNat (10 + j)))) (.int (nI (48 + (10 + j) % 10)))) := by decide +kernel
theorem qfl_do20 : ∀ j, j < 10 → qfl[34 + j]? = some (Cond.eq (.elem (.static RJ6 "DigitOnes" "[B") (.int (Int32.ofNat (20 + j)))) (.int (nI (48 + (20 + j) % 10)))) := by decide +kernel
theorem qfl_do30 : ∀ j, j < 10 → qfl[44 + j]? = some (Cond.eq (.elem (.static RJ6 "DigitOnes" "[B") (.int (Int32.ofNat (30 + j)))) (.int (nI (48 + (30 + j) % 10)))) := by decide +kernel
theorem qfl_do40 : ∀ j, j < 10 → qfl[54 + j]? = some (Cond.eq (.elem (.static RJ6 "DigitOnes" "[B") (.int (Int32.ofNat (40 + j)))) (.int (nI (48 + (40 + j) % 10)))) := by decide +kernel
theorem qfl_do50 : ∀ j, j < 10 → qfl[64 + j]? = some (Cond.eq (.elem (.static RJ6 "DigitOnes" "[B") (.int (Int32.ofNat (50 + j)))) (.int (nI (48 + (50 + j) % 10)))) := by decide +kernel
theorem qfl_do60 : ∀ j, j < 10 → qfl[74 + j]? = some (Cond.eq (.elem (.static RJ6 "DigitOnes" "[B") (.int (Int32.ofNat (60 + j)))) (.int (nI (48 + (60 + j) % 10)))) := by decide +kernel
theorem qfl_do70 : ∀ j, j < 10 → qfl[84 + j]? = some (Cond.eq (.elem (.static RJ6 "DigitOnes" "[B") (.int (Int32.ofNat (70 + j)))) (.int (nI (48 + (70 + j) % 10)))) := by decide +kernel
theorem qfl_do80 : ∀ j, j < 10 → qfl[94 + j]? = some (Cond.eq (.elem (.static RJ6 "DigitOnes" "[B") (.int (Int32.ofNat (80 + j)))) (.int (nI (48 + (80 + j) % 10)))) := by decide +kernel
theorem qfl_do90 : ∀ j, j < 10 → qfl[104 + j]? = some (Cond.eq (.elem (.static RJ6 "DigitOnes" "[B") (.int (Int32.ofNat (90 + j)))) (.int (nI (48 + (90 + j) % 10)))) := by decide +kernel
theorem qfl_do (j : Nat) (hj : j < 100) : (Cond.eq (.elem (.static RJ6 "DigitOnes" "[B") (.int (Int32.ofNat j))) (.int (nI (48 + j % 10)))) ∈ qfl := by
  by_cases h0 : j < 10
  · have := qfl_do0 (j - 0) (by omega)
    rw [show 0 + (j - 0) = j by omega] at this
    exact List.mem_of_getElem? this
  by_cases h10 : j < 20
  · have := qfl_do10 (j - 10) (by omega)
    rw [show 10 + (j - 10) = j by omega] at this
    exact List.mem_of_getElem? this
  by_cases h20 : j < 30
  · have := qfl_do20 (j - 20) (by omega)
    rw [show 20 + (j - 20) = j by omega] at this
    exact List.mem_of_getElem? this
  by_cases h30 : j < 40
  · have := qfl_do30 (j - 30) (by omega)
    rw [show 30 + (j - 30) = j by omega] at this
    exact List.mem_of_getElem? this
  by_cases h40 : j < 50
  · have := qfl_do40 (j - 40) (by omega)
    rw [show 40 + (j - 40) = j by omega] at this
    exact List.mem_of_getElem? this
  by_cases h50 : j < 60
  · have := qfl_do50 (j - 50) (by omega)
    rw [show 50 + (j - 50) = j by omega] at this
    exact List.mem_of_getElem? this
  by_cases h60 : j < 70
  · have := qfl_do60 (j - 60) (by omega)
    rw [show 60 + (j - 60) = j by omega] at this
    exact List.mem_of_getElem? this
  by_cases h70 : j < 80
  · have := qfl_do70 (j - 70) (by omega)
    rw [show 70 + (j - 70) = j by omega] at this
    exact List.mem_of_getElem? this
  by_cases h80 : j < 90
  · have := qfl_do80 (j - 80) (by omega)
    rw [show 80 + (j - 80) = j by omega] at this
    exact List.mem_of_getElem? this
  by_cases h90 : j < 100
  · have := qfl_do90 (j - 90) (by omega)
    rw [show 90 + (j - 90) = j by omega] at this
    exact List.mem_of_getElem? this
  omega
theorem qfl_doa : (Cond.arrayOf (.static RJ6 "DigitOnes" "[B") .byte) ∈ qfl := by decide +kernel
theorem qfl_dol : (Cond.eq (.length (.static RJ6 "DigitOnes" "[B")) (.int 100)) ∈ qfl := by decide +kernel
theorem qfl_dt0 : ∀ j, j < 10 → qfl[117 + j]? = some (Cond.eq (.elem (.static RJ6 "DigitTens" "[B") (.int (Int32.ofNat (0 + j)))) (.int (nI (48 + (0 + j) / 10)))) := by decide +kernel
theorem qfl_dt10 : ∀ j, j < 10 → qfl[127 + j]? = some (Cond.eq (.elem (.static RJ6 "DigitTens" "[B") (.int (Int32.ofNat (10 + j)))) (.int (nI (48 + (10 + j) / 10)))) := by decide +kernel
theorem qfl_dt20 : ∀ j, j < 10 → qfl[137 + j]? = some (Cond.eq (.elem (.static RJ6 "DigitTens" "[B") (.int (Int32.ofNat (20 + j)))) (.int (nI (48 + (20 + j) / 10)))) := by decide +kernel
theorem qfl_dt30 : ∀ j, j < 10 → qfl[147 + j]? = some (Cond.eq (.elem (.static RJ6 "DigitTens" "[B") (.int (Int32.ofNat (30 + j)))) (.int (nI (48 + (30 + j) / 10)))) := by decide +kernel
theorem qfl_dt40 : ∀ j, j < 10 → qfl[157 + j]? = some (Cond.eq (.elem (.static RJ6 "DigitTens" "[B") (.int (Int32.ofNat (40 + j)))) (.int (nI (48 + (40 + j) / 10)))) := by decide +kernel
theorem qfl_dt50 : ∀ j, j < 10 → qfl[167 + j]? = some (Cond.eq (.elem (.static RJ6 "DigitTens" "[B") (.int (Int32.ofNat (50 + j)))) (.int (nI (48 + (50 + j) / 10)))) := by decide +kernel
theorem qfl_dt60 : ∀ j, j < 10 → qfl[177 + j]? = some (Cond.eq (.elem (.static RJ6 "DigitTens" "[B") (.int (Int32.ofNat (60 + j)))) (.int (nI (48 + (60 + j) / 10)))) := by decide +kernel
theorem qfl_dt70 : ∀ j, j < 10 → qfl[187 + j]? = some (Cond.eq (.elem (.static RJ6 "DigitTens" "[B") (.int (Int32.ofNat (70 + j)))) (.int (nI (48 + (70 + j) / 10)))) := by decide +kernel
theorem qfl_dt80 : ∀ j, j < 10 → qfl[197 + j]? = some (Cond.eq (.elem (.static RJ6 "DigitTens" "[B") (.int (Int32.ofNat (80 + j)))) (.int (nI (48 + (80 + j) / 10)))) := by decide +kernel
theorem qfl_dt90 : ∀ j, j < 10 → qfl[207 + j]? = some (Cond.eq (.elem (.static RJ6 "DigitTens" "[B") (.int (Int32.ofNat (90 + j)))) (.int (nI (48 + (90 + j) / 10)))) := by decide +kernel
theorem qfl_dt (j : Nat) (hj : j < 100) : (Cond.eq (.elem (.static RJ6 "DigitTens" "[B") (.int (Int32.ofNat j))) (.int (nI (48 + j / 10)))) ∈ qfl := by
  by_cases h0 : j < 10
  · have := qfl_dt0 (j - 0) (by omega)
    rw [show 0 + (j - 0) = j by omega] at this
    exact List.mem_of_getElem? this
  by_cases h10 : j < 20
  · have := qfl_dt10 (j - 10) (by omega)
    rw [show 10 + (j - 10) = j by omega] at this
    exact List.mem_of_getElem? this
  by_cases h20 : j < 30
  · have := qfl_dt20 (j - 20) (by omega)
    rw [show 20 + (j - 20) = j by omega] at this
    exact List.mem_of_getElem? this
  by_cases h30 : j < 40
  · have := qfl_dt30 (j - 30) (by omega)
    rw [show 30 + (j - 30) = j by omega] at this
    exact List.mem_of_getElem? this
  by_cases h40 : j < 50
  · have := qfl_dt40 (j - 40) (by omega)
    rw [show 40 + (j - 40) = j by omega] at this
    exact List.mem_of_getElem? this
  by_cases h50 : j < 60
  · have := qfl_dt50 (j - 50) (by omega)
    rw [show 50 + (j - 50) = j by omega] at this
    exact List.mem_of_getElem? this
  by_cases h60 : j < 70
  · have := qfl_dt60 (j - 60) (by omega)
    rw [show 60 + (j - 60) = j by omega] at this
    exact List.mem_of_getElem? this
  by_cases h70 : j < 80
  · have := qfl_dt70 (j - 70) (by omega)
    rw [show 70 + (j - 70) = j by omega] at this
    exact List.mem_of_getElem? this
  by_cases h80 : j < 90
  · have := qfl_dt80 (j - 80) (by omega)
    rw [show 80 + (j - 80) = j by omega] at this
    exact List.mem_of_getElem? this
  by_cases h90 : j < 100
  · have := qfl_dt90 (j - 90) (by omega)
    rw [show 90 + (j - 90) = j by omega] at this
    exact List.mem_of_getElem? this
  omega
theorem qfl_dta : (Cond.arrayOf (.static RJ6 "DigitTens" "[B") .byte) ∈ qfl := by decide +kernel
theorem qfl_dtl : (Cond.eq (.length (.static RJ6 "DigitTens" "[B")) (.int 100)) ∈ qfl := by decide +kernel
theorem q_dg {args : Array Value} {s : State} (hts : ∀ w ∈ lw_tbl, w.before args s = true) (hgv : (Jvm.Cond.and given_1 narrow_1).before args s = true) : ∃ o1 o2 : Nat, ∀ A : Nat → Prop, (∀ q, A q → s.heap.size ≤ q) → lDg o1 o2 A s s.heap := by
  have hs := flat_of_before _ hgv
  have hA : ∀ a : Nat, a < s.heap.size → ¬ (fun q => s.heap.size ≤ q) a := fun a h => Nat.not_le.mpr h
  obtain ⟨o1, h1, hT1⟩ := va_Tof (f := fun j => .int (nI (48 + j % 10))) (N := 100) (A := fun q => s.heap.size ≤ q) (by decide) (hs _ qfl_doa) (va_eqt (hs _ qfl_dol)) (fun j hj => va_eqt (hs _ (qfl_do j hj))) hA
  obtain ⟨o2, h2, hT2⟩ := va_Tof (f := fun j => .int (nI (48 + j / 10))) (N := 100) (A := fun q => s.heap.size ≤ q) (by decide) (hs _ qfl_dta) (va_eqt (hs _ qfl_dtl)) (fun j hj => va_eqt (hs _ (qfl_dt j hj))) hA
  exact ⟨o1, o2, fun A hAB => ⟨(va_Zof (hts (.laysStatic RJ6 "DigitOnes" "[B") (by decide +kernel)) (hts (.initialized RJ6) (by decide +kernel)) h1 hA).narrow hAB, hT1.narrow hAB, (va_Zof (hts (.laysStatic RJ6 "DigitTens" "[B") (by decide +kernel)) (hts (.initialized RJ6) (by decide +kernel)) h2 hA).narrow hAB, hT2.narrow hAB⟩⟩
