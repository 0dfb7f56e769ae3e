/-- the words that callees can take over -/
def lw_gd : List Cond := lw_tbl.filter goodWord
/-- words that are kept by every step, though not among the good ones -/
def q_kp : Cond → Bool
  | .castable _ _ => true
  | .declares _ => true
  | .methodLinkNest _ _ _ _ => true
  | _ => false
def lw_ct : List Cond := lw_tbl.filter q_kp
theorem q_kp_warm {w : Cond} (h : q_kp w = true) {s U : State} (hW : s.WarmedH U.vm) (hZ : va_Nw w s) : va_Nw w U := by
  cases w <;> first | (exact va_Nw.warmC hW hZ) | (exact va_Nw.warmD hW hZ) | (exact va_Nw.warmM hW hZ) | (cases h)
theorem q_kp_tab {w : Cond} (h : q_kp w = true) : w.onTables = true := by
  cases w <;> first | rfl | (cases h)
/-! the world as a memory: cell k holds the ints (w k 0), (w k 1) ..; all references are fixed once made -/
abbrev qMem : Type := Nat → Nat → Int32
def qur (w : qMem) (c : Nat) (g : Nat → Int32) : qMem := fun c' => if c' = c then g else w c'
def quw (w : qMem) (c k : Nat) (v : Int32) : qMem := qur w c (upd (w c) k v)
/-- what cell k holds: halls 0..11 (19 cells each), then the class's own cells -/
def qshp (G : Nat → ClassId) (ad : Nat → Nat) (f : Nat → Int32) (k : Nat) : va_E :=
  if k < 228 then
    (if k % 19 = 0 then .inr (3, [.ref (ad (k + 1)), .ref (ad (k + 14)), .int (f 2), .ref (ad (k + 15)), .int (f 4), .int (f 5), .int (f 6), .int (f 7), .int (f 8), .int (f 9), .ref (ad (k + 16)), .ref (ad (k + 17)), .ref (ad (k + 18))])
     else if k % 19 = 1 then .inl (G 3, 12, .inr (.inr (.inr (.inr (fun j => some (ad (k + 1 + j)))))))
     else if k % 19 ≤ 14 then .inr (6, [.int (f 0), .int (f 1), .int (f 2), .int (f 3), .int (f 4), .int (f 5), .int (f 6)])
     else if k % 19 = 15 then .inl (G 0, 8, .inl f)
     else if k % 19 = 17 then .inl (G 0, 5, .inl f)
     else .inl (G 1, 5, .inl f))
  else match k - 228 with
    | 0 => .inr (8, [.ref (ad 0), .ref (ad 19), .ref (ad 38), .ref (ad 229), .ref (ad 231), .ref (ad 236), .int (f 6), .int (f 7), .int (f 8), .int (f 9), .int (f 10)])
    | 1 => .inr (4, [.ref (ad 230), .int (f 1), .int (f 2)])
    | 2 => .inl (G 4, 9, .inr (.inr (.inr (.inr (fun j => some (ad (19 * (3 + j))))))))
    | 3 => .inr (7, [.ref (ad 232), .int (f 1), .ref (ad 233), .ref (ad 234), .ref (ad 235), .int (f 5), .int (f 6)])
    | 4 => .inl (G 2, 60, .inl f)
    | 5 => .inl (G 0, 12, .inl f)
    | 6 => .inl (G 0, 12, .inl f)
    | 7 => .inl (G 0, 12, .inl f)
    | 8 => .inr (5, [.ref (ad 237), .int (f 1)])
    | _ => .inl (G 2, 16, .inl f)
def qcells (G : Nat → ClassId) (ad : Nat → Nat) (w : qMem) : va_W := (List.range 238).map (fun k => (ad k, qshp G ad (w k) k))
def qtys (G : Nat → ClassId) : List (ClassId × FieldType) := [(G 0, .int), (G 1, .boolean), (G 2, .char), (G 3, .object RX3), (G 4, .object RX0), (G 5, .byte), (G 6, .long), (G 7, .array .int)]
def qInj (ad : Nat → Nat) : Prop := ∀ i j, i < 238 → j < 238 → ad i = ad j → i = j
def qAdr (ad : Nat → Nat) (sz : Nat) : Nat → Prop := fun q => (∃ k, k < 238 ∧ q = ad k) ∨ sz ≤ q
def qisP (c : Nat) : Prop := c < 228 ∧ 2 ≤ c % 19 ∧ c % 19 ≤ 14
theorem qat (G : Nat → ClassId) (ad : Nat → Nat) (w : qMem) {c : Nat} (h : c < 238) : (qcells G ad w)[c]? = some (ad c, qshp G ad (w c) c) := by
  simp [qcells, List.getElem?_map, List.getElem?_range h]
theorem qset (G : Nat → ClassId) (ad : Nat → Nat) (w : qMem) {c : Nat} (h : c < 238) (g : Nat → Int32) (X : va_E) (hX : X = qshp G ad g c) : (qcells G ad w).set c (ad c, X) = qcells G ad (qur w c g) := by
  subst hX
  apply List.ext_getElem?
  intro i
  by_cases hi : i < 238
  · rw [qat G ad _ hi]
    by_cases e : i = c
    · subst e
      rw [List.getElem?_set_self (by simp [qcells]; exact hi)]
      simp [qur]
    · rw [List.getElem?_set_ne (fun x => e x.symm), qat G ad w hi]
      simp [qur, e]
  · rw [List.getElem?_eq_none (by simp [qcells]; omega), List.getElem?_eq_none (by simp [qcells]; omega)]
theorem qD (G : Nat → ClassId) {ad : Nat → Nat} (w : qMem) (hJ : qInj ad) (sz : Nat) : va_D (qAdr ad sz) (qcells G ad w) := by
  refine ⟨fun i j p q hi hj hpq => ?_, fun k q hk => ?_⟩
  · have li : i < 238 := by have := (List.getElem?_eq_some_iff.mp hi).1; simpa [qcells] using this
    have lj : j < 238 := by have := (List.getElem?_eq_some_iff.mp hj).1; simpa [qcells] using this
    rw [qat G ad w li] at hi
    rw [qat G ad w lj] at hj
    cases hi; cases hj
    exact hJ i j li lj hpq
  · have lk : k < 238 := by have := (List.getElem?_eq_some_iff.mp hk).1; simpa [qcells] using this
    rw [qat G ad w lk] at hk
    cases hk
    exact Or.inl ⟨k, lk, rfl⟩
theorem qAdr_mono {ad : Nat → Nat} {a b : Nat} (h : a ≤ b) : ∀ q, qAdr ad b q → qAdr ad a q := fun q hq => hq.elim Or.inl (fun x => Or.inr (Nat.le_trans h x))
-- the shapes
theorem qsh_hall (G : Nat → ClassId) (ad : Nat → Nat) (f : Nat → Int32) {h : Nat} (hh : h < 12) : qshp G ad f (19 * h) = .inr (3, [.ref (ad (19 * h + 1)), .ref (ad (19 * h + 14)), .int (f 2), .ref (ad (19 * h + 15)), .int (f 4), .int (f 5), .int (f 6), .int (f 7), .int (f 8), .int (f 9), .ref (ad (19 * h + 16)), .ref (ad (19 * h + 17)), .ref (ad (19 * h + 18))]) := by
  unfold qshp; rw [if_pos (by omega), if_pos (by omega)]
theorem qsh_props (G : Nat → ClassId) (ad : Nat → Nat) (f : Nat → Int32) {h : Nat} (hh : h < 12) : qshp G ad f (19 * h + 1) = .inl (G 3, 12, .inr (.inr (.inr (.inr (fun j => some (ad (19 * h + 2 + j))))))) := by
  unfold qshp; rw [if_pos (by omega), if_neg (by omega), if_pos (by omega)]
theorem qsh_planned (G : Nat → ClassId) (ad : Nat → Nat) (f : Nat → Int32) {h : Nat} (hh : h < 12) : qshp G ad f (19 * h + 15) = .inl (G 0, 8, .inl f) := by
  unfold qshp; rw [if_pos (by omega), if_neg (by omega), if_neg (by omega), if_neg (by omega), if_pos (by omega)]
theorem qsh_hasCat (G : Nat → ClassId) (ad : Nat → Nat) (f : Nat → Int32) {h : Nat} (hh : h < 12) : qshp G ad f (19 * h + 16) = .inl (G 1, 5, .inl f) := by
  unfold qshp; rw [if_pos (by omega), if_neg (by omega), if_neg (by omega), if_neg (by omega), if_neg (by omega), if_neg (by omega)]
theorem qsh_reach (G : Nat → ClassId) (ad : Nat → Nat) (f : Nat → Int32) {h : Nat} (hh : h < 12) : qshp G ad f (19 * h + 17) = .inl (G 0, 5, .inl f) := by
  unfold qshp; rw [if_pos (by omega), if_neg (by omega), if_neg (by omega), if_neg (by omega), if_neg (by omega), if_pos (by omega)]
theorem qsh_hasBr (G : Nat → ClassId) (ad : Nat → Nat) (f : Nat → Int32) {h : Nat} (hh : h < 12) : qshp G ad f (19 * h + 18) = .inl (G 1, 5, .inl f) := by
  unfold qshp; rw [if_pos (by omega), if_neg (by omega), if_neg (by omega), if_neg (by omega), if_neg (by omega), if_neg (by omega)]
theorem qsh_prop (G : Nat → ClassId) (ad : Nat → Nat) (f : Nat → Int32) {c : Nat} (hc : qisP c) : qshp G ad f c = .inr (6, [.int (f 0), .int (f 1), .int (f 2), .int (f 3), .int (f 4), .int (f 5), .int (f 6)]) := by
  obtain ⟨h1, h2, h3⟩ := hc
  unfold qshp; rw [if_pos h1, if_neg (by omega), if_neg (by omega), if_pos h3]
theorem qisP_lt {c : Nat} (hc : qisP c) : c < 238 := by have := hc.1; omega
theorem qisP_of {h : Nat} (hh : h < 12) {j : Nat} (hj : j < 13) : qisP (19 * h + 2 + j) := ⟨by omega, by omega, by omega⟩
theorem qisP_no {h : Nat} (hh : h < 12) : qisP (19 * h + 14) := ⟨by omega, by omega, by omega⟩
theorem qisP_in {h : Nat} (hh : h < 12) {i : Int32} (hi : vp_in i 12) : qisP (19 * h + 2 + i.toNatClampNeg) := by
  have : i.toNatClampNeg < 12 := Nat.not_le.mp fun q => hi (Or.inr q)
  exact ⟨by omega, by omega, by omega⟩
theorem qhall_in {i : Int32} (hi : vp_in i 9) : 3 + i.toNatClampNeg < 12 := by
  have : i.toNatClampNeg < 9 := Nat.not_le.mp fun q => hi (Or.inr q)
  omega
-- what stands of the constant texts, of Throwable's two statics, of the nest: kept by every step
/-- the texts whose letters matter, by their places -/
def qtx : List (List Int32) := [[99, 117, 112], [108, 97, 109, 112], [99, 97, 116], [116, 97, 107, 101], [99, 117, 101], [115, 101, 116], [115, 104, 111, 99, 107], [97, 100, 100], [112, 101, 114, 102, 111, 114, 109], [113, 117, 105, 101, 116], [99, 108, 107], [], [58], [126], [35], [33], [115, 104, 111, 99, 107, 59, 97, 100, 100, 32], [59, 112, 101, 114, 102, 111, 114, 109], [59, 116, 97, 107, 101, 32], [59, 99, 97, 116, 32, 52, 32]]
def qstr : List (String × Nat × String × Nat) := [("QuakeRehearsal", 305, "no such floor or measure", 20), ("QuakeRehearsal", 307, "the hall or the floor is full", 21), ("QuakeRehearsal", 271, "what is not from 0 to 12", 22), ("QuakeRehearsal", 248, "nothing was refused", 23), ("QuakeRehearsal", 69, "no such prop", 24), ("QuakeRehearsal", 76, "the strength is not from 0 to 9", 25), ("QuakeRehearsal", 81, "the cue is refused", 26), ("QuakeRehearsal", 300, "the strength is not from 1 to 9", 27), ("QuakeRehearsal", 309, "the strength is refused", 28), ("QuakeRehearsal", 117, "what is not from 0 to 6", 29), ("QuakeRehearsal", 138, "no such strength or floor", 30), ("QuakeRehearsal", 170, "no shock would break something", 31), ("QuakeRehearsal", 124, "no such place in the programme", 32), ("QuakeRehearsal", 303, "no such place in the order", 33), ("QuakeRehearsal", 184, "no such kind or floor", 34), ("QuakeRehearsal", 285, "there are no cups", 35), ("QuakeRehearsal", 291, "there are no props", 36), ("QuakeRehearsalLaw", 250, "clk", 10), ("QuakeRehearsalLaw", 255, "", 11), ("QuakeRehearsalLaw", 263, ":", 12), ("java/util/Arrays", 337, " > ", 37), ("QuakeRehearsalLaw", 269, "~", 13), ("QuakeRehearsalLaw", 271, "#", 14), ("QuakeRehearsalLaw", 273, "!", 15), ("QuakeRehearsal", 199, "no such character in the line", 38), ("QuakeRehearsal", 88, "the programme is empty", 39), ("QuakeRehearsalLaw", 303, "shock;add ", 16), ("QuakeRehearsalLaw", 305, ";perform", 17), ("QuakeRehearsalLaw", 307, ";take ", 18), ("QuakeRehearsalLaw", 309, ";cat 4 ", 19), ("QuakeRehearsal", 208, "the input contains 60 characters", 40), ("QuakeRehearsal$Script", 74, "cup", 0), ("QuakeRehearsal$Script", 76, "lamp", 1), ("QuakeRehearsal$Script", 78, "cat", 2), ("QuakeRehearsal$Script", 80, "take", 3), ("QuakeRehearsal$Script", 82, "cue", 4), ("QuakeRehearsal$Script", 84, "set", 5), ("QuakeRehearsal$Script", 86, "shock", 6), ("QuakeRehearsal$Script", 88, "add", 7), ("QuakeRehearsal$Script", 90, "perform", 8), ("QuakeRehearsal$Script", 92, "quiet", 9), ("QuakeRehearsal", 218, "the text has an error", 41), ("QuakeRehearsal", 244, "an order is refused", 42), ("QuakeRehearsal", 246, "an order cannot be carried out", 43), ("QuakeRehearsal", 293, "no change can be undone", 44)]
def qZs (A : Nat → Prop) (U : State) (H : Heap) : Prop := va_Z RJ0 "COMPACT_STRINGS" "Z" (.int 1) A U H ∧ va_Zq RJ3 "SIOOBE_FORMATTER" "Ljava/util/function/BiFunction;" A U H
def qStr (ad : Nat → Nat) (A : Nat → Prop) (U : State) (H : Heap) : Prop := qZs A U H ∧ ∀ i : Nat, i < 20 → va_O "java/lang/String" (ad (1000 + i)) A U H ∧ va_OF "java/lang/String" "coder" "B" (.int 0) (ad (1000 + i)) A U H ∧ va_OF "java/lang/String" "value" "[B" (.ref (ad (2000 + i))) (ad (1000 + i)) A U H ∧ va_T .byte (ad (2000 + i)) (qtx.getD i []).length (fun j => .int ((qtx.getD i []).getD j 0)) A U H
def qX (ad : Nat → Nat) (A : Nat → Prop) (U : State) (H : Heap) : Prop :=
  qStr ad A U H ∧ (∀ r ∈ qstr, vk_R r.1 r.2.1 r.2.2.1 (ad (1000 + r.2.2.2)) U) ∧ vx_Zq Bundle.tN "UNASSIGNED_STACK" Bundle.steD A U H ∧ vx_Zq Bundle.tN "SUPPRESSED_SENTINEL" Bundle.listD A U H ∧ ∀ w ∈ lw_ct, va_Nw w U
theorem qX_go {ad : Nat → Nat} {A B : Nat → Prop} {s U : State} {H H1 : Heap} (h : qX ad A s H) (hW : s.WarmedH U.vm) (hq : ∀ a : Nat, a < H.size → ¬ A a → H1[a]? = H[a]?) (hAB : ∀ q, B q → A q) : qX ad B U H1 := by
  obtain ⟨h1, h2, h3, h4, h5⟩ := h
  refine ⟨⟨⟨va_Z.moved hW.alike ((h1.1.1.kept hq).narrow hAB), va_Zq.moved hW.alike ((h1.1.2.kept hq).narrow hAB)⟩, fun i hi => ?_⟩, fun r hr => vk_R.warm hW (h2 r hr), ((h3.kept hq).narrow hAB).moved hW.alike, ((h4.kept hq).narrow hAB).moved hW.alike, fun w hw => q_kp_warm (List.mem_filter.mp hw).2 hW (h5 w hw)⟩
  obtain ⟨g1, g2, g3, g4⟩ := h1.2 i hi
  exact ⟨va_O.moved hW.alike ((g1.kept hq).narrow hAB), va_OF.moved hW.alike ((g2.kept hq).narrow hAB), va_OF.moved hW.alike ((g3.kept hq).narrow hAB), va_T.moved hW.alike ((g4.kept hq).narrow hAB)⟩
theorem qX_same {ad : Nat → Nat} {A : Nat → Prop} {u U : State} {H : Heap} (h : qX ad A u H) (hv : U.vm = u.vm) : qX ad A U H := by
  have ha : u.vm.Alike U.vm := by rw [hv]; exact Vm.Alike.refl _
  obtain ⟨h1, h2, h3, h4, h5⟩ := h
  refine ⟨⟨⟨va_Z.moved ha h1.1.1, va_Zq.moved ha h1.1.2⟩, fun i hi => ?_⟩, fun r hr => vk_R.same hv (h2 r hr), h3.moved ha, h4.moved ha, fun w hw => va_Nw.same (q_kp_tab (List.mem_filter.mp hw).2) hv.symm (h5 w hw)⟩
  obtain ⟨g1, g2, g3, g4⟩ := h1.2 i hi
  exact ⟨va_O.moved ha g1, va_OF.moved ha g2, va_OF.moved ha g3, va_T.moved ha g4⟩
-- what every walk has at hand
def qCx (p : Program) (c : Code) (cc : ByteArray) (nL : Nat) (s : State) (m : MethodId) (args : Array Value) (meth : Method) (own : String) (D : va_G) (G : Nat → ClassId) (ad : Nat → Nat) : Prop :=
  p.tables.exec = Jvm.exec ∧ c.code = cc ∧ c.maxLocals = nL ∧ s.vm.findClass own = some m.cls ∧ (∀ w ∈ lw_gd, w.before args s = true) ∧ meth.locks = false ∧ va_K D vwCl (qtys G) s ∧ qInj ad ∧ qX ad (qAdr ad s.heap.size) s s.heap
def qRp (D : va_G) (G : Nat → ClassId) (ad : Nat → Nat) (s : State) (w : qMem) (H : Heap) (locs : List Loc) : Prop := va_P D vwCl (qcells G ad w) H ∧ va_S (qAdr ad s.heap.size) s.heap H locs
-- tracking the pure function
def qnm {α β : Type} (e : α) (k : α → β) : β := k e
def qbd {α β : Type} (o : Option α) (k : α → Option β) : Option β := match o with | none => none | some x => k x
theorem qnm_t {α β : Type} {e x : α} {k : α → β} {r : β} (h : qnm e k = r) (ex : x = e) : k x = r := by subst ex; exact h
theorem qbd_s {α β : Type} {o : Option α} {k : α → Option β} {r : β} (h : qbd o k = some r) : ∃ x, o = some x ∧ k x = some r := by
  cases o with
  | none => cases h
  | some x => exact ⟨x, rfl, h⟩
theorem qbd_s2 {α γ β : Type} {o : Option (α × γ)} {k : α × γ → Option β} {r : β} (h : qbd o k = some r) : ∃ x y, o = some (x, y) ∧ k (x, y) = some r := by
  cases o with
  | none => cases h
  | some x => exact ⟨x.1, x.2, rfl, h⟩
theorem qif_t {α : Type} {c : Prop} [Decidable c] {a b r : α} (h : (if c then a else b) = r) (hc : c) : a = r := by rw [if_pos hc] at h; exact h
theorem qif_f {α : Type} {c : Prop} [Decidable c] {a b r : α} (h : (if c then a else b) = r) (hc : ¬ c) : b = r := by rw [if_neg hc] at h; exact h
theorem qgd {α : Type} {c : Prop} [Decidable c] {a : Option α} {r : α} (h : (if c then a else none) = some r) : c ∧ a = some r := by
  by_cases hc : c
  · rw [if_pos hc] at h; exact ⟨hc, h⟩
  · rw [if_neg hc] at h; cases h
theorem qgdn {α : Type} {c : Prop} [Decidable c] {a : Option α} {r : α} (h : (if c then none else a) = some r) : ¬ c ∧ a = some r := by
  by_cases hc : c
  · rw [if_pos hc] at h; cases h
  · rw [if_neg hc] at h; exact ⟨hc, h⟩
def qbd2 {α γ β : Type} (o : Option (α × γ)) (k : α → γ → Option β) : Option β := match o with | none => none | some (x, y) => k x y
theorem qbd2_s {α γ β : Type} {o : Option (α × γ)} {k : α → γ → Option β} {r : β} (h : qbd2 o k = some r) : ∃ x y, o = some (x, y) ∧ k x y = some r := by
  match o, h with
  | none, h => cases h
  | some (x, y), h => exact ⟨x, y, rfl, h⟩
theorem qso {α : Type} {a r : α} (h : some a = some r) : a = r := Option.some.inj h
theorem qso2 {α β : Type} {a r : α} {b t : β} (h : some (a, b) = some (r, t)) : a = r ∧ b = t := by cases h; exact ⟨rfl, rfl⟩
def qin (i : Int32) (n : Nat) : Bool := decide (0 ≤ i.toInt) && decide (i.toInt < n)
theorem qin_t {i : Int32} {n : Nat} (h : qin i n = true) : vp_in i n := by
  simp only [qin, Bool.and_eq_true, decide_eq_true_eq] at h
  exact vp_in_iff.mpr h
def qisPb (c : Nat) : Bool := decide (c < 228) && (decide (2 ≤ c % 19) && decide (c % 19 ≤ 14))
theorem qisPb_ok {c : Nat} (h : qisPb c = true) : qisP c := by
  simp only [qisPb, Bool.and_eq_true, decide_eq_true_eq] at h
  exact ⟨h.1, h.2.1, h.2.2⟩
theorem qne {x k : Int32} {z : Int} (h : ¬ x = k) (hz : k.toInt = z) : x.toInt ≠ z := fun e => h (Int32.toInt_inj.mp (e.trans hz.symm))
def qcpy (sp dp n : Int32) (n0 n1 : Nat) : Bool := decide (¬ sp < 0) && (decide (¬ dp < 0) && (decide (¬ n < 0) && (decide (sp.toNatClampNeg + n.toNatClampNeg ≤ n0) && decide (dp.toNatClampNeg + n.toNatClampNeg ≤ n1))))
def qisB (x : Int32) : Bool := x == 0 || x == 1
def qisC (x : Int32) : Bool := decide (0 ≤ x) && decide (x ≤ 65535)
