/-- cells alike but beyond their ends -/
def qle (x y : va_E) : Prop := ∀ (D : va_G) (q : Nat) (H : Heap), va_at D vwCl (q, x) H → va_at D vwCl (q, y) H
theorem qle_rf {x : va_E} : qle x x := fun _ _ _ h => h
theorem qle_eq {x y : va_E} (h : x = y) : qle x y := by subst h; exact qle_rf
theorem qarr_cg (c : ClassId) (n : Nat) {f g : Nat → Value} (h : ∀ j : Nat, j < n → f j = g j) : arrV c n f = arrV c n g := by
  unfold arrV
  have e : (fun j : Fin n => f j.val) = (fun j : Fin n => g j.val) := funext fun j => h j.val j.isLt
  rw [e]
theorem qle_q {c : ClassId} {n : Nat} {f g : Nat → Option Nat} (h : ∀ j : Nat, j < n → f j = g j) : qle (.inl (c, n, .inr (.inr (.inr (.inr f))))) (.inl (c, n, .inr (.inr (.inr (.inr g))))) := fun D q H hh => by
  show H[q]? = some (vp_cell c (n, .inr (.inr (.inr (.inr g)))))
  have h1 : H[q]? = some (vp_cell c (n, .inr (.inr (.inr (.inr f))))) := hh
  rw [h1, vp_cell_q, vp_cell_q, qarr_cg c n (fun j hj => by rw [h j hj])]
theorem qle_i {c : ClassId} {n : Nat} {f g : Nat → Int32} (h : ∀ j : Nat, j < n → f j = g j) : qle (.inl (c, n, .inl f)) (.inl (c, n, .inl g)) := fun D q H hh => by
  show H[q]? = some (arrV c n (fun j => .int (g j)))
  have h1 : H[q]? = some (arrV c n (fun j => .int (f j))) := hh
  rw [h1, qarr_cg c n (fun j hj => by rw [h j hj])]
def qcan (n : Nat) (a : Nat → Nat) (sh : Nat → va_E) : va_W := (List.range n).map (fun k => (a k, sh k))
theorem qcan_at {n : Nat} {a : Nat → Nat} {sh : Nat → va_E} {k : Nat} (h : k < n) : (qcan n a sh)[k]? = some (a k, sh k) := by
  simp [qcan, List.getElem?_map, List.getElem?_range h]
theorem qcan_len {n : Nat} {a : Nat → Nat} {sh : Nat → va_E} : (qcan n a sh).length = n := by simp [qcan]
theorem qcan_of {D : va_G} {A0 : Nat → Prop} {ws : va_W} {H : Heap} (hP : va_P D vwCl ws H) (hD : va_D A0 ws) {n : Nat} {a : Nat → Nat} {sh : Nat → va_E} (ix : Nat → Nat) (h : ∀ k : Nat, k < n → ∃ x : va_E, ws[ix k]? = some (a k, x) ∧ qle x (sh k)) (hi : ∀ j k : Nat, j < n → k < n → ix j = ix k → j = k) : va_P D vwCl (qcan n a sh) H ∧ va_D A0 (qcan n a sh) := by
  have key : ∀ (k : Nat) (q : Nat × va_E), (qcan n a sh)[k]? = some q → k < n ∧ q = (a k, sh k) := fun k q hk => by
    have hl : k < n := by have := (List.getElem?_eq_some_iff.mp hk).1; rwa [qcan_len] at this
    rw [qcan_at hl] at hk
    exact ⟨hl, (Option.some.inj hk).symm⟩
  refine ⟨fun k q hk => ?_, fun i j p q hp hq e => ?_, fun k q hk => ?_⟩
  · obtain ⟨hl, rfl⟩ := key k q hk
    obtain ⟨x, h1, h2⟩ := h k hl
    exact h2 D _ H (hP _ _ h1)
  · obtain ⟨hl, rfl⟩ := key i p hp
    obtain ⟨hl2, rfl⟩ := key j q hq
    obtain ⟨x, h1, -⟩ := h i hl
    obtain ⟨y, h2, -⟩ := h j hl2
    exact hi i j hl hl2 (hD.1 _ _ _ _ h1 h2 e)
  · obtain ⟨hl, rfl⟩ := key k q hk
    obtain ⟨x, h1, -⟩ := h k hl
    have h3 := hD.2 _ _ h1
    exact h3
def qwz (k j : Nat) : Int32 := if k = 0 ∧ j = 5 then 1 else 0
/-- a new hall -/
def qhw (G : Nat → ClassId) (a : Nat → Nat) : va_W := qcan 19 a (fun k => qshp G a (qwz k) k)
theorem qshp_le {G : Nat → ClassId} {a b : Nat → Nat} {f : Nat → Int32} {k : Nat} (hk : k < 19) (h : ∀ r : Nat, r < 19 → a r = b r) : qle (qshp G a f k) (qshp G b f k) := by
  by_cases h1 : k = 1
  · subst h1
    have e1 := qsh_props G a f (h := 0) (by decide)
    have e2 := qsh_props G b f (h := 0) (by decide)
    rw [show 19 * 0 + 1 = 1 from rfl] at e1 e2
    rw [e1, e2]
    exact qle_q (fun j hj => by rw [h _ (by omega)])
  · rcases Nat.lt_or_ge k 1 with h0 | h0
    · have : k = 0 := by omega
      subst this
      have e1 := qsh_hall G a f (h := 0) (by decide)
      have e2 := qsh_hall G b f (h := 0) (by decide)
      simp only [Nat.mul_zero, Nat.zero_add] at e1 e2
      rw [e1, e2, h 1 (by decide), h 14 (by decide), h 15 (by decide), h 16 (by decide), h 17 (by decide), h 18 (by decide)]
      exact qle_rf
    · rcases Nat.lt_or_ge k 15 with h2 | h2
      · rw [qsh_prop G a f (c := k) ⟨by omega, by omega, by omega⟩, qsh_prop G b f (c := k) ⟨by omega, by omega, by omega⟩]
        exact qle_rf
      · have hh : k = 15 ∨ k = 16 ∨ k = 17 ∨ k = 18 := by omega
        rcases hh with rfl | rfl | rfl | rfl
        · exact qle_eq ((qsh_planned G a f (h := 0) (by decide)).trans (qsh_planned G b f (h := 0) (by decide)).symm)
        · exact qle_eq ((qsh_hasCat G a f (h := 0) (by decide)).trans (qsh_hasCat G b f (h := 0) (by decide)).symm)
        · exact qle_eq ((qsh_reach G a f (h := 0) (by decide)).trans (qsh_reach G b f (h := 0) (by decide)).symm)
        · exact qle_eq ((qsh_hasBr G a f (h := 0) (by decide)).trans (qsh_hasBr G b f (h := 0) (by decide)).symm)
abbrev z7 : List Value := [.int 0, .int 0, .int 0, .int 0, .int 0, .int 0, .int 0]
theorem qhd_X3_init : yX3_init.cls ≠ "java/lang/invoke/MethodHandle" ∧ yX3_init.cls ≠ "java/lang/invoke/VarHandle" ∧ (parseMethodDescriptor yX3_init.desc).map (fun d => d.parameters.length) = some 0 := ⟨by decide +kernel, by decide +kernel, by decide +kernel⟩
theorem qhd_X0_init : yX0_init.cls ≠ "java/lang/invoke/MethodHandle" ∧ yX0_init.cls ≠ "java/lang/invoke/VarHandle" ∧ (parseMethodDescriptor yX0_init.desc).map (fun d => d.parameters.length) = some 0 := ⟨by decide +kernel, by decide +kernel, by decide +kernel⟩
theorem qhd_X1_init : yX1_init.cls ≠ "java/lang/invoke/MethodHandle" ∧ yX1_init.cls ≠ "java/lang/invoke/VarHandle" ∧ (parseMethodDescriptor yX1_init.desc).map (fun d => d.parameters.length) = some 0 := ⟨by decide +kernel, by decide +kernel, by decide +kernel⟩
theorem qhd_X2_init : yX2_init.cls ≠ "java/lang/invoke/MethodHandle" ∧ yX2_init.cls ≠ "java/lang/invoke/VarHandle" ∧ (parseMethodDescriptor yX2_init.desc).map (fun d => d.parameters.length) = some 0 := ⟨by decide +kernel, by decide +kernel, by decide +kernel⟩
theorem qhd_X4_init : yX4_init.cls ≠ "java/lang/invoke/MethodHandle" ∧ yX4_init.cls ≠ "java/lang/invoke/VarHandle" ∧ (parseMethodDescriptor yX4_init.desc).map (fun d => d.parameters.length) = some 0 := ⟨by decide +kernel, by decide +kernel, by decide +kernel⟩
theorem qhd_X5_init : yX5_init.cls ≠ "java/lang/invoke/MethodHandle" ∧ yX5_init.cls ≠ "java/lang/invoke/VarHandle" ∧ (parseMethodDescriptor yX5_init.desc).map (fun d => d.parameters.length) = some 0 := ⟨by decide +kernel, by decide +kernel, by decide +kernel⟩
theorem qja_int : Cond.arrayClass .int ∈ lw_gd := by decide +kernel
theorem qja_boolean : Cond.arrayClass .boolean ∈ lw_gd := by decide +kernel
theorem qja_char : Cond.arrayClass .char ∈ lw_gd := by decide +kernel
theorem qkn_63 : Cond.methodLink RX0 3 Lib.objectInit ∈ lw_gd := List.mem_filter.mpr ⟨List.mem_of_getElem? (i := 63) (by decide +kernel), by decide +kernel⟩
theorem qkn_64 : Cond.classLink RX0 9 RX3 ∈ lw_gd := List.mem_filter.mpr ⟨List.mem_of_getElem? (i := 64) (by decide +kernel), by decide +kernel⟩
theorem qkn_66 : Cond.instantiable RX3 7 ∈ lw_gd := List.mem_filter.mpr ⟨List.mem_of_getElem? (i := 66) (by decide +kernel), by decide +kernel⟩
theorem qkn_21 : Cond.initialized RX3 ∈ lw_gd := List.mem_filter.mpr ⟨List.mem_of_getElem? (i := 21) (by decide +kernel), by decide +kernel⟩
theorem qkn_111 : Cond.fieldLink RX0 11 "QuakeRehearsal$Hall" "props" "[LQuakeRehearsal$Prop;" ∈ lw_gd := List.mem_filter.mpr ⟨List.mem_of_getElem? (i := 111) (by decide +kernel), by decide +kernel⟩
theorem qkn_67 : Cond.methodLinkNest RX0 17 yX3_init RX5 ∈ lw_ct := by decide +kernel
theorem qkn_112 : Cond.fieldLink RX0 18 "QuakeRehearsal$Hall" "nobody" "LQuakeRehearsal$Prop;" ∈ lw_gd := List.mem_filter.mpr ⟨List.mem_of_getElem? (i := 112) (by decide +kernel), by decide +kernel⟩
theorem qkn_113 : Cond.fieldLink RX0 22 "QuakeRehearsal$Hall" "propCount" "I" ∈ lw_gd := List.mem_filter.mpr ⟨List.mem_of_getElem? (i := 113) (by decide +kernel), by decide +kernel⟩
theorem qkn_115 : Cond.fieldLink RX0 26 "QuakeRehearsal$Hall" "planned" "[I" ∈ lw_gd := List.mem_filter.mpr ⟨List.mem_of_getElem? (i := 115) (by decide +kernel), by decide +kernel⟩
theorem qkn_116 : Cond.fieldLink RX0 30 "QuakeRehearsal$Hall" "plannedCount" "I" ∈ lw_gd := List.mem_filter.mpr ⟨List.mem_of_getElem? (i := 116) (by decide +kernel), by decide +kernel⟩
theorem qkn_119 : Cond.fieldLink RX0 33 "QuakeRehearsal$Hall" "strength" "I" ∈ lw_gd := List.mem_filter.mpr ⟨List.mem_of_getElem? (i := 119) (by decide +kernel), by decide +kernel⟩
theorem qkn_121 : Cond.fieldLink RX0 36 "QuakeRehearsal$Hall" "shocks" "I" ∈ lw_gd := List.mem_filter.mpr ⟨List.mem_of_getElem? (i := 121) (by decide +kernel), by decide +kernel⟩
theorem qkn_123 : Cond.fieldLink RX0 39 "QuakeRehearsal$Hall" "encores" "I" ∈ lw_gd := List.mem_filter.mpr ⟨List.mem_of_getElem? (i := 123) (by decide +kernel), by decide +kernel⟩
theorem qkn_125 : Cond.fieldLink RX0 42 "QuakeRehearsal$Hall" "marks" "I" ∈ lw_gd := List.mem_filter.mpr ⟨List.mem_of_getElem? (i := 125) (by decide +kernel), by decide +kernel⟩
theorem qkn_127 : Cond.fieldLink RX0 45 "QuakeRehearsal$Hall" "breakages" "I" ∈ lw_gd := List.mem_filter.mpr ⟨List.mem_of_getElem? (i := 127) (by decide +kernel), by decide +kernel⟩
theorem qkn_129 : Cond.fieldLink RX0 48 "QuakeRehearsal$Hall" "hasCat" "[Z" ∈ lw_gd := List.mem_filter.mpr ⟨List.mem_of_getElem? (i := 129) (by decide +kernel), by decide +kernel⟩
theorem qkn_130 : Cond.fieldLink RX0 52 "QuakeRehearsal$Hall" "reach" "[I" ∈ lw_gd := List.mem_filter.mpr ⟨List.mem_of_getElem? (i := 130) (by decide +kernel), by decide +kernel⟩
theorem qkn_131 : Cond.fieldLink RX0 55 "QuakeRehearsal$Hall" "hasBreakage" "[Z" ∈ lw_gd := List.mem_filter.mpr ⟨List.mem_of_getElem? (i := 131) (by decide +kernel), by decide +kernel⟩
theorem qkn_61 : Cond.instanceMethod yX0_init ∈ lw_gd := List.mem_filter.mpr ⟨List.mem_of_getElem? (i := 61) (by decide +kernel), by decide +kernel⟩
theorem qkn_62 : Cond.code yX0_init cX0_init 2 none ∈ lw_gd := List.mem_filter.mpr ⟨List.mem_of_getElem? (i := 62) (by decide +kernel), by decide +kernel⟩
theorem qkn_20 : Cond.initialized RX0 ∈ lw_gd := List.mem_filter.mpr ⟨List.mem_of_getElem? (i := 20) (by decide +kernel), by decide +kernel⟩
theorem qkn_166 : Cond.methodLink RX1 3 Lib.objectInit ∈ lw_gd := List.mem_filter.mpr ⟨List.mem_of_getElem? (i := 166) (by decide +kernel), by decide +kernel⟩
theorem qkn_167 : Cond.classLink RX1 9 RX0 ∈ lw_gd := List.mem_filter.mpr ⟨List.mem_of_getElem? (i := 167) (by decide +kernel), by decide +kernel⟩
theorem qkn_59 : Cond.instantiable RX0 13 ∈ lw_gd := List.mem_filter.mpr ⟨List.mem_of_getElem? (i := 59) (by decide +kernel), by decide +kernel⟩
theorem qkn_170 : Cond.fieldLink RX1 11 "QuakeRehearsal$History" "kept" "[LQuakeRehearsal$Hall;" ∈ lw_gd := List.mem_filter.mpr ⟨List.mem_of_getElem? (i := 170) (by decide +kernel), by decide +kernel⟩
theorem qkn_171 : Cond.fieldLink RX1 17 "QuakeRehearsal$History" "next" "I" ∈ lw_gd := List.mem_filter.mpr ⟨List.mem_of_getElem? (i := 171) (by decide +kernel), by decide +kernel⟩
theorem qkn_172 : Cond.fieldLink RX1 21 "QuakeRehearsal$History" "depth" "I" ∈ lw_gd := List.mem_filter.mpr ⟨List.mem_of_getElem? (i := 172) (by decide +kernel), by decide +kernel⟩
theorem qkn_169 : Cond.methodLink RX1 24 yX0_init ∈ lw_gd := List.mem_filter.mpr ⟨List.mem_of_getElem? (i := 169) (by decide +kernel), by decide +kernel⟩
theorem qkn_164 : Cond.instanceMethod yX1_init ∈ lw_gd := List.mem_filter.mpr ⟨List.mem_of_getElem? (i := 164) (by decide +kernel), by decide +kernel⟩
theorem qkn_165 : Cond.code yX1_init cX1_init 2 none ∈ lw_gd := List.mem_filter.mpr ⟨List.mem_of_getElem? (i := 165) (by decide +kernel), by decide +kernel⟩
theorem qkn_22 : Cond.initialized RX1 ∈ lw_gd := List.mem_filter.mpr ⟨List.mem_of_getElem? (i := 22) (by decide +kernel), by decide +kernel⟩
theorem qkn_217 : Cond.methodLink RX2 3 Lib.objectInit ∈ lw_gd := List.mem_filter.mpr ⟨List.mem_of_getElem? (i := 217) (by decide +kernel), by decide +kernel⟩
theorem qkn_218 : Cond.fieldLink RX2 9 "QuakeRehearsal$Line" "signs" "[C" ∈ lw_gd := List.mem_filter.mpr ⟨List.mem_of_getElem? (i := 218) (by decide +kernel), by decide +kernel⟩
theorem qkn_219 : Cond.fieldLink RX2 15 "QuakeRehearsal$Line" "length" "I" ∈ lw_gd := List.mem_filter.mpr ⟨List.mem_of_getElem? (i := 219) (by decide +kernel), by decide +kernel⟩
theorem qkn_215 : Cond.instanceMethod yX2_init ∈ lw_gd := List.mem_filter.mpr ⟨List.mem_of_getElem? (i := 215) (by decide +kernel), by decide +kernel⟩
theorem qkn_216 : Cond.code yX2_init cX2_init 1 none ∈ lw_gd := List.mem_filter.mpr ⟨List.mem_of_getElem? (i := 216) (by decide +kernel), by decide +kernel⟩
theorem qkn_24 : Cond.initialized RX2 ∈ lw_gd := List.mem_filter.mpr ⟨List.mem_of_getElem? (i := 24) (by decide +kernel), by decide +kernel⟩
theorem qkn_70 : Cond.methodLink RX3 3 Lib.objectInit ∈ lw_gd := List.mem_filter.mpr ⟨List.mem_of_getElem? (i := 70) (by decide +kernel), by decide +kernel⟩
theorem qkn_71 : Cond.fieldLink RX3 9 "QuakeRehearsal$Prop" "kind" "I" ∈ lw_gd := List.mem_filter.mpr ⟨List.mem_of_getElem? (i := 71) (by decide +kernel), by decide +kernel⟩
theorem qkn_75 : Cond.fieldLink RX3 15 "QuakeRehearsal$Prop" "floor" "I" ∈ lw_gd := List.mem_filter.mpr ⟨List.mem_of_getElem? (i := 75) (by decide +kernel), by decide +kernel⟩
theorem qkn_79 : Cond.fieldLink RX3 18 "QuakeRehearsal$Prop" "measure" "I" ∈ lw_gd := List.mem_filter.mpr ⟨List.mem_of_getElem? (i := 79) (by decide +kernel), by decide +kernel⟩
theorem qkn_83 : Cond.fieldLink RX3 21 "QuakeRehearsal$Prop" "damage" "I" ∈ lw_gd := List.mem_filter.mpr ⟨List.mem_of_getElem? (i := 83) (by decide +kernel), by decide +kernel⟩
theorem qkn_87 : Cond.fieldLink RX3 24 "QuakeRehearsal$Prop" "broken" "Z" ∈ lw_gd := List.mem_filter.mpr ⟨List.mem_of_getElem? (i := 87) (by decide +kernel), by decide +kernel⟩
theorem qkn_91 : Cond.fieldLink RX3 28 "QuakeRehearsal$Prop" "cued" "I" ∈ lw_gd := List.mem_filter.mpr ⟨List.mem_of_getElem? (i := 91) (by decide +kernel), by decide +kernel⟩
theorem qkn_94 : Cond.fieldLink RX3 31 "QuakeRehearsal$Prop" "tally" "I" ∈ lw_gd := List.mem_filter.mpr ⟨List.mem_of_getElem? (i := 94) (by decide +kernel), by decide +kernel⟩
theorem qkn_68 : Cond.instanceMethod yX3_init ∈ lw_gd := List.mem_filter.mpr ⟨List.mem_of_getElem? (i := 68) (by decide +kernel), by decide +kernel⟩
theorem qkn_69 : Cond.code yX3_init cX3_init 1 none ∈ lw_gd := List.mem_filter.mpr ⟨List.mem_of_getElem? (i := 69) (by decide +kernel), by decide +kernel⟩
theorem qkn_186 : Cond.methodLink RX4 3 Lib.objectInit ∈ lw_gd := List.mem_filter.mpr ⟨List.mem_of_getElem? (i := 186) (by decide +kernel), by decide +kernel⟩
theorem qkn_187 : Cond.fieldLink RX4 9 "QuakeRehearsal$Script" "signs" "[C" ∈ lw_gd := List.mem_filter.mpr ⟨List.mem_of_getElem? (i := 187) (by decide +kernel), by decide +kernel⟩
theorem qkn_188 : Cond.fieldLink RX4 15 "QuakeRehearsal$Script" "length" "I" ∈ lw_gd := List.mem_filter.mpr ⟨List.mem_of_getElem? (i := 188) (by decide +kernel), by decide +kernel⟩
theorem qkn_190 : Cond.fieldLink RX4 19 "QuakeRehearsal$Script" "words" "[I" ∈ lw_gd := List.mem_filter.mpr ⟨List.mem_of_getElem? (i := 190) (by decide +kernel), by decide +kernel⟩
theorem qkn_191 : Cond.fieldLink RX4 23 "QuakeRehearsal$Script" "firsts" "[I" ∈ lw_gd := List.mem_filter.mpr ⟨List.mem_of_getElem? (i := 191) (by decide +kernel), by decide +kernel⟩
theorem qkn_192 : Cond.fieldLink RX4 26 "QuakeRehearsal$Script" "seconds" "[I" ∈ lw_gd := List.mem_filter.mpr ⟨List.mem_of_getElem? (i := 192) (by decide +kernel), by decide +kernel⟩
theorem qkn_193 : Cond.fieldLink RX4 29 "QuakeRehearsal$Script" "orderCount" "I" ∈ lw_gd := List.mem_filter.mpr ⟨List.mem_of_getElem? (i := 193) (by decide +kernel), by decide +kernel⟩
theorem qkn_195 : Cond.fieldLink RX4 32 "QuakeRehearsal$Script" "offset" "I" ∈ lw_gd := List.mem_filter.mpr ⟨List.mem_of_getElem? (i := 195) (by decide +kernel), by decide +kernel⟩
theorem qkn_184 : Cond.instanceMethod yX4_init ∈ lw_gd := List.mem_filter.mpr ⟨List.mem_of_getElem? (i := 184) (by decide +kernel), by decide +kernel⟩
theorem qkn_185 : Cond.code yX4_init cX4_init 1 none ∈ lw_gd := List.mem_filter.mpr ⟨List.mem_of_getElem? (i := 185) (by decide +kernel), by decide +kernel⟩
theorem qkn_23 : Cond.initialized RX4 ∈ lw_gd := List.mem_filter.mpr ⟨List.mem_of_getElem? (i := 23) (by decide +kernel), by decide +kernel⟩
theorem qkn_55 : Cond.methodLink RX5 1 Lib.objectInit ∈ lw_gd := List.mem_filter.mpr ⟨List.mem_of_getElem? (i := 55) (by decide +kernel), by decide +kernel⟩
theorem qkn_58 : Cond.classLink RX5 7 RX0 ∈ lw_gd := List.mem_filter.mpr ⟨List.mem_of_getElem? (i := 58) (by decide +kernel), by decide +kernel⟩
theorem qkn_60 : Cond.methodLink RX5 9 yX0_init ∈ lw_gd := List.mem_filter.mpr ⟨List.mem_of_getElem? (i := 60) (by decide +kernel), by decide +kernel⟩
theorem qkn_226 : Cond.fieldLink RX5 10 "QuakeRehearsal" "hall" "LQuakeRehearsal$Hall;" ∈ lw_gd := List.mem_filter.mpr ⟨List.mem_of_getElem? (i := 226) (by decide +kernel), by decide +kernel⟩
theorem qkn_227 : Cond.fieldLink RX5 16 "QuakeRehearsal" "thought" "LQuakeRehearsal$Hall;" ∈ lw_gd := List.mem_filter.mpr ⟨List.mem_of_getElem? (i := 227) (by decide +kernel), by decide +kernel⟩
theorem qkn_228 : Cond.fieldLink RX5 19 "QuakeRehearsal" "snapshot" "LQuakeRehearsal$Hall;" ∈ lw_gd := List.mem_filter.mpr ⟨List.mem_of_getElem? (i := 228) (by decide +kernel), by decide +kernel⟩
theorem qkn_161 : Cond.classLink RX5 22 RX1 ∈ lw_gd := List.mem_filter.mpr ⟨List.mem_of_getElem? (i := 161) (by decide +kernel), by decide +kernel⟩
theorem qkn_162 : Cond.instantiable RX1 3 ∈ lw_gd := List.mem_filter.mpr ⟨List.mem_of_getElem? (i := 162) (by decide +kernel), by decide +kernel⟩
theorem qkn_163 : Cond.methodLink RX5 24 yX1_init ∈ lw_gd := List.mem_filter.mpr ⟨List.mem_of_getElem? (i := 163) (by decide +kernel), by decide +kernel⟩
theorem qkn_229 : Cond.fieldLink RX5 25 "QuakeRehearsal" "history" "LQuakeRehearsal$History;" ∈ lw_gd := List.mem_filter.mpr ⟨List.mem_of_getElem? (i := 229) (by decide +kernel), by decide +kernel⟩
theorem qkn_181 : Cond.classLink RX5 29 RX4 ∈ lw_gd := List.mem_filter.mpr ⟨List.mem_of_getElem? (i := 181) (by decide +kernel), by decide +kernel⟩
theorem qkn_182 : Cond.instantiable RX4 7 ∈ lw_gd := List.mem_filter.mpr ⟨List.mem_of_getElem? (i := 182) (by decide +kernel), by decide +kernel⟩
theorem qkn_183 : Cond.methodLinkNest RX5 31 yX4_init RX5 ∈ lw_ct := by decide +kernel
theorem qkn_230 : Cond.fieldLink RX5 32 "QuakeRehearsal" "script" "LQuakeRehearsal$Script;" ∈ lw_gd := List.mem_filter.mpr ⟨List.mem_of_getElem? (i := 230) (by decide +kernel), by decide +kernel⟩
theorem qkn_212 : Cond.classLink RX5 36 RX2 ∈ lw_gd := List.mem_filter.mpr ⟨List.mem_of_getElem? (i := 212) (by decide +kernel), by decide +kernel⟩
theorem qkn_213 : Cond.instantiable RX2 2 ∈ lw_gd := List.mem_filter.mpr ⟨List.mem_of_getElem? (i := 213) (by decide +kernel), by decide +kernel⟩
theorem qkn_214 : Cond.methodLinkNest RX5 38 yX2_init RX5 ∈ lw_ct := by decide +kernel
theorem qkn_231 : Cond.fieldLink RX5 39 "QuakeRehearsal" "written" "LQuakeRehearsal$Line;" ∈ lw_gd := List.mem_filter.mpr ⟨List.mem_of_getElem? (i := 231) (by decide +kernel), by decide +kernel⟩
theorem qkn_232 : Cond.fieldLink RX5 43 "QuakeRehearsal" "hasSnapshot" "Z" ∈ lw_gd := List.mem_filter.mpr ⟨List.mem_of_getElem? (i := 232) (by decide +kernel), by decide +kernel⟩
theorem qkn_233 : Cond.fieldLink RX5 47 "QuakeRehearsal" "errorPlace" "I" ∈ lw_gd := List.mem_filter.mpr ⟨List.mem_of_getElem? (i := 233) (by decide +kernel), by decide +kernel⟩
theorem qkn_234 : Cond.fieldLink RX5 51 "QuakeRehearsal" "reason" "I" ∈ lw_gd := List.mem_filter.mpr ⟨List.mem_of_getElem? (i := 234) (by decide +kernel), by decide +kernel⟩
theorem qkn_235 : Cond.fieldLink RX5 54 "QuakeRehearsal" "detail" "I" ∈ lw_gd := List.mem_filter.mpr ⟨List.mem_of_getElem? (i := 235) (by decide +kernel), by decide +kernel⟩
theorem qkn_236 : Cond.fieldLink RX5 57 "QuakeRehearsal" "answer" "I" ∈ lw_gd := List.mem_filter.mpr ⟨List.mem_of_getElem? (i := 236) (by decide +kernel), by decide +kernel⟩
theorem qkn_53 : Cond.instanceMethod yX5_init ∈ lw_gd := List.mem_filter.mpr ⟨List.mem_of_getElem? (i := 53) (by decide +kernel), by decide +kernel⟩
theorem qkn_54 : Cond.code yX5_init cX5_init 1 none ∈ lw_gd := List.mem_filter.mpr ⟨List.mem_of_getElem? (i := 54) (by decide +kernel), by decide +kernel⟩
theorem qkn_19 : Cond.initialized RX5 ∈ lw_gd := List.mem_filter.mpr ⟨List.mem_of_getElem? (i := 19) (by decide +kernel), by decide +kernel⟩
