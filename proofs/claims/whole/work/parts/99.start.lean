theorem we_17 : Cond.instantiable RX8 11 ∈ BIG := big_t 17 (by decide +kernel) rfl
theorem we_814 : Cond.instantiable RX9 24 ∈ BIG := big_t 814 (by decide +kernel) rfl
def NRW : List Cond := flatC (Jvm.Cond.and given_1 narrow_1)
theorem nest_tabs {w : Cond} (h : isNest w = true) : w.onTables = true := by
  unfold isNest at h
  split at h
  · rfl
  · rfl
  · cases h
theorem st_nest {s : State} {args : Array Value} (hts : ∀ w ∈ lw_tbl, w.before args s = true) : ∀ w ∈ NWL, va_Nw w s := fun w hw => va_Nw.of (nest_tabs (List.mem_filter.mp hw).2) (hts w (List.mem_append_right _ (List.mem_filter.mp hw).1))
theorem st_big {s : State} {args : Array Value} (hts : ∀ w ∈ lw_tbl, w.before args s = true) : ∀ w ∈ BIG, w.before args s = true := fun w hw => hts w (List.mem_filter.mp hw).1
theorem st_classes {s : State} {args : Array Value} (hts : ∀ w ∈ BIG, w.before args s = true) : ∃ D : va_G, ∀ (c : Nat) (q : vw_C), vwCl[c]? = some q → u_Kn s q.1 q.2.1 q.2.2 (D.1 c) (D.2 c) := by
  have h : ∀ c : Nat, ∃ y : ClassId × (Nat → Nat), ∀ q : vw_C, vwCl[c]? = some q → u_Kn s q.1 q.2.1 q.2.2 y.1 y.2 := by
    intro c
    match c with
    | 0 =>
      obtain ⟨a, b, h⟩ := u_known hts inB0 (hts _ we_288)
      exact ⟨(a, b), fun q hq => by cases hq; exact h⟩
    | 1 =>
      obtain ⟨a, b, h⟩ := u_known hts inB1 (hts _ we_207)
      exact ⟨(a, b), fun q hq => by cases hq; exact h⟩
    | 2 =>
      obtain ⟨a, b, h⟩ := u_known hts inB2 (hts _ we_94)
      exact ⟨(a, b), fun q hq => by cases hq; exact h⟩
    | 3 =>
      obtain ⟨a, b, h⟩ := u_known hts inB3 (hts _ we_148)
      exact ⟨(a, b), fun q hq => by cases hq; exact h⟩
    | 4 =>
      obtain ⟨a, b, h⟩ := u_known hts inB4 (hts _ we_43)
      exact ⟨(a, b), fun q hq => by cases hq; exact h⟩
    | 5 =>
      obtain ⟨a, b, h⟩ := u_known hts inB5 (hts _ we_25)
      exact ⟨(a, b), fun q hq => by cases hq; exact h⟩
    | 6 =>
      obtain ⟨a, b, h⟩ := u_known hts inB6 (hts _ we_187)
      exact ⟨(a, b), fun q hq => by cases hq; exact h⟩
    | 7 =>
      obtain ⟨a, b, h⟩ := u_known hts inB7 (hts _ we_252)
      exact ⟨(a, b), fun q hq => by cases hq; exact h⟩
    | 8 =>
      obtain ⟨a, b, h⟩ := u_known hts inB8 (hts _ we_17)
      exact ⟨(a, b), fun q hq => by cases hq; exact h⟩
    | 9 =>
      obtain ⟨a, b, h⟩ := u_known hts inB9 (hts _ we_814)
      exact ⟨(a, b), fun q hq => by cases hq; exact h⟩
    | c + 10 => exact ⟨((0 : Nat), fun _ => 0), fun q hq => (Option.some_ne_none q (hq.symm.trans (List.getElem?_eq_none (by show 10 ≤ c + 10; omega)))).elim⟩
  obtain ⟨f, hf⟩ := Classical.axiomOfChoice h
  exact ⟨(fun c => (f c).1, fun c => (f c).2), hf⟩
theorem st_ints {s : State} {args : Array Value} (hts : ∀ w ∈ BIG, w.before args s = true) : ∃ cI : ClassId, ArrOfT s cI .int ∧ va_RA s cI .int := by
  obtain ⟨c, k, comp, h1, h2, h3⟩ := Cond.arrayClass_spec (args := args) (first := s) (o := none) (s := s) (idx := []) (hts _ we_41)
  exact ⟨c, fun n z => ⟨(fun _ h => by cases h), k, h2, comp, h3⟩, h1⟩
theorem st_over {s : State} {args : Array Value} (hts : ∀ w ∈ lw_tbl, w.before args s = true) : (Cond.arrayOver (.object RX2)).before args s = true := hts _ (List.mem_append_right _ (List.mem_of_getElem? (i := 196) (by decide +kernel)))
theorem st_refs {s : State} {args : Array Value} (hts : ∀ w ∈ lw_tbl, w.before args s = true) : ∃ cH : ClassId, ArrOfT s cH (.object RX2) ∧ va_RA s cH (.object RX2) := by
  obtain ⟨comp, c, k, h1, -, h3, h4, h5⟩ := Cond.arrayOver_spec (st_over hts)
  exact ⟨c, fun n z => ⟨(fun _ h => by cases h), k, h3, comp, h4⟩, k, comp, h3, h4, h1, h5⟩
theorem st_row0 {s : State} {args : Array Value} (hts : ∀ w ∈ lw_tbl, w.before args s = true) (hs : ∀ w ∈ NRW, w.before args s = true) {A : Nat → Prop} (hA : ∀ a : Nat, a < s.heap.size → ¬ A a) : ∃ t : Nat, va_Z RX5 (tnm 0) "[I" (.ref t) A s s.heap ∧ va_T .int t (tln 0) (fun i => .int (tva 0 i)) A s s.heap := by
  obtain ⟨t, h1, h2⟩ := va_Tof (tm := (Term.static "NextBellboy$Script" "GUEST_LEAST" "[I")) (ty := .int) (N := 5) (f := fun i => .int (tva 0 i)) (A := A) (by decide) (hs _ (by decide +kernel)) (va_eqt (hs _ (by decide +kernel))) (fun j hj => by
    rcases (show j = 0 ∨ j = 1 ∨ j = 2 ∨ j = 3 ∨ j = 4 by omega) with rfl | rfl | rfl | rfl | rfl
    · exact va_eqt (hs (Cond.eq (Term.elem (Term.static "NextBellboy$Script" "GUEST_LEAST" "[I") (Term.int (0 : Int32))) (Term.int (0 : Int32))) (by decide +kernel))
    · exact va_eqt (hs (Cond.eq (Term.elem (Term.static "NextBellboy$Script" "GUEST_LEAST" "[I") (Term.int (1 : Int32))) (Term.int (0 : Int32))) (by decide +kernel))
    · exact va_eqt (hs (Cond.eq (Term.elem (Term.static "NextBellboy$Script" "GUEST_LEAST" "[I") (Term.int (2 : Int32))) (Term.int (1 : Int32))) (by decide +kernel))
    · exact va_eqt (hs (Cond.eq (Term.elem (Term.static "NextBellboy$Script" "GUEST_LEAST" "[I") (Term.int (3 : Int32))) (Term.int (0 : Int32))) (by decide +kernel))
    · exact va_eqt (hs (Cond.eq (Term.elem (Term.static "NextBellboy$Script" "GUEST_LEAST" "[I") (Term.int (4 : Int32))) (Term.int (1 : Int32))) (by decide +kernel))) hA
  exact ⟨t, va_Zof (hts (.laysStatic RX5 (tnm 0) "[I") (List.mem_append_right _ (List.mem_of_getElem? (i := 395) (by decide +kernel)))) (st_big hts _ wd_2) h1 hA, h2⟩
theorem st_row1 {s : State} {args : Array Value} (hts : ∀ w ∈ lw_tbl, w.before args s = true) (hs : ∀ w ∈ NRW, w.before args s = true) {A : Nat → Prop} (hA : ∀ a : Nat, a < s.heap.size → ¬ A a) : ∃ t : Nat, va_Z RX5 (tnm 1) "[I" (.ref t) A s s.heap ∧ va_T .int t (tln 1) (fun i => .int (tva 1 i)) A s s.heap := by
  obtain ⟨t, h1, h2⟩ := va_Tof (tm := (Term.static "NextBellboy$Script" "GUEST_MOST" "[I")) (ty := .int) (N := 5) (f := fun i => .int (tva 1 i)) (A := A) (by decide) (hs _ (by decide +kernel)) (va_eqt (hs _ (by decide +kernel))) (fun j hj => by
    rcases (show j = 0 ∨ j = 1 ∨ j = 2 ∨ j = 3 ∨ j = 4 by omega) with rfl | rfl | rfl | rfl | rfl
    · exact va_eqt (hs (Cond.eq (Term.elem (Term.static "NextBellboy$Script" "GUEST_MOST" "[I") (Term.int (0 : Int32))) (Term.int (3 : Int32))) (by decide +kernel))
    · exact va_eqt (hs (Cond.eq (Term.elem (Term.static "NextBellboy$Script" "GUEST_MOST" "[I") (Term.int (1 : Int32))) (Term.int (40 : Int32))) (by decide +kernel))
    · exact va_eqt (hs (Cond.eq (Term.elem (Term.static "NextBellboy$Script" "GUEST_MOST" "[I") (Term.int (2 : Int32))) (Term.int (30 : Int32))) (by decide +kernel))
    · exact va_eqt (hs (Cond.eq (Term.elem (Term.static "NextBellboy$Script" "GUEST_MOST" "[I") (Term.int (3 : Int32))) (Term.int (20 : Int32))) (by decide +kernel))
    · exact va_eqt (hs (Cond.eq (Term.elem (Term.static "NextBellboy$Script" "GUEST_MOST" "[I") (Term.int (4 : Int32))) (Term.int (9 : Int32))) (by decide +kernel))) hA
  exact ⟨t, va_Zof (hts (.laysStatic RX5 (tnm 1) "[I") (List.mem_append_right _ (List.mem_of_getElem? (i := 397) (by decide +kernel)))) (st_big hts _ wd_2) h1 hA, h2⟩
theorem st_row2 {s : State} {args : Array Value} (hts : ∀ w ∈ lw_tbl, w.before args s = true) (hs : ∀ w ∈ NRW, w.before args s = true) {A : Nat → Prop} (hA : ∀ a : Nat, a < s.heap.size → ¬ A a) : ∃ t : Nat, va_Z RX5 (tnm 2) "[I" (.ref t) A s s.heap ∧ va_T .int t (tln 2) (fun i => .int (tva 2 i)) A s s.heap := by
  obtain ⟨t, h1, h2⟩ := va_Tof (tm := (Term.static "NextBellboy$Script" "ROOM_LEAST" "[I")) (ty := .int) (N := 1) (f := fun i => .int (tva 2 i)) (A := A) (by decide) (hs _ (by decide +kernel)) (va_eqt (hs _ (by decide +kernel))) (fun j hj => by
    rcases (show j = 0 by omega) with rfl
    · exact va_eqt (hs (Cond.eq (Term.elem (Term.static "NextBellboy$Script" "ROOM_LEAST" "[I") (Term.int (0 : Int32))) (Term.int (0 : Int32))) (by decide +kernel))) hA
  exact ⟨t, va_Zof (hts (.laysStatic RX5 (tnm 2) "[I") (List.mem_append_right _ (List.mem_of_getElem? (i := 414) (by decide +kernel)))) (st_big hts _ wd_2) h1 hA, h2⟩
theorem st_row3 {s : State} {args : Array Value} (hts : ∀ w ∈ lw_tbl, w.before args s = true) (hs : ∀ w ∈ NRW, w.before args s = true) {A : Nat → Prop} (hA : ∀ a : Nat, a < s.heap.size → ¬ A a) : ∃ t : Nat, va_Z RX5 (tnm 3) "[I" (.ref t) A s s.heap ∧ va_T .int t (tln 3) (fun i => .int (tva 3 i)) A s s.heap := by
  obtain ⟨t, h1, h2⟩ := va_Tof (tm := (Term.static "NextBellboy$Script" "ROOM_MOST" "[I")) (ty := .int) (N := 1) (f := fun i => .int (tva 3 i)) (A := A) (by decide) (hs _ (by decide +kernel)) (va_eqt (hs _ (by decide +kernel))) (fun j hj => by
    rcases (show j = 0 by omega) with rfl
    · exact va_eqt (hs (Cond.eq (Term.elem (Term.static "NextBellboy$Script" "ROOM_MOST" "[I") (Term.int (0 : Int32))) (Term.int (9 : Int32))) (by decide +kernel))) hA
  exact ⟨t, va_Zof (hts (.laysStatic RX5 (tnm 3) "[I") (List.mem_append_right _ (List.mem_of_getElem? (i := 416) (by decide +kernel)))) (st_big hts _ wd_2) h1 hA, h2⟩
theorem st_bytes : ∀ j, j < 87 → Cond.eq (Term.elem (Term.field (Term.string "NextBellboy" 78) "java/lang/String" "value" "[B") (Term.int (Int32.ofNat j))) (Term.int (tb j)) ∈ NRW := by decide +kernel
theorem isRef_or {t : Term} {args : Array Value} {s : State} (h : (Cond.isRef t).before args s = true) : ∃ v : Value, t.eval args s none [] s = some v ∧ (v = .null ∨ ∃ x, v = .ref x) := by
  simp only [Cond.before, Cond.holds, Cond.value] at h
  cases hv : t.eval args s none [] s with
  | none => simp [hv] at h
  | some v =>
    cases v <;> simp [hv] at h
    · exact ⟨_, rfl, Or.inl rfl⟩
    · exact ⟨_, rfl, Or.inr ⟨_, rfl⟩⟩
theorem st_text {s : State} {args : Array Value} (hts : ∀ w ∈ lw_tbl, w.before args s = true) (hs : ∀ w ∈ NRW, w.before args s = true) {A : Nat → Prop} (hA : ∀ a : Nat, a < s.heap.size → ¬ A a) : ∃ q : Nat × (Nat × Value), SKE q A s s.heap ∧ vk_R RX8 78 FTX q.1 s := by
  obtain ⟨a, c, cA, kA, q1, q2, q3, q4, q5, q6, -⟩ := Cond.exactly_spec (args := args) (first := s) (o := none) (s := s) (idx := []) (t := (Term.string "NextBellboy" 78)) (cls := "java/lang/String") (hs _ (by decide +kernel))
  obtain ⟨v, hv, hT⟩ := va_Tof (tm := (Term.field (Term.string "NextBellboy" 78) "java/lang/String" "value" "[B")) (ty := .byte) (N := 87) (f := fun j => .int (tb j)) (A := A) (by decide) (hs _ (by decide +kernel)) (va_eqt (hs _ (by decide +kernel))) (fun j hj => va_eqt (hs _ (st_bytes j hj))) hA
  obtain ⟨w, hw, hw2⟩ := isRef_or (hs (Cond.isRef (Term.static "jdk/internal/util/Preconditions" "SIOOBE_FORMATTER" "Ljava/util/function/BiFunction;")) (by decide +kernel))
  refine ⟨(a, v, w), ⟨⟨cA, q3, q5, by rw [q6]; exact q2, hA a (Array.getElem?_eq_some_iff.mp q3).1⟩, vk_OFof q1 (va_eqt (hs (Cond.eq (Term.field (Term.string "NextBellboy" 78) "java/lang/String" "coder" "B") (Term.int (0 : Int32))) (by decide +kernel))) hA, vk_OFof q1 hv hA, hT, ?_, ?_, hw2⟩, ?_⟩
  · exact va_Zof (hts (.laysStatic "java/lang/String" "COMPACT_STRINGS" "Z") (List.mem_append_right _ (List.mem_of_getElem? (i := 331) (by decide +kernel)))) (hts (.initialized "java/lang/String") (List.mem_append_right _ (List.mem_of_getElem? (i := 11) (by decide +kernel)))) (va_eqt (hs (Cond.eq (Term.static "java/lang/String" "COMPACT_STRINGS" "Z") (Term.int (1 : Int32))) (by decide +kernel))) hA
  · exact va_Zof (hts (.laysStatic "jdk/internal/util/Preconditions" "SIOOBE_FORMATTER" "Ljava/util/function/BiFunction;") (List.mem_append_right _ (List.mem_of_getElem? (i := 347) (by decide +kernel)))) (hts (.initialized "jdk/internal/util/Preconditions") (List.mem_append_right _ (List.mem_of_getElem? (i := 13) (by decide +kernel)))) hw hA
  · exact vk_R.of (A := args) (hts (.stringRef RX8 78 FTX) (List.mem_append_right _ (List.mem_of_getElem? (i := 321) (by decide +kernel)))) q1
/-- all of it: for every place and every layout -/
theorem st_all {s : State} {args : Array Value} (hts : ∀ w ∈ lw_tbl, w.before args s = true) (hs : ∀ w ∈ NRW, w.before args s = true) : ∃ (D : va_G) (cI cH : ClassId) (zt0 : Nat → Nat) (q : Nat × (Nat × Value)), (∀ (b0 n : Nat) (lay : Nat → Nat), EXA (b0, n, lay, cI, cH, D, zt0) (fun a => s.heap.size ≤ a) s) ∧ SKE q (fun a => s.heap.size ≤ a) s s.heap ∧ vk_R RX8 78 FTX q.1 s := by
  have hA : ∀ a : Nat, a < s.heap.size → ¬ (fun a : Nat => s.heap.size ≤ a) a := fun a h => Nat.not_le.mpr h
  obtain ⟨D, hD⟩ := st_classes (st_big hts)
  obtain ⟨cI, i1, i2⟩ := st_ints (st_big hts)
  obtain ⟨cH, r1, r2⟩ := st_refs hts
  obtain ⟨t0, a0, b0⟩ := st_row0 hts hs hA
  obtain ⟨t1, a1, b1⟩ := st_row1 hts hs hA
  obtain ⟨t2, a2, b2⟩ := st_row2 hts hs hA
  obtain ⟨t3, a3, b3⟩ := st_row3 hts hs hA
  obtain ⟨q, k1, k2⟩ := st_text hts hs hA
  refine ⟨D, cI, cH, fun j => match j with | 0 => t0 | 1 => t1 | 2 => t2 | _ => t3, q, fun bb n lay => ⟨⟨⟨hD, fun k z hk => ?_⟩, st_nest hts, va_AO.of (st_over hts)⟩, fun j hj => ?_⟩, k1, k2⟩
  · match k, hk with
    | 0, hk => cases hk; exact ⟨i1, i2⟩
    | 1, hk => cases hk; exact ⟨r1, r2⟩
    | k + 2, hk => exact (Option.some_ne_none z (hk.symm.trans (List.getElem?_eq_none (by show 2 ≤ k + 2; omega)))).elim
  · match j, hj with
    | 0, _ => exact ⟨a0, b0⟩
    | 1, _ => exact ⟨a1, b1⟩
    | 2, _ => exact ⟨a2, b2⟩
    | 3, _ => exact ⟨a3, b3⟩
    | j + 4, hj => omega
