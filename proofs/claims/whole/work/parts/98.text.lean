theorem we_1142 : Cond.fieldLink RJ0 9 "java/lang/String" "value" "[B" ∈ BIG := big_t 1142 (by decide +kernel) rfl
theorem we_1143 : Cond.fieldLink RJ0 15 "java/lang/String" "coder" "B" ∈ BIG := big_t 1143 (by decide +kernel) rfl
theorem we_330 : Cond.fieldLink RJ0 38 "java/lang/String" "COMPACT_STRINGS" "Z" ∈ BIG := big_t 330 (by decide +kernel) rfl
theorem we_346 : Cond.fieldLink RJ0 1053 "jdk/internal/util/Preconditions" "SIOOBE_FORMATTER" "Ljava/util/function/BiFunction;" ∈ BIG := big_t 346 (by decide +kernel) rfl
theorem we_327 : Cond.instanceMethod yJ0_coder_7d493 ∈ BIG := big_t 327 (by decide +kernel) rfl
theorem we_328 : Cond.selects yJ0_coder_7d493.cls yJ0_coder_7d493 yJ0_coder_7d493 ∈ BIG := big_t 328 (by decide +kernel) rfl
theorem we_11 : Cond.initialized RJ0 ∈ BIG := big_t 11 (by decide +kernel) rfl
theorem we_329 : Cond.code yJ0_coder_7d493 cJ0_coder_7d493 1 (some .byte) ∈ BIG := big_t 329 (by decide +kernel) rfl
theorem we_326 : Cond.methodLink RJ0 335 yJ0_coder_7d493 ∈ BIG := big_t 326 (by decide +kernel) rfl
theorem we_349 : Cond.static yJ3_checkIndex_8e157 ∈ BIG := big_t 349 (by decide +kernel) rfl
theorem we_13 : Cond.initialized RJ3 ∈ BIG := big_t 13 (by decide +kernel) rfl
theorem we_350 : Cond.code yJ3_checkIndex_8e157 cJ3_checkIndex_8e157 3 (some .int) ∈ BIG := big_t 350 (by decide +kernel) rfl
theorem we_348 : Cond.methodLink RJ0 1059 yJ3_checkIndex_8e157 ∈ BIG := big_t 348 (by decide +kernel) rfl
theorem we_344 : Cond.static yJ0_checkIndex_df160 ∈ BIG := big_t 344 (by decide +kernel) rfl
theorem we_345 : Cond.code yJ0_checkIndex_df160 cJ0_checkIndex_df160 2 none ∈ BIG := big_t 345 (by decide +kernel) rfl
theorem we_343 : Cond.methodLink RJ1 9 yJ0_checkIndex_df160 ∈ BIG := big_t 343 (by decide +kernel) rfl
theorem we_337 : Cond.instanceMethod yJ0_isLatin1_aae02 ∈ BIG := big_t 337 (by decide +kernel) rfl
theorem we_338 : Cond.selects yJ0_isLatin1_aae02.cls yJ0_isLatin1_aae02 yJ0_isLatin1_aae02 ∈ BIG := big_t 338 (by decide +kernel) rfl
theorem we_339 : Cond.code yJ0_isLatin1_aae02 cJ0_isLatin1_aae02 1 (some .boolean) ∈ BIG := big_t 339 (by decide +kernel) rfl
theorem we_336 : Cond.methodLink RJ0 492 yJ0_isLatin1_aae02 ∈ BIG := big_t 336 (by decide +kernel) rfl
theorem we_341 : Cond.static yJ1_charAt_3b067 ∈ BIG := big_t 341 (by decide +kernel) rfl
theorem we_12 : Cond.initialized RJ1 ∈ BIG := big_t 12 (by decide +kernel) rfl
theorem we_342 : Cond.code yJ1_charAt_3b067 cJ1_charAt_3b067 2 (some .char) ∈ BIG := big_t 342 (by decide +kernel) rfl
theorem we_340 : Cond.methodLink RJ0 495 yJ1_charAt_3b067 ∈ BIG := big_t 340 (by decide +kernel) rfl
theorem yi_J0_coder_7d493 : YI yJ0_coder_7d493 cJ0_coder_7d493 1 (some .byte) 0 := ⟨we_327, we_328, we_11, we_329, by decide, by decide, by decide +kernel⟩
theorem ys_J3_checkIndex_8e157 : YS yJ3_checkIndex_8e157 cJ3_checkIndex_8e157 3 (some .int) 3 := ⟨we_349, we_13, we_350, by decide, by decide, by decide +kernel⟩
theorem ys_J0_checkIndex_df160 : YS yJ0_checkIndex_df160 cJ0_checkIndex_df160 2 none 2 := ⟨we_344, we_11, we_345, by decide, by decide, by decide +kernel⟩
theorem yi_J0_isLatin1_aae02 : YI yJ0_isLatin1_aae02 cJ0_isLatin1_aae02 1 (some .boolean) 0 := ⟨we_337, we_338, we_11, we_339, by decide, by decide, by decide +kernel⟩
theorem ys_J1_charAt_3b067 : YS yJ1_charAt_3b067 cJ1_charAt_3b067 2 (some .char) 2 := ⟨we_341, we_12, we_342, by decide, by decide, by decide +kernel⟩
/-! a text that stands: its object at q.1, its bytes at q.2.1; q.2.2 what the JDK keeps for a wrong place -/
def NoA : Nat → Prop := fun _ => False
def tb (j : Nat) : Int32 := nI (ft.getD j 0)
def SKE (q : Nat × (Nat × Value)) (A : Nat → Prop) (U : State) (H : Heap) : Prop :=
  va_O "java/lang/String" q.1 A U H ∧ va_OF "java/lang/String" "coder" "B" (.int 0) q.1 A U H ∧ va_OF "java/lang/String" "value" "[B" (.ref q.2.1) q.1 A U H ∧ va_T .byte q.2.1 87 (fun j => .int (tb j)) A U H ∧ va_Z "java/lang/String" "COMPACT_STRINGS" "Z" (.int 1) A U H ∧ va_Z "jdk/internal/util/Preconditions" "SIOOBE_FORMATTER" "Ljava/util/function/BiFunction;" q.2.2 A U H ∧ (q.2.2 = .null ∨ ∃ x, q.2.2 = .ref x)
theorem SKE.kept {q : Nat × (Nat × Value)} {A : Nat → Prop} {U : State} {H H1 : Heap} (h : SKE q A U H) (e : ∀ a : Nat, a < H.size → ¬ A a → H1[a]? = H[a]?) : SKE q A U H1 := ⟨h.1.kept e, h.2.1.kept e, h.2.2.1.kept e, h.2.2.2.1.kept e, h.2.2.2.2.1.kept e, h.2.2.2.2.2.1.kept e, h.2.2.2.2.2.2⟩
theorem SKE.moved {q : Nat × (Nat × Value)} {A : Nat → Prop} {u U : State} {H : Heap} (hvm : u.vm.Alike U.vm) (h : SKE q A u H) : SKE q A U H := ⟨va_O.moved hvm h.1, va_OF.moved hvm h.2.1, va_OF.moved hvm h.2.2.1, va_T.moved hvm h.2.2.2.1, va_Z.moved hvm h.2.2.2.2.1, va_Z.moved hvm h.2.2.2.2.2.1, h.2.2.2.2.2.2⟩
theorem SKE.narrow {q : Nat × (Nat × Value)} {A B : Nat → Prop} {U : State} {H : Heap} (h : SKE q A U H) (e : ∀ a, B a → A a) : SKE q B U H := ⟨h.1.narrow e, h.2.1.narrow e, h.2.2.1.narrow e, h.2.2.2.1.narrow e, h.2.2.2.2.1.narrow e, h.2.2.2.2.2.1.narrow e, h.2.2.2.2.2.2⟩
theorem SKE.step {q : Nat × (Nat × Value)} {A B : Nat → Prop} {s U : State} {H : Heap} {locs : List Loc} (h : SKE q A s s.heap) (hS : va_S A s.heap H locs) (hU : U.heap = H) (hW : s.WarmedH U.vm) (e : ∀ a, B a → A a) : SKE q B U U.heap := SKE.narrow (SKE.moved hW.alike (h.kept (fun a h1 h2 => by rw [hU]; exact hS.2.1 a h1 h2))) e
theorem SKE.blind {q : Nat × (Nat × Value)} {A : Nat → Prop} {U : State} (h : SKE q A U U.heap) (g : JFrame) (mk : MethodId) (a : Array Value) : SKE q A (U.calling g mk a) (U.calling g mk a).heap := SKE.moved (u := U) (U := U.calling g mk a) (Vm.Alike.refl U.vm) h
def CtJ (l : Launch) (y : MethodName) (bytes : ByteArray) (mL : Nat) (ret : Option FieldType) (rf rl : Nat) (av : List Value) (q : Nat × (Nat × Value)) (r : Int32) : Prop :=
  Met l y (Cond.code y bytes mL ret :: BIG) { frames := rf, cells := 0, slots := 0, locals := rl } (va_Pc av (fun U => SKE q NoA U U.heap)) (va_Qi (fun (x : Int32) (_ : Unit) => x = r) (fun _ _ => True) NoA) 0 0 NoA
def CtJv (l : Launch) (y : MethodName) (bytes : ByteArray) (mL : Nat) (ret : Option FieldType) (rf rl : Nat) (av : List Value) (q : Nat × (Nat × Value)) : Prop :=
  Met l y (Cond.code y bytes mL ret :: BIG) { frames := rf, cells := 0, slots := 0, locals := rl } (va_Pc av (fun U => SKE q NoA U U.heap)) (va_Qv (fun (_ : Unit) => True) (fun _ _ => True) NoA) 0 0 NoA
section RowsJ
variable {Pr : Heap → Prop} {A : Nat → Prop} {X : XT} {cc : ByteArray} {own : String} {nL fr lx pc n c0 n0 : Nat} {lv lv' : List (Nat × Value)} {rest st : List Value} {q : Nat × (Nat × Value)}
theorem ctJ {l : Launch} {y : MethodName} {mL : Nat} {ret : Option FieldType} {rf rl : Nat} {av : List Value} {r : Int32} (ho : own = y.cls) (hy : plainName y.cls = true) (hlen : (lg_sl av).length ≤ mL)
    (body : ∀ X : XT, CX X cc own mL rf rl → SKE q NoA (xs X) (xs X).heap → (xt X).sig.returnType = ret → xQ X = MQ (xb X) (va_Qi (fun (x : Int32) (_ : Unit) => x = r) (fun _ _ => True) NoA) (xa X) (xs X) 0 0 NoA → GW (fun _ => True) NoA X 0 0 0 (lv_args 0 av) []) : CtJ l y cc mL ret rf rl av q r := by
  subst ho
  refine Met.ofW (cc := cc) (maxL := mL) (ret := ret) hy rfl ?_
  intro p e s m args below meth c s₁ B hml hv
  obtain ⟨rfl, hE⟩ := hv
  have hts := atoms_spec (ws := Cond.code y cc mL ret :: BIG) B.pre
  have hl := lv_entry av (n := mL) hlen
  rw [lg_entry_eq]
  exact body (p, l, e, _, s, m, av.toArray, below, meth, c, _, mL) ⟨B.exec, B.bytes, hml, findClass_of_methodNamed B.named, fun w hw => hts w (List.mem_cons_of_mem _ hw), B.notSynchronized, rfl, rfl, rfl⟩ hE B.returns rfl s.heap [] _ trivial va_S.rf hl
theorem ctJv {l : Launch} {y : MethodName} {mL : Nat} {ret : Option FieldType} {rf rl : Nat} {av : List Value} (ho : own = y.cls) (hy : plainName y.cls = true) (hlen : (lg_sl av).length ≤ mL)
    (body : ∀ X : XT, CX X cc own mL rf rl → SKE q NoA (xs X) (xs X).heap → (xt X).sig.returnType = ret → xQ X = MQ (xb X) (va_Qv (fun (_ : Unit) => True) (fun _ _ => True) NoA) (xa X) (xs X) 0 0 NoA → GW (fun _ => True) NoA X 0 0 0 (lv_args 0 av) []) : CtJv l y cc mL ret rf rl av q := by
  subst ho
  refine Met.ofW (cc := cc) (maxL := mL) (ret := ret) hy rfl ?_
  intro p e s m args below meth c s₁ B hml hv
  obtain ⟨rfl, hE⟩ := hv
  have hts := atoms_spec (ws := Cond.code y cc mL ret :: BIG) B.pre
  have hl := lv_entry av (n := mL) hlen
  rw [lg_entry_eq]
  exact body (p, l, e, _, s, m, av.toArray, below, meth, c, _, mL) ⟨B.exec, B.bytes, hml, findClass_of_methodNamed B.named, fun w hw => hts w (List.mem_cons_of_mem _ hw), B.notSynchronized, rfl, rfl, rfl⟩ hE B.returns rfl s.heap [] _ trivial va_S.rf hl
theorem j_ret {v r : Int32} {ty : FieldType} (C : CX X cc own nL fr lx) (hr : (xt X).sig.returnType = some ty) (hQ : xQ X = MQ (xb X) (va_Qi (fun (x : Int32) (_ : Unit) => x = r) (fun _ _ => True) NoA) (xa X) (xs X) 0 0 NoA) (d : decode cc pc = .ok (.ireturn, 1)) (hnr : narrow ty (.int v) = .int v) (h : v = r) : GW Pr NoA X 0 0 pc lv [.int v] := by
  intro H locs ls hW hS hl
  rw [hQ]
  exact W.zret C.1 C.2.1 hr hnr (fun t ht hWm => ⟨⟨v, (), rfl, h, trivial⟩, hS.F ht⟩) hS.2.2 d C.2.2.2.2.2.1
theorem j_vret (C : CX X cc own nL fr lx) (hr : (xt X).sig.returnType = none) (hQ : xQ X = MQ (xb X) (va_Qv (fun (_ : Unit) => True) (fun _ _ => True) NoA) (xa X) (xs X) 0 0 NoA) (d : decode cc pc = .ok (.return_, 1)) : GW Pr NoA X 0 0 pc lv [] := by
  intro H locs ls hW hS hl
  rw [hQ]
  exact W.vret C.1 C.2.1 hr (fun t ht hWm => ⟨⟨(), rfl, trivial, trivial⟩, hS.F ht⟩) hS.2.2 d C.2.2.2.2.2.1
theorem j_gets {idx : Nat} {K nn ds : String} {v : Value} (C : CX X cc own nL fr lx) (hZ : va_Z K nn ds v A (xs X) (xs X).heap) (h1 : Cond.fieldLink own idx K nn ds ∈ BIG) (d : decode cc pc = .ok (.getstatic idx, 3)) (hn : pc + 3 = n) (k : GW Pr A X c0 n0 n lv (v :: rest)) : GW Pr A X c0 n0 pc lv rest := by
  subst hn
  exact fun H locs ls hW hS hl => va_gets C.1 C.2.1 hZ hS C.2.2.2.1 (C.word h1) (fun _ h => h) d (k H locs ls hW hS hl)
theorem j_getf {idx a : Nat} {K nn ds : String} {v : Value} (C : CX X cc own nL fr lx) (hE : va_OF K nn ds v a A (xs X) (xs X).heap) (h1 : Cond.fieldLink own idx K nn ds ∈ BIG) (d : decode cc pc = .ok (.getfield idx, 3)) (hn : pc + 3 = n) (k : GW Pr A X c0 n0 n lv (v :: rest)) : GW Pr A X c0 n0 pc lv (.ref a :: rest) := by
  subst hn
  exact fun H locs ls hW hS hl => vk_getf C.1 C.2.1 hE hS C.2.2.2.1 (C.word h1) (fun _ h => h) d (k H locs ls hW hS hl)
theorem j_alen {t N : Nat} {f : Nat → Value} {ty : FieldType} (v : Int32) (C : CX X cc own nL fr lx) (hT : va_T ty t N f A (xs X) (xs X).heap) (hv : Int32.ofNat N = v) (d : decode cc pc = .ok (.arraylength, 1)) (hn : pc + 1 = n) (k : GW Pr A X c0 n0 n lv (.int v :: rest)) : GW Pr A X c0 n0 pc lv (.ref t :: rest) := by
  subst hn
  exact fun H locs ls hW hS hl => va_tlen C.1 C.2.1 hT hS hv d (k H locs ls hW hS hl)
theorem j_bald {t N : Nat} {f : Nat → Value} {i : Int32} {v : Value} (C : CX X cc own nL fr lx) (hT : va_T .byte t N f A (xs X) (xs X).heap) (hi : vp_in i N) (hv : f i.toNatClampNeg = v) (d : decode cc pc = .ok (.baload, 1)) (hn : pc + 1 = n) (k : GW Pr A X c0 n0 n lv (v :: rest)) : GW Pr A X c0 n0 pc lv (.int i :: .ref t :: rest) := by
  subst hn
  exact fun H locs ls hW hS hl => va_tb C.1 C.2.1 hT hS hi hv d (k H locs ls hW hS hl)
theorem j_i2c {x v : Int32} (C : CX X cc own nL fr lx) (d : decode cc pc = .ok (.i2c, 1)) (hv : (x.toUInt32 % 65536).toInt32 = v) (hn : pc + 1 = n) (k : GW Pr A X c0 n0 n lv (.int v :: rest)) : GW Pr A X c0 n0 pc lv (.int x :: rest) := by
  subst hn
  exact fun H locs ls hW hS hl => lv_i2c C.1 C.2.1 d hv (k H locs ls hW hS hl)
variable {y : MethodName} {bytes : ByteArray} {mL rf rl idx a : Nat} {ret : Option FieldType} {As : List Value}
theorem blindJ {av : List Value} : FrameBlind (va_Pc av (fun U => SKE q NoA U U.heap)) := fun _ _ g mk z => ⟨z.1, z.2.blind g mk _⟩
theorem j_recv (h : SKE q A (xs X) (xs X).heap) {H : Heap} {locs : List Loc} (hS : va_S A (xs X).heap H locs) : ∃ cell : Cell, H[q.1]? = some cell ∧ cell.vm.isStatics = false ∧ (xs X).vm.findClass "java/lang/String" = some cell.cls := by
  obtain ⟨cell, h1, h2, h3, -⟩ := h.1.kept hS.2.1
  exact ⟨cell, h1, h2, h3⟩
theorem j_callV {r : Int32} (C : CX X cc own nL fr lx) (K : SKE q A (xs X) (xs X).heap) (hM : CtJ (xl X) y bytes mL ret rf rl (.ref q.1 :: As) q r) (hcls : y.cls = "java/lang/String") (hY : YI y bytes mL ret As.length) (hl0 : Cond.methodLink own idx y ∈ BIG) (hR : rf + 1 ≤ fr ∧ 8 + (mL + 11) + rl ≤ lx) (hrest : (rest.map fun v => v.category).sum ≤ 8) (hc : c0 ≤ (xR X).cells) (hs : n0 ≤ (xR X).slots) (d : decode cc pc = .ok (.invokevirtual idx, 3)) (hn : pc + 3 = n) (hst : st = As.reverse ++ .ref q.1 :: rest) (hPr : ∀ H H1 : Heap, Pr H → (∀ a : Nat, a < H.size → H1[a]? = H[a]?) → Pr H1) (k : GW Pr A X c0 n0 n lv (.int r :: rest)) : GW Pr A X c0 n0 pc lv st := by
  subst hn
  subst hst
  intro H locs ls hW hS hl
  have hr : va_Run (xp X) (xl X) (xe X) (xR X) (xs X) (xm X) (xa X) (xb X) (xt X) (xc X) H locs c0 n0 0 0 (F0 (xm X) pc ls (As.reverse ++ .ref q.1 :: rest)) rest (va_Qi (fun (x : Int32) (_ : Unit) => x = r) (fun _ _ => True) NoA (.ref q.1 :: As).toArray) NoA :=
    va_runV (As := As) (rest := rest) C.fix hM (cwV (C := y.cls) As.length C.2.2.2.2.1 (goodV hl0 hY) rfl rfl rfl ⟨rfl, hY.2.2.2.2.1, hY.2.2.2.2.2.1, hY.2.2.2.2.2.2⟩ ⟨by rw [C.2.2.2.2.2.2.2.1]; exact hR.1, by rw [C.2.2.2.2.2.2.2.2]; exact hR.2⟩) ⟨blindJ, by rw [hcls]; exact j_recv K hS, fun U hU hWm => ⟨rfl, K.step hS hU hWm (fun _ h => h.elim)⟩⟩ rfl rfl (by show ls.size = nL; rw [hl.1, C.2.2.2.2.2.2.1]) rfl (lv_room hrest) d ⟨hc, hs⟩
  exact va_calli (H0 := (xs X).heap) (A0 := A) hr hS (fun _ _ h => h.elim) (fun _ h => h.elim) (fun r' u t H1 locs1 ht hvm hp hB hz hk hS1 => by
    subst hp
    exact k H1 locs1 ls (hPr H H1 hW (fun a ha => hk a ha (fun h => h.elim))) hS1 hl)
theorem j_callS {r : Int32} (C : CX X cc own nL fr lx) (K : SKE q A (xs X) (xs X).heap) (hM : CtJ (xl X) y bytes mL ret rf rl As q r) (hY : YS y bytes mL ret As.length) (hl0 : Cond.methodLink own idx y ∈ BIG) (hR : rf + 1 ≤ fr ∧ 8 + (mL + 11) + rl ≤ lx) (hrest : (rest.map fun v => v.category).sum ≤ 8) (hc : c0 ≤ (xR X).cells) (hs : n0 ≤ (xR X).slots) (d : decode cc pc = .ok (.invokestatic idx, 3)) (hn : pc + 3 = n) (hst : st = As.reverse ++ rest) (hPr : ∀ H H1 : Heap, Pr H → (∀ a : Nat, a < H.size → H1[a]? = H[a]?) → Pr H1) (k : GW Pr A X c0 n0 n lv (.int r :: rest)) : GW Pr A X c0 n0 pc lv st := by
  subst hn
  subst hst
  intro H locs ls hW hS hl
  have hr : va_Run (xp X) (xl X) (xe X) (xR X) (xs X) (xm X) (xa X) (xb X) (xt X) (xc X) H locs c0 n0 0 0 (F0 (xm X) pc ls (As.reverse ++ rest)) rest (va_Qi (fun (x : Int32) (_ : Unit) => x = r) (fun _ _ => True) NoA As.toArray) NoA :=
    va_runS (As := As) (rest := rest) C.fix hM (va_cwS As.length C.2.2.2.2.1 (goodS hl0 hY) rfl rfl rfl ⟨hY.2.2.2.1, hY.2.2.2.2.1, hY.2.2.2.2.2⟩ ⟨by rw [C.2.2.2.2.2.2.2.1]; exact hR.1, by rw [C.2.2.2.2.2.2.2.2]; exact hR.2⟩) ⟨blindJ, fun U hU hWm => ⟨rfl, K.step hS hU hWm (fun _ h => h.elim)⟩⟩ rfl rfl (by show ls.size = nL; rw [hl.1, C.2.2.2.2.2.2.1]) rfl (lv_room hrest) d ⟨hc, hs⟩
  exact va_calli (H0 := (xs X).heap) (A0 := A) hr hS (fun _ _ h => h.elim) (fun _ h => h.elim) (fun r' u t H1 locs1 ht hvm hp hB hz hk hS1 => by
    subst hp
    exact k H1 locs1 ls (hPr H H1 hW (fun a ha => hk a ha (fun h => h.elim))) hS1 hl)
theorem j_callSv (C : CX X cc own nL fr lx) (K : SKE q A (xs X) (xs X).heap) (hM : CtJv (xl X) y bytes mL ret rf rl As q) (hY : YS y bytes mL ret As.length) (hl0 : Cond.methodLink own idx y ∈ BIG) (hR : rf + 1 ≤ fr ∧ 8 + (mL + 11) + rl ≤ lx) (hrest : (rest.map fun v => v.category).sum ≤ 8) (hc : c0 ≤ (xR X).cells) (hs : n0 ≤ (xR X).slots) (d : decode cc pc = .ok (.invokestatic idx, 3)) (hn : pc + 3 = n) (hst : st = As.reverse ++ rest) (hPr : ∀ H H1 : Heap, Pr H → (∀ a : Nat, a < H.size → H1[a]? = H[a]?) → Pr H1) (k : GW Pr A X c0 n0 n lv rest) : GW Pr A X c0 n0 pc lv st := by
  subst hn
  subst hst
  intro H locs ls hW hS hl
  have hr : va_Run (xp X) (xl X) (xe X) (xR X) (xs X) (xm X) (xa X) (xb X) (xt X) (xc X) H locs c0 n0 0 0 (F0 (xm X) pc ls (As.reverse ++ rest)) rest (va_Qv (fun (_ : Unit) => True) (fun _ _ => True) NoA As.toArray) NoA :=
    va_runS (As := As) (rest := rest) C.fix hM (va_cwS As.length C.2.2.2.2.1 (goodS hl0 hY) rfl rfl rfl ⟨hY.2.2.2.1, hY.2.2.2.2.1, hY.2.2.2.2.2⟩ ⟨by rw [C.2.2.2.2.2.2.2.1]; exact hR.1, by rw [C.2.2.2.2.2.2.2.2]; exact hR.2⟩) ⟨blindJ, fun U hU hWm => ⟨rfl, K.step hS hU hWm (fun _ h => h.elim)⟩⟩ rfl rfl (by show ls.size = nL; rw [hl.1, C.2.2.2.2.2.2.1]) rfl (lv_room hrest) d ⟨hc, hs⟩
  exact va_callv (H0 := (xs X).heap) (A0 := A) hr hS (fun _ _ h => h.elim) (fun _ h => h.elim) (fun u t H1 locs1 ht hvm hp hB hz hk hS1 => k H1 locs1 ls (hPr H H1 hW (fun a ha => hk a ha (fun h => h.elim))) hS1 hl)
end RowsJ
set_option maxHeartbeats 4000000 in
set_option maxRecDepth 100000 in
theorem c_coder (l : Launch) (q : Nat × (Nat × Value))  : CtJ l yJ0_coder_7d493 cJ0_coder_7d493 1 (some .byte) 0 0 [.ref q.1] q 0 := by
  refine ctJ (own := RJ0) rfl (by decide) (Nat.le_of_ble_eq_true rfl) (fun X C K hr hQ => ?_)
  show GW _ _ X 0 0 0 [(0, .ref q.1)] []
  refine j_gets (n := 3) C K.2.2.2.2.1 we_330 dJ0_coder_7d493_0 rfl ?_
  refine h_if_eq (n := 6) (tgt := 13) C dJ0_coder_7d493_3 (by decide) rfl (fun c => absurd c (by decide)) (fun c => ?_)
  refine h_aload_n (n := 7) (i := 0) C dJ0_coder_7d493_6 rfl 0 rfl rfl ?_
  refine j_getf (n := 10) C K.2.1 we_1143 dJ0_coder_7d493_7 rfl ?_
  refine h_goto (tgt := 14) C dJ0_coder_7d493_10 (by decide) ?_
  exact j_ret C hr hQ dJ0_coder_7d493_14 rfl rfl
set_option maxHeartbeats 4000000 in
set_option maxRecDepth 100000 in
theorem c_isLatin1 (l : Launch) (q : Nat × (Nat × Value))  : CtJ l yJ0_isLatin1_aae02 cJ0_isLatin1_aae02 1 (some .boolean) 0 0 [.ref q.1] q 1 := by
  refine ctJ (own := RJ0) rfl (by decide) (Nat.le_of_ble_eq_true rfl) (fun X C K hr hQ => ?_)
  show GW _ _ X 0 0 0 [(0, .ref q.1)] []
  refine j_gets (n := 3) C K.2.2.2.2.1 we_330 dJ0_isLatin1_aae02_0 rfl ?_
  refine h_if_eq (n := 6) (tgt := 17) C dJ0_isLatin1_aae02_3 (by decide) rfl (fun c => absurd c (by decide)) (fun c => ?_)
  refine h_aload_n (n := 7) (i := 0) C dJ0_isLatin1_aae02_6 rfl 0 rfl rfl ?_
  refine j_getf (n := 10) C K.2.1 we_1143 dJ0_isLatin1_aae02_7 rfl ?_
  refine h_if_ne (n := 13) (tgt := 17) C dJ0_isLatin1_aae02_10 (by decide) rfl (fun c => absurd rfl c) (fun c => ?_)
  refine h_iconst (n := 14) (1 : Int32) C dJ0_isLatin1_aae02_13 (by decide) rfl ?_
  refine h_goto (tgt := 18) C dJ0_isLatin1_aae02_14 (by decide) ?_
  exact j_ret C hr hQ dJ0_isLatin1_aae02_18 rfl rfl
set_option maxHeartbeats 4000000 in
set_option maxRecDepth 100000 in
theorem c_strlen (l : Launch) (q : Nat × (Nat × Value))  : CtJ l yJ0_length_8abf5 cJ0_length_8abf5 1 (some .int) 1 20 [.ref q.1] q 87 := by
  refine ctJ (own := RJ0) rfl (by decide) (Nat.le_of_ble_eq_true rfl) (fun X C K hr hQ => ?_)
  show GW _ _ X 0 0 0 [(0, .ref q.1)] []
  refine h_aload_n (n := 1) (i := 0) C dJ0_length_8abf5_0 rfl 0 rfl rfl ?_
  refine j_getf (n := 4) C K.2.2.1 we_1142 dJ0_length_8abf5_1 rfl ?_
  refine j_alen (n := 5) (87 : Int32) C K.2.2.2.1 (by decide) dJ0_length_8abf5_4 rfl ?_
  refine h_aload_n (n := 6) (i := 0) C dJ0_length_8abf5_5 rfl 0 rfl rfl ?_
  refine j_callV (n := 9) (As := []) C K (c_coder _ q) rfl yi_J0_coder_7d493 we_326 ⟨(Nat.le_of_ble_eq_true rfl), (Nat.le_of_ble_eq_true rfl)⟩ (Nat.le_of_ble_eq_true rfl) (Nat.zero_le _) (Nat.zero_le _) dJ0_length_8abf5_6 rfl rfl (fun _ _ _ _ => trivial) ?_
  refine h_ishr (n := 10) C dJ0_length_8abf5_9 rfl ?_
  exact j_ret C hr hQ dJ0_length_8abf5_10 rfl (by decide)
set_option maxHeartbeats 4000000 in
set_option maxRecDepth 100000 in
theorem c_preIndex (l : Launch) (q : Nat × (Nat × Value)) (i w : Int32) (hi : ¬ i < 0) (hw : i < w) (v : Value) (hv : v = .null ∨ ∃ x, v = .ref x) : CtJ l yJ3_checkIndex_8e157 cJ3_checkIndex_8e157 3 (some .int) 0 0 [.int i, .int w, v] q i := by
  have hlen : (lg_sl [.int i, .int w, v]).length ≤ 3 := by rcases hv with rfl | ⟨x, rfl⟩ <;> exact Nat.le_of_ble_eq_true rfl
  refine ctJ (own := RJ3) rfl (by decide) hlen (fun X C K hr hQ => ?_)
  show GW _ _ X 0 0 0 ((0, .int i) :: (1, .int w) :: _) []
  refine h_iload_n (n := 1) (i := 0) C dJ3_checkIndex_8e157_0 rfl 0 rfl rfl ?_
  refine h_if_lt (n := 4) (tgt := 9) C dJ3_checkIndex_8e157_1 (by decide) rfl (fun c => absurd c hi) (fun c => ?_)
  refine h_iload_n (n := 5) (i := 0) C dJ3_checkIndex_8e157_4 rfl 0 rfl rfl ?_
  refine h_iload_n (n := 6) (i := 1) C dJ3_checkIndex_8e157_5 rfl 1 rfl rfl ?_
  refine h_icmp_lt (n := 9) (tgt := 16) C dJ3_checkIndex_8e157_6 (by decide) rfl (fun c => ?_) (fun c => absurd hw c)
  refine h_iload_n (n := 17) (i := 0) C dJ3_checkIndex_8e157_16 rfl 0 rfl rfl ?_
  exact j_ret C hr hQ dJ3_checkIndex_8e157_17 rfl rfl
set_option maxHeartbeats 4000000 in
set_option maxRecDepth 100000 in
theorem c_strIndex (l : Launch) (q : Nat × (Nat × Value)) (i w : Int32) (hi : ¬ i < 0) (hw : i < w) : CtJv l yJ0_checkIndex_df160 cJ0_checkIndex_df160 2 none 1 22 [.int i, .int w] q := by
  refine ctJv (own := RJ0) rfl (by decide) (Nat.le_of_ble_eq_true rfl) (fun X C K hr hQ => ?_)
  show GW _ _ X 0 0 0 [(0, .int i), (1, .int w)] []
  refine h_iload_n (n := 1) (i := 0) C dJ0_checkIndex_df160_0 rfl 0 rfl rfl ?_
  refine h_iload_n (n := 2) (i := 1) C dJ0_checkIndex_df160_1 rfl 1 rfl rfl ?_
  refine j_gets (n := 5) C K.2.2.2.2.2.1 we_346 dJ0_checkIndex_df160_2 rfl ?_
  refine j_callS (n := 8) (As := [.int i, .int w, q.2.2]) (rest := []) C K (c_preIndex _ q i w hi hw q.2.2 K.2.2.2.2.2.2) ys_J3_checkIndex_8e157 we_348 ⟨(Nat.le_of_ble_eq_true rfl), (Nat.le_of_ble_eq_true rfl)⟩ (Nat.le_of_ble_eq_true rfl) (Nat.zero_le _) (Nat.zero_le _) dJ0_checkIndex_df160_5 rfl rfl (fun _ _ _ _ => trivial) ?_
  refine h_pop (n := 9) C dJ0_checkIndex_df160_8 rfl rfl ?_
  exact j_vret C hr hQ dJ0_checkIndex_df160_9
theorem tb_ok : ∀ i, i < 87 → tb i &&& 255 = tb i ∧ ((tb i).toUInt32 % 65536).toInt32 = tb i ∧ narrow .char (.int (tb i)) = .int (tb i) := by decide +kernel
set_option maxHeartbeats 4000000 in
set_option maxRecDepth 100000 in
theorem c_latAt (l : Launch) (q : Nat × (Nat × Value)) (i : Nat) (h : i < 87) : CtJ l yJ1_charAt_3b067 cJ1_charAt_3b067 2 (some .char) 2 43 [.ref q.2.1, .int (nI i)] q (tb i) := by
  refine ctJ (own := RJ1) rfl (by decide) (Nat.le_of_ble_eq_true rfl) (fun X C K hr hQ => ?_)
  show GW _ _ X 0 0 0 [(0, .ref q.2.1), (1, .int (nI i))] []
  refine h_iload_n (n := 1) (i := 1) C dJ1_charAt_3b067_0 rfl 1 rfl rfl ?_
  refine h_aload_n (n := 2) (i := 0) C dJ1_charAt_3b067_1 rfl 0 rfl rfl ?_
  refine j_alen (n := 3) (87 : Int32) C K.2.2.2.1 (by decide) dJ1_charAt_3b067_2 rfl ?_
  refine j_callSv (n := 6) (As := [.int (nI i), .int (87 : Int32)]) (rest := []) C K (c_strIndex _ q (nI i) 87 (nI_pos (by omega)) (nI_lt (b := 87) h (by decide))) ys_J0_checkIndex_df160 we_343 ⟨(Nat.le_of_ble_eq_true rfl), (Nat.le_of_ble_eq_true rfl)⟩ (Nat.le_of_ble_eq_true rfl) (Nat.zero_le _) (Nat.zero_le _) dJ1_charAt_3b067_3 rfl rfl (fun _ _ _ _ => trivial) ?_
  refine h_aload_n (n := 7) (i := 0) C dJ1_charAt_3b067_6 rfl 0 rfl rfl ?_
  refine h_iload_n (n := 8) (i := 1) C dJ1_charAt_3b067_7 rfl 1 rfl rfl ?_
  refine j_bald (n := 9) (v := .int (tb i)) C K.2.2.2.1 (vp_in_nI h (by decide)) (by rw [nI_clamp (by omega)]) dJ1_charAt_3b067_8 rfl ?_
  refine h_sipush (n := 12) (255 : Int32) C dJ1_charAt_3b067_9 (by decide) rfl ?_
  refine h_iand (n := 13) C dJ1_charAt_3b067_12 rfl ?_
  rw [(tb_ok i h).1]
  refine j_i2c (n := 14) C dJ1_charAt_3b067_13 (tb_ok i h).2.1 rfl ?_
  exact j_ret C hr hQ dJ1_charAt_3b067_14 (tb_ok i h).2.2 rfl
set_option maxHeartbeats 4000000 in
set_option maxRecDepth 100000 in
theorem c_strAt (l : Launch) (q : Nat × (Nat × Value)) (i : Nat) (h : i < 87) : CtJ l yJ0_charAt_5068e cJ0_charAt_5068e 2 (some .char) 3 64 [.ref q.1, .int (nI i)] q (tb i) := by
  refine ctJ (own := RJ0) rfl (by decide) (Nat.le_of_ble_eq_true rfl) (fun X C K hr hQ => ?_)
  show GW _ _ X 0 0 0 [(0, .ref q.1), (1, .int (nI i))] []
  refine h_aload_n (n := 1) (i := 0) C dJ0_charAt_5068e_0 rfl 0 rfl rfl ?_
  refine j_callV (n := 4) (As := []) (rest := []) C K (c_isLatin1 _ q) rfl yi_J0_isLatin1_aae02 we_336 ⟨(Nat.le_of_ble_eq_true rfl), (Nat.le_of_ble_eq_true rfl)⟩ (Nat.le_of_ble_eq_true rfl) (Nat.zero_le _) (Nat.zero_le _) dJ0_charAt_5068e_1 rfl rfl (fun _ _ _ _ => trivial) ?_
  refine h_if_eq (n := 7) (tgt := 16) C dJ0_charAt_5068e_4 (by decide) rfl (fun c => absurd c (by decide)) (fun c => ?_)
  refine h_aload_n (n := 8) (i := 0) C dJ0_charAt_5068e_7 rfl 0 rfl rfl ?_
  refine j_getf (n := 11) C K.2.2.1 we_1142 dJ0_charAt_5068e_8 rfl ?_
  refine h_iload_n (n := 12) (i := 1) C dJ0_charAt_5068e_11 rfl 1 rfl rfl ?_
  refine j_callS (n := 15) (As := [.ref q.2.1, .int (nI i)]) (rest := []) C K (c_latAt _ q i h) ys_J1_charAt_3b067 we_340 ⟨(Nat.le_of_ble_eq_true rfl), (Nat.le_of_ble_eq_true rfl)⟩ (Nat.le_of_ble_eq_true rfl) (Nat.zero_le _) (Nat.zero_le _) dJ0_charAt_5068e_12 rfl rfl (fun _ _ _ _ => trivial) ?_
  exact j_ret C hr hQ dJ0_charAt_5068e_15 (tb_ok i h).2.2 rfl
