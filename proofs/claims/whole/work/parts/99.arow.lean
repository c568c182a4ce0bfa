/-! worlds that are whole, inside a larger one: A is all that may change -/
def TBA (Z : ZT) (A : Nat → Prop) (s : State) (H : Heap) : Prop := ∀ j, j < 4 → va_Z RX5 (tnm j) "[I" (.ref (zt Z j)) A s H ∧ va_T .int (zt Z j) (tln j) (fun i => .int (tva j i)) A s H
def EXA (Z : ZT) (A : Nat → Prop) (s : State) : Prop := EK Z s ∧ TBA Z A s s.heap
theorem EXA.step {Z : ZT} {A B : Nat → Prop} {s U : State} {H : Heap} {locs : List Loc} (E : EXA Z A s) (hB : ∀ q, B q → A q) (hS : va_S A s.heap H locs) (hU : U.heap = H) (hW : s.WarmedH U.vm) : EXA Z B U :=
  ⟨E.1.step hW, fun j hj => ⟨(((E.2 j hj).1.moved hW.alike).kept (fun a h1 h2 => by rw [hU]; exact hS.2.1 a h1 h2)).narrow hB, (((E.2 j hj).2.moved hW.alike).kept (fun a h1 h2 => by rw [hU]; exact hS.2.1 a h1 h2)).narrow hB⟩⟩
theorem EXA.use {Z : ZT} {A : Nat → Prop} {s U : State} {H : Heap} {locs : List Loc} (E : EXA Z A s) (hA : ∀ q, AZ Z q → A q) (hS : va_S A s.heap H locs) (hU : U.heap = H) (hW : s.WarmedH U.vm) : EX Z U := by
  have e := E.step hA hS hU hW
  exact ⟨e.1.1, e.1.2.1, e.2⟩
theorem EXA.blind {Z : ZT} {A : Nat → Prop} {U : State} (E : EXA Z A U) (g : JFrame) (mk : MethodId) (a : Array Value) : EXA Z A (U.calling g mk a) :=
  ⟨E.1.blind g mk a, fun j hj => ⟨(E.2 j hj).1.moved (u := U) (U := U.calling g mk a) (Vm.Alike.refl U.vm), (E.2 j hj).2.moved (u := U) (U := U.calling g mk a) (Vm.Alike.refl U.vm)⟩⟩
theorem Wd_kept {Z : ZT} {M : Mem} {H H1 : Heap} (h : Wd Z M H) (e : ∀ a : Nat, a < H.size → AZ Z a → H1[a]? = H[a]?) : Wd Z M H1 := va_P.kept h (fun k q hk => by
  have hlt := (h k q hk).lt
  obtain ⟨h1, rfl⟩ := wl_inv hk
  exact e _ hlt ⟨Nat.le_add_right _ _, Nat.add_lt_add_left h1 _⟩)
theorem Wd_size {Z : ZT} {M : Mem} {H : Heap} (h : Wd Z M H) (h0 : 0 < zn Z) : zb Z + zn Z ≤ H.size := by
  have := (h (zn Z - 1) _ (wl_get (by omega))).lt
  have : zb Z + (zn Z - 1) < H.size := this
  omega
section RowsQ
variable {Z : ZT} {Pr : Heap → Prop} {A : Nat → Prop} {X : XT} {cc : ByteArray} {own : String} {nL fr lx pc n c0 n0 cm sm : Nat} {lv lv' : List (Nat × Value)} {rest st : List Value} {M : Mem}
theorem h_size (k : GW (fun H => Pr H ∧ (xs X).heap.size ≤ H.size ∧ H.size ≤ (xs X).heap.size + c0) A X c0 n0 pc lv st) : GW Pr A X c0 n0 pc lv st := fun H locs ls hW hS hl T hT X' => by
  have e : (T.setVm (xs X).vm).heap = T.heap := rfl
  have h1 := X'.same.2.1
  have h2 := X'.same.2.2.1
  rw [e, hT] at h1 h2
  exact k H locs ls ⟨hW, h1, h2⟩ hS hl T hT X'
theorem q_get {k kd idx N : Nat} {Rc : String} {T : u_T} (j : Nat) {v : Value} (hPr : ∀ H, Pr H → Wd Z M H) (C : CX X cc own nL fr lx) (E : EK Z (xs X)) (hc : vwCl[kd]? = some (Rc, T, N)) (hin : ∀ w ∈ u_ws Rc T N, w ∈ BIG) (hj : j < N) (hlink : Cond.fieldLink own idx (T j).1 (T j).2.1 (T j).2.2.1 ∈ BIG) (hk : AtO Z k kd) (hv : (fvals (zb Z) (M k) k kd)[j]? = some v) (d : decode cc pc = .ok (.getfield idx, 3)) (hn : pc + 3 = n) (kk : GW Pr A X c0 n0 n lv (v :: rest)) : GW Pr A X c0 n0 pc lv (.ref (zb Z + k) :: rest) := by
  subst hn
  exact fun H locs ls hW hS hl => va_get (ws := wl Z M) C.1 C.2.1 C.2.2.2.2.1 hin C.2.2.2.1 E.1 (hPr H hW) k (wl_obj hk) hc j hj (C.word hlink) (fun _ h => h) hv d (kk H locs ls hW hS hl)
variable {y : MethodName} {bytes : ByteArray} {mL rf rl idx a kd : Nat} {ret : Option FieldType} {As : List Value} {host : String}
theorem q_callVi {Pr1 : Mem → Heap → Prop} {post : Int32 → Mem → Prop} (C : CX X cc own nL fr lx) (E : EXA Z A (xs X)) (hA : ∀ q, AZ Z q → A q) (hM : CtI Z (xl X) y bytes mL ret rf rl (.ref (zb Z + a) :: As) M post) (hY : YI y bytes mL ret As.length) (hl0 : Cond.methodLink own idx y ∈ BIG) {T : u_T} {N : Nat} (hc : vwCl[kd]? = some (y.cls, T, N)) (ha : AtO Z a kd) (hR : rf + 1 ≤ fr ∧ 8 + (mL + 11) + rl ≤ lx) (hrest : (rest.map fun v => v.category).sum ≤ 8) (hcc : c0 ≤ (xR X).cells) (hss : n0 ≤ (xR X).slots) (hW : ∀ H, Pr H → Wd Z M H) (hPr : ∀ (H H1 : Heap) (M1 : Mem), Pr H → Wd Z M1 H1 → (∀ q : Nat, q < H.size → ¬ AZ Z q → H1[q]? = H[q]?) → Pr1 M1 H1) (d : decode cc pc = .ok (.invokevirtual idx, 3)) (hn : pc + 3 = n) (hst : st = As.reverse ++ .ref (zb Z + a) :: rest) (k : ∀ (r : Int32) (M1 : Mem), post r M1 → GW (Pr1 M1) A X c0 n0 n lv (.int r :: rest)) : GW Pr A X c0 n0 pc lv st := by
  subst hn
  subst hst
  intro H locs ls hP hS hl
  have hr : va_Run (xp X) (xl X) (xe X) (xR X) (xs X) (xm X) (xa X) (xb X) (xt X) (xc X) H locs c0 n0 0 0 (F0 (xm X) pc ls (As.reverse ++ .ref (zb Z + a) :: rest)) rest (va_Qi post (fun M1 t => Wd Z M1 t.heap) (AZ Z) (.ref (zb Z + a) :: As).toArray) (AZ Z) :=
    va_runV (As := As) (rest := rest) C.fix hM (cwV (C := y.cls) As.length C.2.2.2.2.1 (goodV hl0 hY) rfl rfl rfl ⟨rfl, hY.2.2.2.2.1, hY.2.2.2.2.2.1, hY.2.2.2.2.2.2⟩ ⟨by rw [C.2.2.2.2.2.2.2.1]; exact hR.1, by rw [C.2.2.2.2.2.2.2.2]; exact hR.2⟩) ⟨blindI, va_recv (ws := wl Z M) E.1.1 (hW H hP) hc (wl_obj ha), fun U hU hWm => ⟨rfl, E.use hA hS hU hWm, by rw [hU]; exact hW H hP⟩⟩ rfl rfl (by show ls.size = nL; rw [hl.1, C.2.2.2.2.2.2.1]) rfl (lv_room hrest) d ⟨hcc, hss⟩
  exact va_calli (H0 := (xs X).heap) (A0 := A) hr hS (fun _ _ h => hA _ h) (fun _ h => hA _ h) (fun r u t H1 locs1 ht hvm hp hB hz hk hS1 => k r u hp H1 locs1 ls (hPr H H1 u hP (by rw [← ht]; exact hB) hk) hS1 hl)
theorem q_callVv {Pr1 : Mem → Heap → Prop} {post : Mem → Prop} (C : CX X cc own nL fr lx) (E : EXA Z A (xs X)) (hA : ∀ q, AZ Z q → A q) (hM : CtV Z (xl X) y bytes mL ret rf rl (.ref (zb Z + a) :: As) M post) (hY : YI y bytes mL ret As.length) (hl0 : Cond.methodLink own idx y ∈ BIG) {T : u_T} {N : Nat} (hc : vwCl[kd]? = some (y.cls, T, N)) (ha : AtO Z a kd) (hR : rf + 1 ≤ fr ∧ 8 + (mL + 11) + rl ≤ lx) (hrest : (rest.map fun v => v.category).sum ≤ 8) (hcc : c0 ≤ (xR X).cells) (hss : n0 ≤ (xR X).slots) (hW : ∀ H, Pr H → Wd Z M H) (hPr : ∀ (H H1 : Heap) (M1 : Mem), Pr H → Wd Z M1 H1 → (∀ q : Nat, q < H.size → ¬ AZ Z q → H1[q]? = H[q]?) → Pr1 M1 H1) (d : decode cc pc = .ok (.invokevirtual idx, 3)) (hn : pc + 3 = n) (hst : st = As.reverse ++ .ref (zb Z + a) :: rest) (k : ∀ M1 : Mem, post M1 → GW (Pr1 M1) A X c0 n0 n lv rest) : GW Pr A X c0 n0 pc lv st := by
  subst hn
  subst hst
  intro H locs ls hP hS hl
  have hr : va_Run (xp X) (xl X) (xe X) (xR X) (xs X) (xm X) (xa X) (xb X) (xt X) (xc X) H locs c0 n0 0 0 (F0 (xm X) pc ls (As.reverse ++ .ref (zb Z + a) :: rest)) rest (va_Qv post (fun M1 t => Wd Z M1 t.heap) (AZ Z) (.ref (zb Z + a) :: As).toArray) (AZ Z) :=
    va_runV (As := As) (rest := rest) C.fix hM (cwV (C := y.cls) As.length C.2.2.2.2.1 (goodV hl0 hY) rfl rfl rfl ⟨rfl, hY.2.2.2.2.1, hY.2.2.2.2.2.1, hY.2.2.2.2.2.2⟩ ⟨by rw [C.2.2.2.2.2.2.2.1]; exact hR.1, by rw [C.2.2.2.2.2.2.2.2]; exact hR.2⟩) ⟨blindI, va_recv (ws := wl Z M) E.1.1 (hW H hP) hc (wl_obj ha), fun U hU hWm => ⟨rfl, E.use hA hS hU hWm, by rw [hU]; exact hW H hP⟩⟩ rfl rfl (by show ls.size = nL; rw [hl.1, C.2.2.2.2.2.2.1]) rfl (lv_room hrest) d ⟨hcc, hss⟩
  exact va_callv (H0 := (xs X).heap) (A0 := A) hr hS (fun _ _ h => hA _ h) (fun _ h => hA _ h) (fun u t H1 locs1 ht hvm hp hB hz hk hS1 => k u hp H1 locs1 ls (hPr H H1 u hP (by rw [← ht]; exact hB) hk) hS1 hl)
theorem q_callNi {Pr1 : Mem → Heap → Prop} {post : Int32 → Mem → Prop} (C : CX X cc own nL fr lx) (E : EXA Z A (xs X)) (hA : ∀ q, AZ Z q → A q) (hM : CtI Z (xl X) y bytes mL ret rf rl (.ref (zb Z + a) :: As) M post) (hY : YI y bytes mL ret As.length) (hl0 : Cond.methodLinkNest own idx y host ∈ NWL) {T : u_T} {N : Nat} (hc : vwCl[kd]? = some (y.cls, T, N)) (ha : AtO Z a kd) (hR : rf + 1 ≤ fr ∧ 8 + (mL + 11) + rl ≤ lx) (hrest : (rest.map fun v => v.category).sum ≤ 8) (hcc : c0 ≤ (xR X).cells) (hss : n0 ≤ (xR X).slots) (hW : ∀ H, Pr H → Wd Z M H) (hPr : ∀ (H H1 : Heap) (M1 : Mem), Pr H → Wd Z M1 H1 → (∀ q : Nat, q < H.size → ¬ AZ Z q → H1[q]? = H[q]?) → Pr1 M1 H1) (d : decode cc pc = .ok (.invokevirtual idx, 3)) (hn : pc + 3 = n) (hst : st = As.reverse ++ .ref (zb Z + a) :: rest) (k : ∀ (r : Int32) (M1 : Mem), post r M1 → GW (Pr1 M1) A X c0 n0 n lv (.int r :: rest)) : GW Pr A X c0 n0 pc lv st := by
  subst hn
  subst hst
  intro H locs ls hP hS hl
  have hr : va_Run (xp X) (xl X) (xe X) (xR X) (xs X) (xm X) (xa X) (xb X) (xt X) (xc X) H locs c0 n0 0 0 (F0 (xm X) pc ls (As.reverse ++ .ref (zb Z + a) :: rest)) rest (va_Qi post (fun M1 t => Wd Z M1 t.heap) (AZ Z) (.ref (zb Z + a) :: As).toArray) (AZ Z) :=
    va_runVN (As := As) (rest := rest) C.fix hM ⟨va_cnB As.length C.2.2.2.2.1 (big_in hY.2.2.2.1) rfl rfl rfl (E.1.2.1 _ hl0) (C.word hY.2.2.1) ⟨hY.2.2.2.2.1, hY.2.2.2.2.2.1, hY.2.2.2.2.2.2⟩ ⟨by rw [C.2.2.2.2.2.2.2.1]; exact hR.1, by rw [C.2.2.2.2.2.2.2.2]; exact hR.2⟩, C.word hY.1, C.word hY.2.1⟩ ⟨blindI, va_recv (ws := wl Z M) E.1.1 (hW H hP) hc (wl_obj ha), fun U hU hWm => ⟨rfl, E.use hA hS hU hWm, by rw [hU]; exact hW H hP⟩⟩ rfl rfl (by show ls.size = nL; rw [hl.1, C.2.2.2.2.2.2.1]) rfl (lv_room hrest) d ⟨hcc, hss⟩
  exact va_calli (H0 := (xs X).heap) (A0 := A) hr hS (fun _ _ h => hA _ h) (fun _ h => hA _ h) (fun r u t H1 locs1 ht hvm hp hB hz hk hS1 => k r u hp H1 locs1 ls (hPr H H1 u hP (by rw [← ht]; exact hB) hk) hS1 hl)
theorem q_callNv {Pr1 : Mem → Heap → Prop} {post : Mem → Prop} (C : CX X cc own nL fr lx) (E : EXA Z A (xs X)) (hA : ∀ q, AZ Z q → A q) (hM : CtV Z (xl X) y bytes mL ret rf rl (.ref (zb Z + a) :: As) M post) (hY : YI y bytes mL ret As.length) (hl0 : Cond.methodLinkNest own idx y host ∈ NWL) {T : u_T} {N : Nat} (hc : vwCl[kd]? = some (y.cls, T, N)) (ha : AtO Z a kd) (hR : rf + 1 ≤ fr ∧ 8 + (mL + 11) + rl ≤ lx) (hrest : (rest.map fun v => v.category).sum ≤ 8) (hcc : c0 ≤ (xR X).cells) (hss : n0 ≤ (xR X).slots) (hW : ∀ H, Pr H → Wd Z M H) (hPr : ∀ (H H1 : Heap) (M1 : Mem), Pr H → Wd Z M1 H1 → (∀ q : Nat, q < H.size → ¬ AZ Z q → H1[q]? = H[q]?) → Pr1 M1 H1) (d : decode cc pc = .ok (.invokevirtual idx, 3)) (hn : pc + 3 = n) (hst : st = As.reverse ++ .ref (zb Z + a) :: rest) (k : ∀ M1 : Mem, post M1 → GW (Pr1 M1) A X c0 n0 n lv rest) : GW Pr A X c0 n0 pc lv st := by
  subst hn
  subst hst
  intro H locs ls hP hS hl
  have hr : va_Run (xp X) (xl X) (xe X) (xR X) (xs X) (xm X) (xa X) (xb X) (xt X) (xc X) H locs c0 n0 0 0 (F0 (xm X) pc ls (As.reverse ++ .ref (zb Z + a) :: rest)) rest (va_Qv post (fun M1 t => Wd Z M1 t.heap) (AZ Z) (.ref (zb Z + a) :: As).toArray) (AZ Z) :=
    va_runVN (As := As) (rest := rest) C.fix hM ⟨va_cnB As.length C.2.2.2.2.1 (big_in hY.2.2.2.1) rfl rfl rfl (E.1.2.1 _ hl0) (C.word hY.2.2.1) ⟨hY.2.2.2.2.1, hY.2.2.2.2.2.1, hY.2.2.2.2.2.2⟩ ⟨by rw [C.2.2.2.2.2.2.2.1]; exact hR.1, by rw [C.2.2.2.2.2.2.2.2]; exact hR.2⟩, C.word hY.1, C.word hY.2.1⟩ ⟨blindI, va_recv (ws := wl Z M) E.1.1 (hW H hP) hc (wl_obj ha), fun U hU hWm => ⟨rfl, E.use hA hS hU hWm, by rw [hU]; exact hW H hP⟩⟩ rfl rfl (by show ls.size = nL; rw [hl.1, C.2.2.2.2.2.2.1]) rfl (lv_room hrest) d ⟨hcc, hss⟩
  exact va_callv (H0 := (xs X).heap) (A0 := A) hr hS (fun _ _ h => hA _ h) (fun _ h => hA _ h) (fun u t H1 locs1 ht hvm hp hB hz hk hS1 => k u hp H1 locs1 ls (hPr H H1 u hP (by rw [← ht]; exact hB) hk) hS1 hl)
theorem w_callP {mc ms lo : Nat} {fs0 : List Value} {Pe : State → Prop} {Po Pr1 : Heap → Prop} (C : CX X cc own nL fr lx) (hM : CtN Z (xl X) y bytes mL rf rl mc ms As kd lo fs0 Pe Po) (hY : YN y bytes mL As.length) (hl0 : Cond.methodLink own idx y ∈ BIG) (hR : rf + 1 ≤ fr ∧ 8 + (mL + 11) + rl ≤ lx) (hrest : (rest.map fun v => v.category).sum ≤ 8) (hcm : (xR X).cells = cm) (hsm : (xR X).slots = sm) (h4 : c0 + mc ≤ cm) (h5 : n0 + ms ≤ sm) (hbl : ∀ (U : State) (g : JFrame) (mk : MethodId) (a : Array Value), Pe U → Pe (U.calling g mk a)) (hstep : ∀ (H : Heap) (locs : List Loc) (U : State), Pr H → va_S A (xs X).heap H locs → U.heap = H → (xs X).WarmedH U.vm → Pe U) (hPG : ∀ H, Pr H → PG Z lo [.inr (kd, fs0)] H) (hA : ∀ q, lo ≤ q → A q) (hPr : ∀ H H1 : Heap, Pr H → Po H1 → (∀ q : Nat, q < lo → H1[q]? = H[q]?) → Pr1 H1) (d : decode cc pc = .ok (.invokespecial idx, 3)) (hn : pc + 3 = n) (hst : st = As.reverse ++ .ref lo :: rest) (k : GW Pr1 A X (c0 + mc) (n0 + ms) n lv rest) : GW Pr A X c0 n0 pc lv st := by
  subst hn
  subst hst
  intro H locs ls hP hS hl
  have hr : va_Run (xp X) (xl X) (xe X) (xR X) (xs X) (xm X) (xa X) (xb X) (xt X) (xc X) H locs c0 n0 mc ms (F0 (xm X) pc ls (As.reverse ++ .ref lo :: rest)) rest (va_Qv (fun _ : Unit => True) (fun _ t => Po t.heap) (fun q => lo ≤ q) (.ref lo :: As).toArray) (fun q => lo ≤ q) :=
    va_runI (As := As) (rest := rest) C.fix hM (cwI As.length C.2.2.2.2.1 (big_in hY.2.2.1) rfl rfl rfl (C.word hY.2.1) (C.word hl0) (C.word hY.1) hY.2.2.2.1 ⟨hY.2.2.2.2.1, hY.2.2.2.2.2.1, hY.2.2.2.2.2.2⟩ ⟨by rw [C.2.2.2.2.2.2.2.1]; exact hR.1, by rw [C.2.2.2.2.2.2.2.2]; exact hR.2⟩) ⟨fun _ _ g mk q => ⟨q.1, hbl _ g mk _ q.2.1, q.2.2⟩, fun U hU hWm => ⟨rfl, hstep H locs U hP hS hU hWm, by rw [hU]; exact hPG H hP⟩⟩ rfl rfl (by show ls.size = nL; rw [hl.1, C.2.2.2.2.2.2.1]) rfl (lv_room hrest) d ⟨by rw [hcm]; exact h4, by rw [hsm]; exact h5⟩
  have ez : H.size = lo + 1 := (hPG H hP).1
  exact va_callv (H0 := (xs X).heap) (A0 := A) hr hS (fun _ _ h => hA _ h) (fun _ h => hA _ h) (fun u t H1 locs1 ht hvm hp hB hz hk hS1 => k H1 locs1 ls (hPr H H1 hP (by rw [← ht]; exact hB) (fun q hq => hk q (by omega) (Nat.not_le.mpr hq))) hS1 hl)
end RowsQ
