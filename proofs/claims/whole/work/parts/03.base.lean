def imax (x y : Int32) : Int32 := if x < y then y else x
def imin (x y : Int32) : Int32 := if y < x then y else x
/-! the good words of the tables, in one list; the words of nest mates -/
def BIG : List Cond := lw_tbl.filter goodWord
def isNest : Cond → Bool
  | .methodLinkNest _ _ _ _ => true
  | .fieldLinkNest _ _ _ _ _ _ => true
  | _ => false
def NWL : List Cond := tables_1.filter isNest
theorem big_t {w : Cond} (i : Nat) (h : tables_1[i]? = some w) (g : goodWord w = true) : w ∈ BIG := List.mem_filter.mpr ⟨List.mem_append_right _ (List.mem_of_getElem? h), g⟩
theorem big_p {y : MethodName} {n : Nat} (h : (y, n) ∈ lw_privs) : Cond.selects y.cls y y ∈ BIG := List.mem_filter.mpr ⟨List.mem_append_left _ (List.mem_map.mpr ⟨(y, n), h, rfl⟩), rfl⟩
theorem nw_t {w : Cond} (i : Nat) (h : tables_1[i]? = some w) (g : isNest w = true) : w ∈ NWL := List.mem_filter.mpr ⟨List.mem_of_getElem? h, g⟩
theorem big_good {w : Cond} (h : w ∈ BIG) : (w.onTables && w.keeps) = true ∨ ∃ ty, w = .arrayClass ty := good_of_word (List.mem_filter.mp h).2
theorem big_in {y : MethodName} {bytes : ByteArray} {n : Nat} {ret : Option FieldType} (h : Cond.code y bytes n ret ∈ BIG) : GoodIn BIG (Cond.code y bytes n ret :: BIG) := by
  intro w hw
  rcases List.mem_cons.mp hw with e | e
  · rw [e]; exact ⟨h, big_good h⟩
  · exact ⟨e, big_good e⟩
theorem nw_warm {s U : State} (hW : s.WarmedH U.vm) (h : ∀ w ∈ NWL, va_Nw w s) : ∀ w ∈ NWL, va_Nw w U := by
  intro w hw
  have hn := (List.mem_filter.mp hw).2
  have h0 := h w hw
  unfold isNest at hn
  split at hn
  · exact va_Nw.warmM hW h0
  · exact va_Nw.warmF hW h0
  · cases hn
theorem nw_same {u U : State} (e : u.vm = U.vm) (h : ∀ w ∈ NWL, va_Nw w u) : ∀ w ∈ NWL, va_Nw w U := by
  intro w hw
  have hn := (List.mem_filter.mp hw).2
  have h0 := h w hw
  unfold isNest at hn
  split at hn
  · exact va_Nw.same rfl e h0
  · exact va_Nw.same rfl e h0
  · cases hn
/-! memory: a number for each cell and place -/
abbrev Mem : Type := Nat → Nat → Int32
def mset (M : Mem) (k i : Nat) (v : Int32) : Mem := fun q => if q = k then upd (M k) i v else M q
theorem mset_self (M : Mem) (k i : Nat) (v : Int32) : mset M k i v k = upd (M k) i v := if_pos rfl
theorem mset_ne {M : Mem} {k i q : Nat} {v : Int32} (h : q ≠ k) : mset M k i v q = M q := if_neg h
abbrev ZT : Type := Nat × (Nat × ((Nat → Nat) × (ClassId × (ClassId × (va_G × (Nat → Nat))))))
def zb (Z : ZT) : Nat := Z.1
def zn (Z : ZT) : Nat := Z.2.1
def zl (Z : ZT) : Nat → Nat := Z.2.2.1
def zI (Z : ZT) : ClassId := Z.2.2.2.1
def zH (Z : ZT) : ClassId := Z.2.2.2.2.1
def zG (Z : ZT) : va_G := Z.2.2.2.2.2.1
def zt (Z : ZT) : Nat → Nat := Z.2.2.2.2.2.2

def layXl : List Nat := [8, 5, 300, 105, 4, 107, 107, 107, 107, 107, 107, 4, 107, 107, 107, 107, 107, 107, 2, 107, 107, 107, 107, 107, 107, 107, 2, 107, 107, 107, 107, 107, 107, 107, 3, 107, 107, 107, 107, 107, 6, 2008, 2, 107, 107, 107, 107, 107, 107, 107, 2, 107, 107, 107, 107, 107, 107, 107, 2, 107, 107, 107, 107, 107, 107, 107, 2, 107, 107, 107, 107, 107, 107, 107, 2, 107, 107, 107, 107, 107, 107, 107, 2, 107, 107, 107, 107, 107, 107, 107, 2, 107, 107, 107, 107, 107, 107, 107, 2, 107, 107, 107, 107, 107, 107, 107, 6, 2002, 2, 107, 107, 107, 107, 107, 107, 107, 2, 107, 107, 107, 107, 107, 107, 107, 1, 107, 107, 107, 2, 107, 107, 107, 107, 107, 107, 107, 3, 107, 107, 107, 107, 107, 7, 107, 107, 107, 107, 107, 0, 107, 2, 107, 107, 107, 107, 107, 107, 107, 3, 107, 107, 107, 107, 107]
def layMl : List Nat := [9, 712, 107, 107, 107, 107, 107, 107, 300, 135, 107, 107, 108, 107, 108, 107]
def layX (k : Nat) : Nat := layXl.getD k 0
def layM (k : Nat) : Nat := layMl.getD k 0
/-- the fields of an object of class kd at k, its numbers in r -/
def fvals (b : Nat) (r : Nat → Int32) (k : Nat) : Nat → List Value
  | 0 => [.ref (b + 4), .ref (b + (k + 2)), .ref (b + (k + 10)), .ref (b + (k + 1)), .int (r 4), .int (r 5), .int (r 6)]
  | 1 => [.ref (b + 4), .ref (b + (k + 4)), .ref (b + (k + 12)), .ref (b + (k + 1)), .ref (b + (k + 2)), .ref (b + (k + 3)), .int (r 6), .int (r 7), .int (r 8), .int (r 9), .int (r 10)]
  | 2 => [.ref (b + 4), .ref (b + (k + 1)), .ref (b + (k + 2)), .ref (b + (k + 3)), .ref (b + (k + 4)), .ref (b + (k + 5)), .ref (b + (k + 6)), .ref (b + (k + 7)), .int (r 8), .int (r 9)]
  | 3 => [.ref (b + 4), .ref (b + (k + 1)), .ref (b + (k + 2)), .ref (b + (k + 3)), .ref (b + (k + 4)), .ref (b + (k + 5)), .int (r 6), .int (r 7), .int (r 8)]
  | 4 => [.ref (b + (k + 1)), .ref (b + (k + 2)), .ref (b + (k + 3)), .ref (b + (k + 4)), .ref (b + (k + 5)), .ref (b + (k + 6)), .int (r 6), .int (r 7)]
  | 5 => [.ref (b + (k + 1)), .ref (b + (k + 2)), .int (r 2)]
  | 6 => [.ref (b + (k + 1)), .int (r 1)]
  | 7 => [.ref (b + 4), .ref (b + (k + 1)), .ref (b + (k + 2)), .ref (b + (k + 3)), .ref (b + (k + 4)), .ref (b + (k + 5)), .int (r 6), .int (r 7), .int (r 8)]
  | 8 => [.ref (b + 1), .ref (b + 4), .ref (b + 11), .ref (b + 18), .ref (b + 26), .ref (b + 34), .ref (b + 40), .ref (b + 106), .ref (b + 124), .ref (b + 142), .ref (b + 148)]
  | 9 => [.ref (b + (k + 1)), .int (r 1), .int (r 2), .int (r 3), .ref (b + (k + 2)), .ref (b + (k + 3)), .ref (b + (k + 4)), .ref (b + (k + 5)), .int (r 8), .ref (b + (k + 6)), .ref (b + (k + 7)), .ref (b + (k + 8)), .int (r 12), .int (r 13), .int (r 14), .int (r 15), .ref (b + (k + 9)), .int (r 17), .ref (b + (k + 10)), .ref (b + (k + 11)), .ref (b + (k + 12)), .ref (b + (k + 13)), .ref (b + (k + 14)), .ref (b + (k + 15))]
  | _ => []
def cellE (Z : ZT) (r : Nat → Int32) (k : Nat) : va_E :=
  if zl Z k < 100 then .inr (zl Z k, fvals (zb Z) r k (zl Z k)) else if zl Z k < 2000 then .inl (zI Z, (zl Z k - 100, .inl r)) else .inl (zH Z, (zl Z k - 2000, .inr (.inr (.inr (.inr (fun i => some (zb Z + (r i).toNatClampNeg)))))))
def wl (Z : ZT) (M : Mem) : va_W := (List.range (zn Z)).map (fun k => (zb Z + k, cellE Z (M k) k))
def Wd (Z : ZT) (M : Mem) (H : Heap) : Prop := va_P (zG Z) vwCl (wl Z M) H
def AZ (Z : ZT) : Nat → Prop := fun q => zb Z ≤ q ∧ q < zb Z + zn Z
theorem wl_get {Z : ZT} {M : Mem} {k : Nat} (h : k < zn Z) : (wl Z M)[k]? = some (zb Z + k, cellE Z (M k) k) := by
  unfold wl
  rw [List.getElem?_map, List.getElem?_range h]; rfl
theorem wl_inv {Z : ZT} {M : Mem} {k : Nat} {q : Nat × va_E} (h : (wl Z M)[k]? = some q) : k < zn Z ∧ q = (zb Z + k, cellE Z (M k) k) := by
  have hl := (List.getElem?_eq_some_iff.mp h).1
  have hk : k < zn Z := by simpa [wl] using hl
  refine ⟨hk, ?_⟩
  rw [wl_get hk] at h
  exact (Option.some.inj h).symm
theorem wl_set {Z : ZT} {M : Mem} {k i : Nat} {v : Int32} : (wl Z M).set k (zb Z + k, cellE Z (upd (M k) i v) k) = wl Z (mset M k i v) := by
  apply List.ext_getElem?
  intro j
  by_cases hj : j < zn Z
  · by_cases e : k = j
    · subst e
      rw [List.getElem?_set_self (by simpa [wl] using hj), wl_get hj, mset_self]
    · rw [List.getElem?_set_ne e, wl_get hj, wl_get hj, mset_ne (fun z => e z.symm)]
  · rw [List.getElem?_eq_none (by simpa [wl] using hj), List.getElem?_eq_none (by simpa [wl] using hj)]
theorem wl_D {Z : ZT} {M : Mem} : va_D (AZ Z) (wl Z M) := by
  refine ⟨fun i j p q hi hj e => ?_, fun k q hk => ?_⟩
  · obtain ⟨h1, rfl⟩ := wl_inv hi
    obtain ⟨h2, rfl⟩ := wl_inv hj
    exact Nat.add_left_cancel e
  · obtain ⟨h1, rfl⟩ := wl_inv hk
    exact ⟨Nat.le_add_right _ _, Nat.add_lt_add_left h1 _⟩
def AtO (Z : ZT) (k kd : Nat) : Prop := zl Z k = kd ∧ k < zn Z ∧ kd < 100
def AtA (Z : ZT) (k n : Nat) : Prop := zl Z k = 100 + n ∧ k < zn Z ∧ n < 1000
def AtR (Z : ZT) (k n : Nat) : Prop := zl Z k = 2000 + n ∧ k < zn Z ∧ n < 1000
theorem wl_obj {Z : ZT} {M : Mem} {k kd : Nat} (h : AtO Z k kd) : (wl Z M)[k]? = some (zb Z + k, .inr (kd, fvals (zb Z) (M k) k kd)) := by
  rw [wl_get h.2.1, cellE, h.1, if_pos h.2.2]
theorem wl_arr {Z : ZT} {M : Mem} {k n : Nat} (h : AtA Z k n) : (wl Z M)[k]? = some (zb Z + k, .inl (zI Z, (n, .inl (M k)))) := by
  have h3 := h.2.2
  rw [wl_get h.2.1, cellE, h.1, if_neg (by omega), if_pos (by omega), Nat.add_sub_cancel_left]
theorem wl_refs {Z : ZT} {M : Mem} {k n : Nat} (h : AtR Z k n) : (wl Z M)[k]? = some (zb Z + k, .inl (zH Z, (n, .inr (.inr (.inr (.inr (fun i => some (zb Z + (M k i).toNatClampNeg)))))))) := by
  have h3 := h.2.2
  rw [wl_get h.2.1, cellE, h.1, if_neg (by omega), if_neg (by omega), Nat.add_sub_cancel_left]
theorem cellE_obj {Z : ZT} {r : Nat → Int32} {k kd : Nat} (h : AtO Z k kd) : cellE Z r k = .inr (kd, fvals (zb Z) r k kd) := by
  rw [cellE, h.1, if_pos h.2.2]
theorem cellE_arr {Z : ZT} {r : Nat → Int32} {k n : Nat} (h : AtA Z k n) : cellE Z r k = .inl (zI Z, (n, .inl r)) := by
  have h3 := h.2.2
  rw [cellE, h.1, if_neg (by omega), if_pos (by omega), Nat.add_sub_cancel_left]
theorem cellE_refs {Z : ZT} {r : Nat → Int32} {k n : Nat} (h : AtR Z k n) : cellE Z r k = .inl (zH Z, (n, .inr (.inr (.inr (.inr (fun i => some (zb Z + (r i).toNatClampNeg))))))) := by
  have h3 := h.2.2
  rw [cellE, h.1, if_neg (by omega), if_neg (by omega), Nat.add_sub_cancel_left]
/-! the static rows of numbers -/
def tnm : Nat → String
  | 0 => "GUEST_LEAST"
  | 1 => "GUEST_MOST"
  | 2 => "ROOM_LEAST"
  | _ => "ROOM_MOST"
def tln : Nat → Nat
  | 0 => 5
  | 1 => 5
  | _ => 1
def tva : Nat → Nat → Int32
  | 0, j => ([0, 0, 1, 0, 1] : List Int32).getD j 0
  | 1, j => ([3, 40, 30, 20, 9] : List Int32).getD j 0
  | 2, j => ([0] : List Int32).getD j 0
  | _, j => ([9] : List Int32).getD j 0
def TB (Z : ZT) (s : State) (H : Heap) : Prop := ∀ j, j < 4 → va_Z RX5 (tnm j) "[I" (.ref (zt Z j)) (AZ Z) s H ∧ va_T .int (zt Z j) (tln j) (fun i => .int (tva j i)) (AZ Z) s H
def EX (Z : ZT) (s : State) : Prop := va_K (zG Z) vwCl [(zI Z, .int), (zH Z, .object RX2)] s ∧ (∀ w ∈ NWL, va_Nw w s) ∧ TB Z s s.heap
theorem EX.step {Z : ZT} {s U : State} {H : Heap} {locs : List Loc} (E : EX Z s) (hS : va_S (AZ Z) s.heap H locs) (hU : U.heap = H) (hW : s.WarmedH U.vm) : EX Z U :=
  ⟨va_K.moved hW.alike E.1, nw_warm hW E.2.1, fun j hj => ⟨((E.2.2 j hj).1.moved hW.alike).kept (fun a h1 h2 => by rw [hU]; exact hS.2.1 a h1 h2), ((E.2.2 j hj).2.moved hW.alike).kept (fun a h1 h2 => by rw [hU]; exact hS.2.1 a h1 h2)⟩⟩
theorem EX.blind {Z : ZT} {U : State} (E : EX Z U) (g : JFrame) (mk : MethodId) (a : Array Value) : EX Z (U.calling g mk a) :=
  ⟨va_K.moved (u := U) (U := U.calling g mk a) (Vm.Alike.refl U.vm) E.1, nw_same (u := U) (U := U.calling g mk a) rfl E.2.1, fun j hj => ⟨(E.2.2 j hj).1.moved (u := U) (U := U.calling g mk a) (Vm.Alike.refl U.vm), (E.2.2 j hj).2.moved (u := U) (U := U.calling g mk a) (Vm.Alike.refl U.vm)⟩⟩
/-! the abstract walk -/
abbrev XT : Type := Program × (Launch × (Env × (Room × (State × (MethodId × (Array Value × (List Frame × (Method × (Code × ((State → Prop) × Nat))))))))))
def xp (X : XT) : Program := X.1
def xl (X : XT) : Launch := X.2.1
def xe (X : XT) : Env := X.2.2.1
def xR (X : XT) : Room := X.2.2.2.1
def xs (X : XT) : State := X.2.2.2.2.1
def xm (X : XT) : MethodId := X.2.2.2.2.2.1
def xa (X : XT) : Array Value := X.2.2.2.2.2.2.1
def xb (X : XT) : List Frame := X.2.2.2.2.2.2.2.1
def xt (X : XT) : Method := X.2.2.2.2.2.2.2.2.1
def xc (X : XT) : Code := X.2.2.2.2.2.2.2.2.2.1
def xQ (X : XT) : State → Prop := X.2.2.2.2.2.2.2.2.2.2.1
def xn (X : XT) : Nat := X.2.2.2.2.2.2.2.2.2.2.2
def GS (Z : ZT) (X : XT) (pc : Nat) (lv : List (Nat × Value)) (st : List Value) (M : Mem) : Prop :=
  ∀ (H : Heap) (locs : List Loc) (ls : Array Slot), Wd Z M H → va_S (AZ Z) (xs X).heap H locs → lv_has ls (xn X) lv → W (xp X) (xl X) (xe X) (xR X) (xs X) (xm X) (xa X) (xb X) (xt X) (xc X) H locs 0 0 (xQ X) (F0 (xm X) pc ls st)
def CX (X : XT) (cc : ByteArray) (own : String) (nL fr lo : Nat) : Prop :=
  (xp X).tables.exec = Jvm.exec ∧ (xc X).code = cc ∧ (xc X).maxLocals = nL ∧ (xs X).vm.findClass own = some (xm X).cls ∧ (∀ w ∈ BIG, w.before (xa X) (xs X) = true) ∧ (xt X).locks = false ∧ xn X = nL ∧ (xR X).frames = fr ∧ (xR X).locals = lo
section Rows
variable {Z : ZT} {X : XT} {cc : ByteArray} {own : String} {nL fr lo pc n : Nat} {lv lv' : List (Nat × Value)} {rest st : List Value} {M : Mem}
theorem g_sub (ps : List Nat) (h : lv_pick lv ps = lv') (k : GS Z X pc lv' st M) : GS Z X pc lv st M := fun H locs ls hW hS hl => k H locs ls hW hS (lv_sub hl ps h)
theorem CX.word (C : CX X cc own nL fr lo) {w : Cond} (h : w ∈ BIG) : w.before (xa X) (xs X) = true := C.2.2.2.2.1 w h
theorem CX.fix (C : CX X cc own nL fr lo) : CallFix (xp X) (xm X) (xc X) cc nL (xs X) (xa X) BIG own := ⟨C.1, C.2.1, C.2.2.1, C.2.2.2.1, C.2.2.2.2.1⟩

theorem g_iconst {q : Int} (v : Int32) (C : CX X cc own nL fr lo) (d : decode cc pc = .ok (.iconst q, 1)) (hv : Int32.ofInt q = v) (hn : pc + 1 = n) (k : GS Z X n lv (.int v :: rest) M) : GS Z X pc lv (rest) M := by
  subst hn
  exact fun H locs ls hW hS hl => lv_iconst C.1 C.2.1 d hv (k H locs ls hW hS hl)
theorem g_bipush {q : Int} (v : Int32) (C : CX X cc own nL fr lo) (d : decode cc pc = .ok (.bipush q, 2)) (hv : (Int8.ofInt q).toInt32 = v) (hn : pc + 2 = n) (k : GS Z X n lv (.int v :: rest) M) : GS Z X pc lv (rest) M := by
  subst hn
  exact fun H locs ls hW hS hl => lv_bipush C.1 C.2.1 d hv (k H locs ls hW hS hl)
theorem g_sipush {q : Int} (v : Int32) (C : CX X cc own nL fr lo) (d : decode cc pc = .ok (.sipush q, 3)) (hv : (Int16.ofInt q).toInt32 = v) (hn : pc + 3 = n) (k : GS Z X n lv (.int v :: rest) M) : GS Z X pc lv (rest) M := by
  subst hn
  exact fun H locs ls hW hS hl => lv_sipush C.1 C.2.1 d hv (k H locs ls hW hS hl)
theorem g_lconst {q : Fin 2} (v : Int64) (C : CX X cc own nL fr lo) (d : decode cc pc = .ok (.lconst q, 1)) (hv : Int64.ofNat (q : Nat) = v) (hn : pc + 1 = n) (k : GS Z X n lv (.long v :: rest) M) : GS Z X pc lv (rest) M := by
  subst hn
  exact fun H locs ls hW hS hl => lv_lconst C.1 C.2.1 d hv (k H locs ls hW hS hl)
theorem g_iadd {x y : Int32} (C : CX X cc own nL fr lo) (d : decode cc pc = .ok (.iadd, 1))  (hn : pc + 1 = n) (k : GS Z X n lv (.int (x + y) :: rest) M) : GS Z X pc lv (.int y :: .int x :: rest) M := by
  subst hn
  exact fun H locs ls hW hS hl => lv_iadd C.1 C.2.1 d  (k H locs ls hW hS hl)
theorem g_isub {x y : Int32} (C : CX X cc own nL fr lo) (d : decode cc pc = .ok (.isub, 1))  (hn : pc + 1 = n) (k : GS Z X n lv (.int (x - y) :: rest) M) : GS Z X pc lv (.int y :: .int x :: rest) M := by
  subst hn
  exact fun H locs ls hW hS hl => lv_isub C.1 C.2.1 d  (k H locs ls hW hS hl)
theorem g_imul {x y : Int32} (C : CX X cc own nL fr lo) (d : decode cc pc = .ok (.imul, 1))  (hn : pc + 1 = n) (k : GS Z X n lv (.int (x * y) :: rest) M) : GS Z X pc lv (.int y :: .int x :: rest) M := by
  subst hn
  exact fun H locs ls hW hS hl => lv_imul C.1 C.2.1 d  (k H locs ls hW hS hl)
theorem g_iand {x y : Int32} (C : CX X cc own nL fr lo) (d : decode cc pc = .ok (.iand, 1))  (hn : pc + 1 = n) (k : GS Z X n lv (.int (x &&& y) :: rest) M) : GS Z X pc lv (.int y :: .int x :: rest) M := by
  subst hn
  exact fun H locs ls hW hS hl => lv_iand C.1 C.2.1 d  (k H locs ls hW hS hl)
theorem g_ior {x y : Int32} (C : CX X cc own nL fr lo) (d : decode cc pc = .ok (.ior, 1))  (hn : pc + 1 = n) (k : GS Z X n lv (.int (x ||| y) :: rest) M) : GS Z X pc lv (.int y :: .int x :: rest) M := by
  subst hn
  exact fun H locs ls hW hS hl => lv_ior C.1 C.2.1 d  (k H locs ls hW hS hl)
theorem g_ixor {x y : Int32} (C : CX X cc own nL fr lo) (d : decode cc pc = .ok (.ixor, 1))  (hn : pc + 1 = n) (k : GS Z X n lv (.int (x ^^^ y) :: rest) M) : GS Z X pc lv (.int y :: .int x :: rest) M := by
  subst hn
  exact fun H locs ls hW hS hl => lv_ixor C.1 C.2.1 d  (k H locs ls hW hS hl)
theorem g_ishl {x y : Int32} (C : CX X cc own nL fr lo) (d : decode cc pc = .ok (.ishl, 1))  (hn : pc + 1 = n) (k : GS Z X n lv (.int (x <<< (y &&& 31)) :: rest) M) : GS Z X pc lv (.int y :: .int x :: rest) M := by
  subst hn
  exact fun H locs ls hW hS hl => lv_ishl C.1 C.2.1 d  (k H locs ls hW hS hl)
theorem g_ishr {x y : Int32} (C : CX X cc own nL fr lo) (d : decode cc pc = .ok (.ishr, 1))  (hn : pc + 1 = n) (k : GS Z X n lv (.int (x >>> (y &&& 31)) :: rest) M) : GS Z X pc lv (.int y :: .int x :: rest) M := by
  subst hn
  exact fun H locs ls hW hS hl => lv_ishr C.1 C.2.1 d  (k H locs ls hW hS hl)
theorem g_idiv {x y : Int32} (C : CX X cc own nL fr lo) (d : decode cc pc = .ok (.idiv, 1)) (hne : ¬ y = 0) (hn : pc + 1 = n) (k : GS Z X n lv (.int (x / y) :: rest) M) : GS Z X pc lv (.int y :: .int x :: rest) M := by
  subst hn
  exact fun H locs ls hW hS hl => lv_idiv C.1 C.2.1 d hne (k H locs ls hW hS hl)
theorem g_irem {x y : Int32} (C : CX X cc own nL fr lo) (d : decode cc pc = .ok (.irem, 1)) (hne : ¬ y = 0) (hn : pc + 1 = n) (k : GS Z X n lv (.int (x - x / y * y) :: rest) M) : GS Z X pc lv (.int y :: .int x :: rest) M := by
  subst hn
  exact fun H locs ls hW hS hl => lv_irem C.1 C.2.1 d hne (k H locs ls hW hS hl)
theorem g_ladd {x y : Int64} (C : CX X cc own nL fr lo) (d : decode cc pc = .ok (.ladd, 1))  (hn : pc + 1 = n) (k : GS Z X n lv (.long (x + y) :: rest) M) : GS Z X pc lv (.long y :: .long x :: rest) M := by
  subst hn
  exact fun H locs ls hW hS hl => lv_ladd C.1 C.2.1 d  (k H locs ls hW hS hl)
theorem g_lmul {x y : Int64} (C : CX X cc own nL fr lo) (d : decode cc pc = .ok (.lmul, 1))  (hn : pc + 1 = n) (k : GS Z X n lv (.long (x * y) :: rest) M) : GS Z X pc lv (.long y :: .long x :: rest) M := by
  subst hn
  exact fun H locs ls hW hS hl => lv_lmul C.1 C.2.1 d  (k H locs ls hW hS hl)
theorem g_lsub {x y : Int64} (C : CX X cc own nL fr lo) (d : decode cc pc = .ok (.lsub, 1))  (hn : pc + 1 = n) (k : GS Z X n lv (.long (x - y) :: rest) M) : GS Z X pc lv (.long y :: .long x :: rest) M := by
  subst hn
  exact fun H locs ls hW hS hl => lv_lsub C.1 C.2.1 d  (k H locs ls hW hS hl)
theorem g_lrem {x y : Int64} (C : CX X cc own nL fr lo) (d : decode cc pc = .ok (.lrem, 1)) (hne : ¬ y = 0) (hn : pc + 1 = n) (k : GS Z X n lv (.long (x - x / y * y) :: rest) M) : GS Z X pc lv (.long y :: .long x :: rest) M := by
  subst hn
  exact fun H locs ls hW hS hl => lv_lrem C.1 C.2.1 d hne (k H locs ls hW hS hl)
theorem g_i2l {x : Int32} (C : CX X cc own nL fr lo) (d : decode cc pc = .ok (.i2l, 1))  (hn : pc + 1 = n) (k : GS Z X n lv (.long x.toInt64 :: rest) M) : GS Z X pc lv (.int x :: rest) M := by
  subst hn
  exact fun H locs ls hW hS hl => lv_i2l C.1 C.2.1 d rfl (k H locs ls hW hS hl)
theorem g_l2i {x : Int64} (C : CX X cc own nL fr lo) (d : decode cc pc = .ok (.l2i, 1))  (hn : pc + 1 = n) (k : GS Z X n lv (.int x.toInt32 :: rest) M) : GS Z X pc lv (.long x :: rest) M := by
  subst hn
  exact fun H locs ls hW hS hl => lv_l2i C.1 C.2.1 d rfl (k H locs ls hW hS hl)
theorem g_lcmp {x y : Int64} (C : CX X cc own nL fr lo) (d : decode cc pc = .ok (.lcmp, 1))  (hn : pc + 1 = n) (k : GS Z X n lv (.int (lg_cmp x y) :: rest) M) : GS Z X pc lv (.long y :: .long x :: rest) M := by
  subst hn
  exact fun H locs ls hW hS hl => W.lcmp C.1 C.2.1 d  (k H locs ls hW hS hl)
theorem g_dup {va : Value} (C : CX X cc own nL fr lo) (d : decode cc pc = .ok (.dup, 1)) (hva : va.category = 1) (hn : pc + 1 = n) (k : GS Z X n lv (va :: va :: rest) M) : GS Z X pc lv (va :: rest) M := by
  subst hn
  exact fun H locs ls hW hS hl => lv_dup C.1 C.2.1 d hva (k H locs ls hW hS hl)
theorem g_pop {va : Value} (C : CX X cc own nL fr lo) (d : decode cc pc = .ok (.pop, 1)) (hva : va.category = 1) (hn : pc + 1 = n) (k : GS Z X n lv (rest) M) : GS Z X pc lv (va :: rest) M := by
  subst hn
  exact fun H locs ls hW hS hl => lv_pop C.1 C.2.1 d hva (k H locs ls hW hS hl)
theorem g_dup2 {va vb : Value} (C : CX X cc own nL fr lo) (d : decode cc pc = .ok (.dup2, 1)) (hva : va.category = 1) (hvb : vb.category = 1) (hn : pc + 1 = n) (k : GS Z X n lv (va :: vb :: va :: vb :: rest) M) : GS Z X pc lv (va :: vb :: rest) M := by
  subst hn
  exact fun H locs ls hW hS hl => lv_dup2_11 C.1 C.2.1 d hva hvb (k H locs ls hW hS hl)
theorem g_iload_n {q : Fin 4} {i : Nat} {x : Int32} (C : CX X cc own nL fr lo) (d : decode cc pc = .ok (.iload_n q, 1)) (hi : (q : Nat) = i) (p : Nat) (hp : lv[p]? = some (i, .int x)) (hn : pc + 1 = n) (k : GS Z X n lv (.int x :: rest) M) : GS Z X pc lv rest M := by
  subst hn
  exact fun H locs ls hW hS hl => lv_iload_n C.1 C.2.1 d hi (lv_at hl p hp) (k H locs ls hW hS hl)
theorem g_iload {i : Nat} {x : Int32} (C : CX X cc own nL fr lo) (d : decode cc pc = .ok (.iload i, 2)) (p : Nat) (hp : lv[p]? = some (i, .int x)) (hn : pc + 2 = n) (k : GS Z X n lv (.int x :: rest) M) : GS Z X pc lv rest M := by
  subst hn
  exact fun H locs ls hW hS hl => lv_iload C.1 C.2.1 d (lv_at hl p hp) (k H locs ls hW hS hl)
theorem g_aload_n {q : Fin 4} {i : Nat} {x : Nat} (C : CX X cc own nL fr lo) (d : decode cc pc = .ok (.aload_n q, 1)) (hi : (q : Nat) = i) (p : Nat) (hp : lv[p]? = some (i, .ref x)) (hn : pc + 1 = n) (k : GS Z X n lv (.ref x :: rest) M) : GS Z X pc lv rest M := by
  subst hn
  exact fun H locs ls hW hS hl => lv_aload_n C.1 C.2.1 d hi (lv_at hl p hp) (k H locs ls hW hS hl)
theorem g_aload {i : Nat} {x : Nat} (C : CX X cc own nL fr lo) (d : decode cc pc = .ok (.aload i, 2)) (p : Nat) (hp : lv[p]? = some (i, .ref x)) (hn : pc + 2 = n) (k : GS Z X n lv (.ref x :: rest) M) : GS Z X pc lv rest M := by
  subst hn
  exact fun H locs ls hW hS hl => lv_aload C.1 C.2.1 d (lv_at hl p hp) (k H locs ls hW hS hl)
theorem g_lload_n {q : Fin 4} {i : Nat} {x : Int64} (C : CX X cc own nL fr lo) (d : decode cc pc = .ok (.lload_n q, 1)) (hi : (q : Nat) = i) (p : Nat) (hp : lv[p]? = some (i, .long x)) (hn : pc + 1 = n) (k : GS Z X n lv (.long x :: rest) M) : GS Z X pc lv rest M := by
  subst hn
  exact fun H locs ls hW hS hl => lv_lload_n C.1 C.2.1 d hi (lv_at hl p hp) (k H locs ls hW hS hl)
theorem g_lload {i : Nat} {x : Int64} (C : CX X cc own nL fr lo) (d : decode cc pc = .ok (.lload i, 2)) (p : Nat) (hp : lv[p]? = some (i, .long x)) (hn : pc + 2 = n) (k : GS Z X n lv (.long x :: rest) M) : GS Z X pc lv rest M := by
  subst hn
  exact fun H locs ls hW hS hl => lv_lload C.1 C.2.1 d (lv_at hl p hp) (k H locs ls hW hS hl)
theorem g_istore_n {q : Fin 4} {i : Nat} {x : Int32} (C : CX X cc own nL fr lo) (d : decode cc pc = .ok (.istore_n q, 1)) (hi : (q : Nat) = i) (hm : i < nL) (hf : lv.filter (fun q => !(q.1 == i) && !(q.1 + 1 == i && q.2.category == 2)) = lv') (hn : pc + 1 = n) (k : ∀ z : Int32, z = x → GS Z X n ((i, .int z) :: lv') rest M) : GS Z X pc lv (.int x :: rest) M := by
  subst hn
  exact fun H locs ls hW hS hl => lv_istore_n C.1 C.2.1 d hi hl (by rw [C.2.2.2.2.2.2.1]; exact hm) (congrArg (List.cons (i, Value.int x)) hf) (fun ls2 hl2 => k x rfl H locs ls2 hW hS hl2)
theorem g_istore {i : Nat} {x : Int32} (C : CX X cc own nL fr lo) (d : decode cc pc = .ok (.istore i, 2)) (hm : i < nL) (hf : lv.filter (fun q => !(q.1 == i) && !(q.1 + 1 == i && q.2.category == 2)) = lv') (hn : pc + 2 = n) (k : ∀ z : Int32, z = x → GS Z X n ((i, .int z) :: lv') rest M) : GS Z X pc lv (.int x :: rest) M := by
  subst hn
  exact fun H locs ls hW hS hl => lv_istore C.1 C.2.1 d hl (by rw [C.2.2.2.2.2.2.1]; exact hm) (congrArg (List.cons (i, Value.int x)) hf) (fun ls2 hl2 => k x rfl H locs ls2 hW hS hl2)
theorem g_astore_n {q : Fin 4} {i : Nat} {x : Nat} (C : CX X cc own nL fr lo) (d : decode cc pc = .ok (.astore_n q, 1)) (hi : (q : Nat) = i) (hm : i < nL) (hf : lv.filter (fun q => !(q.1 == i) && !(q.1 + 1 == i && q.2.category == 2)) = lv') (hn : pc + 1 = n) (k : GS Z X n ((i, .ref x) :: lv') rest M) : GS Z X pc lv (.ref x :: rest) M := by
  subst hn
  exact fun H locs ls hW hS hl => lv_astore_n C.1 C.2.1 d hi hl (by rw [C.2.2.2.2.2.2.1]; exact hm) (congrArg (List.cons (i, Value.ref x)) hf) (fun ls2 hl2 => k H locs ls2 hW hS hl2)
theorem g_astore {i : Nat} {x : Nat} (C : CX X cc own nL fr lo) (d : decode cc pc = .ok (.astore i, 2)) (hm : i < nL) (hf : lv.filter (fun q => !(q.1 == i) && !(q.1 + 1 == i && q.2.category == 2)) = lv') (hn : pc + 2 = n) (k : GS Z X n ((i, .ref x) :: lv') rest M) : GS Z X pc lv (.ref x :: rest) M := by
  subst hn
  exact fun H locs ls hW hS hl => lv_astore C.1 C.2.1 d hl (by rw [C.2.2.2.2.2.2.1]; exact hm) (congrArg (List.cons (i, Value.ref x)) hf) (fun ls2 hl2 => k H locs ls2 hW hS hl2)
theorem g_lstore_n {q : Fin 4} {i : Nat} {x : Int64} (C : CX X cc own nL fr lo) (d : decode cc pc = .ok (.lstore_n q, 1)) (hi : (q : Nat) = i) (hm : i + 1 < nL) (hf : lv.filter (fun q => !(q.1 == i) && (!(q.1 == i + 1) && !(q.1 + 1 == i && q.2.category == 2))) = lv') (hn : pc + 1 = n) (k : ∀ z : Int64, z = x → GS Z X n ((i, .long z) :: lv') rest M) : GS Z X pc lv (.long x :: rest) M := by
  subst hn
  exact fun H locs ls hW hS hl => lv_lstore_n C.1 C.2.1 d hi hl (by rw [C.2.2.2.2.2.2.1]; exact hm) (congrArg (List.cons (i, Value.long x)) hf) (fun ls2 hl2 => k x rfl H locs ls2 hW hS hl2)
theorem g_lstore {i : Nat} {x : Int64} (C : CX X cc own nL fr lo) (d : decode cc pc = .ok (.lstore i, 2)) (hm : i + 1 < nL) (hf : lv.filter (fun q => !(q.1 == i) && (!(q.1 == i + 1) && !(q.1 + 1 == i && q.2.category == 2))) = lv') (hn : pc + 2 = n) (k : ∀ z : Int64, z = x → GS Z X n ((i, .long z) :: lv') rest M) : GS Z X pc lv (.long x :: rest) M := by
  subst hn
  exact fun H locs ls hW hS hl => lv_lstore C.1 C.2.1 d hl (by rw [C.2.2.2.2.2.2.1]; exact hm) (congrArg (List.cons (i, Value.long x)) hf) (fun ls2 hl2 => k x rfl H locs ls2 hW hS hl2)
theorem g_iinc {i : Nat} {x v : Int32} {q : Int} (C : CX X cc own nL fr lo) (d : decode cc pc = .ok (.iinc i q, 3)) (p : Nat) (hp : lv[p]? = some (i, .int x)) (hv : Int32.ofInt q = v) (hm : i < nL) (hf : lv.filter (fun q => !(q.1 == i) && !(q.1 + 1 == i && q.2.category == 2)) = lv') (hn : pc + 3 = n) (k : ∀ z : Int32, z = x + v → GS Z X n ((i, .int z) :: lv') rest M) : GS Z X pc lv rest M := by
  subst hn
  subst hv
  exact fun H locs ls hW hS hl => lv_iinc C.1 C.2.1 d hl hp rfl (by rw [C.2.2.2.2.2.2.1]; exact hm) (congrArg (List.cons (i, Value.int (x + Int32.ofInt q))) hf) (fun ls2 hl2 => k _ rfl H locs ls2 hW hS hl2)
theorem g_icmp_eq {x y : Int32} {off : Int} {tgt : Nat} (C : CX X cc own nL fr lo) (d : decode cc pc = .ok (.if_icmp .eq off, 3)) (ht : (pc : Int) + off = (tgt : Int)) (hn : pc + 3 = n) (kt : x = y → GS Z X tgt lv rest M) (kf : ¬ x = y → GS Z X n lv rest M) : GS Z X pc lv (.int y :: .int x :: rest) M := by
  subst hn
  exact fun H locs ls hW hS hl => lv_icmp_eq C.1 C.2.1 d ht (fun c => kt c H locs ls hW hS hl) (fun c => kf c H locs ls hW hS hl)
theorem g_if_eq {x : Int32} {off : Int} {tgt : Nat} (C : CX X cc own nL fr lo) (d : decode cc pc = .ok (.ifCond .eq off, 3)) (ht : (pc : Int) + off = (tgt : Int)) (hn : pc + 3 = n) (kt : x = 0 → GS Z X tgt lv rest M) (kf : ¬ x = 0 → GS Z X n lv rest M) : GS Z X pc lv (.int x :: rest) M := by
  subst hn
  exact fun H locs ls hW hS hl => lv_if_eq C.1 C.2.1 d ht (fun c => kt c H locs ls hW hS hl) (fun c => kf c H locs ls hW hS hl)
theorem g_icmp_ne {x y : Int32} {off : Int} {tgt : Nat} (C : CX X cc own nL fr lo) (d : decode cc pc = .ok (.if_icmp .ne off, 3)) (ht : (pc : Int) + off = (tgt : Int)) (hn : pc + 3 = n) (kt : ¬ x = y → GS Z X tgt lv rest M) (kf : x = y → GS Z X n lv rest M) : GS Z X pc lv (.int y :: .int x :: rest) M := by
  subst hn
  exact fun H locs ls hW hS hl => lv_icmp_ne C.1 C.2.1 d ht (fun c => kt c H locs ls hW hS hl) (fun c => kf c H locs ls hW hS hl)
theorem g_if_ne {x : Int32} {off : Int} {tgt : Nat} (C : CX X cc own nL fr lo) (d : decode cc pc = .ok (.ifCond .ne off, 3)) (ht : (pc : Int) + off = (tgt : Int)) (hn : pc + 3 = n) (kt : ¬ x = 0 → GS Z X tgt lv rest M) (kf : x = 0 → GS Z X n lv rest M) : GS Z X pc lv (.int x :: rest) M := by
  subst hn
  exact fun H locs ls hW hS hl => lv_if_ne C.1 C.2.1 d ht (fun c => kt c H locs ls hW hS hl) (fun c => kf c H locs ls hW hS hl)
theorem g_icmp_lt {x y : Int32} {off : Int} {tgt : Nat} (C : CX X cc own nL fr lo) (d : decode cc pc = .ok (.if_icmp .lt off, 3)) (ht : (pc : Int) + off = (tgt : Int)) (hn : pc + 3 = n) (kt : x < y → GS Z X tgt lv rest M) (kf : ¬ x < y → GS Z X n lv rest M) : GS Z X pc lv (.int y :: .int x :: rest) M := by
  subst hn
  exact fun H locs ls hW hS hl => lv_icmp_lt C.1 C.2.1 d ht (fun c => kt c H locs ls hW hS hl) (fun c => kf c H locs ls hW hS hl)
theorem g_if_lt {x : Int32} {off : Int} {tgt : Nat} (C : CX X cc own nL fr lo) (d : decode cc pc = .ok (.ifCond .lt off, 3)) (ht : (pc : Int) + off = (tgt : Int)) (hn : pc + 3 = n) (kt : x < 0 → GS Z X tgt lv rest M) (kf : ¬ x < 0 → GS Z X n lv rest M) : GS Z X pc lv (.int x :: rest) M := by
  subst hn
  exact fun H locs ls hW hS hl => lv_if_lt C.1 C.2.1 d ht (fun c => kt c H locs ls hW hS hl) (fun c => kf c H locs ls hW hS hl)
theorem g_icmp_ge {x y : Int32} {off : Int} {tgt : Nat} (C : CX X cc own nL fr lo) (d : decode cc pc = .ok (.if_icmp .ge off, 3)) (ht : (pc : Int) + off = (tgt : Int)) (hn : pc + 3 = n) (kt : y ≤ x → GS Z X tgt lv rest M) (kf : ¬ y ≤ x → GS Z X n lv rest M) : GS Z X pc lv (.int y :: .int x :: rest) M := by
  subst hn
  exact fun H locs ls hW hS hl => lv_icmp_ge C.1 C.2.1 d ht (fun c => kt c H locs ls hW hS hl) (fun c => kf c H locs ls hW hS hl)
theorem g_if_ge {x : Int32} {off : Int} {tgt : Nat} (C : CX X cc own nL fr lo) (d : decode cc pc = .ok (.ifCond .ge off, 3)) (ht : (pc : Int) + off = (tgt : Int)) (hn : pc + 3 = n) (kt : 0 ≤ x → GS Z X tgt lv rest M) (kf : ¬ 0 ≤ x → GS Z X n lv rest M) : GS Z X pc lv (.int x :: rest) M := by
  subst hn
  exact fun H locs ls hW hS hl => lv_if_ge C.1 C.2.1 d ht (fun c => kt c H locs ls hW hS hl) (fun c => kf c H locs ls hW hS hl)
theorem g_icmp_gt {x y : Int32} {off : Int} {tgt : Nat} (C : CX X cc own nL fr lo) (d : decode cc pc = .ok (.if_icmp .gt off, 3)) (ht : (pc : Int) + off = (tgt : Int)) (hn : pc + 3 = n) (kt : y < x → GS Z X tgt lv rest M) (kf : ¬ y < x → GS Z X n lv rest M) : GS Z X pc lv (.int y :: .int x :: rest) M := by
  subst hn
  exact fun H locs ls hW hS hl => lv_icmp_gt C.1 C.2.1 d ht (fun c => kt c H locs ls hW hS hl) (fun c => kf c H locs ls hW hS hl)
theorem g_if_gt {x : Int32} {off : Int} {tgt : Nat} (C : CX X cc own nL fr lo) (d : decode cc pc = .ok (.ifCond .gt off, 3)) (ht : (pc : Int) + off = (tgt : Int)) (hn : pc + 3 = n) (kt : 0 < x → GS Z X tgt lv rest M) (kf : ¬ 0 < x → GS Z X n lv rest M) : GS Z X pc lv (.int x :: rest) M := by
  subst hn
  exact fun H locs ls hW hS hl => lv_if_gt C.1 C.2.1 d ht (fun c => kt c H locs ls hW hS hl) (fun c => kf c H locs ls hW hS hl)
theorem g_icmp_le {x y : Int32} {off : Int} {tgt : Nat} (C : CX X cc own nL fr lo) (d : decode cc pc = .ok (.if_icmp .le off, 3)) (ht : (pc : Int) + off = (tgt : Int)) (hn : pc + 3 = n) (kt : x ≤ y → GS Z X tgt lv rest M) (kf : ¬ x ≤ y → GS Z X n lv rest M) : GS Z X pc lv (.int y :: .int x :: rest) M := by
  subst hn
  exact fun H locs ls hW hS hl => lv_icmp_le C.1 C.2.1 d ht (fun c => kt c H locs ls hW hS hl) (fun c => kf c H locs ls hW hS hl)
theorem g_if_le {x : Int32} {off : Int} {tgt : Nat} (C : CX X cc own nL fr lo) (d : decode cc pc = .ok (.ifCond .le off, 3)) (ht : (pc : Int) + off = (tgt : Int)) (hn : pc + 3 = n) (kt : x ≤ 0 → GS Z X tgt lv rest M) (kf : ¬ x ≤ 0 → GS Z X n lv rest M) : GS Z X pc lv (.int x :: rest) M := by
  subst hn
  exact fun H locs ls hW hS hl => lv_if_le C.1 C.2.1 d ht (fun c => kt c H locs ls hW hS hl) (fun c => kf c H locs ls hW hS hl)
theorem g_goto {off : Int} {tgt : Nat} (C : CX X cc own nL fr lo) (d : decode cc pc = .ok (.goto off, 3)) (ht : (pc : Int) + off = (tgt : Int)) (k : GS Z X tgt lv st M) : GS Z X pc lv st M := fun H locs ls hW hS hl => lv_goto C.1 C.2.1 d ht (k H locs ls hW hS hl)
theorem g_ifnonnull {x : Nat} {off : Int} {tgt : Nat} (C : CX X cc own nL fr lo) (d : decode cc pc = .ok (.ifnonnull off, 3)) (ht : (pc : Int) + off = (tgt : Int)) (k : GS Z X tgt lv rest M) : GS Z X pc lv (.ref x :: rest) M := fun H locs ls hW hS hl => lv_ifnonnull C.1 C.2.1 d ht (k H locs ls hW hS hl)
theorem g_ifnull {x : Nat} {off : Int} (C : CX X cc own nL fr lo) (d : decode cc pc = .ok (.ifnull off, 3)) (hn : pc + 3 = n) (k : GS Z X n lv rest M) : GS Z X pc lv (.ref x :: rest) M := by
  subst hn
  exact fun H locs ls hW hS hl => lv_ifnull C.1 C.2.1 d (k H locs ls hW hS hl)
theorem g_tableIn {dflt lo2 hi : Int} {offs : Array Int} {len : Nat} {x v : Int32} {off : Int} {tgt : Nat} (C : CX X cc own nL fr lo) (d : decode cc pc = .ok (.tableswitch dflt lo2 hi offs, len)) (hx : x = v) (h1 : ¬ v.toInt < lo2) (h2 : ¬ hi < v.toInt) (ho : offs[(v.toInt - lo2).toNat]? = some off) (ht : (pc : Int) + off = (tgt : Int)) (k : GS Z X tgt lv rest M) : GS Z X pc lv (.int x :: rest) M := by
  subst hx
  exact fun H locs ls hW hS hl => lv_tableIn C.1 C.2.1 d h1 h2 ho ht (k H locs ls hW hS hl)
theorem g_tableOut {dflt lo2 hi : Int} {offs : Array Int} {len : Nat} {x : Int32} {tgt : Nat} (C : CX X cc own nL fr lo) (d : decode cc pc = .ok (.tableswitch dflt lo2 hi offs, len)) (h : x.toInt < lo2 ∨ hi < x.toInt) (ht : (pc : Int) + dflt = (tgt : Int)) (k : GS Z X tgt lv rest M) : GS Z X pc lv (.int x :: rest) M := fun H locs ls hW hS hl => lv_tableOut C.1 C.2.1 d h ht (k H locs ls hW hS hl)
theorem g_ldc {idx : Nat} (v : Int32) (C : CX X cc own nL fr lo) (hc : Cond.constant own idx v ∈ BIG) (d : decode cc pc = .ok (.ldc idx, 2)) (hn : pc + 2 = n) (k : GS Z X n lv (.int v :: rest) M) : GS Z X pc lv rest M := by
  subst hn
  exact fun H locs ls hW hS hl => lv_ldc C.1 C.2.1 C.2.2.2.1 (C.word hc) d (k H locs ls hW hS hl)
theorem g_ldc2 {idx : Nat} (v : Int64) (C : CX X cc own nL fr lo) (hc : Cond.constantLong own idx v ∈ BIG) (d : decode cc pc = .ok (.ldc2_w idx, 3)) (hn : pc + 3 = n) (k : GS Z X n lv (.long v :: rest) M) : GS Z X pc lv rest M := by
  subst hn
  exact fun H locs ls hW hS hl => lv_ldc2 C.1 C.2.1 C.2.2.2.1 (C.word hc) d (k H locs ls hW hS hl)
/-! arrays -/
theorem g_iald {k len : Nat} {i : Int32} (C : CX X cc own nL fr lo) (E : EX Z (xs X)) (hk : AtA Z k len) (hi : vp_in i len) (d : decode cc pc = .ok (.iaload, 1)) (hn : pc + 1 = n) (kk : GS Z X n lv (.int (M k i.toNatClampNeg) :: rest) M) : GS Z X pc lv (.int i :: .ref (zb Z + k) :: rest) M := by
  subst hn
  exact fun H locs ls hW hS hl => va_iald (ws := wl Z M) C.1 C.2.1 E.1 hW k 0 (wl_arr hk) rfl hi d (kk H locs ls hW hS hl)
theorem g_iast {k len : Nat} {i x : Int32} (C : CX X cc own nL fr lo) (E : EX Z (xs X)) (hk : AtA Z k len) (hi : vp_in i len) (d : decode cc pc = .ok (.iastore, 1)) (hn : pc + 1 = n) (kk : ∀ M1 : Mem, M1 = mset M k i.toNatClampNeg x → GS Z X n lv rest M1) : GS Z X pc lv (.int x :: .int i :: .ref (zb Z + k) :: rest) M := by
  subst hn
  refine fun H locs ls hW hS hl => va_iast (ws := wl Z M) C.1 C.2.1 E.1 hW wl_D hS k 0 (wl_arr hk) rfl hi d (fun H1 locs1 hP hD hS1 => ?_)
  rw [← cellE_arr hk, wl_set] at hP
  exact kk _ rfl H1 locs1 ls hP hS1 hl
theorem g_alen {k len : Nat} (v : Int32) (C : CX X cc own nL fr lo) (E : EX Z (xs X)) (hk : AtA Z k len) (hv : Int32.ofNat len = v) (d : decode cc pc = .ok (.arraylength, 1)) (hn : pc + 1 = n) (kk : GS Z X n lv (.int v :: rest) M) : GS Z X pc lv (.ref (zb Z + k) :: rest) M := by
  subst hn
  exact fun H locs ls hW hS hl => va_alen (ws := wl Z M) C.1 C.2.1 E.1 hW k 0 (wl_arr hk) rfl hv d (kk H locs ls hW hS hl)
theorem g_rlen {k len : Nat} (v : Int32) (C : CX X cc own nL fr lo) (E : EX Z (xs X)) (hk : AtR Z k len) (hv : Int32.ofNat len = v) (d : decode cc pc = .ok (.arraylength, 1)) (hn : pc + 1 = n) (kk : GS Z X n lv (.int v :: rest) M) : GS Z X pc lv (.ref (zb Z + k) :: rest) M := by
  subst hn
  exact fun H locs ls hW hS hl => va_alen (ws := wl Z M) C.1 C.2.1 E.1 hW k 1 (wl_refs hk) rfl hv d (kk H locs ls hW hS hl)
theorem g_aald {k len : Nat} {i : Int32} (C : CX X cc own nL fr lo) (E : EX Z (xs X)) (hk : AtR Z k len) (hi : vp_in i len) (d : decode cc pc = .ok (.aaload, 1)) (hn : pc + 1 = n) (kk : GS Z X n lv (.ref (zb Z + (M k i.toNatClampNeg).toNatClampNeg) :: rest) M) : GS Z X pc lv (.int i :: .ref (zb Z + k) :: rest) M := by
  subst hn
  exact fun H locs ls hW hS hl => va_aldq (ws := wl Z M) C.1 C.2.1 E.1 hW k 1 (wl_refs hk) rfl hi d (kk H locs ls hW hS hl)
theorem g_aast {k len a : Nat} {i : Int32} (C : CX X cc own nL fr lo) (E : EX Z (xs X)) (hk : AtR Z k len) (ha : AtO Z a 2) (ha2 : a < 2 ^ 31) (hi : vp_in i len) (d : decode cc pc = .ok (.aastore, 1)) (hn : pc + 1 = n) (kk : ∀ M1 : Mem, M1 = mset M k i.toNatClampNeg (nI a) → GS Z X n lv rest M1) : GS Z X pc lv (.ref (zb Z + a) :: .int i :: .ref (zb Z + k) :: rest) M := by
  subst hn
  refine fun H locs ls hW hS hl => va_astq (ws := wl Z M) C.1 C.2.1 E.1 hW wl_D hS k 1 a 2 (r := (RX2, TX2, 10)) (wl_refs hk) rfl (wl_obj ha) rfl hi d (fun H1 locs1 hP hD hS1 => ?_)
  have e : va_up (fun i => some (zb Z + (M k i).toNatClampNeg)) i.toNatClampNeg (some (zb Z + a)) = (fun j => some (zb Z + (upd (M k) i.toNatClampNeg (nI a) j).toNatClampNeg)) := by
    funext j
    unfold va_up upd
    by_cases h : j = i.toNatClampNeg
    · rw [if_pos h, if_pos h, nI_clamp ha2]
    · rw [if_neg h, if_neg h]
  rw [e, ← cellE_refs (r := upd (M k) i.toNatClampNeg (nI a)) hk, wl_set] at hP
  exact kk _ rfl H1 locs1 ls hP hS1 hl
/-! static rows of numbers -/
theorem g_gets {idx : Nat} (j : Nat) (hj : j < 4) (C : CX X cc own nL fr lo) (E : EX Z (xs X)) (hl0 : Cond.fieldLink own idx RX5 (tnm j) "[I" ∈ BIG) (d : decode cc pc = .ok (.getstatic idx, 3)) (hn : pc + 3 = n) (kk : GS Z X n lv (.ref (zt Z j) :: rest) M) : GS Z X pc lv rest M := by
  subst hn
  exact fun H locs ls hW hS hl => va_gets C.1 C.2.1 (E.2.2 j hj).1 hS C.2.2.2.1 (C.word hl0) (fun _ h => h) d (kk H locs ls hW hS hl)
theorem g_tald (j : Nat) (hj : j < 4) {i : Int32} (C : CX X cc own nL fr lo) (E : EX Z (xs X)) (hi : vp_in i (tln j)) (d : decode cc pc = .ok (.iaload, 1)) (hn : pc + 1 = n) (kk : GS Z X n lv (.int (tva j i.toNatClampNeg) :: rest) M) : GS Z X pc lv (.int i :: .ref (zt Z j) :: rest) M := by
  subst hn
  exact fun H locs ls hW hS hl => va_ti C.1 C.2.1 (E.2.2 j hj).2 hS hi rfl d (kk H locs ls hW hS hl)
theorem g_tlen (j : Nat) (hj : j < 4) (C : CX X cc own nL fr lo) (E : EX Z (xs X)) (d : decode cc pc = .ok (.arraylength, 1)) (hn : pc + 1 = n) (kk : GS Z X n lv (.int (Int32.ofNat (tln j)) :: rest) M) : GS Z X pc lv (.ref (zt Z j) :: rest) M := by
  subst hn
  exact fun H locs ls hW hS hl => va_tlen C.1 C.2.1 (E.2.2 j hj).2 hS rfl d (kk H locs ls hW hS hl)
/-! fields -/
theorem g_get {k kd idx N : Nat} {Rc : String} {T : u_T} (j : Nat) {v : Value} (C : CX X cc own nL fr lo) (E : EX Z (xs X)) (hc : vwCl[kd]? = some (Rc, T, N)) (hin : ∀ w ∈ u_ws Rc T N, w ∈ BIG) (hj : j < N) (hlink : Cond.fieldLink own idx (T j).1 (T j).2.1 (T j).2.2.1 ∈ BIG) (hk : AtO Z k kd) (hv : (fvals (zb Z) (M k) k kd)[j]? = some v) (d : decode cc pc = .ok (.getfield idx, 3)) (hn : pc + 3 = n) (kk : GS Z X n lv (v :: rest) M) : GS Z X pc lv (.ref (zb Z + k) :: rest) M := by
  subst hn
  exact fun H locs ls hW hS hl => va_get (ws := wl Z M) C.1 C.2.1 C.2.2.2.2.1 hin C.2.2.2.1 E.1 hW k (wl_obj hk) hc j hj (C.word hlink) (fun _ h => h) hv d (kk H locs ls hW hS hl)
theorem g_getN {k kd idx N : Nat} {Rc host : String} {T : u_T} (j : Nat) {v : Value} (C : CX X cc own nL fr lo) (E : EX Z (xs X)) (hc : vwCl[kd]? = some (Rc, T, N)) (hin : ∀ w ∈ u_ws Rc T N, w ∈ BIG) (hj : j < N) (hlink : Cond.fieldLinkNest own idx (T j).1 (T j).2.1 (T j).2.2.1 host ∈ NWL) (hk : AtO Z k kd) (hv : (fvals (zb Z) (M k) k kd)[j]? = some v) (d : decode cc pc = .ok (.getfield idx, 3)) (hn : pc + 3 = n) (kk : GS Z X n lv (v :: rest) M) : GS Z X pc lv (.ref (zb Z + k) :: rest) M := by
  subst hn
  exact fun H locs ls hW hS hl => va_getN (ws := wl Z M) C.1 C.2.1 C.2.2.2.2.1 hin C.2.2.2.1 E.1 hW k (wl_obj hk) hc j hj (va_Nw.use rfl (E.2.1 _ hlink)) (fun _ h => h) hv d (kk H locs ls hW hS hl)
theorem g_put {k kd idx N : Nat} {Rc : String} {T : u_T} (j : Nat) {x : Int32} {ty : FieldType} (C : CX X cc own nL fr lo) (E : EX Z (xs X)) (hc : vwCl[kd]? = some (Rc, T, N)) (hin : ∀ w ∈ u_ws Rc T N, w ∈ BIG) (hj : j < N) (hlink : Cond.fieldLink own idx (T j).1 (T j).2.1 (T j).2.2.1 ∈ BIG)
    (ty0 : Nat → FieldType) (hty : ∀ k, k < N → parseFieldDescriptor (T k).2.2.1 = some (ty0 k)) (hnm : ∀ a, a < N → ∀ b, b < N → a ≠ b → (T a).2.1 ≠ (T b).2.1) (hfin : (T j).2.2.2 = false) (hd : parseFieldDescriptor (T j).2.2.1 = some ty) (hnr : narrow ty (.int x) = .int x) (hfit : fits ty (.int x) = true) (hfs : ∀ (b : Nat) (r : Nat → Int32), (fvals b r k kd).set j (.int x) = fvals b (upd r j x) k kd) (hlen : ∀ (b : Nat) (r : Nat → Int32), j < (fvals b r k kd).length)
    (hk : AtO Z k kd) (d : decode cc pc = .ok (.putfield idx, 3)) (hn : pc + 3 = n) (kk : ∀ M1 : Mem, M1 = mset M k j x → GS Z X n lv rest M1) : GS Z X pc lv (.int x :: .ref (zb Z + k) :: rest) M := by
  subst hn
  refine fun H locs ls hW hS hl => va_put (ws := wl Z M) C.1 C.2.1 C.2.2.2.2.1 hin ty0 hty hnm C.2.2.2.1 E.1 hW wl_D hS k (wl_obj hk) hc j hj (C.word hlink) (fun _ h => h) hfin hd hnr hfit (hlen _ _) d (fun H1 locs1 hP hD hS1 => ?_)
  rw [hfs, ← cellE_obj hk, wl_set] at hP
  exact kk _ rfl H1 locs1 ls hP hS1 hl
theorem g_putN {k kd idx N : Nat} {Rc host : String} {T : u_T} (j : Nat) {x : Int32} {ty : FieldType} (C : CX X cc own nL fr lo) (E : EX Z (xs X)) (hc : vwCl[kd]? = some (Rc, T, N)) (hin : ∀ w ∈ u_ws Rc T N, w ∈ BIG) (hj : j < N) (hlink : Cond.fieldLinkNest own idx (T j).1 (T j).2.1 (T j).2.2.1 host ∈ NWL)
    (ty0 : Nat → FieldType) (hty : ∀ k, k < N → parseFieldDescriptor (T k).2.2.1 = some (ty0 k)) (hnm : ∀ a, a < N → ∀ b, b < N → a ≠ b → (T a).2.1 ≠ (T b).2.1) (hfin : (T j).2.2.2 = false) (hd : parseFieldDescriptor (T j).2.2.1 = some ty) (hnr : narrow ty (.int x) = .int x) (hfit : fits ty (.int x) = true) (hfs : ∀ (b : Nat) (r : Nat → Int32), (fvals b r k kd).set j (.int x) = fvals b (upd r j x) k kd) (hlen : ∀ (b : Nat) (r : Nat → Int32), j < (fvals b r k kd).length)
    (hk : AtO Z k kd) (d : decode cc pc = .ok (.putfield idx, 3)) (hn : pc + 3 = n) (kk : ∀ M1 : Mem, M1 = mset M k j x → GS Z X n lv rest M1) : GS Z X pc lv (.int x :: .ref (zb Z + k) :: rest) M := by
  subst hn
  refine fun H locs ls hW hS hl => va_putN (ws := wl Z M) C.1 C.2.1 C.2.2.2.2.1 hin ty0 hty hnm C.2.2.2.1 E.1 hW wl_D hS k (wl_obj hk) hc j hj (va_Nw.use rfl (E.2.1 _ hlink)) (fun _ h => h) hfin hd hnr hfit (hlen _ _) d (fun H1 locs1 hP hD hS1 => ?_)
  rw [hfs, ← cellE_obj hk, wl_set] at hP
  exact kk _ rfl H1 locs1 ls hP hS1 hl
/-! contracts -/
def CtI (Z : ZT) (l : Launch) (y : MethodName) (bytes : ByteArray) (mL : Nat) (ret : Option FieldType) (rf rl : Nat) (av : List Value) (M : Mem) (post : Int32 → Mem → Prop) : Prop :=
  Met l y (Cond.code y bytes mL ret :: BIG) { frames := rf, cells := 0, slots := 0, locals := rl } (va_Pc av (fun U => EX Z U ∧ Wd Z M U.heap)) (va_Qi post (fun M1 t => Wd Z M1 t.heap) (AZ Z)) 0 0 (AZ Z)
def CtV (Z : ZT) (l : Launch) (y : MethodName) (bytes : ByteArray) (mL : Nat) (ret : Option FieldType) (rf rl : Nat) (av : List Value) (M : Mem) (post : Mem → Prop) : Prop :=
  Met l y (Cond.code y bytes mL ret :: BIG) { frames := rf, cells := 0, slots := 0, locals := rl } (va_Pc av (fun U => EX Z U ∧ Wd Z M U.heap)) (va_Qv post (fun M1 t => Wd Z M1 t.heap) (AZ Z)) 0 0 (AZ Z)
theorem ctI {l : Launch} {y : MethodName} {mL : Nat} {ret : Option FieldType} {rf rl : Nat} {av : List Value} {post : Int32 → Mem → Prop} (ho : own = y.cls) (hy : plainName y.cls = true) (hlen : (lg_sl av).length ≤ mL)
    (body : ∀ X : XT, CX X cc own mL rf rl → EX Z (xs X) → (xt X).sig.returnType = ret → xQ X = MQ (xb X) (va_Qi post (fun M1 t => Wd Z M1 t.heap) (AZ Z)) (xa X) (xs X) 0 0 (AZ Z) → GS Z X 0 (lv_args 0 av) [] M) : CtI Z l y cc mL ret rf rl av M post := by
  subst ho
  refine Met.ofW (cc := cc) (maxL := mL) (ret := ret) hy rfl ?_
  intro p e s m args below meth c s₁ B hml hv
  obtain ⟨rfl, hE, hW⟩ := hv
  have hts := atoms_spec (ws := Cond.code y cc mL ret :: BIG) B.pre
  have hl := lv_entry av (n := mL) hlen
  rw [lg_entry_eq]
  exact body (p, l, e, _, s, m, av.toArray, below, meth, c, _, mL) ⟨B.exec, B.bytes, hml, findClass_of_methodNamed B.named, fun w hw => hts w (List.mem_cons_of_mem _ hw), B.notSynchronized, rfl, rfl, rfl⟩ hE B.returns rfl s.heap [] _ hW va_S.rf hl
theorem ctV {l : Launch} {y : MethodName} {mL : Nat} {ret : Option FieldType} {rf rl : Nat} {av : List Value} {post : Mem → Prop} (ho : own = y.cls) (hy : plainName y.cls = true) (hlen : (lg_sl av).length ≤ mL)
    (body : ∀ X : XT, CX X cc own mL rf rl → EX Z (xs X) → (xt X).sig.returnType = ret → xQ X = MQ (xb X) (va_Qv post (fun M1 t => Wd Z M1 t.heap) (AZ Z)) (xa X) (xs X) 0 0 (AZ Z) → GS Z X 0 (lv_args 0 av) [] M) : CtV Z l y cc mL ret rf rl av M post := by
  subst ho
  refine Met.ofW (cc := cc) (maxL := mL) (ret := ret) hy rfl ?_
  intro p e s m args below meth c s₁ B hml hv
  obtain ⟨rfl, hE, hW⟩ := hv
  have hts := atoms_spec (ws := Cond.code y cc mL ret :: BIG) B.pre
  have hl := lv_entry av (n := mL) hlen
  rw [lg_entry_eq]
  exact body (p, l, e, _, s, m, av.toArray, below, meth, c, _, mL) ⟨B.exec, B.bytes, hml, findClass_of_methodNamed B.named, fun w hw => hts w (List.mem_cons_of_mem _ hw), B.notSynchronized, rfl, rfl, rfl⟩ hE B.returns rfl s.heap [] _ hW va_S.rf hl
theorem g_iret {v : Int32} {post : Int32 → Mem → Prop} (C : CX X cc own nL fr lo) (hr : (xt X).sig.returnType = some .int) (hQ : xQ X = MQ (xb X) (va_Qi post (fun M1 t => Wd Z M1 t.heap) (AZ Z)) (xa X) (xs X) 0 0 (AZ Z)) (d : decode cc pc = .ok (.ireturn, 1)) (h : post v M) : GS Z X pc lv [.int v] M := by
  intro H locs ls hW hS hl
  rw [hQ]
  exact W.iret C.1 C.2.1 hr (fun t ht hWm => ⟨⟨v, M, rfl, h, by show Wd Z M t.heap; rw [ht]; exact hW⟩, hS.F ht⟩) hS.2.2 d C.2.2.2.2.2.1
theorem g_zret {v : Int32} {post : Int32 → Mem → Prop} {ty : FieldType} (C : CX X cc own nL fr lo) (hr : (xt X).sig.returnType = some ty) (hQ : xQ X = MQ (xb X) (va_Qi post (fun M1 t => Wd Z M1 t.heap) (AZ Z)) (xa X) (xs X) 0 0 (AZ Z)) (d : decode cc pc = .ok (.ireturn, 1)) (hnr : narrow ty (.int v) = .int v) (h : post v M) : GS Z X pc lv [.int v] M := by
  intro H locs ls hW hS hl
  rw [hQ]
  exact W.zret C.1 C.2.1 hr hnr (fun t ht hWm => ⟨⟨v, M, rfl, h, by show Wd Z M t.heap; rw [ht]; exact hW⟩, hS.F ht⟩) hS.2.2 d C.2.2.2.2.2.1
theorem g_vret {post : Mem → Prop} (C : CX X cc own nL fr lo) (hr : (xt X).sig.returnType = none) (hQ : xQ X = MQ (xb X) (va_Qv post (fun M1 t => Wd Z M1 t.heap) (AZ Z)) (xa X) (xs X) 0 0 (AZ Z)) (d : decode cc pc = .ok (.return_, 1)) (h : post M) : GS Z X pc lv [] M := by
  intro H locs ls hW hS hl
  rw [hQ]
  exact W.vret C.1 C.2.1 hr (fun t ht hWm => ⟨⟨M, rfl, h, by show Wd Z M t.heap; rw [ht]; exact hW⟩, hS.F ht⟩) hS.2.2 d C.2.2.2.2.2.1
/-! calls -/
def YI (y : MethodName) (bytes : ByteArray) (mL : Nat) (ret : Option FieldType) (k : Nat) : Prop :=
  Cond.instanceMethod y ∈ BIG ∧ Cond.selects y.cls y y ∈ BIG ∧ Cond.initialized y.cls ∈ BIG ∧ Cond.code y bytes mL ret ∈ BIG ∧ y.cls ≠ "java/lang/invoke/MethodHandle" ∧ y.cls ≠ "java/lang/invoke/VarHandle" ∧ (parseMethodDescriptor y.desc).map (fun d => d.parameters.length) = some k
def YS (y : MethodName) (bytes : ByteArray) (mL : Nat) (ret : Option FieldType) (k : Nat) : Prop :=
  Cond.static y ∈ BIG ∧ Cond.initialized y.cls ∈ BIG ∧ Cond.code y bytes mL ret ∈ BIG ∧ y.cls ≠ "java/lang/invoke/MethodHandle" ∧ y.cls ≠ "java/lang/invoke/VarHandle" ∧ (parseMethodDescriptor y.desc).map (fun d => d.parameters.length) = some k
theorem blindI {av : List Value} : FrameBlind (va_Pc av (fun U => EX Z U ∧ Wd Z M U.heap)) := fun _ _ g mk q => ⟨q.1, q.2.1.blind g mk _, q.2.2⟩
variable {y : MethodName} {bytes : ByteArray} {mL rf rl idx a kd : Nat} {ret : Option FieldType} {As : List Value} {host : String}
theorem goodV {j : Nat} (hl0 : Cond.methodLink own idx y ∈ BIG) (hY : YI y bytes mL ret j) : GoodIn BIG (wsV own idx y.cls y (Cond.code y bytes mL ret :: BIG)) := by
  intro w hw
  rcases List.mem_append.mp hw with h | h
  · simp only [List.mem_cons, List.not_mem_nil, or_false] at h
    rcases h with h | h | h | h
    · rw [h]; exact ⟨hl0, big_good hl0⟩
    · rw [h]; exact ⟨hY.1, big_good hY.1⟩
    · rw [h]; exact ⟨hY.2.1, big_good hY.2.1⟩
    · rw [h]; exact ⟨hY.2.2.1, big_good hY.2.2.1⟩
  · exact big_in hY.2.2.2.1 w h
theorem goodS {j : Nat} (hl0 : Cond.methodLink own idx y ∈ BIG) (hY : YS y bytes mL ret j) : GoodIn BIG (va_wsS own idx y (Cond.code y bytes mL ret :: BIG)) := by
  intro w hw
  rcases List.mem_append.mp hw with h | h
  · simp only [List.mem_cons, List.not_mem_nil, or_false] at h
    rcases h with h | h | h
    · rw [h]; exact ⟨hl0, big_good hl0⟩
    · rw [h]; exact ⟨hY.1, big_good hY.1⟩
    · rw [h]; exact ⟨hY.2.1, big_good hY.2.1⟩
  · exact big_in hY.2.2.1 w h

theorem g_callVi {post : Int32 → Mem → Prop} (C : CX X cc own nL fr lo) (E : EX Z (xs X)) (hM : CtI Z (xl X) y bytes mL ret rf rl (.ref (zb Z + a) :: As) M post) (hY : YI y bytes mL ret As.length) (hl0 : Cond.methodLink own idx y ∈ BIG) {T : u_T} {N : Nat} (hc : vwCl[kd]? = some (y.cls, T, N)) (ha : AtO Z a kd) (hR : rf + 1 ≤ fr ∧ 8 + (mL + 11) + rl ≤ lo) (hrest : (rest.map fun v => v.category).sum ≤ 8) (d : decode cc pc = .ok (.invokevirtual idx, 3)) (hn : pc + 3 = n) (hst : st = As.reverse ++ .ref (zb Z + a) :: rest) (k : ∀ (r : Int32) (M1 : Mem), post r M1 → GS Z X n lv (.int r :: rest) M1) : GS Z X pc lv st M := by
  subst hn
  subst hst
  intro H locs ls hW hS hl
  have hr : va_Run (xp X) (xl X) (xe X) (xR X) (xs X) (xm X) (xa X) (xb X) (xt X) (xc X) H locs 0 0 0 0 (F0 (xm X) pc ls (As.reverse ++ .ref (zb Z + a) :: rest)) rest (va_Qi post (fun M1 t => Wd Z M1 t.heap) (AZ Z) (.ref (zb Z + a) :: As).toArray) (AZ Z) :=
    va_runV (As := As) (rest := rest) C.fix hM (cwV (C := y.cls) As.length C.2.2.2.2.1 (goodV hl0 hY) rfl rfl rfl ⟨rfl, hY.2.2.2.2.1, hY.2.2.2.2.2.1, hY.2.2.2.2.2.2⟩ ⟨by rw [C.2.2.2.2.2.2.2.1]; exact hR.1, by rw [C.2.2.2.2.2.2.2.2]; exact hR.2⟩) ⟨blindI, va_recv (ws := wl Z M) E.1 hW hc (wl_obj ha), fun U hU hWm => ⟨rfl, E.step hS hU hWm, by rw [hU]; exact hW⟩⟩ rfl rfl (by show ls.size = nL; rw [hl.1, C.2.2.2.2.2.2.1]) rfl (lv_room hrest) d ⟨Nat.zero_le _, Nat.zero_le _⟩
  exact va_calli (H0 := (xs X).heap) (A0 := AZ Z) hr hS (fun _ _ h => h) (fun _ h => h) (fun r u t H1 locs1 ht hvm hp hB hz hk hS1 => k r u hp H1 locs1 ls (by rw [← ht]; exact hB) hS1 hl)
theorem g_callVv {post : Mem → Prop} (C : CX X cc own nL fr lo) (E : EX Z (xs X)) (hM : CtV Z (xl X) y bytes mL ret rf rl (.ref (zb Z + a) :: As) M post) (hY : YI y bytes mL ret As.length) (hl0 : Cond.methodLink own idx y ∈ BIG) {T : u_T} {N : Nat} (hc : vwCl[kd]? = some (y.cls, T, N)) (ha : AtO Z a kd) (hR : rf + 1 ≤ fr ∧ 8 + (mL + 11) + rl ≤ lo) (hrest : (rest.map fun v => v.category).sum ≤ 8) (d : decode cc pc = .ok (.invokevirtual idx, 3)) (hn : pc + 3 = n) (hst : st = As.reverse ++ .ref (zb Z + a) :: rest) (k : ∀ M1 : Mem, post M1 → GS Z X n lv rest M1) : GS Z X pc lv st M := by
  subst hn
  subst hst
  intro H locs ls hW hS hl
  have hr : va_Run (xp X) (xl X) (xe X) (xR X) (xs X) (xm X) (xa X) (xb X) (xt X) (xc X) H locs 0 0 0 0 (F0 (xm X) pc ls (As.reverse ++ .ref (zb Z + a) :: rest)) rest (va_Qv post (fun M1 t => Wd Z M1 t.heap) (AZ Z) (.ref (zb Z + a) :: As).toArray) (AZ Z) :=
    va_runV (As := As) (rest := rest) C.fix hM (cwV (C := y.cls) As.length C.2.2.2.2.1 (goodV hl0 hY) rfl rfl rfl ⟨rfl, hY.2.2.2.2.1, hY.2.2.2.2.2.1, hY.2.2.2.2.2.2⟩ ⟨by rw [C.2.2.2.2.2.2.2.1]; exact hR.1, by rw [C.2.2.2.2.2.2.2.2]; exact hR.2⟩) ⟨blindI, va_recv (ws := wl Z M) E.1 hW hc (wl_obj ha), fun U hU hWm => ⟨rfl, E.step hS hU hWm, by rw [hU]; exact hW⟩⟩ rfl rfl (by show ls.size = nL; rw [hl.1, C.2.2.2.2.2.2.1]) rfl (lv_room hrest) d ⟨Nat.zero_le _, Nat.zero_le _⟩
  exact va_callv (H0 := (xs X).heap) (A0 := AZ Z) hr hS (fun _ _ h => h) (fun _ h => h) (fun u t H1 locs1 ht hvm hp hB hz hk hS1 => k u hp H1 locs1 ls (by rw [← ht]; exact hB) hS1 hl)
theorem g_callNi {post : Int32 → Mem → Prop} (C : CX X cc own nL fr lo) (E : EX Z (xs X)) (hM : CtI Z (xl X) y bytes mL ret rf rl (.ref (zb Z + a) :: As) M post) (hY : YI y bytes mL ret As.length) (hl0 : Cond.methodLinkNest own idx y host ∈ NWL) {T : u_T} {N : Nat} (hc : vwCl[kd]? = some (y.cls, T, N)) (ha : AtO Z a kd) (hR : rf + 1 ≤ fr ∧ 8 + (mL + 11) + rl ≤ lo) (hrest : (rest.map fun v => v.category).sum ≤ 8) (d : decode cc pc = .ok (.invokevirtual idx, 3)) (hn : pc + 3 = n) (hst : st = As.reverse ++ .ref (zb Z + a) :: rest) (k : ∀ (r : Int32) (M1 : Mem), post r M1 → GS Z X n lv (.int r :: rest) M1) : GS Z X pc lv st M := by
  subst hn
  subst hst
  intro H locs ls hW hS hl
  have hr : va_Run (xp X) (xl X) (xe X) (xR X) (xs X) (xm X) (xa X) (xb X) (xt X) (xc X) H locs 0 0 0 0 (F0 (xm X) pc ls (As.reverse ++ .ref (zb Z + a) :: rest)) rest (va_Qi post (fun M1 t => Wd Z M1 t.heap) (AZ Z) (.ref (zb Z + a) :: As).toArray) (AZ Z) :=
    va_runVN (As := As) (rest := rest) C.fix hM ⟨va_cnB As.length C.2.2.2.2.1 (big_in hY.2.2.2.1) rfl rfl rfl (E.2.1 _ hl0) (C.word hY.2.2.1) ⟨hY.2.2.2.2.1, hY.2.2.2.2.2.1, hY.2.2.2.2.2.2⟩ ⟨by rw [C.2.2.2.2.2.2.2.1]; exact hR.1, by rw [C.2.2.2.2.2.2.2.2]; exact hR.2⟩, C.word hY.1, C.word hY.2.1⟩ ⟨blindI, va_recv (ws := wl Z M) E.1 hW hc (wl_obj ha), fun U hU hWm => ⟨rfl, E.step hS hU hWm, by rw [hU]; exact hW⟩⟩ rfl rfl (by show ls.size = nL; rw [hl.1, C.2.2.2.2.2.2.1]) rfl (lv_room hrest) d ⟨Nat.zero_le _, Nat.zero_le _⟩
  exact va_calli (H0 := (xs X).heap) (A0 := AZ Z) hr hS (fun _ _ h => h) (fun _ h => h) (fun r u t H1 locs1 ht hvm hp hB hz hk hS1 => k r u hp H1 locs1 ls (by rw [← ht]; exact hB) hS1 hl)
theorem g_callNv {post : Mem → Prop} (C : CX X cc own nL fr lo) (E : EX Z (xs X)) (hM : CtV Z (xl X) y bytes mL ret rf rl (.ref (zb Z + a) :: As) M post) (hY : YI y bytes mL ret As.length) (hl0 : Cond.methodLinkNest own idx y host ∈ NWL) {T : u_T} {N : Nat} (hc : vwCl[kd]? = some (y.cls, T, N)) (ha : AtO Z a kd) (hR : rf + 1 ≤ fr ∧ 8 + (mL + 11) + rl ≤ lo) (hrest : (rest.map fun v => v.category).sum ≤ 8) (d : decode cc pc = .ok (.invokevirtual idx, 3)) (hn : pc + 3 = n) (hst : st = As.reverse ++ .ref (zb Z + a) :: rest) (k : ∀ M1 : Mem, post M1 → GS Z X n lv rest M1) : GS Z X pc lv st M := by
  subst hn
  subst hst
  intro H locs ls hW hS hl
  have hr : va_Run (xp X) (xl X) (xe X) (xR X) (xs X) (xm X) (xa X) (xb X) (xt X) (xc X) H locs 0 0 0 0 (F0 (xm X) pc ls (As.reverse ++ .ref (zb Z + a) :: rest)) rest (va_Qv post (fun M1 t => Wd Z M1 t.heap) (AZ Z) (.ref (zb Z + a) :: As).toArray) (AZ Z) :=
    va_runVN (As := As) (rest := rest) C.fix hM ⟨va_cnB As.length C.2.2.2.2.1 (big_in hY.2.2.2.1) rfl rfl rfl (E.2.1 _ hl0) (C.word hY.2.2.1) ⟨hY.2.2.2.2.1, hY.2.2.2.2.2.1, hY.2.2.2.2.2.2⟩ ⟨by rw [C.2.2.2.2.2.2.2.1]; exact hR.1, by rw [C.2.2.2.2.2.2.2.2]; exact hR.2⟩, C.word hY.1, C.word hY.2.1⟩ ⟨blindI, va_recv (ws := wl Z M) E.1 hW hc (wl_obj ha), fun U hU hWm => ⟨rfl, E.step hS hU hWm, by rw [hU]; exact hW⟩⟩ rfl rfl (by show ls.size = nL; rw [hl.1, C.2.2.2.2.2.2.1]) rfl (lv_room hrest) d ⟨Nat.zero_le _, Nat.zero_le _⟩
  exact va_callv (H0 := (xs X).heap) (A0 := AZ Z) hr hS (fun _ _ h => h) (fun _ h => h) (fun u t H1 locs1 ht hvm hp hB hz hk hS1 => k u hp H1 locs1 ls (by rw [← ht]; exact hB) hS1 hl)
theorem g_callSi {post : Int32 → Mem → Prop} (C : CX X cc own nL fr lo) (E : EX Z (xs X)) (hM : CtI Z (xl X) y bytes mL ret rf rl As M post) (hY : YS y bytes mL ret As.length) (hl0 : Cond.methodLink own idx y ∈ BIG) (hR : rf + 1 ≤ fr ∧ 8 + (mL + 11) + rl ≤ lo) (hrest : (rest.map fun v => v.category).sum ≤ 8) (d : decode cc pc = .ok (.invokestatic idx, 3)) (hn : pc + 3 = n) (hst : st = As.reverse ++ rest) (k : ∀ (r : Int32) (M1 : Mem), post r M1 → GS Z X n lv (.int r :: rest) M1) : GS Z X pc lv st M := by
  subst hn
  subst hst
  intro H locs ls hW hS hl
  have hr : va_Run (xp X) (xl X) (xe X) (xR X) (xs X) (xm X) (xa X) (xb X) (xt X) (xc X) H locs 0 0 0 0 (F0 (xm X) pc ls (As.reverse ++ rest)) rest (va_Qi post (fun M1 t => Wd Z M1 t.heap) (AZ Z) As.toArray) (AZ Z) :=
    va_runS (As := As) (rest := rest) C.fix hM (va_cwS As.length C.2.2.2.2.1 (goodS hl0 hY) rfl rfl rfl ⟨hY.2.2.2.1, hY.2.2.2.2.1, hY.2.2.2.2.2⟩ ⟨by rw [C.2.2.2.2.2.2.2.1]; exact hR.1, by rw [C.2.2.2.2.2.2.2.2]; exact hR.2⟩) ⟨blindI, fun U hU hWm => ⟨rfl, E.step hS hU hWm, by rw [hU]; exact hW⟩⟩ rfl rfl (by show ls.size = nL; rw [hl.1, C.2.2.2.2.2.2.1]) rfl (lv_room hrest) d ⟨Nat.zero_le _, Nat.zero_le _⟩
  exact va_calli (H0 := (xs X).heap) (A0 := AZ Z) hr hS (fun _ _ h => h) (fun _ h => h) (fun r u t H1 locs1 ht hvm hp hB hz hk hS1 => k r u hp H1 locs1 ls (by rw [← ht]; exact hB) hS1 hl)
theorem g_callSv {post : Mem → Prop} (C : CX X cc own nL fr lo) (E : EX Z (xs X)) (hM : CtV Z (xl X) y bytes mL ret rf rl As M post) (hY : YS y bytes mL ret As.length) (hl0 : Cond.methodLink own idx y ∈ BIG) (hR : rf + 1 ≤ fr ∧ 8 + (mL + 11) + rl ≤ lo) (hrest : (rest.map fun v => v.category).sum ≤ 8) (d : decode cc pc = .ok (.invokestatic idx, 3)) (hn : pc + 3 = n) (hst : st = As.reverse ++ rest) (k : ∀ M1 : Mem, post M1 → GS Z X n lv rest M1) : GS Z X pc lv st M := by
  subst hn
  subst hst
  intro H locs ls hW hS hl
  have hr : va_Run (xp X) (xl X) (xe X) (xR X) (xs X) (xm X) (xa X) (xb X) (xt X) (xc X) H locs 0 0 0 0 (F0 (xm X) pc ls (As.reverse ++ rest)) rest (va_Qv post (fun M1 t => Wd Z M1 t.heap) (AZ Z) As.toArray) (AZ Z) :=
    va_runS (As := As) (rest := rest) C.fix hM (va_cwS As.length C.2.2.2.2.1 (goodS hl0 hY) rfl rfl rfl ⟨hY.2.2.2.1, hY.2.2.2.2.1, hY.2.2.2.2.2⟩ ⟨by rw [C.2.2.2.2.2.2.2.1]; exact hR.1, by rw [C.2.2.2.2.2.2.2.2]; exact hR.2⟩) ⟨blindI, fun U hU hWm => ⟨rfl, E.step hS hU hWm, by rw [hU]; exact hW⟩⟩ rfl rfl (by show ls.size = nL; rw [hl.1, C.2.2.2.2.2.2.1]) rfl (lv_room hrest) d ⟨Nat.zero_le _, Nat.zero_le _⟩
  exact va_callv (H0 := (xs X).heap) (A0 := AZ Z) hr hS (fun _ _ h => h) (fun _ h => h) (fun u t H1 locs1 ht hvm hp hB hz hk hS1 => k u hp H1 locs1 ls (by rw [← ht]; exact hB) hS1 hl)
theorem g_mmax {idx : Nat} {x y : Int32} (C : CX X cc own nL fr lo) (h1 : Cond.methodLink own idx Lib.Math.max.name ∈ BIG) (h2 : Cond.static Lib.Math.max.name ∈ BIG) (h3 : Cond.initialized "java/lang/Math" ∈ BIG) (h4 : Cond.code Lib.Math.max.name Lib.Math.max.code 2 (some .int) ∈ BIG) (hf : 1 ≤ fr) (hlo : (rest.map fun v => v.category).sum + 13 ≤ lo) (d : decode cc pc = .ok (.invokestatic idx, 3)) (hn : pc + 3 = n) (k : GS Z X n lv (.int (imax x y) :: rest) M) : GS Z X pc lv (.int y :: .int x :: rest) M := by
  subst hn
  exact fun H locs ls hW hS hl => va_mmax C.1 C.2.1 (by rw [C.2.2.1, hl.1, C.2.2.2.2.2.2.1]) C.2.2.2.1 (C.word h1) (C.word h2) (C.word h3) (C.word h4) (by rw [C.2.2.2.2.2.2.2.1]; exact hf) (by rw [C.2.2.2.2.2.2.2.2]; exact hlo) (Nat.zero_le _) (Nat.zero_le _) d (k H locs ls hW hS hl)
theorem g_mmin {idx : Nat} {x y : Int32} (C : CX X cc own nL fr lo) (h1 : Cond.methodLink own idx Lib.Math.min.name ∈ BIG) (h2 : Cond.static Lib.Math.min.name ∈ BIG) (h3 : Cond.initialized "java/lang/Math" ∈ BIG) (h4 : Cond.code Lib.Math.min.name Lib.Math.min.code 2 (some .int) ∈ BIG) (hf : 1 ≤ fr) (hlo : (rest.map fun v => v.category).sum + 13 ≤ lo) (d : decode cc pc = .ok (.invokestatic idx, 3)) (hn : pc + 3 = n) (k : GS Z X n lv (.int (imin x y) :: rest) M) : GS Z X pc lv (.int y :: .int x :: rest) M := by
  subst hn
  exact fun H locs ls hW hS hl => va_mmin C.1 C.2.1 (by rw [C.2.2.1, hl.1, C.2.2.2.2.2.2.1]) C.2.2.2.1 (C.word h1) (C.word h2) (C.word h3) (C.word h4) (by rw [C.2.2.2.2.2.2.2.1]; exact hf) (by rw [C.2.2.2.2.2.2.2.2]; exact hlo) (Nat.zero_le _) (Nat.zero_le _) d (k H locs ls hW hS hl)
end Rows
