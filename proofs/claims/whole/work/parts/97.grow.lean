/-! walks over any world: Pr what the heap holds, A what may change, c0 and n0 what was made -/
def GW (Pr : Heap → Prop) (A : Nat → Prop) (X : XT) (c0 n0 pc : Nat) (lv : List (Nat × Value)) (st : List Value) : Prop :=
  ∀ (H : Heap) (locs : List Loc) (ls : Array Slot), Pr H → va_S A (xs X).heap H locs → lv_has ls (xn X) lv → W (xp X) (xl X) (xe X) (xR X) (xs X) (xm X) (xa X) (xb X) (xt X) (xc X) H locs c0 n0 (xQ X) (F0 (xm X) pc ls st)
section RowsW
variable {Pr : Heap → Prop} {A : Nat → Prop} {X : XT} {cc : ByteArray} {own : String} {nL fr lo pc n c0 n0 : Nat} {lv lv' : List (Nat × Value)} {rest st : List Value}
theorem h_iconst {q : Int} (v : Int32) (C : CX X cc own nL fr lo) (d : decode cc pc = .ok (.iconst q, 1)) (hv : Int32.ofInt q = v) (hn : pc + 1 = n) (k : GW Pr A X c0 n0 n lv (.int v :: rest)) : GW Pr A X c0 n0 pc lv (rest) := by
  subst hn
  exact fun H locs ls hW hS hl => lv_iconst C.1 C.2.1 d hv (k H locs ls hW hS hl)
theorem h_bipush {q : Int} (v : Int32) (C : CX X cc own nL fr lo) (d : decode cc pc = .ok (.bipush q, 2)) (hv : (Int8.ofInt q).toInt32 = v) (hn : pc + 2 = n) (k : GW Pr A X c0 n0 n lv (.int v :: rest)) : GW Pr A X c0 n0 pc lv (rest) := by
  subst hn
  exact fun H locs ls hW hS hl => lv_bipush C.1 C.2.1 d hv (k H locs ls hW hS hl)
theorem h_sipush {q : Int} (v : Int32) (C : CX X cc own nL fr lo) (d : decode cc pc = .ok (.sipush q, 3)) (hv : (Int16.ofInt q).toInt32 = v) (hn : pc + 3 = n) (k : GW Pr A X c0 n0 n lv (.int v :: rest)) : GW Pr A X c0 n0 pc lv (rest) := by
  subst hn
  exact fun H locs ls hW hS hl => lv_sipush C.1 C.2.1 d hv (k H locs ls hW hS hl)
theorem h_iadd {x y : Int32} (C : CX X cc own nL fr lo) (d : decode cc pc = .ok (.iadd, 1))  (hn : pc + 1 = n) (k : GW Pr A X c0 n0 n lv (.int (x + y) :: rest)) : GW Pr A X c0 n0 pc lv (.int y :: .int x :: rest) := by
  subst hn
  exact fun H locs ls hW hS hl => lv_iadd C.1 C.2.1 d  (k H locs ls hW hS hl)
theorem h_isub {x y : Int32} (C : CX X cc own nL fr lo) (d : decode cc pc = .ok (.isub, 1))  (hn : pc + 1 = n) (k : GW Pr A X c0 n0 n lv (.int (x - y) :: rest)) : GW Pr A X c0 n0 pc lv (.int y :: .int x :: rest) := by
  subst hn
  exact fun H locs ls hW hS hl => lv_isub C.1 C.2.1 d  (k H locs ls hW hS hl)
theorem h_iand {x y : Int32} (C : CX X cc own nL fr lo) (d : decode cc pc = .ok (.iand, 1))  (hn : pc + 1 = n) (k : GW Pr A X c0 n0 n lv (.int (x &&& y) :: rest)) : GW Pr A X c0 n0 pc lv (.int y :: .int x :: rest) := by
  subst hn
  exact fun H locs ls hW hS hl => lv_iand C.1 C.2.1 d  (k H locs ls hW hS hl)
theorem h_ishr {x y : Int32} (C : CX X cc own nL fr lo) (d : decode cc pc = .ok (.ishr, 1))  (hn : pc + 1 = n) (k : GW Pr A X c0 n0 n lv (.int (x >>> (y &&& 31)) :: rest)) : GW Pr A X c0 n0 pc lv (.int y :: .int x :: rest) := by
  subst hn
  exact fun H locs ls hW hS hl => lv_ishr C.1 C.2.1 d  (k H locs ls hW hS hl)
theorem h_dup {va : Value} (C : CX X cc own nL fr lo) (d : decode cc pc = .ok (.dup, 1)) (hva : va.category = 1) (hn : pc + 1 = n) (k : GW Pr A X c0 n0 n lv (va :: va :: rest)) : GW Pr A X c0 n0 pc lv (va :: rest) := by
  subst hn
  exact fun H locs ls hW hS hl => lv_dup C.1 C.2.1 d hva (k H locs ls hW hS hl)
theorem h_pop {va : Value} (C : CX X cc own nL fr lo) (d : decode cc pc = .ok (.pop, 1)) (hva : va.category = 1) (hn : pc + 1 = n) (k : GW Pr A X c0 n0 n lv (rest)) : GW Pr A X c0 n0 pc lv (va :: rest) := by
  subst hn
  exact fun H locs ls hW hS hl => lv_pop C.1 C.2.1 d hva (k H locs ls hW hS hl)
theorem h_iload_n {q : Fin 4} {i : Nat} {x : Int32} (C : CX X cc own nL fr lo) (d : decode cc pc = .ok (.iload_n q, 1)) (hi : (q : Nat) = i) (p : Nat) (hp : lv[p]? = some (i, .int x)) (hn : pc + 1 = n) (k : GW Pr A X c0 n0 n lv (.int x :: rest)) : GW Pr A X c0 n0 pc lv rest := by
  subst hn
  exact fun H locs ls hW hS hl => lv_iload_n C.1 C.2.1 d hi (lv_at hl p hp) (k H locs ls hW hS hl)
theorem h_aload_n {q : Fin 4} {i : Nat} {x : Nat} (C : CX X cc own nL fr lo) (d : decode cc pc = .ok (.aload_n q, 1)) (hi : (q : Nat) = i) (p : Nat) (hp : lv[p]? = some (i, .ref x)) (hn : pc + 1 = n) (k : GW Pr A X c0 n0 n lv (.ref x :: rest)) : GW Pr A X c0 n0 pc lv rest := by
  subst hn
  exact fun H locs ls hW hS hl => lv_aload_n C.1 C.2.1 d hi (lv_at hl p hp) (k H locs ls hW hS hl)
theorem h_istore_n {q : Fin 4} {i : Nat} {x : Int32} (C : CX X cc own nL fr lo) (d : decode cc pc = .ok (.istore_n q, 1)) (hi : (q : Nat) = i) (hm : i < nL) (hf : lv.filter (fun q => !(q.1 == i) && !(q.1 + 1 == i && q.2.category == 2)) = lv') (hn : pc + 1 = n) (k : ∀ z : Int32, z = x → GW Pr A X c0 n0 n ((i, .int z) :: lv') rest) : GW Pr A X c0 n0 pc lv (.int x :: rest) := by
  subst hn
  exact fun H locs ls hW hS hl => lv_istore_n C.1 C.2.1 d hi hl (by rw [C.2.2.2.2.2.2.1]; exact hm) (congrArg (List.cons (i, Value.int x)) hf) (fun ls2 hl2 => k x rfl H locs ls2 hW hS hl2)
theorem h_astore_n {q : Fin 4} {i : Nat} {x : Nat} (C : CX X cc own nL fr lo) (d : decode cc pc = .ok (.astore_n q, 1)) (hi : (q : Nat) = i) (hm : i < nL) (hf : lv.filter (fun q => !(q.1 == i) && !(q.1 + 1 == i && q.2.category == 2)) = lv') (hn : pc + 1 = n) (k : GW Pr A X c0 n0 n ((i, .ref x) :: lv') rest) : GW Pr A X c0 n0 pc lv (.ref x :: rest) := by
  subst hn
  exact fun H locs ls hW hS hl => lv_astore_n C.1 C.2.1 d hi hl (by rw [C.2.2.2.2.2.2.1]; exact hm) (congrArg (List.cons (i, Value.ref x)) hf) (fun ls2 hl2 => k H locs ls2 hW hS hl2)
theorem h_iinc {i : Nat} {x v : Int32} {q : Int} (C : CX X cc own nL fr lo) (d : decode cc pc = .ok (.iinc i q, 3)) (p : Nat) (hp : lv[p]? = some (i, .int x)) (hv : Int32.ofInt q = v) (hm : i < nL) (hf : lv.filter (fun q => !(q.1 == i) && !(q.1 + 1 == i && q.2.category == 2)) = lv') (hn : pc + 3 = n) (k : ∀ z : Int32, z = x + v → GW Pr A X c0 n0 n ((i, .int z) :: lv') rest) : GW Pr A X c0 n0 pc lv rest := by
  subst hn
  subst hv
  exact fun H locs ls hW hS hl => lv_iinc C.1 C.2.1 d hl hp rfl (by rw [C.2.2.2.2.2.2.1]; exact hm) (congrArg (List.cons (i, Value.int (x + Int32.ofInt q))) hf) (fun ls2 hl2 => k _ rfl H locs ls2 hW hS hl2)
theorem h_icmp_eq {x y : Int32} {off : Int} {tgt : Nat} (C : CX X cc own nL fr lo) (d : decode cc pc = .ok (.if_icmp .eq off, 3)) (ht : (pc : Int) + off = (tgt : Int)) (hn : pc + 3 = n) (kt : x = y → GW Pr A X c0 n0 tgt lv rest) (kf : ¬ x = y → GW Pr A X c0 n0 n lv rest) : GW Pr A X c0 n0 pc lv (.int y :: .int x :: rest) := by
  subst hn
  exact fun H locs ls hW hS hl => lv_icmp_eq C.1 C.2.1 d ht (fun c => kt c H locs ls hW hS hl) (fun c => kf c H locs ls hW hS hl)
theorem h_if_eq {x : Int32} {off : Int} {tgt : Nat} (C : CX X cc own nL fr lo) (d : decode cc pc = .ok (.ifCond .eq off, 3)) (ht : (pc : Int) + off = (tgt : Int)) (hn : pc + 3 = n) (kt : x = 0 → GW Pr A X c0 n0 tgt lv rest) (kf : ¬ x = 0 → GW Pr A X c0 n0 n lv rest) : GW Pr A X c0 n0 pc lv (.int x :: rest) := by
  subst hn
  exact fun H locs ls hW hS hl => lv_if_eq C.1 C.2.1 d ht (fun c => kt c H locs ls hW hS hl) (fun c => kf c H locs ls hW hS hl)
theorem h_icmp_ne {x y : Int32} {off : Int} {tgt : Nat} (C : CX X cc own nL fr lo) (d : decode cc pc = .ok (.if_icmp .ne off, 3)) (ht : (pc : Int) + off = (tgt : Int)) (hn : pc + 3 = n) (kt : ¬ x = y → GW Pr A X c0 n0 tgt lv rest) (kf : x = y → GW Pr A X c0 n0 n lv rest) : GW Pr A X c0 n0 pc lv (.int y :: .int x :: rest) := by
  subst hn
  exact fun H locs ls hW hS hl => lv_icmp_ne C.1 C.2.1 d ht (fun c => kt c H locs ls hW hS hl) (fun c => kf c H locs ls hW hS hl)
theorem h_if_ne {x : Int32} {off : Int} {tgt : Nat} (C : CX X cc own nL fr lo) (d : decode cc pc = .ok (.ifCond .ne off, 3)) (ht : (pc : Int) + off = (tgt : Int)) (hn : pc + 3 = n) (kt : ¬ x = 0 → GW Pr A X c0 n0 tgt lv rest) (kf : x = 0 → GW Pr A X c0 n0 n lv rest) : GW Pr A X c0 n0 pc lv (.int x :: rest) := by
  subst hn
  exact fun H locs ls hW hS hl => lv_if_ne C.1 C.2.1 d ht (fun c => kt c H locs ls hW hS hl) (fun c => kf c H locs ls hW hS hl)
theorem h_icmp_lt {x y : Int32} {off : Int} {tgt : Nat} (C : CX X cc own nL fr lo) (d : decode cc pc = .ok (.if_icmp .lt off, 3)) (ht : (pc : Int) + off = (tgt : Int)) (hn : pc + 3 = n) (kt : x < y → GW Pr A X c0 n0 tgt lv rest) (kf : ¬ x < y → GW Pr A X c0 n0 n lv rest) : GW Pr A X c0 n0 pc lv (.int y :: .int x :: rest) := by
  subst hn
  exact fun H locs ls hW hS hl => lv_icmp_lt C.1 C.2.1 d ht (fun c => kt c H locs ls hW hS hl) (fun c => kf c H locs ls hW hS hl)
theorem h_if_lt {x : Int32} {off : Int} {tgt : Nat} (C : CX X cc own nL fr lo) (d : decode cc pc = .ok (.ifCond .lt off, 3)) (ht : (pc : Int) + off = (tgt : Int)) (hn : pc + 3 = n) (kt : x < 0 → GW Pr A X c0 n0 tgt lv rest) (kf : ¬ x < 0 → GW Pr A X c0 n0 n lv rest) : GW Pr A X c0 n0 pc lv (.int x :: rest) := by
  subst hn
  exact fun H locs ls hW hS hl => lv_if_lt C.1 C.2.1 d ht (fun c => kt c H locs ls hW hS hl) (fun c => kf c H locs ls hW hS hl)
theorem h_icmp_ge {x y : Int32} {off : Int} {tgt : Nat} (C : CX X cc own nL fr lo) (d : decode cc pc = .ok (.if_icmp .ge off, 3)) (ht : (pc : Int) + off = (tgt : Int)) (hn : pc + 3 = n) (kt : y ≤ x → GW Pr A X c0 n0 tgt lv rest) (kf : ¬ y ≤ x → GW Pr A X c0 n0 n lv rest) : GW Pr A X c0 n0 pc lv (.int y :: .int x :: rest) := by
  subst hn
  exact fun H locs ls hW hS hl => lv_icmp_ge C.1 C.2.1 d ht (fun c => kt c H locs ls hW hS hl) (fun c => kf c H locs ls hW hS hl)
theorem h_if_ge {x : Int32} {off : Int} {tgt : Nat} (C : CX X cc own nL fr lo) (d : decode cc pc = .ok (.ifCond .ge off, 3)) (ht : (pc : Int) + off = (tgt : Int)) (hn : pc + 3 = n) (kt : 0 ≤ x → GW Pr A X c0 n0 tgt lv rest) (kf : ¬ 0 ≤ x → GW Pr A X c0 n0 n lv rest) : GW Pr A X c0 n0 pc lv (.int x :: rest) := by
  subst hn
  exact fun H locs ls hW hS hl => lv_if_ge C.1 C.2.1 d ht (fun c => kt c H locs ls hW hS hl) (fun c => kf c H locs ls hW hS hl)
theorem h_icmp_gt {x y : Int32} {off : Int} {tgt : Nat} (C : CX X cc own nL fr lo) (d : decode cc pc = .ok (.if_icmp .gt off, 3)) (ht : (pc : Int) + off = (tgt : Int)) (hn : pc + 3 = n) (kt : y < x → GW Pr A X c0 n0 tgt lv rest) (kf : ¬ y < x → GW Pr A X c0 n0 n lv rest) : GW Pr A X c0 n0 pc lv (.int y :: .int x :: rest) := by
  subst hn
  exact fun H locs ls hW hS hl => lv_icmp_gt C.1 C.2.1 d ht (fun c => kt c H locs ls hW hS hl) (fun c => kf c H locs ls hW hS hl)
theorem h_goto {off : Int} {tgt : Nat} (C : CX X cc own nL fr lo) (d : decode cc pc = .ok (.goto off, 3)) (ht : (pc : Int) + off = (tgt : Int)) (k : GW Pr A X c0 n0 tgt lv st) : GW Pr A X c0 n0 pc lv st := fun H locs ls hW hS hl => lv_goto C.1 C.2.1 d ht (k H locs ls hW hS hl)
theorem h_tableIn {dflt lo2 hi : Int} {offs : Array Int} {len : Nat} {x v : Int32} {off : Int} {tgt : Nat} (C : CX X cc own nL fr lo) (d : decode cc pc = .ok (.tableswitch dflt lo2 hi offs, len)) (hx : x = v) (h1 : ¬ v.toInt < lo2) (h2 : ¬ hi < v.toInt) (ho : offs[(v.toInt - lo2).toNat]? = some off) (ht : (pc : Int) + off = (tgt : Int)) (k : GW Pr A X c0 n0 tgt lv rest) : GW Pr A X c0 n0 pc lv (.int x :: rest) := by
  subst hx
  exact fun H locs ls hW hS hl => lv_tableIn C.1 C.2.1 d h1 h2 ho ht (k H locs ls hW hS hl)
theorem h_tableOut {dflt lo2 hi : Int} {offs : Array Int} {len : Nat} {x : Int32} {tgt : Nat} (C : CX X cc own nL fr lo) (d : decode cc pc = .ok (.tableswitch dflt lo2 hi offs, len)) (h : x.toInt < lo2 ∨ hi < x.toInt) (ht : (pc : Int) + dflt = (tgt : Int)) (k : GW Pr A X c0 n0 tgt lv rest) : GW Pr A X c0 n0 pc lv (.int x :: rest) := fun H locs ls hW hS hl => lv_tableOut C.1 C.2.1 d h ht (k H locs ls hW hS hl)
theorem h_sub (ps : List Nat) (h : lv_pick lv ps = lv') (k : GW Pr A X c0 n0 pc lv' st) : GW Pr A X c0 n0 pc lv st := fun H locs ls hW hS hl => k H locs ls hW hS (lv_sub hl ps h)
theorem h_mmax {idx : Nat} {x y : Int32} (C : CX X cc own nL fr lo) (h1 : Cond.methodLink own idx Lib.Math.max.name ∈ BIG) (h2 : Cond.static Lib.Math.max.name ∈ BIG) (h3 : Cond.initialized "java/lang/Math" ∈ BIG) (h4 : Cond.code Lib.Math.max.name Lib.Math.max.code 2 (some .int) ∈ BIG) (hz : c0 ≤ (xR X).cells) (hz2 : n0 ≤ (xR X).slots) (hf : 1 ≤ fr) (hlo : (rest.map fun v => v.category).sum + 13 ≤ lo) (d : decode cc pc = .ok (.invokestatic idx, 3)) (hn : pc + 3 = n) (k : GW Pr A X c0 n0 n lv (.int (imax x y) :: rest)) : GW Pr A X c0 n0 pc lv (.int y :: .int x :: rest) := by
  subst hn
  exact fun H locs ls hW hS hl => va_mmax C.1 C.2.1 (by rw [C.2.2.1, hl.1, C.2.2.2.2.2.2.1]) C.2.2.2.1 (C.word h1) (C.word h2) (C.word h3) (C.word h4) (by rw [C.2.2.2.2.2.2.2.1]; exact hf) (by rw [C.2.2.2.2.2.2.2.2]; exact hlo) hz hz2 d (k H locs ls hW hS hl)
theorem h_imp {Pr2 : Heap → Prop} (h : ∀ H, Pr H → Pr2 H) (k : GW Pr2 A X c0 n0 pc lv st) : GW Pr A X c0 n0 pc lv st := fun H locs ls hW hS hl => k H locs ls (h H hW) hS hl
theorem h_obj {idx a : Nat} (C : CX X cc own nL fr lo) (h1 : Cond.methodLink own idx Lib.objectInit ∈ BIG) (h2 : Cond.instanceMethod Lib.objectInit ∈ BIG) (h3 : Cond.code Lib.objectInit ⟨#[0xb1]⟩ 1 none ∈ BIG) (hf : 1 ≤ fr) (hlo : 0 + (rest.map fun v => v.category).sum + 12 ≤ lo) (d : decode cc pc = .ok (.invokespecial idx, 3)) (hn : pc + 3 = n) (k : GW Pr A X c0 n0 n lv rest) : GW Pr A X c0 n0 pc lv (.ref a :: rest) := by
  subst hn
  exact fun H locs ls hW hS hl => W.objInit C.1 C.2.1 C.2.2.2.1 (C.word h1) (C.word h2) (C.word h3) rfl (by rw [C.2.2.1, ← C.2.2.2.2.2.2.1]; exact hl.1) rfl d (by rw [C.2.2.2.2.2.2.2.1]; exact hf) (by rw [C.2.2.2.2.2.2.2.2]; exact hlo) (k H locs ls hW hS hl)
end RowsW
/-! cells side by side -/
def PG (Z : ZT) (lo : Nat) (L : List va_E) (H : Heap) : Prop := H.size = lo + L.length ∧ ∀ (i : Nat) (e : va_E), L[i]? = some e → va_at (zG Z) vwCl (lo + i, e) H
theorem PG.nil {Z : ZT} {H : Heap} {lo : Nat} (h : H.size = lo) : PG Z lo [] H := ⟨h, fun i e he => (Option.some_ne_none e he.symm).elim⟩
theorem PG.push {Z : ZT} {lo : Nat} {L : List va_E} {e : va_E} {H H1 : Heap} (h : PG Z lo L H) (z : H1.size = H.size + 1) (o : ∀ q, q < H.size → H1[q]? = H[q]?) (he : va_at (zG Z) vwCl (lo + L.length, e) H1) : PG Z lo (L ++ [e]) H1 := by
  refine ⟨by rw [z, h.1, List.length_append, List.length_singleton]; omega, fun i e' hi => ?_⟩
  by_cases c : i < L.length
  · rw [List.getElem?_append_left c] at hi
    exact (h.2 i e' hi).kept (o _ (by show lo + i < H.size; rw [h.1]; omega))
  · rw [List.getElem?_append_right (by omega)] at hi
    have hz : i - L.length < 1 := (List.getElem?_eq_some_iff.mp hi).1
    have hi2 : i = L.length := by omega
    subst hi2
    rw [Nat.sub_self] at hi
    cases hi
    exact he
theorem PG.set {Z : ZT} {lo i : Nat} {L : List va_E} {e : va_E} {H H1 : Heap} (h : PG Z lo L H) (hi : i < L.length) (z : H1.size = H.size) (o : ∀ q, q ≠ lo + i → H1[q]? = H[q]?) (he : va_at (zG Z) vwCl (lo + i, e) H1) : PG Z lo (L.set i e) H1 := by
  refine ⟨by rw [z, h.1, List.length_set], fun j e' hj => ?_⟩
  by_cases c : i = j
  · subst c
    rw [List.getElem?_set_self hi] at hj
    cases hj
    exact he
  · rw [List.getElem?_set_ne c] at hj
    exact (h.2 j e' hj).kept (o _ (by show lo + j ≠ lo + i; omega))
theorem PG.last {Z : ZT} {lo : Nat} {L : List va_E} {e : va_E} {H : Heap} (h : PG Z lo (L ++ [e]) H) : PG Z (lo + L.length) [e] H := by
  refine ⟨by rw [h.1, List.length_append, Nat.add_assoc], fun i e' hi => ?_⟩
  have hz : i < 1 := (List.getElem?_eq_some_iff.mp hi).1
  have hi0 : i = 0 := by omega
  subst hi0
  cases hi
  exact h.2 L.length e (by rw [List.getElem?_append_right (Nat.le_refl _), Nat.sub_self]; rfl)
theorem PG.join {Z : ZT} {lo : Nat} {L L1 : List va_E} {e : va_E} {H H1 : Heap} (h : PG Z lo (L ++ [e]) H) (h1 : PG Z (lo + L.length) L1 H1) (o : ∀ q, q < lo + L.length → H1[q]? = H[q]?) : PG Z lo (L ++ L1) H1 := by
  refine ⟨by rw [h1.1, List.length_append, Nat.add_assoc], fun i e' hi => ?_⟩
  by_cases c : i < L.length
  · rw [List.getElem?_append_left c] at hi
    exact (h.2 i e' (by rw [List.getElem?_append_left c]; exact hi)).kept (o _ (by show lo + i < _; omega))
  · rw [List.getElem?_append_right (by omega)] at hi
    have := h1.2 _ _ hi
    rw [show lo + L.length + (i - L.length) = lo + i by omega] at this
    exact this
/-- what stays as it is while cells are made: classes, nest mates, rows of houses -/
def EK (Z : ZT) (s : State) : Prop := va_K (zG Z) vwCl [(zI Z, .int), (zH Z, .object RX2)] s ∧ (∀ w ∈ NWL, va_Nw w s) ∧ va_AO RX2 s
theorem EK.step {Z : ZT} {s U : State} (E : EK Z s) (hW : s.WarmedH U.vm) : EK Z U := ⟨va_K.moved hW.alike E.1, nw_warm hW E.2.1, va_AO.moved hW.alike E.2.2⟩
theorem EK.blind {Z : ZT} {U : State} (E : EK Z U) (g : JFrame) (mk : MethodId) (a : Array Value) : EK Z (U.calling g mk a) := ⟨va_K.moved (u := U) (U := U.calling g mk a) (Vm.Alike.refl U.vm) E.1, nw_same (u := U) (U := U.calling g mk a) rfl E.2.1, va_AO.moved (u := U) (U := U.calling g mk a) (Vm.Alike.refl U.vm) E.2.2⟩
/-- a constructor's contract: the object at lo, new and last in the heap -/
def CtN (Z : ZT) (l : Launch) (y : MethodName) (bytes : ByteArray) (mL rf rl mc ms : Nat) (av : List Value) (kd lo : Nat) (fs0 : List Value) (Pe : State → Prop) (Po : Heap → Prop) : Prop :=
  Met l y (Cond.code y bytes mL none :: BIG) { frames := rf, cells := mc, slots := ms, locals := rl } (va_Pc (.ref lo :: av) (fun U => Pe U ∧ PG Z lo [.inr (kd, fs0)] U.heap)) (va_Qv (fun _ : Unit => True) (fun _ t => Po t.heap) (fun q => lo ≤ q)) mc ms (fun q => lo ≤ q)
section RowsN
variable {Z : ZT} {Pr : Heap → Prop} {A : Nat → Prop} {X : XT} {cc : ByteArray} {own : String} {nL fr lx pc n c0 n0 cm sm lo : Nat} {lv lv' : List (Nat × Value)} {rest st : List Value}
theorem ctN {l : Launch} {y : MethodName} {mL rf rl mc ms : Nat} {av : List Value} {kd : Nat} {fs0 : List Value} {Pe : State → Prop} {Po : Heap → Prop} (ho : own = y.cls) (hy : plainName y.cls = true) (hy2 : y.name = "<init>") (hlen : (lg_sl (.ref lo :: av)).length ≤ mL)
    (body : ∀ X : XT, CX X cc own mL rf rl → Pe (xs X) → (xt X).sig.returnType = none → (xt X).name = "<init>" → (xR X).cells = mc → (xR X).slots = ms → xQ X = MQ (xb X) (va_Qv (fun _ : Unit => True) (fun _ t => Po t.heap) (fun q => lo ≤ q)) (xa X) (xs X) mc ms (fun q => lo ≤ q) → (xs X).heap.size = lo + 1 → GW (PG Z lo [.inr (kd, fs0)]) (fun q => lo ≤ q) X 0 0 0 (lv_args 0 (.ref lo :: av)) []) : CtN Z l y cc mL rf rl mc ms av kd lo fs0 Pe Po := by
  subst ho
  refine Met.ofW (cc := cc) (maxL := mL) (ret := none) hy rfl ?_
  intro p e s m args below meth c s₁ B hml hv
  obtain ⟨rfl, hE, hW⟩ := hv
  have hts := atoms_spec (ws := Cond.code y cc mL none :: BIG) B.pre
  have hl := lv_entry (.ref lo :: av) (n := mL) hlen
  rw [lg_entry_eq]
  exact body (p, l, e, _, s, m, (Value.ref lo :: av).toArray, below, meth, c, _, mL) ⟨B.exec, B.bytes, hml, findClass_of_methodNamed B.named, fun w hw => hts w (List.mem_cons_of_mem _ hw), B.notSynchronized, rfl, rfl, rfl⟩ hE B.returns ((name_of_methodNamed B.named B.method).1.trans hy2) rfl rfl rfl hW.1 s.heap [] _ hW va_S.rf hl
theorem w_vret {Po : Heap → Prop} (C : CX X cc own nL fr lx) (hr : (xt X).sig.returnType = none) (hQ : xQ X = MQ (xb X) (va_Qv (fun _ : Unit => True) (fun _ t => Po t.heap) A) (xa X) (xs X) c0 n0 A) (d : decode cc pc = .ok (.return_, 1)) (h : ∀ H, Pr H → Po H) : GW Pr A X c0 n0 pc lv [] := by
  intro H locs ls hW hS hl
  rw [hQ]
  exact W.vret C.1 C.2.1 hr (fun t ht hWm => ⟨⟨(), rfl, trivial, by show Po t.heap; rw [ht]; exact h H hW⟩, hS.F ht⟩) hS.2.2 d C.2.2.2.2.2.1
theorem vaS_push {A : Nat → Prop} {H0 H H1 : Heap} {locs : List Loc} (h : va_S A H0 H locs) (z : H1.size = H.size + 1) (o : ∀ q, q < H.size → H1[q]? = H[q]?) : va_S A H0 H1 locs := ⟨Nat.le_trans h.1 (by omega), fun x h1 h2 => (o x (Nat.lt_of_lt_of_le h1 h.1)).trans (h.2.1 x h1 h2), h.2.2⟩
/-- a new object -/
theorem w_newG {Pr1 : Heap → Prop} {kd N idx a : Nat} {Rc : String} {T : u_T} (fs : List Value) (C : CX X cc own nL fr lx) (K : va_K (zG Z) vwCl [(zI Z, .int), (zH Z, .object RX2)] (xs X)) (hc : vwCl[kd]? = some (Rc, T, N)) (hin : ∀ w ∈ u_ws Rc T N, w ∈ BIG) (ty : Nat → FieldType) (hty : ∀ k, k < N → parseFieldDescriptor (T k).2.2.1 = some (ty k)) (h1 : Cond.classLink own idx Rc ∈ BIG) (h2 : Cond.instantiable Rc N ∈ BIG) (h3 : Cond.initialized Rc ∈ BIG) (hfs : ∀ j, j < N → defaultValue (ty j) = vp_V fs j) (hcm : (xR X).cells = cm) (hsm : (xR X).slots = sm) (h4 : c0 + 1 ≤ cm) (h5 : n0 + N ≤ sm)
    (ha : ∀ H, Pr H → H.size = a) (hP : ∀ H H1 : Heap, Pr H → H1.size = H.size + 1 → (∀ q, q < H.size → H1[q]? = H[q]?) → va_at (zG Z) vwCl (a, .inr (kd, fs)) H1 → Pr1 H1) (d : decode cc pc = .ok (.new idx, 3)) (hn : pc + 3 = n) (k : GW Pr1 A X (c0 + 1) (n0 + N) n lv (.ref a :: rest)) : GW Pr A X c0 n0 pc lv rest := by
  subst hn
  intro H locs ls hW hS hl
  have hKn := K.1 kd _ hc
  refine W.newcK C.1 C.2.1 C.2.2.2.1 (C.word h1) (C.word h2) (C.word h3) rfl d (by rw [hcm]; exact h4) (by rw [hsm]; exact h5) hKn.2.1 (ha H hW) fun H1 kC hkC e1 z1 o1 => ?_
  have z2 : H1.size = H.size + 1 := by rw [z1, ha H hW]
  have o2 : ∀ q, q < H.size → H1[q]? = H[q]? := fun q hq => o1 q (by rw [← ha H hW]; exact hq)
  exact k H1 locs ls (hP H H1 hW z2 o2 ⟨_, hc, (u_born ty C.2.2.2.2.1 hin hKn hkC e1 hty).to hfs⟩) (vaS_push hS z2 o2) hl
theorem w_new {L : List va_E} {o : va_E} {kd N idx d0 : Nat} {Rc : String} {T : u_T} (fs : List Value) (C : CX X cc own nL fr lx) (K : va_K (zG Z) vwCl [(zI Z, .int), (zH Z, .object RX2)] (xs X)) (hc : vwCl[kd]? = some (Rc, T, N)) (hin : ∀ w ∈ u_ws Rc T N, w ∈ BIG) (ty : Nat → FieldType) (hty : ∀ k, k < N → parseFieldDescriptor (T k).2.2.1 = some (ty k)) (h1 : Cond.classLink own idx Rc ∈ BIG) (h2 : Cond.instantiable Rc N ∈ BIG) (h3 : Cond.initialized Rc ∈ BIG) (hfs : ∀ j, j < N → defaultValue (ty j) = vp_V fs j) (hcm : (xR X).cells = cm) (hsm : (xR X).slots = sm) (h4 : c0 + 1 ≤ cm) (h5 : n0 + N ≤ sm)
    (hd : L.length + 1 = d0) (d : decode cc pc = .ok (.new idx, 3)) (hn : pc + 3 = n) (k : GW (PG Z lo (o :: (L ++ [.inr (kd, fs)]))) A X (c0 + 1) (n0 + N) n lv (.ref (lo + d0) :: rest)) : GW (PG Z lo (o :: L)) A X c0 n0 pc lv rest := by
  subst hd
  exact w_newG fs C K hc hin ty hty h1 h2 h3 hfs hcm hsm h4 h5 (fun H hW => hW.1) (fun H H1 hW z o1 he => hW.push z o1 he) d hn k
/-- a new row of numbers -/
theorem w_newa {L : List va_E} {o : va_E} {N d0 : Nat} {v : Int32} (C : CX X cc own nL fr lx) (K : va_K (zG Z) vwCl [(zI Z, .int), (zH Z, .object RX2)] (xs X)) (h1 : Cond.arrayClass .int ∈ BIG) (hv : ¬ v < 0) (hN : v.toNatClampNeg = N) (hN2 : N ≤ 1000) (hcm : (xR X).cells = cm) (hsm : (xR X).slots = sm) (h4 : c0 + 1 ≤ cm) (h5 : n0 + N ≤ sm)
    (hd : L.length + 1 = d0) (d : decode cc pc = .ok (.newarray .int, 2)) (hn : pc + 2 = n) (k : GW (PG Z lo (o :: (L ++ [.inl (zI Z, (N, .inl (fun _ => 0)))]))) A X (c0 + 1) (n0 + N) n lv (.ref (lo + d0) :: rest)) : GW (PG Z lo (o :: L)) A X c0 n0 pc lv (.int v :: rest) := by
  subst hn
  subst hd
  intro H locs ls hW hS hl
  refine va_newaK (atype := .int) C.1 C.2.1 (C.word (w := Cond.arrayClass (newarray.typeOf .int)) h1) rfl d rfl hv hN (show N * 4 ≤ 536870912 by omega) (by rw [hcm]; exact h4) (by rw [hsm]; exact h5) rfl fun H1 cA e1 z1 o1 hAr hNm => ?_
  have hcA : cA = zI Z := Option.some.inj (hNm.symm.trans (K.2 0 _ rfl).2)
  subst hcA
  have ez : H.size = lo + (L.length + 1) := hW.1
  rw [ez] at e1
  have := k H1 locs ls (hW.push z1 o1 e1) (vaS_push hS z1 o1) hl
  rw [← ez] at this
  exact this
/-- a field of the object that is made -/
theorem w_put {L : List va_E} {kd N idx : Nat} {Rc : String} {T : u_T} {fs : List Value} {ty : FieldType} {v : Value} (j : Nat) (C : CX X cc own nL fr lx) (K : va_K (zG Z) vwCl [(zI Z, .int), (zH Z, .object RX2)] (xs X)) (hc : vwCl[kd]? = some (Rc, T, N)) (hin : ∀ w ∈ u_ws Rc T N, w ∈ BIG) (ty0 : Nat → FieldType) (hty : ∀ k, k < N → parseFieldDescriptor (T k).2.2.1 = some (ty0 k)) (hnm : ∀ a, a < N → ∀ b, b < N → a ≠ b → (T a).2.1 ≠ (T b).2.1) (hj : j < N) (hlink : Cond.fieldLink own idx (T j).1 (T j).2.1 (T j).2.2.1 ∈ BIG)
    (hfin : (T j).2.2.2 = false ∨ ((T j).2.2.2 = true ∧ (xt X).name = "<init>" ∧ (T j).1 = own)) (hd : parseFieldDescriptor (T j).2.2.1 = some ty) (hnr : narrow ty v = v) (hfit : fits ty v = true) (hl0 : j < fs.length) (hA : A lo) (d : decode cc pc = .ok (.putfield idx, 3)) (hn : pc + 3 = n) (k : GW (PG Z lo (.inr (kd, fs.set j v) :: L)) A X c0 n0 n lv rest) : GW (PG Z lo (.inr (kd, fs) :: L)) A X c0 n0 pc lv (v :: .ref lo :: rest) := by
  subst hn
  intro H locs ls hW hS hl
  have hap := va_apart (own := own) C.2.2.2.2.1 hin ty0 hty hnm K hc
  obtain ⟨r, h1, cell, q1, q2, q3, q4⟩ := hW.2 0 _ rfl
  have hr : r = (Rc, T, N) := Option.some.inj (h1.symm.trans hc)
  subst hr
  have q1 : H[lo]? = some cell := q1
  obtain ⟨hS0, hfc, kC, hkC, hkind⟩ := K.1 kd _ hc
  obtain ⟨cf, kf, fi, f, hi, hsl⟩ := hS0 j hj
  have hlay := C.2.2.2.2.1 _ (hin _ (u_in_lay hj))
  have hst := (u_facts hfc hkC (u_lays C.2.2.2.2.1 hin hj) hi).1
  have hgo : ∀ H' : Heap, H'[lo]? = some (cell.setSlot f.slot v) → H'.size = H.size → (∀ q, q ≠ lo → H'[q]? = H[q]?) → W (xp X) (xl X) (xe X) (xR X) (xs X) (xm X) (xa X) (xb X) (xt X) (xc X) H' (locs ++ [⟨lo, f.slot⟩]) c0 n0 (xQ X) (F0 (xm X) (pc + 3) ls rest) := fun H' e1 e2 e3 => by
    rw [hsl] at e1
    exact k H' _ ls (hW.set (i := 0) (Nat.succ_pos _) e2 e3 ⟨_, hc, t_OB.to (V := updV (vp_V fs) j v) ⟨_, e1, q2, q3, t_set q4 hap hj v⟩ (fun i _ => vp_updV_set hl0 v i)⟩) (hS.put e2 e3 hA) hl
  rcases hfin with hfin | ⟨hfin, hin2, hdecl⟩
  · unfold u_lay at hlay
    rw [if_neg (by rw [hfin]; decide)] at hlay
    have h6 := u_store hfc hkC hkind hlay hi hd hnr hfit
    exact W.putK C.1 C.2.1 (f := f) ⟨C.2.2.2.1, C.word hlink, ⟨_, _, _, hi⟩, hst⟩ (by rw [q2]; exact h6) q1 q3 (by rw [hsl]; exact k2_hasslot (q4 j hj)) rfl rfl d hgo
  · unfold u_lay at hlay
    rw [if_pos hfin] at hlay
    have hcf : (xm X).cls = cf := by
      obtain ⟨_, _, c', _, _, _, -, -, hf', -, -, -, hown2, -⟩ := Cond.laysFinal_spec hlay
      have e1 : c' = cf := by have := hi.symm.trans hf'; simp at this; exact this.1.symm
      rw [hdecl] at hown2
      rw [← e1]; exact Option.some.inj (C.2.2.2.1.symm.trans hown2)
    have h6 := u_fits hfc hkC hkind (Or.inr hlay) hi hd hnr hfit
    exact W.putFinK C.1 C.2.1 C.2.2.2.1 (C.word hlink) hi hst hcf hin2 (by rw [q2]; exact h6) q1 q3 (by rw [hsl]; exact k2_hasslot (q4 j hj)) rfl rfl d hgo
theorem w_get {L : List va_E} {kd N idx : Nat} {Rc : String} {T : u_T} {fs : List Value} {v : Value} (j : Nat) (C : CX X cc own nL fr lx) (K : va_K (zG Z) vwCl [(zI Z, .int), (zH Z, .object RX2)] (xs X)) (hc : vwCl[kd]? = some (Rc, T, N)) (hin : ∀ w ∈ u_ws Rc T N, w ∈ BIG) (hj : j < N) (hlink : Cond.fieldLink own idx (T j).1 (T j).2.1 (T j).2.2.1 ∈ BIG) (hv : fs[j]? = some v) (d : decode cc pc = .ok (.getfield idx, 3)) (hn : pc + 3 = n) (k : GW (PG Z lo (.inr (kd, fs) :: L)) A X c0 n0 n lv (v :: rest)) : GW (PG Z lo (.inr (kd, fs) :: L)) A X c0 n0 pc lv (.ref lo :: rest) := by
  subst hn
  intro H locs ls hW hS hl
  refine va_get (ws := [(lo, .inr (kd, fs))]) C.1 C.2.1 C.2.2.2.2.1 hin C.2.2.2.1 K (fun i q hq => ?_) 0 rfl hc j hj (C.word hlink) (fun _ h => h) hv d (k H locs ls hW hS hl)
  have hz : i < 1 := (List.getElem?_eq_some_iff.mp hq).1
  have hi0 : i = 0 := by omega
  subst hi0
  cases hq
  exact hW.2 0 _ rfl
/-- what a constructor needs to be called -/
def YN (y : MethodName) (bytes : ByteArray) (mL k : Nat) : Prop :=
  Cond.instanceMethod y ∈ BIG ∧ Cond.initialized y.cls ∈ BIG ∧ Cond.code y bytes mL none ∈ BIG ∧ y.name = "<init>" ∧ y.cls ≠ "java/lang/invoke/MethodHandle" ∧ y.cls ≠ "java/lang/invoke/VarHandle" ∧ (parseMethodDescriptor y.desc).map (fun d => d.parameters.length) = some k
theorem w_callN {L : List va_E} {L1 : List va_E} {o : va_E} {kd idx mL rf rl mc ms d0 : Nat} {y : MethodName} {bytes : ByteArray} {host : String} {fs0 : List Value} {As : List Value} (C : CX X cc own nL fr lx) (E : EK Z (xs X)) (hM : CtN Z (xl X) y bytes mL rf rl mc ms As kd (lo + d0) fs0 (EK Z) (PG Z (lo + d0) L1)) (hY : YN y bytes mL As.length) (hl0 : Cond.methodLinkNest own idx y host ∈ NWL) (hR : rf + 1 ≤ fr ∧ 8 + (mL + 11) + rl ≤ lx) (hrest : (rest.map fun v => v.category).sum ≤ 8) (hcm : (xR X).cells = cm) (hsm : (xR X).slots = sm) (h4 : c0 + mc ≤ cm) (h5 : n0 + ms ≤ sm) (hd : L.length + 1 = d0) (d : decode cc pc = .ok (.invokespecial idx, 3)) (hn : pc + 3 = n) (hst : st = As.reverse ++ .ref (lo + d0) :: rest) (k : GW (PG Z lo (o :: (L ++ L1))) (fun q => lo ≤ q) X (c0 + mc) (n0 + ms) n lv rest) : GW (PG Z lo (o :: (L ++ [.inr (kd, fs0)]))) (fun q => lo ≤ q) X c0 n0 pc lv st := by
  subst hn
  subst hst
  subst hd
  intro H locs ls hW hS hl
  have hW1 : PG Z (lo + (L.length + 1)) [.inr (kd, fs0)] H := PG.last (L := o :: L) hW
  have hr : va_Run (xp X) (xl X) (xe X) (xR X) (xs X) (xm X) (xa X) (xb X) (xt X) (xc X) H locs c0 n0 mc ms (F0 (xm X) pc ls (As.reverse ++ .ref (lo + (L.length + 1)) :: rest)) rest (va_Qv (fun _ : Unit => True) (fun _ t => PG Z (lo + (L.length + 1)) L1 t.heap) (fun q => lo + (L.length + 1) ≤ q) (.ref (lo + (L.length + 1)) :: As).toArray) (fun q => lo + (L.length + 1) ≤ q) :=
    va_runIN (As := As) (rest := rest) C.fix hM ⟨va_cnB As.length C.2.2.2.2.1 (big_in hY.2.2.1) rfl rfl rfl (E.2.1 _ hl0) (C.word hY.2.1) ⟨hY.2.2.2.2.1, hY.2.2.2.2.2.1, hY.2.2.2.2.2.2⟩ ⟨by rw [C.2.2.2.2.2.2.2.1]; exact hR.1, by rw [C.2.2.2.2.2.2.2.2]; exact hR.2⟩, hY.2.2.2.1, C.word hY.1⟩ ⟨fun _ _ g mk q => ⟨q.1, q.2.1.blind g mk _, q.2.2⟩, fun U hU hWm => ⟨rfl, E.step hWm, by rw [hU]; exact hW1⟩⟩ rfl rfl (by show ls.size = nL; rw [hl.1, C.2.2.2.2.2.2.1]) rfl (lv_room hrest) d ⟨by rw [hcm]; exact h4, by rw [hsm]; exact h5⟩
  refine va_callv (H0 := (xs X).heap) (A0 := fun q => lo ≤ q) hr hS (fun _ _ h => Nat.le_trans (Nat.le_add_right _ _) h) (fun _ h => Nat.le_trans (Nat.le_add_right _ _) h) (fun u t H1 locs1 ht hvm hp hB hz hk hS1 => k H1 locs1 ls ?_ hS1 hl)
  have ez : H.size = lo + (L.length + 1) + 1 := hW1.1
  exact PG.join (L := o :: L) hW (by rw [← ht]; exact hB) (fun q hq => hk q (by rw [ez]; exact Nat.lt_succ_of_lt hq) (Nat.not_le.mpr hq))
end RowsN
