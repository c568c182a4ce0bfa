theorem we_189 : Cond.instanceMethod yX6_init ∈ BIG := big_t 189 (by decide +kernel) rfl
theorem we_190 : Cond.code yX6_init cX6_init 4 none ∈ BIG := big_t 190 (by decide +kernel) rfl
theorem we_191 : Cond.methodLink RX6 1 Lib.objectInit ∈ BIG := big_t 191 (by decide +kernel) rfl
theorem we_192 : Cond.methodLink RX6 13 Lib.Math.max.name ∈ BIG := big_t 192 (by decide +kernel) rfl
theorem we_195 : Cond.classLink RX6 19 RX2 ∈ BIG := big_t 195 (by decide +kernel) rfl
theorem we_7 : Cond.initialized RJ9 ∈ BIG := big_t 7 (by decide +kernel) rfl
theorem wn_e197 : Cond.methodLinkNest RX6 25 yX2_init "NextBellboy" ∈ NWL := nw_t 197 (by decide +kernel) rfl
theorem yn_X6_init : YN yX6_init cX6_init 4 2 := ⟨we_189, wd_6, we_190, rfl, by decide, by decide, by decide +kernel⟩
section RowsS
variable {Z : ZT} {Pr : Heap → Prop} {A : Nat → Prop} {X : XT} {cc : ByteArray} {own : String} {nL fr lx pc n c0 n0 cm sm lo : Nat} {lv lv' : List (Nat × Value)} {rest st : List Value}
abbrev rwE (Z : ZT) (N : Nat) (f : Nat → Option Nat) : va_E := .inl (zH Z, (N, .inr (.inr (.inr (.inr f)))))
theorem rw_congr {cA : ClassId} {N : Nat} {f g : Nat → Option Nat} (h : ∀ j, j < N → f j = g j) : vp_cell cA (N, .inr (.inr (.inr (.inr f)))) = vp_cell cA (N, .inr (.inr (.inr (.inr g)))) := by
  rw [vp_cell_q, vp_cell_q]
  unfold arrV
  have e : (fun j : Fin N => va_rf (f j.val)) = (fun j : Fin N => va_rf (g j.val)) := funext fun j => by rw [h j.val j.isLt]
  simp only [e]
theorem PG.rows {L : List va_E} {o : va_E} {N : Nat} {f g : Nat → Option Nat} {H : Heap} (h : PG Z lo (o :: rwE Z N f :: L) H) (e : ∀ j, j < N → f j = g j) : PG Z lo (o :: rwE Z N g :: L) H := by
  refine ⟨h.1, fun i e' hi => ?_⟩
  match i, hi with
  | 0, hi => exact h.2 0 e' hi
  | 1, hi =>
    cases hi
    have q := h.2 1 _ rfl
    show H[lo + 1]? = some (vp_cell (zH Z) (N, .inr (.inr (.inr (.inr g)))))
    rw [← rw_congr e]
    exact q
  | i + 2, hi => exact h.2 (i + 2) e' hi
theorem w_anew {L : List va_E} {o : va_E} {N idx d0 : Nat} {v : Int32} (C : CX X cc own nL fr lx) (E : EK Z (xs X)) (h1 : Cond.classLink own idx RX2 ∈ BIG) (hv : ¬ v < 0) (hN : v.toNatClampNeg = N) (hN2 : N ≤ 1000) (hcm : (xR X).cells = cm) (hsm : (xR X).slots = sm) (h4 : c0 + 1 ≤ cm) (h5 : n0 + N ≤ sm)
    (hd : L.length + 1 = d0) (d : decode cc pc = .ok (.anewarray idx, 3)) (hn : pc + 3 = n) (k : GW (PG Z lo (o :: (L ++ [rwE Z N (fun _ => none)]))) A X (c0 + 1) (n0 + N) n lv (.ref (lo + d0) :: rest)) : GW (PG Z lo (o :: L)) A X c0 n0 pc lv (.int v :: rest) := by
  subst hn
  subst hd
  subst hN
  intro H locs ls hW hS hl
  refine W.anew C.1 C.2.1 C.2.2.2.1 (C.word h1) (va_AO.use E.2.2) rfl d rfl hv (by omega) (by rw [hcm]; exact h4) (by rw [hsm]; exact h5) fun cA kA comp f1 f2 f3 f4 => ?_
  generalize hH1 : H.push ({ cls := cA, slots := Array.replicate v.toNatClampNeg .null, vm := .none } : Cell) = H1
  have z1 : H1.size = H.size + 1 := by rw [← hH1, Array.size_push]
  have e1 : H1[H.size]? = some (arrV cA v.toNatClampNeg (fun _ => .null)) := by rw [← hH1, Array.getElem?_push_size, ← arrV_new]
  have o1 : ∀ q : Nat, q < H.size → H1[q]? = H[q]? := fun q hq => by rw [← hH1, Array.getElem?_push, if_neg (Nat.ne_of_lt hq)]
  obtain ⟨_, _, -, -, -, k4⟩ := (E.1.2 1 _ rfl).2
  have hcA : cA = zH Z := Option.some.inj (f1.symm.trans k4)
  subst hcA
  have ez : H.size = lo + (L.length + 1) := hW.1
  rw [ez] at e1
  have := k H1 locs ls (hW.push z1 o1 (by show H1[_]? = some (vp_cell _ _); rw [vp_cell_q]; exact e1)) (vaS_push hS z1 o1) hl
  rw [← ez] at this
  exact this
theorem w_alenR {L : List va_E} {o : va_E} {N : Nat} {f : Nat → Option Nat} (v : Int32) (C : CX X cc own nL fr lx) (E : EK Z (xs X)) (hv : Int32.ofNat N = v) (d : decode cc pc = .ok (.arraylength, 1)) (hn : pc + 1 = n) (k : GW (PG Z lo (o :: rwE Z N f :: L)) A X c0 n0 n lv (.int v :: rest)) : GW (PG Z lo (o :: rwE Z N f :: L)) A X c0 n0 pc lv (.ref (lo + 1) :: rest) := by
  subst hn
  intro H locs ls hW hS hl
  refine va_alen (ws := [(lo + 1, rwE Z N f)]) C.1 C.2.1 E.1 (fun i q hq => ?_) 0 1 rfl rfl hv d (k H locs ls hW hS hl)
  have hz : i < 1 := (List.getElem?_eq_some_iff.mp hq).1
  have hi0 : i = 0 := by omega
  subst hi0
  cases hq
  exact hW.2 1 _ rfl
theorem w_aast {L : List va_E} {o : va_E} {N kx a : Nat} {vs : List Value} {f : Nat → Option Nat} {i : Int32} (C : CX X cc own nL fr lx) (E : EK Z (xs X)) (hin : vp_in i N) (hk : L[kx]? = some (.inr (2, vs))) (ha : kx + 2 = a) (hA : A (lo + 1)) (d : decode cc pc = .ok (.aastore, 1)) (hn : pc + 1 = n) (k : GW (PG Z lo (o :: rwE Z N (va_up f i.toNatClampNeg (some (lo + a))) :: L)) A X c0 n0 n lv rest) : GW (PG Z lo (o :: rwE Z N f :: L)) A X c0 n0 pc lv (.ref (lo + a) :: .int i :: .ref (lo + 1) :: rest) := by
  subst hn
  subst ha
  intro H locs ls hW hS hl
  have hlt : i.toNatClampNeg < N := Nat.not_le.mp fun q => hin (Or.inr q)
  have h0 : ¬ i < 0 := fun q => hin (Or.inl q)
  obtain ⟨r', hr', cellV, g1, g2, g3, -⟩ := hW.2 (kx + 2) _ hk
  have g1 : H[lo + (kx + 2)]? = some cellV := g1
  have g2 : cellV.cls = (zG Z).1 2 := g2
  have hcls := (E.1.1 2 _ rfl).2
  obtain ⟨kA, comp, k1, k2, k3, -⟩ := (E.1.2 1 _ rfl).2
  have hcomp : comp = (zG Z).1 2 := Option.some.inj (k3.symm.trans hcls.1)
  subst hcomp
  obtain ⟨kC, hkC, -⟩ := hcls.2
  have hrow : H[lo + 1]? = some (vp_cell (zH Z) (N, .inr (.inr (.inr (.inr f))))) := hW.2 1 _ rfl
  refine W.aast C.1 C.2.1 hrow (fun q h => by cases h) (fun h => by cases h) k1 k2 rfl hkC ⟨h0, by show _ < (arrV _ _ _).slots.size; rw [arrV_size]; exact hlt⟩ g1 (fun q h => by rw [g3] at h; cases h) (by rw [g2]; exact hkC) (by rw [g2]; exact va_assign hcls) rfl rfl d fun H1 e z oq => ?_
  refine k H1 _ ls (hW.set (i := 1) (by show 1 < _ + 1 + 1; omega) z oq ?_) (hS.put z oq hA) hl
  show H1[lo + 1]? = some (vp_cell _ _)
  rw [e]
  rw [vp_cell_q, vp_cell_q, arrV_store]
  congr 2
  funext q
  by_cases hq : q = i.toNatClampNeg
  · subst hq
    simp [updV, va_up, va_rf]
  · simp [updV, va_up, hq]
end RowsS
def bShelf8 (Z : ZT) (lo p : Nat) (g : Nat → Option Nat) : List va_E := .inr (6, [.ref (lo + 1), .int 0]) :: rwE Z 8 g :: (bHouse Z (lo + 2) p ++ bHouse Z (lo + 10) p ++ bHouse Z (lo + 18) p ++ bHouse Z (lo + 26) p ++ bHouse Z (lo + 34) p ++ bHouse Z (lo + 42) p ++ bHouse Z (lo + 50) p ++ bHouse Z (lo + 58) p)
set_option maxHeartbeats 8000000 in
set_option maxRecDepth 100000 in
theorem c_Shelf8_init {Z : ZT} (l : Launch) (lo p : Nat) (g : Nat → Option Nat) (hg : ∀ j, j < 8 → g j = some (lo + (2 + 8 * j))) : CtN Z l yX6_init cX6_init 4 2 33 65 480 [.ref p, .int (8 : Int32)] 6 lo dfX6 (EK Z) (PG Z lo (bShelf8 Z lo p g)) := by
  refine ctN (own := RX6) rfl (by decide) rfl (Nat.le_of_ble_eq_true rfl) (fun X C E hr hin2 hcm hsm hQ _ => ?_)
  show GW _ _ X 0 0 0 [(0, .ref lo), (1, .ref p), (2, .int (8 : Int32))] []
  refine h_aload_n (n := 1) (i := 0) C dX6_init_0 rfl 0 rfl rfl ?_
  refine h_obj (n := 4) C we_191 we_22 we_23 (Nat.le_of_ble_eq_true rfl) (Nat.le_of_ble_eq_true rfl) dX6_init_1 rfl ?_
  refine h_aload_n (n := 5) (i := 0) C dX6_init_4 rfl 0 rfl rfl ?_
  refine h_iconst (n := 6) (0 : Int32) C dX6_init_5 (by decide) rfl ?_
  refine w_put (n := 9) (kd := 6) (ty := tyX6 1) 1 C E.1 rfl inB6 tyX6 tyX6_ok nmX6 (by decide) wd_199 (Or.inl rfl) (tyX6_ok 1 (by decide)) rfl rfl (Nat.le_of_ble_eq_true rfl) (Nat.le_refl _) dX6_init_6 rfl ?_
  refine h_aload_n (n := 10) (i := 0) C dX6_init_9 rfl 0 rfl rfl ?_
  refine h_iconst (n := 11) (1 : Int32) C dX6_init_10 (by decide) rfl ?_
  refine h_iload_n (n := 12) (i := 2) C dX6_init_11 rfl 2 rfl rfl ?_
  refine h_mmax (n := 15) C we_192 wq_193 we_7 wq_194 (Nat.zero_le _) (Nat.zero_le _) (Nat.le_of_ble_eq_true rfl) (Nat.le_of_ble_eq_true rfl) dX6_init_12 rfl ?_
  refine w_anew (n := 18) (N := 8) (d0 := 1) C E we_195 (by decide) (by decide) (Nat.le_of_ble_eq_true rfl) hcm hsm (Nat.le_of_ble_eq_true rfl) (Nat.le_of_ble_eq_true rfl) rfl dX6_init_15 rfl ?_
  refine w_put (n := 21) (kd := 6) (ty := tyX6 0) 0 C E.1 rfl inB6 tyX6 tyX6_ok nmX6 (by decide) wd_198 (Or.inr ⟨rfl, hin2, rfl⟩) (tyX6_ok 0 (by decide)) rfl rfl (Nat.le_of_ble_eq_true rfl) (Nat.le_refl _) dX6_init_18 rfl ?_
  refine h_iconst (n := 22) (0 : Int32) C dX6_init_21 (by decide) rfl ?_
  refine h_istore_n (n := 23) (i := 3) (lv' := [(0, .ref lo), (1, .ref p), (2, .int (8 : Int32))]) C dX6_init_22 rfl (by decide) rfl rfl (fun z ez => ?_)
  subst ez
  show GW (PG Z lo (.inr (6, [.ref (lo + 1), .int 0]) :: rwE Z 8 (fun _ => none) :: [])) _ X _ _ 23 [(3, .int (0 : Int32)), (0, .ref lo), (1, .ref p), (2, .int (8 : Int32))] []
  refine h_iload_n (n := 24) (i := 3) C dX6_init_23 rfl 0 rfl rfl ?_
  refine h_aload_n (n := 25) (i := 0) C dX6_init_24 rfl 1 rfl rfl ?_
  refine w_get (n := 28) (kd := 6) (v := .ref (lo + 1)) 0 C E.1 rfl inB6 (by decide) wd_198 rfl dX6_init_25 rfl ?_
  refine w_alenR (n := 29) (8 : Int32) C E (by decide) dX6_init_28 rfl ?_
  refine h_icmp_ge (n := 32) (tgt := 52) C dX6_init_29 (by decide) rfl (fun c => absurd c (by decide)) (fun c => ?_)
  refine h_aload_n (n := 33) (i := 0) C dX6_init_32 rfl 1 rfl rfl ?_
  refine w_get (n := 36) (kd := 6) (v := .ref (lo + 1)) 0 C E.1 rfl inB6 (by decide) wd_198 rfl dX6_init_33 rfl ?_
  refine h_iload_n (n := 37) (i := 3) C dX6_init_36 rfl 0 rfl rfl ?_
  refine w_new (n := 40) (kd := 2) (d0 := 2) dfX2 C E.1 rfl inB2 tyX2 tyX2_ok we_195 we_94 wd_4 (fun j hj => by rcases (show j = 0 ∨ j = 1 ∨ j = 2 ∨ j = 3 ∨ j = 4 ∨ j = 5 ∨ j = 6 ∨ j = 7 ∨ j = 8 ∨ j = 9 by omega) with rfl | rfl | rfl | rfl | rfl | rfl | rfl | rfl | rfl | rfl <;> rfl) hcm hsm (Nat.le_of_ble_eq_true rfl) (Nat.le_of_ble_eq_true rfl) rfl dX6_init_37 rfl ?_
  refine h_dup (n := 41) C dX6_init_40 rfl rfl ?_
  refine h_aload_n (n := 42) (i := 1) C dX6_init_41 rfl 2 rfl rfl ?_
  refine w_callN (n := 45) (d0 := 2) (As := [.ref p]) (L1 := bHouse Z (lo + 2) p) C E (c_House_init _ (lo + 2) p) yn_X2_init wn_e197 ⟨(Nat.le_of_ble_eq_true rfl), (Nat.le_of_ble_eq_true rfl)⟩ (Nat.le_of_ble_eq_true rfl) hcm hsm (Nat.le_of_ble_eq_true rfl) (Nat.le_of_ble_eq_true rfl) rfl dX6_init_42 rfl rfl ?_
  refine w_aast (n := 46) (N := 8) (kx := 0) (f := (fun _ => none)) (L := bHouse Z (lo + 2) p) C E (vp_in_nI (n := 0) (N := 8) (by decide) (by decide)) rfl rfl (Nat.le_succ _) dX6_init_45 rfl ?_
  refine h_iinc (n := 49) (i := 3) (v := (1 : Int32)) (lv' := [(0, .ref lo), (1, .ref p), (2, .int (8 : Int32))]) C dX6_init_46 0 rfl (by decide) (by decide) rfl rfl (fun z ez => ?_)
  have ez : z = (1 : Int32) := ez.trans (by decide)
  subst ez
  refine h_goto (tgt := 23) C dX6_init_49 (by decide) ?_
  show GW (PG Z lo (.inr (6, [.ref (lo + 1), .int 0]) :: rwE Z 8 (va_up (fun _ => none) (0 : Int32).toNatClampNeg (some (lo + 2))) :: bHouse Z (lo + 2) p)) _ X _ _ 23 [(3, .int (1 : Int32)), (0, .ref lo), (1, .ref p), (2, .int (8 : Int32))] []
  refine h_iload_n (n := 24) (i := 3) C dX6_init_23 rfl 0 rfl rfl ?_
  refine h_aload_n (n := 25) (i := 0) C dX6_init_24 rfl 1 rfl rfl ?_
  refine w_get (n := 28) (kd := 6) (v := .ref (lo + 1)) 0 C E.1 rfl inB6 (by decide) wd_198 rfl dX6_init_25 rfl ?_
  refine w_alenR (n := 29) (8 : Int32) C E (by decide) dX6_init_28 rfl ?_
  refine h_icmp_ge (n := 32) (tgt := 52) C dX6_init_29 (by decide) rfl (fun c => absurd c (by decide)) (fun c => ?_)
  refine h_aload_n (n := 33) (i := 0) C dX6_init_32 rfl 1 rfl rfl ?_
  refine w_get (n := 36) (kd := 6) (v := .ref (lo + 1)) 0 C E.1 rfl inB6 (by decide) wd_198 rfl dX6_init_33 rfl ?_
  refine h_iload_n (n := 37) (i := 3) C dX6_init_36 rfl 0 rfl rfl ?_
  refine w_new (n := 40) (kd := 2) (d0 := 10) dfX2 C E.1 rfl inB2 tyX2 tyX2_ok we_195 we_94 wd_4 (fun j hj => by rcases (show j = 0 ∨ j = 1 ∨ j = 2 ∨ j = 3 ∨ j = 4 ∨ j = 5 ∨ j = 6 ∨ j = 7 ∨ j = 8 ∨ j = 9 by omega) with rfl | rfl | rfl | rfl | rfl | rfl | rfl | rfl | rfl | rfl <;> rfl) hcm hsm (Nat.le_of_ble_eq_true rfl) (Nat.le_of_ble_eq_true rfl) rfl dX6_init_37 rfl ?_
  refine h_dup (n := 41) C dX6_init_40 rfl rfl ?_
  refine h_aload_n (n := 42) (i := 1) C dX6_init_41 rfl 2 rfl rfl ?_
  refine w_callN (n := 45) (d0 := 10) (As := [.ref p]) (L1 := bHouse Z (lo + 10) p) C E (c_House_init _ (lo + 10) p) yn_X2_init wn_e197 ⟨(Nat.le_of_ble_eq_true rfl), (Nat.le_of_ble_eq_true rfl)⟩ (Nat.le_of_ble_eq_true rfl) hcm hsm (Nat.le_of_ble_eq_true rfl) (Nat.le_of_ble_eq_true rfl) rfl dX6_init_42 rfl rfl ?_
  refine w_aast (n := 46) (N := 8) (kx := 8) (f := (va_up (fun _ => none) (0 : Int32).toNatClampNeg (some (lo + 2)))) (L := (bHouse Z (lo + 2) p ++ bHouse Z (lo + 10) p)) C E (vp_in_nI (n := 1) (N := 8) (by decide) (by decide)) rfl rfl (Nat.le_succ _) dX6_init_45 rfl ?_
  refine h_iinc (n := 49) (i := 3) (v := (1 : Int32)) (lv' := [(0, .ref lo), (1, .ref p), (2, .int (8 : Int32))]) C dX6_init_46 0 rfl (by decide) (by decide) rfl rfl (fun z ez => ?_)
  have ez : z = (2 : Int32) := ez.trans (by decide)
  subst ez
  refine h_goto (tgt := 23) C dX6_init_49 (by decide) ?_
  show GW (PG Z lo (.inr (6, [.ref (lo + 1), .int 0]) :: rwE Z 8 (va_up (va_up (fun _ => none) (0 : Int32).toNatClampNeg (some (lo + 2))) (1 : Int32).toNatClampNeg (some (lo + 10))) :: (bHouse Z (lo + 2) p ++ bHouse Z (lo + 10) p))) _ X _ _ 23 [(3, .int (2 : Int32)), (0, .ref lo), (1, .ref p), (2, .int (8 : Int32))] []
  refine h_iload_n (n := 24) (i := 3) C dX6_init_23 rfl 0 rfl rfl ?_
  refine h_aload_n (n := 25) (i := 0) C dX6_init_24 rfl 1 rfl rfl ?_
  refine w_get (n := 28) (kd := 6) (v := .ref (lo + 1)) 0 C E.1 rfl inB6 (by decide) wd_198 rfl dX6_init_25 rfl ?_
  refine w_alenR (n := 29) (8 : Int32) C E (by decide) dX6_init_28 rfl ?_
  refine h_icmp_ge (n := 32) (tgt := 52) C dX6_init_29 (by decide) rfl (fun c => absurd c (by decide)) (fun c => ?_)
  refine h_aload_n (n := 33) (i := 0) C dX6_init_32 rfl 1 rfl rfl ?_
  refine w_get (n := 36) (kd := 6) (v := .ref (lo + 1)) 0 C E.1 rfl inB6 (by decide) wd_198 rfl dX6_init_33 rfl ?_
  refine h_iload_n (n := 37) (i := 3) C dX6_init_36 rfl 0 rfl rfl ?_
  refine w_new (n := 40) (kd := 2) (d0 := 18) dfX2 C E.1 rfl inB2 tyX2 tyX2_ok we_195 we_94 wd_4 (fun j hj => by rcases (show j = 0 ∨ j = 1 ∨ j = 2 ∨ j = 3 ∨ j = 4 ∨ j = 5 ∨ j = 6 ∨ j = 7 ∨ j = 8 ∨ j = 9 by omega) with rfl | rfl | rfl | rfl | rfl | rfl | rfl | rfl | rfl | rfl <;> rfl) hcm hsm (Nat.le_of_ble_eq_true rfl) (Nat.le_of_ble_eq_true rfl) rfl dX6_init_37 rfl ?_
  refine h_dup (n := 41) C dX6_init_40 rfl rfl ?_
  refine h_aload_n (n := 42) (i := 1) C dX6_init_41 rfl 2 rfl rfl ?_
  refine w_callN (n := 45) (d0 := 18) (As := [.ref p]) (L1 := bHouse Z (lo + 18) p) C E (c_House_init _ (lo + 18) p) yn_X2_init wn_e197 ⟨(Nat.le_of_ble_eq_true rfl), (Nat.le_of_ble_eq_true rfl)⟩ (Nat.le_of_ble_eq_true rfl) hcm hsm (Nat.le_of_ble_eq_true rfl) (Nat.le_of_ble_eq_true rfl) rfl dX6_init_42 rfl rfl ?_
  refine w_aast (n := 46) (N := 8) (kx := 16) (f := (va_up (va_up (fun _ => none) (0 : Int32).toNatClampNeg (some (lo + 2))) (1 : Int32).toNatClampNeg (some (lo + 10)))) (L := (bHouse Z (lo + 2) p ++ bHouse Z (lo + 10) p ++ bHouse Z (lo + 18) p)) C E (vp_in_nI (n := 2) (N := 8) (by decide) (by decide)) rfl rfl (Nat.le_succ _) dX6_init_45 rfl ?_
  refine h_iinc (n := 49) (i := 3) (v := (1 : Int32)) (lv' := [(0, .ref lo), (1, .ref p), (2, .int (8 : Int32))]) C dX6_init_46 0 rfl (by decide) (by decide) rfl rfl (fun z ez => ?_)
  have ez : z = (3 : Int32) := ez.trans (by decide)
  subst ez
  refine h_goto (tgt := 23) C dX6_init_49 (by decide) ?_
  show GW (PG Z lo (.inr (6, [.ref (lo + 1), .int 0]) :: rwE Z 8 (va_up (va_up (va_up (fun _ => none) (0 : Int32).toNatClampNeg (some (lo + 2))) (1 : Int32).toNatClampNeg (some (lo + 10))) (2 : Int32).toNatClampNeg (some (lo + 18))) :: (bHouse Z (lo + 2) p ++ bHouse Z (lo + 10) p ++ bHouse Z (lo + 18) p))) _ X _ _ 23 [(3, .int (3 : Int32)), (0, .ref lo), (1, .ref p), (2, .int (8 : Int32))] []
  refine h_iload_n (n := 24) (i := 3) C dX6_init_23 rfl 0 rfl rfl ?_
  refine h_aload_n (n := 25) (i := 0) C dX6_init_24 rfl 1 rfl rfl ?_
  refine w_get (n := 28) (kd := 6) (v := .ref (lo + 1)) 0 C E.1 rfl inB6 (by decide) wd_198 rfl dX6_init_25 rfl ?_
  refine w_alenR (n := 29) (8 : Int32) C E (by decide) dX6_init_28 rfl ?_
  refine h_icmp_ge (n := 32) (tgt := 52) C dX6_init_29 (by decide) rfl (fun c => absurd c (by decide)) (fun c => ?_)
  refine h_aload_n (n := 33) (i := 0) C dX6_init_32 rfl 1 rfl rfl ?_
  refine w_get (n := 36) (kd := 6) (v := .ref (lo + 1)) 0 C E.1 rfl inB6 (by decide) wd_198 rfl dX6_init_33 rfl ?_
  refine h_iload_n (n := 37) (i := 3) C dX6_init_36 rfl 0 rfl rfl ?_
  refine w_new (n := 40) (kd := 2) (d0 := 26) dfX2 C E.1 rfl inB2 tyX2 tyX2_ok we_195 we_94 wd_4 (fun j hj => by rcases (show j = 0 ∨ j = 1 ∨ j = 2 ∨ j = 3 ∨ j = 4 ∨ j = 5 ∨ j = 6 ∨ j = 7 ∨ j = 8 ∨ j = 9 by omega) with rfl | rfl | rfl | rfl | rfl | rfl | rfl | rfl | rfl | rfl <;> rfl) hcm hsm (Nat.le_of_ble_eq_true rfl) (Nat.le_of_ble_eq_true rfl) rfl dX6_init_37 rfl ?_
  refine h_dup (n := 41) C dX6_init_40 rfl rfl ?_
  refine h_aload_n (n := 42) (i := 1) C dX6_init_41 rfl 2 rfl rfl ?_
  refine w_callN (n := 45) (d0 := 26) (As := [.ref p]) (L1 := bHouse Z (lo + 26) p) C E (c_House_init _ (lo + 26) p) yn_X2_init wn_e197 ⟨(Nat.le_of_ble_eq_true rfl), (Nat.le_of_ble_eq_true rfl)⟩ (Nat.le_of_ble_eq_true rfl) hcm hsm (Nat.le_of_ble_eq_true rfl) (Nat.le_of_ble_eq_true rfl) rfl dX6_init_42 rfl rfl ?_
  refine w_aast (n := 46) (N := 8) (kx := 24) (f := (va_up (va_up (va_up (fun _ => none) (0 : Int32).toNatClampNeg (some (lo + 2))) (1 : Int32).toNatClampNeg (some (lo + 10))) (2 : Int32).toNatClampNeg (some (lo + 18)))) (L := (bHouse Z (lo + 2) p ++ bHouse Z (lo + 10) p ++ bHouse Z (lo + 18) p ++ bHouse Z (lo + 26) p)) C E (vp_in_nI (n := 3) (N := 8) (by decide) (by decide)) rfl rfl (Nat.le_succ _) dX6_init_45 rfl ?_
  refine h_iinc (n := 49) (i := 3) (v := (1 : Int32)) (lv' := [(0, .ref lo), (1, .ref p), (2, .int (8 : Int32))]) C dX6_init_46 0 rfl (by decide) (by decide) rfl rfl (fun z ez => ?_)
  have ez : z = (4 : Int32) := ez.trans (by decide)
  subst ez
  refine h_goto (tgt := 23) C dX6_init_49 (by decide) ?_
  show GW (PG Z lo (.inr (6, [.ref (lo + 1), .int 0]) :: rwE Z 8 (va_up (va_up (va_up (va_up (fun _ => none) (0 : Int32).toNatClampNeg (some (lo + 2))) (1 : Int32).toNatClampNeg (some (lo + 10))) (2 : Int32).toNatClampNeg (some (lo + 18))) (3 : Int32).toNatClampNeg (some (lo + 26))) :: (bHouse Z (lo + 2) p ++ bHouse Z (lo + 10) p ++ bHouse Z (lo + 18) p ++ bHouse Z (lo + 26) p))) _ X _ _ 23 [(3, .int (4 : Int32)), (0, .ref lo), (1, .ref p), (2, .int (8 : Int32))] []
  refine h_iload_n (n := 24) (i := 3) C dX6_init_23 rfl 0 rfl rfl ?_
  refine h_aload_n (n := 25) (i := 0) C dX6_init_24 rfl 1 rfl rfl ?_
  refine w_get (n := 28) (kd := 6) (v := .ref (lo + 1)) 0 C E.1 rfl inB6 (by decide) wd_198 rfl dX6_init_25 rfl ?_
  refine w_alenR (n := 29) (8 : Int32) C E (by decide) dX6_init_28 rfl ?_
  refine h_icmp_ge (n := 32) (tgt := 52) C dX6_init_29 (by decide) rfl (fun c => absurd c (by decide)) (fun c => ?_)
  refine h_aload_n (n := 33) (i := 0) C dX6_init_32 rfl 1 rfl rfl ?_
  refine w_get (n := 36) (kd := 6) (v := .ref (lo + 1)) 0 C E.1 rfl inB6 (by decide) wd_198 rfl dX6_init_33 rfl ?_
  refine h_iload_n (n := 37) (i := 3) C dX6_init_36 rfl 0 rfl rfl ?_
  refine w_new (n := 40) (kd := 2) (d0 := 34) dfX2 C E.1 rfl inB2 tyX2 tyX2_ok we_195 we_94 wd_4 (fun j hj => by rcases (show j = 0 ∨ j = 1 ∨ j = 2 ∨ j = 3 ∨ j = 4 ∨ j = 5 ∨ j = 6 ∨ j = 7 ∨ j = 8 ∨ j = 9 by omega) with rfl | rfl | rfl | rfl | rfl | rfl | rfl | rfl | rfl | rfl <;> rfl) hcm hsm (Nat.le_of_ble_eq_true rfl) (Nat.le_of_ble_eq_true rfl) rfl dX6_init_37 rfl ?_
  refine h_dup (n := 41) C dX6_init_40 rfl rfl ?_
  refine h_aload_n (n := 42) (i := 1) C dX6_init_41 rfl 2 rfl rfl ?_
  refine w_callN (n := 45) (d0 := 34) (As := [.ref p]) (L1 := bHouse Z (lo + 34) p) C E (c_House_init _ (lo + 34) p) yn_X2_init wn_e197 ⟨(Nat.le_of_ble_eq_true rfl), (Nat.le_of_ble_eq_true rfl)⟩ (Nat.le_of_ble_eq_true rfl) hcm hsm (Nat.le_of_ble_eq_true rfl) (Nat.le_of_ble_eq_true rfl) rfl dX6_init_42 rfl rfl ?_
  refine w_aast (n := 46) (N := 8) (kx := 32) (f := (va_up (va_up (va_up (va_up (fun _ => none) (0 : Int32).toNatClampNeg (some (lo + 2))) (1 : Int32).toNatClampNeg (some (lo + 10))) (2 : Int32).toNatClampNeg (some (lo + 18))) (3 : Int32).toNatClampNeg (some (lo + 26)))) (L := (bHouse Z (lo + 2) p ++ bHouse Z (lo + 10) p ++ bHouse Z (lo + 18) p ++ bHouse Z (lo + 26) p ++ bHouse Z (lo + 34) p)) C E (vp_in_nI (n := 4) (N := 8) (by decide) (by decide)) rfl rfl (Nat.le_succ _) dX6_init_45 rfl ?_
  refine h_iinc (n := 49) (i := 3) (v := (1 : Int32)) (lv' := [(0, .ref lo), (1, .ref p), (2, .int (8 : Int32))]) C dX6_init_46 0 rfl (by decide) (by decide) rfl rfl (fun z ez => ?_)
  have ez : z = (5 : Int32) := ez.trans (by decide)
  subst ez
  refine h_goto (tgt := 23) C dX6_init_49 (by decide) ?_
  show GW (PG Z lo (.inr (6, [.ref (lo + 1), .int 0]) :: rwE Z 8 (va_up (va_up (va_up (va_up (va_up (fun _ => none) (0 : Int32).toNatClampNeg (some (lo + 2))) (1 : Int32).toNatClampNeg (some (lo + 10))) (2 : Int32).toNatClampNeg (some (lo + 18))) (3 : Int32).toNatClampNeg (some (lo + 26))) (4 : Int32).toNatClampNeg (some (lo + 34))) :: (bHouse Z (lo + 2) p ++ bHouse Z (lo + 10) p ++ bHouse Z (lo + 18) p ++ bHouse Z (lo + 26) p ++ bHouse Z (lo + 34) p))) _ X _ _ 23 [(3, .int (5 : Int32)), (0, .ref lo), (1, .ref p), (2, .int (8 : Int32))] []
  refine h_iload_n (n := 24) (i := 3) C dX6_init_23 rfl 0 rfl rfl ?_
  refine h_aload_n (n := 25) (i := 0) C dX6_init_24 rfl 1 rfl rfl ?_
  refine w_get (n := 28) (kd := 6) (v := .ref (lo + 1)) 0 C E.1 rfl inB6 (by decide) wd_198 rfl dX6_init_25 rfl ?_
  refine w_alenR (n := 29) (8 : Int32) C E (by decide) dX6_init_28 rfl ?_
  refine h_icmp_ge (n := 32) (tgt := 52) C dX6_init_29 (by decide) rfl (fun c => absurd c (by decide)) (fun c => ?_)
  refine h_aload_n (n := 33) (i := 0) C dX6_init_32 rfl 1 rfl rfl ?_
  refine w_get (n := 36) (kd := 6) (v := .ref (lo + 1)) 0 C E.1 rfl inB6 (by decide) wd_198 rfl dX6_init_33 rfl ?_
  refine h_iload_n (n := 37) (i := 3) C dX6_init_36 rfl 0 rfl rfl ?_
  refine w_new (n := 40) (kd := 2) (d0 := 42) dfX2 C E.1 rfl inB2 tyX2 tyX2_ok we_195 we_94 wd_4 (fun j hj => by rcases (show j = 0 ∨ j = 1 ∨ j = 2 ∨ j = 3 ∨ j = 4 ∨ j = 5 ∨ j = 6 ∨ j = 7 ∨ j = 8 ∨ j = 9 by omega) with rfl | rfl | rfl | rfl | rfl | rfl | rfl | rfl | rfl | rfl <;> rfl) hcm hsm (Nat.le_of_ble_eq_true rfl) (Nat.le_of_ble_eq_true rfl) rfl dX6_init_37 rfl ?_
  refine h_dup (n := 41) C dX6_init_40 rfl rfl ?_
  refine h_aload_n (n := 42) (i := 1) C dX6_init_41 rfl 2 rfl rfl ?_
  refine w_callN (n := 45) (d0 := 42) (As := [.ref p]) (L1 := bHouse Z (lo + 42) p) C E (c_House_init _ (lo + 42) p) yn_X2_init wn_e197 ⟨(Nat.le_of_ble_eq_true rfl), (Nat.le_of_ble_eq_true rfl)⟩ (Nat.le_of_ble_eq_true rfl) hcm hsm (Nat.le_of_ble_eq_true rfl) (Nat.le_of_ble_eq_true rfl) rfl dX6_init_42 rfl rfl ?_
  refine w_aast (n := 46) (N := 8) (kx := 40) (f := (va_up (va_up (va_up (va_up (va_up (fun _ => none) (0 : Int32).toNatClampNeg (some (lo + 2))) (1 : Int32).toNatClampNeg (some (lo + 10))) (2 : Int32).toNatClampNeg (some (lo + 18))) (3 : Int32).toNatClampNeg (some (lo + 26))) (4 : Int32).toNatClampNeg (some (lo + 34)))) (L := (bHouse Z (lo + 2) p ++ bHouse Z (lo + 10) p ++ bHouse Z (lo + 18) p ++ bHouse Z (lo + 26) p ++ bHouse Z (lo + 34) p ++ bHouse Z (lo + 42) p)) C E (vp_in_nI (n := 5) (N := 8) (by decide) (by decide)) rfl rfl (Nat.le_succ _) dX6_init_45 rfl ?_
  refine h_iinc (n := 49) (i := 3) (v := (1 : Int32)) (lv' := [(0, .ref lo), (1, .ref p), (2, .int (8 : Int32))]) C dX6_init_46 0 rfl (by decide) (by decide) rfl rfl (fun z ez => ?_)
  have ez : z = (6 : Int32) := ez.trans (by decide)
  subst ez
  refine h_goto (tgt := 23) C dX6_init_49 (by decide) ?_
  show GW (PG Z lo (.inr (6, [.ref (lo + 1), .int 0]) :: rwE Z 8 (va_up (va_up (va_up (va_up (va_up (va_up (fun _ => none) (0 : Int32).toNatClampNeg (some (lo + 2))) (1 : Int32).toNatClampNeg (some (lo + 10))) (2 : Int32).toNatClampNeg (some (lo + 18))) (3 : Int32).toNatClampNeg (some (lo + 26))) (4 : Int32).toNatClampNeg (some (lo + 34))) (5 : Int32).toNatClampNeg (some (lo + 42))) :: (bHouse Z (lo + 2) p ++ bHouse Z (lo + 10) p ++ bHouse Z (lo + 18) p ++ bHouse Z (lo + 26) p ++ bHouse Z (lo + 34) p ++ bHouse Z (lo + 42) p))) _ X _ _ 23 [(3, .int (6 : Int32)), (0, .ref lo), (1, .ref p), (2, .int (8 : Int32))] []
  refine h_iload_n (n := 24) (i := 3) C dX6_init_23 rfl 0 rfl rfl ?_
  refine h_aload_n (n := 25) (i := 0) C dX6_init_24 rfl 1 rfl rfl ?_
  refine w_get (n := 28) (kd := 6) (v := .ref (lo + 1)) 0 C E.1 rfl inB6 (by decide) wd_198 rfl dX6_init_25 rfl ?_
  refine w_alenR (n := 29) (8 : Int32) C E (by decide) dX6_init_28 rfl ?_
  refine h_icmp_ge (n := 32) (tgt := 52) C dX6_init_29 (by decide) rfl (fun c => absurd c (by decide)) (fun c => ?_)
  refine h_aload_n (n := 33) (i := 0) C dX6_init_32 rfl 1 rfl rfl ?_
  refine w_get (n := 36) (kd := 6) (v := .ref (lo + 1)) 0 C E.1 rfl inB6 (by decide) wd_198 rfl dX6_init_33 rfl ?_
  refine h_iload_n (n := 37) (i := 3) C dX6_init_36 rfl 0 rfl rfl ?_
  refine w_new (n := 40) (kd := 2) (d0 := 50) dfX2 C E.1 rfl inB2 tyX2 tyX2_ok we_195 we_94 wd_4 (fun j hj => by rcases (show j = 0 ∨ j = 1 ∨ j = 2 ∨ j = 3 ∨ j = 4 ∨ j = 5 ∨ j = 6 ∨ j = 7 ∨ j = 8 ∨ j = 9 by omega) with rfl | rfl | rfl | rfl | rfl | rfl | rfl | rfl | rfl | rfl <;> rfl) hcm hsm (Nat.le_of_ble_eq_true rfl) (Nat.le_of_ble_eq_true rfl) rfl dX6_init_37 rfl ?_
  refine h_dup (n := 41) C dX6_init_40 rfl rfl ?_
  refine h_aload_n (n := 42) (i := 1) C dX6_init_41 rfl 2 rfl rfl ?_
  refine w_callN (n := 45) (d0 := 50) (As := [.ref p]) (L1 := bHouse Z (lo + 50) p) C E (c_House_init _ (lo + 50) p) yn_X2_init wn_e197 ⟨(Nat.le_of_ble_eq_true rfl), (Nat.le_of_ble_eq_true rfl)⟩ (Nat.le_of_ble_eq_true rfl) hcm hsm (Nat.le_of_ble_eq_true rfl) (Nat.le_of_ble_eq_true rfl) rfl dX6_init_42 rfl rfl ?_
  refine w_aast (n := 46) (N := 8) (kx := 48) (f := (va_up (va_up (va_up (va_up (va_up (va_up (fun _ => none) (0 : Int32).toNatClampNeg (some (lo + 2))) (1 : Int32).toNatClampNeg (some (lo + 10))) (2 : Int32).toNatClampNeg (some (lo + 18))) (3 : Int32).toNatClampNeg (some (lo + 26))) (4 : Int32).toNatClampNeg (some (lo + 34))) (5 : Int32).toNatClampNeg (some (lo + 42)))) (L := (bHouse Z (lo + 2) p ++ bHouse Z (lo + 10) p ++ bHouse Z (lo + 18) p ++ bHouse Z (lo + 26) p ++ bHouse Z (lo + 34) p ++ bHouse Z (lo + 42) p ++ bHouse Z (lo + 50) p)) C E (vp_in_nI (n := 6) (N := 8) (by decide) (by decide)) rfl rfl (Nat.le_succ _) dX6_init_45 rfl ?_
  refine h_iinc (n := 49) (i := 3) (v := (1 : Int32)) (lv' := [(0, .ref lo), (1, .ref p), (2, .int (8 : Int32))]) C dX6_init_46 0 rfl (by decide) (by decide) rfl rfl (fun z ez => ?_)
  have ez : z = (7 : Int32) := ez.trans (by decide)
  subst ez
  refine h_goto (tgt := 23) C dX6_init_49 (by decide) ?_
  show GW (PG Z lo (.inr (6, [.ref (lo + 1), .int 0]) :: rwE Z 8 (va_up (va_up (va_up (va_up (va_up (va_up (va_up (fun _ => none) (0 : Int32).toNatClampNeg (some (lo + 2))) (1 : Int32).toNatClampNeg (some (lo + 10))) (2 : Int32).toNatClampNeg (some (lo + 18))) (3 : Int32).toNatClampNeg (some (lo + 26))) (4 : Int32).toNatClampNeg (some (lo + 34))) (5 : Int32).toNatClampNeg (some (lo + 42))) (6 : Int32).toNatClampNeg (some (lo + 50))) :: (bHouse Z (lo + 2) p ++ bHouse Z (lo + 10) p ++ bHouse Z (lo + 18) p ++ bHouse Z (lo + 26) p ++ bHouse Z (lo + 34) p ++ bHouse Z (lo + 42) p ++ bHouse Z (lo + 50) p))) _ X _ _ 23 [(3, .int (7 : Int32)), (0, .ref lo), (1, .ref p), (2, .int (8 : Int32))] []
  refine h_iload_n (n := 24) (i := 3) C dX6_init_23 rfl 0 rfl rfl ?_
  refine h_aload_n (n := 25) (i := 0) C dX6_init_24 rfl 1 rfl rfl ?_
  refine w_get (n := 28) (kd := 6) (v := .ref (lo + 1)) 0 C E.1 rfl inB6 (by decide) wd_198 rfl dX6_init_25 rfl ?_
  refine w_alenR (n := 29) (8 : Int32) C E (by decide) dX6_init_28 rfl ?_
  refine h_icmp_ge (n := 32) (tgt := 52) C dX6_init_29 (by decide) rfl (fun c => absurd c (by decide)) (fun c => ?_)
  refine h_aload_n (n := 33) (i := 0) C dX6_init_32 rfl 1 rfl rfl ?_
  refine w_get (n := 36) (kd := 6) (v := .ref (lo + 1)) 0 C E.1 rfl inB6 (by decide) wd_198 rfl dX6_init_33 rfl ?_
  refine h_iload_n (n := 37) (i := 3) C dX6_init_36 rfl 0 rfl rfl ?_
  refine w_new (n := 40) (kd := 2) (d0 := 58) dfX2 C E.1 rfl inB2 tyX2 tyX2_ok we_195 we_94 wd_4 (fun j hj => by rcases (show j = 0 ∨ j = 1 ∨ j = 2 ∨ j = 3 ∨ j = 4 ∨ j = 5 ∨ j = 6 ∨ j = 7 ∨ j = 8 ∨ j = 9 by omega) with rfl | rfl | rfl | rfl | rfl | rfl | rfl | rfl | rfl | rfl <;> rfl) hcm hsm (Nat.le_of_ble_eq_true rfl) (Nat.le_of_ble_eq_true rfl) rfl dX6_init_37 rfl ?_
  refine h_dup (n := 41) C dX6_init_40 rfl rfl ?_
  refine h_aload_n (n := 42) (i := 1) C dX6_init_41 rfl 2 rfl rfl ?_
  refine w_callN (n := 45) (d0 := 58) (As := [.ref p]) (L1 := bHouse Z (lo + 58) p) C E (c_House_init _ (lo + 58) p) yn_X2_init wn_e197 ⟨(Nat.le_of_ble_eq_true rfl), (Nat.le_of_ble_eq_true rfl)⟩ (Nat.le_of_ble_eq_true rfl) hcm hsm (Nat.le_of_ble_eq_true rfl) (Nat.le_of_ble_eq_true rfl) rfl dX6_init_42 rfl rfl ?_
  refine w_aast (n := 46) (N := 8) (kx := 56) (f := (va_up (va_up (va_up (va_up (va_up (va_up (va_up (fun _ => none) (0 : Int32).toNatClampNeg (some (lo + 2))) (1 : Int32).toNatClampNeg (some (lo + 10))) (2 : Int32).toNatClampNeg (some (lo + 18))) (3 : Int32).toNatClampNeg (some (lo + 26))) (4 : Int32).toNatClampNeg (some (lo + 34))) (5 : Int32).toNatClampNeg (some (lo + 42))) (6 : Int32).toNatClampNeg (some (lo + 50)))) (L := (bHouse Z (lo + 2) p ++ bHouse Z (lo + 10) p ++ bHouse Z (lo + 18) p ++ bHouse Z (lo + 26) p ++ bHouse Z (lo + 34) p ++ bHouse Z (lo + 42) p ++ bHouse Z (lo + 50) p ++ bHouse Z (lo + 58) p)) C E (vp_in_nI (n := 7) (N := 8) (by decide) (by decide)) rfl rfl (Nat.le_succ _) dX6_init_45 rfl ?_
  refine h_iinc (n := 49) (i := 3) (v := (1 : Int32)) (lv' := [(0, .ref lo), (1, .ref p), (2, .int (8 : Int32))]) C dX6_init_46 0 rfl (by decide) (by decide) rfl rfl (fun z ez => ?_)
  have ez : z = (8 : Int32) := ez.trans (by decide)
  subst ez
  refine h_goto (tgt := 23) C dX6_init_49 (by decide) ?_
  show GW (PG Z lo (.inr (6, [.ref (lo + 1), .int 0]) :: rwE Z 8 (va_up (va_up (va_up (va_up (va_up (va_up (va_up (va_up (fun _ => none) (0 : Int32).toNatClampNeg (some (lo + 2))) (1 : Int32).toNatClampNeg (some (lo + 10))) (2 : Int32).toNatClampNeg (some (lo + 18))) (3 : Int32).toNatClampNeg (some (lo + 26))) (4 : Int32).toNatClampNeg (some (lo + 34))) (5 : Int32).toNatClampNeg (some (lo + 42))) (6 : Int32).toNatClampNeg (some (lo + 50))) (7 : Int32).toNatClampNeg (some (lo + 58))) :: (bHouse Z (lo + 2) p ++ bHouse Z (lo + 10) p ++ bHouse Z (lo + 18) p ++ bHouse Z (lo + 26) p ++ bHouse Z (lo + 34) p ++ bHouse Z (lo + 42) p ++ bHouse Z (lo + 50) p ++ bHouse Z (lo + 58) p))) _ X _ _ 23 [(3, .int (8 : Int32)), (0, .ref lo), (1, .ref p), (2, .int (8 : Int32))] []
  refine h_iload_n (n := 24) (i := 3) C dX6_init_23 rfl 0 rfl rfl ?_
  refine h_aload_n (n := 25) (i := 0) C dX6_init_24 rfl 1 rfl rfl ?_
  refine w_get (n := 28) (kd := 6) (v := .ref (lo + 1)) 0 C E.1 rfl inB6 (by decide) wd_198 rfl dX6_init_25 rfl ?_
  refine w_alenR (n := 29) (8 : Int32) C E (by decide) dX6_init_28 rfl ?_
  refine h_icmp_ge (n := 32) (tgt := 52) C dX6_init_29 (by decide) rfl (fun c => ?_) (fun c => absurd (show (8 : Int32) ≤ 8 by decide) c)
  refine w_vret C hr hQ dX6_init_52 (fun H h => PG.rows h (fun j hj => ?_))
  rw [hg j hj]
  rcases (show j = 0 ∨ j = 1 ∨ j = 2 ∨ j = 3 ∨ j = 4 ∨ j = 5 ∨ j = 6 ∨ j = 7 by omega) with rfl | rfl | rfl | rfl | rfl | rfl | rfl | rfl <;> rfl
def bShelf2 (Z : ZT) (lo p : Nat) (g : Nat → Option Nat) : List va_E := .inr (6, [.ref (lo + 1), .int 0]) :: rwE Z 2 g :: (bHouse Z (lo + 2) p ++ bHouse Z (lo + 10) p)
set_option maxHeartbeats 8000000 in
set_option maxRecDepth 100000 in
theorem c_Shelf2_init {Z : ZT} (l : Launch) (lo p : Nat) (g : Nat → Option Nat) (hg : ∀ j, j < 2 → g j = some (lo + (2 + 8 * j))) : CtN Z l yX6_init cX6_init 4 2 33 17 120 [.ref p, .int (2 : Int32)] 6 lo dfX6 (EK Z) (PG Z lo (bShelf2 Z lo p g)) := by
  refine ctN (own := RX6) rfl (by decide) rfl (Nat.le_of_ble_eq_true rfl) (fun X C E hr hin2 hcm hsm hQ _ => ?_)
  show GW _ _ X 0 0 0 [(0, .ref lo), (1, .ref p), (2, .int (2 : Int32))] []
  refine h_aload_n (n := 1) (i := 0) C dX6_init_0 rfl 0 rfl rfl ?_
  refine h_obj (n := 4) C we_191 we_22 we_23 (Nat.le_of_ble_eq_true rfl) (Nat.le_of_ble_eq_true rfl) dX6_init_1 rfl ?_
  refine h_aload_n (n := 5) (i := 0) C dX6_init_4 rfl 0 rfl rfl ?_
  refine h_iconst (n := 6) (0 : Int32) C dX6_init_5 (by decide) rfl ?_
  refine w_put (n := 9) (kd := 6) (ty := tyX6 1) 1 C E.1 rfl inB6 tyX6 tyX6_ok nmX6 (by decide) wd_199 (Or.inl rfl) (tyX6_ok 1 (by decide)) rfl rfl (Nat.le_of_ble_eq_true rfl) (Nat.le_refl _) dX6_init_6 rfl ?_
  refine h_aload_n (n := 10) (i := 0) C dX6_init_9 rfl 0 rfl rfl ?_
  refine h_iconst (n := 11) (1 : Int32) C dX6_init_10 (by decide) rfl ?_
  refine h_iload_n (n := 12) (i := 2) C dX6_init_11 rfl 2 rfl rfl ?_
  refine h_mmax (n := 15) C we_192 wq_193 we_7 wq_194 (Nat.zero_le _) (Nat.zero_le _) (Nat.le_of_ble_eq_true rfl) (Nat.le_of_ble_eq_true rfl) dX6_init_12 rfl ?_
  refine w_anew (n := 18) (N := 2) (d0 := 1) C E we_195 (by decide) (by decide) (Nat.le_of_ble_eq_true rfl) hcm hsm (Nat.le_of_ble_eq_true rfl) (Nat.le_of_ble_eq_true rfl) rfl dX6_init_15 rfl ?_
  refine w_put (n := 21) (kd := 6) (ty := tyX6 0) 0 C E.1 rfl inB6 tyX6 tyX6_ok nmX6 (by decide) wd_198 (Or.inr ⟨rfl, hin2, rfl⟩) (tyX6_ok 0 (by decide)) rfl rfl (Nat.le_of_ble_eq_true rfl) (Nat.le_refl _) dX6_init_18 rfl ?_
  refine h_iconst (n := 22) (0 : Int32) C dX6_init_21 (by decide) rfl ?_
  refine h_istore_n (n := 23) (i := 3) (lv' := [(0, .ref lo), (1, .ref p), (2, .int (2 : Int32))]) C dX6_init_22 rfl (by decide) rfl rfl (fun z ez => ?_)
  subst ez
  show GW (PG Z lo (.inr (6, [.ref (lo + 1), .int 0]) :: rwE Z 2 (fun _ => none) :: [])) _ X _ _ 23 [(3, .int (0 : Int32)), (0, .ref lo), (1, .ref p), (2, .int (2 : Int32))] []
  refine h_iload_n (n := 24) (i := 3) C dX6_init_23 rfl 0 rfl rfl ?_
  refine h_aload_n (n := 25) (i := 0) C dX6_init_24 rfl 1 rfl rfl ?_
  refine w_get (n := 28) (kd := 6) (v := .ref (lo + 1)) 0 C E.1 rfl inB6 (by decide) wd_198 rfl dX6_init_25 rfl ?_
  refine w_alenR (n := 29) (2 : Int32) C E (by decide) dX6_init_28 rfl ?_
  refine h_icmp_ge (n := 32) (tgt := 52) C dX6_init_29 (by decide) rfl (fun c => absurd c (by decide)) (fun c => ?_)
  refine h_aload_n (n := 33) (i := 0) C dX6_init_32 rfl 1 rfl rfl ?_
  refine w_get (n := 36) (kd := 6) (v := .ref (lo + 1)) 0 C E.1 rfl inB6 (by decide) wd_198 rfl dX6_init_33 rfl ?_
  refine h_iload_n (n := 37) (i := 3) C dX6_init_36 rfl 0 rfl rfl ?_
  refine w_new (n := 40) (kd := 2) (d0 := 2) dfX2 C E.1 rfl inB2 tyX2 tyX2_ok we_195 we_94 wd_4 (fun j hj => by rcases (show j = 0 ∨ j = 1 ∨ j = 2 ∨ j = 3 ∨ j = 4 ∨ j = 5 ∨ j = 6 ∨ j = 7 ∨ j = 8 ∨ j = 9 by omega) with rfl | rfl | rfl | rfl | rfl | rfl | rfl | rfl | rfl | rfl <;> rfl) hcm hsm (Nat.le_of_ble_eq_true rfl) (Nat.le_of_ble_eq_true rfl) rfl dX6_init_37 rfl ?_
  refine h_dup (n := 41) C dX6_init_40 rfl rfl ?_
  refine h_aload_n (n := 42) (i := 1) C dX6_init_41 rfl 2 rfl rfl ?_
  refine w_callN (n := 45) (d0 := 2) (As := [.ref p]) (L1 := bHouse Z (lo + 2) p) C E (c_House_init _ (lo + 2) p) yn_X2_init wn_e197 ⟨(Nat.le_of_ble_eq_true rfl), (Nat.le_of_ble_eq_true rfl)⟩ (Nat.le_of_ble_eq_true rfl) hcm hsm (Nat.le_of_ble_eq_true rfl) (Nat.le_of_ble_eq_true rfl) rfl dX6_init_42 rfl rfl ?_
  refine w_aast (n := 46) (N := 2) (kx := 0) (f := (fun _ => none)) (L := bHouse Z (lo + 2) p) C E (vp_in_nI (n := 0) (N := 2) (by decide) (by decide)) rfl rfl (Nat.le_succ _) dX6_init_45 rfl ?_
  refine h_iinc (n := 49) (i := 3) (v := (1 : Int32)) (lv' := [(0, .ref lo), (1, .ref p), (2, .int (2 : Int32))]) C dX6_init_46 0 rfl (by decide) (by decide) rfl rfl (fun z ez => ?_)
  have ez : z = (1 : Int32) := ez.trans (by decide)
  subst ez
  refine h_goto (tgt := 23) C dX6_init_49 (by decide) ?_
  show GW (PG Z lo (.inr (6, [.ref (lo + 1), .int 0]) :: rwE Z 2 (va_up (fun _ => none) (0 : Int32).toNatClampNeg (some (lo + 2))) :: bHouse Z (lo + 2) p)) _ X _ _ 23 [(3, .int (1 : Int32)), (0, .ref lo), (1, .ref p), (2, .int (2 : Int32))] []
  refine h_iload_n (n := 24) (i := 3) C dX6_init_23 rfl 0 rfl rfl ?_
  refine h_aload_n (n := 25) (i := 0) C dX6_init_24 rfl 1 rfl rfl ?_
  refine w_get (n := 28) (kd := 6) (v := .ref (lo + 1)) 0 C E.1 rfl inB6 (by decide) wd_198 rfl dX6_init_25 rfl ?_
  refine w_alenR (n := 29) (2 : Int32) C E (by decide) dX6_init_28 rfl ?_
  refine h_icmp_ge (n := 32) (tgt := 52) C dX6_init_29 (by decide) rfl (fun c => absurd c (by decide)) (fun c => ?_)
  refine h_aload_n (n := 33) (i := 0) C dX6_init_32 rfl 1 rfl rfl ?_
  refine w_get (n := 36) (kd := 6) (v := .ref (lo + 1)) 0 C E.1 rfl inB6 (by decide) wd_198 rfl dX6_init_33 rfl ?_
  refine h_iload_n (n := 37) (i := 3) C dX6_init_36 rfl 0 rfl rfl ?_
  refine w_new (n := 40) (kd := 2) (d0 := 10) dfX2 C E.1 rfl inB2 tyX2 tyX2_ok we_195 we_94 wd_4 (fun j hj => by rcases (show j = 0 ∨ j = 1 ∨ j = 2 ∨ j = 3 ∨ j = 4 ∨ j = 5 ∨ j = 6 ∨ j = 7 ∨ j = 8 ∨ j = 9 by omega) with rfl | rfl | rfl | rfl | rfl | rfl | rfl | rfl | rfl | rfl <;> rfl) hcm hsm (Nat.le_of_ble_eq_true rfl) (Nat.le_of_ble_eq_true rfl) rfl dX6_init_37 rfl ?_
  refine h_dup (n := 41) C dX6_init_40 rfl rfl ?_
  refine h_aload_n (n := 42) (i := 1) C dX6_init_41 rfl 2 rfl rfl ?_
  refine w_callN (n := 45) (d0 := 10) (As := [.ref p]) (L1 := bHouse Z (lo + 10) p) C E (c_House_init _ (lo + 10) p) yn_X2_init wn_e197 ⟨(Nat.le_of_ble_eq_true rfl), (Nat.le_of_ble_eq_true rfl)⟩ (Nat.le_of_ble_eq_true rfl) hcm hsm (Nat.le_of_ble_eq_true rfl) (Nat.le_of_ble_eq_true rfl) rfl dX6_init_42 rfl rfl ?_
  refine w_aast (n := 46) (N := 2) (kx := 8) (f := (va_up (fun _ => none) (0 : Int32).toNatClampNeg (some (lo + 2)))) (L := (bHouse Z (lo + 2) p ++ bHouse Z (lo + 10) p)) C E (vp_in_nI (n := 1) (N := 2) (by decide) (by decide)) rfl rfl (Nat.le_succ _) dX6_init_45 rfl ?_
  refine h_iinc (n := 49) (i := 3) (v := (1 : Int32)) (lv' := [(0, .ref lo), (1, .ref p), (2, .int (2 : Int32))]) C dX6_init_46 0 rfl (by decide) (by decide) rfl rfl (fun z ez => ?_)
  have ez : z = (2 : Int32) := ez.trans (by decide)
  subst ez
  refine h_goto (tgt := 23) C dX6_init_49 (by decide) ?_
  show GW (PG Z lo (.inr (6, [.ref (lo + 1), .int 0]) :: rwE Z 2 (va_up (va_up (fun _ => none) (0 : Int32).toNatClampNeg (some (lo + 2))) (1 : Int32).toNatClampNeg (some (lo + 10))) :: (bHouse Z (lo + 2) p ++ bHouse Z (lo + 10) p))) _ X _ _ 23 [(3, .int (2 : Int32)), (0, .ref lo), (1, .ref p), (2, .int (2 : Int32))] []
  refine h_iload_n (n := 24) (i := 3) C dX6_init_23 rfl 0 rfl rfl ?_
  refine h_aload_n (n := 25) (i := 0) C dX6_init_24 rfl 1 rfl rfl ?_
  refine w_get (n := 28) (kd := 6) (v := .ref (lo + 1)) 0 C E.1 rfl inB6 (by decide) wd_198 rfl dX6_init_25 rfl ?_
  refine w_alenR (n := 29) (2 : Int32) C E (by decide) dX6_init_28 rfl ?_
  refine h_icmp_ge (n := 32) (tgt := 52) C dX6_init_29 (by decide) rfl (fun c => ?_) (fun c => absurd (show (2 : Int32) ≤ 2 by decide) c)
  refine w_vret C hr hQ dX6_init_52 (fun H h => PG.rows h (fun j hj => ?_))
  rw [hg j hj]
  rcases (show j = 0 ∨ j = 1 by omega) with rfl | rfl <;> rfl
