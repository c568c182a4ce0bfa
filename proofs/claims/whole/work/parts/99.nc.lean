theorem we_322 : Cond.methodLink RX8 80 yJ0_length_8abf5 ∈ BIG := big_t 322 (by decide +kernel) rfl
theorem we_323 : Cond.instanceMethod yJ0_length_8abf5 ∈ BIG := big_t 323 (by decide +kernel) rfl
theorem we_324 : Cond.selects yJ0_length_8abf5.cls yJ0_length_8abf5 yJ0_length_8abf5 ∈ BIG := big_t 324 (by decide +kernel) rfl
theorem we_325 : Cond.code yJ0_length_8abf5 cJ0_length_8abf5 1 (some .int) ∈ BIG := big_t 325 (by decide +kernel) rfl
theorem we_332 : Cond.methodLink RX8 86 yJ0_charAt_5068e ∈ BIG := big_t 332 (by decide +kernel) rfl
theorem we_333 : Cond.instanceMethod yJ0_charAt_5068e ∈ BIG := big_t 333 (by decide +kernel) rfl
theorem we_334 : Cond.selects yJ0_charAt_5068e.cls yJ0_charAt_5068e yJ0_charAt_5068e ∈ BIG := big_t 334 (by decide +kernel) rfl
theorem we_335 : Cond.code yJ0_charAt_5068e cJ0_charAt_5068e 2 (some .char) ∈ BIG := big_t 335 (by decide +kernel) rfl
theorem yi_J0_length_8abf5 : YI yJ0_length_8abf5 cJ0_length_8abf5 1 (some .int) 0 := ⟨we_323, we_324, we_11, we_325, by decide, by decide, by decide +kernel⟩
theorem yi_J0_charAt_5068e : YI yJ0_charAt_5068e cJ0_charAt_5068e 2 (some .char) 1 := ⟨we_333, we_334, we_11, we_335, by decide, by decide, by decide +kernel⟩
def FTX : String := "g0,2,10,4,3;g1,4,8,9,2;g2,5,6,0,1;g0,7,12,5,4;g3,7,9,2,2;g0,15,5,6,3;r2;r5;r1;r4;r0;r3;"
def PeN (Z : ZT) (q : Nat × (Nat × Value)) (U : State) : Prop := EXA Z (fun a => zb Z ≤ a) U ∧ SKE q (fun a => zb Z ≤ a) U U.heap ∧ vk_R RX8 78 FTX q.1 U
theorem ft_next : ∀ i, i < 87 → ft.take (i + 1) = ft.take i ++ [ft.getD i 0] := by decide +kernel
theorem q_ldcS {Pr : Heap → Prop} {A : Nat → Prop} {X : XT} {cc : ByteArray} {own tx : String} {nL fr lx pc n c0 n0 idx a : Nat} {lv : List (Nat × Value)} {rest : List Value} (C : CX X cc own nL fr lx) (V : vk_R own idx tx a (xs X)) (d : decode cc pc = .ok (.ldc idx, 2)) (hn : pc + 2 = n) (k : GW Pr A X c0 n0 n lv (.ref a :: rest)) : GW Pr A X c0 n0 pc lv rest := by
  subst hn
  exact fun H locs ls hW hS hl => va_ldcS C.1 C.2.1 C.2.2.2.1 V d (k H locs ls hW hS hl)
section
variable {Z : ZT} {X : XT} {q : Nat × (Nat × Value)}
set_option maxHeartbeats 4000000 in
set_option maxRecDepth 100000 in
theorem nb_loop (hZ : IsX Z) (C : CX X cX8_init RX8 2 6 137) (E : EXA Z (fun a => zb Z ≤ a) (xs X)) (K : SKE q (fun a => zb Z ≤ a) (xs X) (xs X).heap) (V : vk_R RX8 78 FTX q.1 (xs X)) (hcc : 163 ≤ (xR X).cells) (hss : 1370 ≤ (xR X).slots) (kend : ∀ M : Mem, TX M ft → (∀ r, r ≠ 1 → r ≠ 2 → M r = M0 r) → GW (Wd Z M) (fun a => zb Z ≤ a) X 163 1370 191 [(0, .ref (zb Z))] []) :
    ∀ (m i : Nat) (M : Mem), m + i = 87 → TX M (ft.take i) → (∀ r, r ≠ 1 → r ≠ 2 → M r = M0 r) → GW (Wd Z M) (fun a => zb Z ≤ a) X 163 1370 162 [(1, .int (nI i)), (0, .ref (zb Z))] [] := by
  intro m
  induction m with
  | zero =>
    intro i M hi t f
    have hi : i = 87 := by omega
    subst hi
    refine h_iload_n (n := 163) (i := 1) C dX8_init_162 rfl 0 rfl rfl ?_
    refine q_ldcS (n := 165) C V dX8_init_163 rfl ?_
    refine j_callV (n := 168) (As := []) C K (c_strlen _ q) rfl yi_J0_length_8abf5 we_322 ⟨(Nat.le_of_ble_eq_true rfl), (Nat.le_of_ble_eq_true rfl)⟩ (Nat.le_of_ble_eq_true rfl) hcc hss dX8_init_165 rfl rfl (fun H H1 h e => Wd_kept h (fun a ha _ => e a ha)) ?_
    refine h_icmp_ge (n := 171) (tgt := 191) C dX8_init_168 (by decide) rfl (fun c => ?_) (fun c => absurd (show (87 : Int32) ≤ nI 87 by decide) c)
    refine h_sub [1] rfl ?_
    exact kend M t f
  | succ m ih =>
    intro i M hi t f
    have hlt : i < 87 := by omega
    refine h_iload_n (n := 163) (i := 1) C dX8_init_162 rfl 0 rfl rfl ?_
    refine q_ldcS (n := 165) C V dX8_init_163 rfl ?_
    refine j_callV (n := 168) (As := []) C K (c_strlen _ q) rfl yi_J0_length_8abf5 we_322 ⟨(Nat.le_of_ble_eq_true rfl), (Nat.le_of_ble_eq_true rfl)⟩ (Nat.le_of_ble_eq_true rfl) hcc hss dX8_init_165 rfl rfl (fun H H1 h e => Wd_kept h (fun a ha _ => e a ha)) ?_
    refine h_icmp_ge (n := 171) (tgt := 191) C dX8_init_168 (by decide) rfl (fun c => absurd c (nI_ge (b := 87) hlt (by decide))) (fun c => ?_)
    refine h_aload_n (n := 172) (i := 0) C dX8_init_171 rfl 1 rfl rfl ?_
    refine q_get (M := M) (k := 0) (kd := 8) (n := 175) (v := .ref (zb Z + 1)) 0 (fun H h => h) C E.1 rfl inB8 (by decide) wd_445 (ox_0 hZ) rfl dX8_init_172 rfl ?_
    refine q_ldcS (n := 177) C V dX8_init_175 rfl ?_
    refine h_iload_n (n := 178) (i := 1) C dX8_init_177 rfl 0 rfl rfl ?_
    refine j_callV (n := 181) (As := [.int (nI i)]) C K (c_strAt _ q i hlt) rfl yi_J0_charAt_5068e we_332 ⟨(Nat.le_of_ble_eq_true rfl), (Nat.le_of_ble_eq_true rfl)⟩ (Nat.le_of_ble_eq_true rfl) hcc hss dX8_init_178 rfl rfl (fun H H1 h e => Wd_kept h (fun a ha _ => e a ha)) ?_
    have h : P_Script_append M (tb i) (fun _ M' => TX M' (ft.take (i + 1)) ∧ (∀ r, r ≠ 1 → r ≠ 2 → M' r = M0 r)) := by
      refine x_app (c := ft.getD i 0) t (by rw [List.length_take]; omega) (fun M' t' f' => ⟨by rw [ft_next i hlt]; exact t', fun r h1 h2 => (f' r h1 h2).trans (f r h1 h2)⟩)
    refine q_callNi (n := 184) (kd := 5) (a := 1) (M := M) (As := [.int (tb i)]) (rest := []) (Pr1 := fun M' H => Wd Z M' H) C E (fun a ha => ha.1) (c_Script_append hZ _ (tb i) M _ h) yi_X5_append wn_370 rfl (ox_1 hZ) ⟨(Nat.le_of_ble_eq_true rfl), (Nat.le_of_ble_eq_true rfl)⟩ (Nat.le_of_ble_eq_true rfl) hcc hss (fun H h => h) (fun H H1 N' _ h _ => h) dX8_init_181 rfl rfl (fun r M' h => ?_)
    refine h_pop (n := 185) C dX8_init_184 rfl rfl ?_
    refine h_iinc (n := 188) (i := 1) (v := (1 : Int32)) (lv' := [(0, .ref (zb Z))]) C dX8_init_185 0 rfl (by decide) (by decide) rfl rfl (fun z ez => ?_)
    have ez : z = nI (i + 1) := ez.trans (nI_1 i)
    subst ez
    refine h_goto (tgt := 162) C dX8_init_188 (by decide) ?_
    exact ih (i + 1) M' (by omega) h.1 h.2
theorem sf_first {M : Mem} {a ln n0 : Nat} (h1 : M a 1 = 0) (h2 : ∀ i, M (a + 1) i = nI (a + 2 + 8 * i)) : SF M a ln n0 [] := ⟨Nat.zero_le _, h1, fun i => i, fun i _ => h2 i, fun i hi => hi, fun i j _ _ e => e, fun i h hh => (Option.some_ne_none h hh.symm).elim⟩
set_option maxHeartbeats 4000000 in
set_option maxRecDepth 100000 in
theorem c_NB_init (hZ : IsX Z) (l : Launch) : CtN Z l yX8_init cX8_init 2 6 137 163 1370 [] 8 (zb Z) dfX8 (PeN Z q) (fun H => ∃ M : Mem, RX s0 M ∧ Wd Z M H) := by
  refine ctN (own := RX8) rfl (by decide) rfl (Nat.le_of_ble_eq_true rfl) (fun X C E hr hin2 hcm hsm hQ _ => ?_)
  obtain ⟨E, K, V⟩ := E
  show GW _ _ X 0 0 0 [(0, .ref (zb Z))] []
  refine nb_straight C E.1 hin2 hcm hsm ?_
  refine h_imp (fun H h => nb_world hZ h) ?_
  have hcc : 163 ≤ (xR X).cells := by rw [hcm]; exact Nat.le_refl _
  have hss : 1370 ≤ (xR X).slots := by rw [hsm]; exact Nat.le_refl _
  refine h_iconst (n := 161) (0 : Int32) C dX8_init_160 (by decide) rfl ?_
  refine h_istore_n (n := 162) (i := 1) (lv' := [(0, .ref (zb Z))]) C dX8_init_161 rfl (by decide) rfl rfl (fun z ez => ?_)
  subst ez
  refine nb_loop hZ C E K V hcc hss (fun M t f => ?_) 87 0 M0 rfl ⟨rfl, fun i c hc => (Option.some_ne_none c hc.symm).elim⟩ (fun _ _ _ => rfl)
  refine h_aload_n (n := 192) (i := 0) C dX8_init_191 rfl 0 rfl rfl ?_
  have h : P_NB_layScript M (fun _ M1 => P_Script_clear M1 (fun M' => RX s0 M')) := x_first (n0 := 0) t (sf_first (by rw [f 40 (by decide) (by decide)]; rfl) (fun i => by rw [f 41 (by decide) (by decide)]; rfl)) (sf_first (by rw [f 106 (by decide) (by decide)]; rfl) (fun i => by rw [f 107 (by decide) (by decide)]; rfl)) (fun M' R => R)
  refine q_callVi (n := 195) (kd := 8) (a := 0) (M := M) (As := []) (rest := []) (Pr1 := fun M' H => Wd Z M' H) C E (fun a ha => ha.1) (c_NB_layScript hZ _ M _ h) yi_X8_layScript wd_374 rfl (ox_0 hZ) ⟨(Nat.le_of_ble_eq_true rfl), (Nat.le_of_ble_eq_true rfl)⟩ (Nat.le_of_ble_eq_true rfl) hcc hss (fun H h => h) (fun H H1 N' _ h _ => h) dX8_init_192 rfl rfl (fun r M1 h => ?_)
  refine h_pop (n := 196) C dX8_init_195 rfl rfl ?_
  refine h_aload_n (n := 197) (i := 0) C dX8_init_196 rfl 0 rfl rfl ?_
  refine q_get (M := M1) (k := 0) (kd := 8) (n := 200) (v := .ref (zb Z + 1)) 0 (fun H h => h) C E.1 rfl inB8 (by decide) wd_445 (ox_0 hZ) rfl dX8_init_197 rfl ?_
  refine q_callNv (n := 203) (kd := 5) (a := 1) (M := M1) (As := []) (rest := []) (Pr1 := fun M' H => Wd Z M' H) C E (fun a ha => ha.1) (c_Script_clear hZ _ M1 _ h) yi_X5_clear wn_441 rfl (ox_1 hZ) ⟨(Nat.le_of_ble_eq_true rfl), (Nat.le_of_ble_eq_true rfl)⟩ (Nat.le_of_ble_eq_true rfl) hcc hss (fun H h => h) (fun H H1 N' _ h _ => h) dX8_init_200 rfl rfl (fun M2 h => ?_)
  exact w_vret (Po := fun H => ∃ M : Mem, RX s0 M ∧ Wd Z M H) C hr hQ dX8_init_203 (fun H hW => ⟨M2, h, hW⟩)
end
