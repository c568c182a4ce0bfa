def B_House_copyFrom_i (a : Nat) (p1 : Nat) (post : Mem → Prop) (R18 : Mem → Int32 → Prop) (M : Mem)  : Prop :=
  ∀ M1 : Mem, M1 = mset M a 8 (M p1 8) → ∀ M2 : Mem, M2 = mset M1 a 9 (M1 p1 9) → ∀ z3 : Int32, z3 = (0 : Int32) → (R18 M2 z3)
def B_House_copyFrom_18 (a : Nat) (p1 : Nat) (post : Mem → Prop) (R18 : Mem → Int32 → Prop) (M : Mem) (x18_2 : Int32) : Prop :=
  ((((7 : Int32) ≤ x18_2) → post M) ∧ ((¬ (7 : Int32) ≤ x18_2) → vp_in x18_2 7 ∧ (vp_in x18_2 7 ∧ (∀ M4 : Mem, M4 = mset M (a + 1) (x18_2).toNatClampNeg (M (p1 + 1) (x18_2).toNatClampNeg) → vp_in x18_2 7 ∧ (vp_in x18_2 7 ∧ (∀ M5 : Mem, M5 = mset M4 (a + 2) (x18_2).toNatClampNeg (M4 (p1 + 2) (x18_2).toNatClampNeg) → vp_in x18_2 7 ∧ (vp_in x18_2 7 ∧ (∀ M6 : Mem, M6 = mset M5 (a + 3) (x18_2).toNatClampNeg (M5 (p1 + 3) (x18_2).toNatClampNeg) → vp_in x18_2 7 ∧ (vp_in x18_2 7 ∧ (∀ M7 : Mem, M7 = mset M6 (a + 4) (x18_2).toNatClampNeg (M6 (p1 + 4) (x18_2).toNatClampNeg) → vp_in x18_2 7 ∧ (vp_in x18_2 7 ∧ (∀ M8 : Mem, M8 = mset M7 (a + 5) (x18_2).toNatClampNeg (M7 (p1 + 5) (x18_2).toNatClampNeg) → vp_in x18_2 7 ∧ (vp_in x18_2 7 ∧ (∀ M9 : Mem, M9 = mset M8 (a + 6) (x18_2).toNatClampNeg (M8 (p1 + 6) (x18_2).toNatClampNeg) → vp_in x18_2 7 ∧ (vp_in x18_2 7 ∧ (∀ M10 : Mem, M10 = mset M9 (a + 7) (x18_2).toNatClampNeg (M9 (p1 + 7) (x18_2).toNatClampNeg) → ∀ z11 : Int32, z11 = x18_2 + (1 : Int32) → (R18 M10 z11)))))))))))))))))
def P_House_copyFrom (M : Mem) (a : Nat) (p1 : Nat) (post : Mem → Prop) : Prop :=
  ∀ (R18 : Mem → Int32 → Prop), (∀ (M : Mem) (x18_2 : Int32), B_House_copyFrom_18 a p1 post R18 M x18_2 → R18 M x18_2) → B_House_copyFrom_i a p1 post R18 M
set_option maxHeartbeats 4000000 in
set_option maxRecDepth 100000 in
theorem c_House_copyFrom {Z : ZT} (hZ : IsX Z) (l : Launch) (a : Nat) (ha : Hh a) (p1 : Nat) (hp1 : Hh p1) (M : Mem) (post : Mem → Prop) (h : P_House_copyFrom M a p1 post) : CtV Z l yX2_copyFrom cX2_copyFrom 3 none 0 0 [.ref (zb Z + a), .ref (zb Z + p1)] M post := by
  refine ctV (own := RX2) rfl (by decide) (Nat.le_of_ble_eq_true rfl) (fun X C E hr hQ => ?_)
  have s18 : ∀ (M : Mem) (x18_2 : Int32), B_House_copyFrom_18 a p1 post (fun (M : Mem) (x18_2 : Int32) => GS Z X 18 [(0, .ref (zb Z + a)), (1, .ref (zb Z + p1)), (2, .int x18_2)] [] M) M x18_2 → GS Z X 18 [(0, .ref (zb Z + a)), (1, .ref (zb Z + p1)), (2, .int x18_2)] [] M := by
    intro M x18_2 h
    unfold B_House_copyFrom_18 at h
    refine g_iload_n (n := 19) (i := 2) C dX2_copyFrom_18 rfl 2 rfl rfl ?_
    refine g_bipush (n := 21) (7 : Int32) C dX2_copyFrom_19 (by decide) rfl ?_
    refine g_icmp_ge (n := 24) (tgt := 114) C dX2_copyFrom_21 (by decide) rfl (fun c => ?_) (fun c => ?_)
    · replace h := h.1 c
      exact g_vret C hr hQ dX2_copyFrom_114 h
    · replace h := h.2 c
      refine g_aload_n (n := 25) (i := 0) C dX2_copyFrom_24 rfl 0 rfl rfl ?_
      refine gf_X2_9 (n := 28) (a + 1) C E (Hh.o hZ ha) rfl dX2_copyFrom_25 rfl ?_
      refine g_iload_n (n := 29) (i := 2) C dX2_copyFrom_28 rfl 2 rfl rfl ?_
      refine g_aload_n (n := 30) (i := 1) C dX2_copyFrom_29 rfl 1 rfl rfl ?_
      refine gf_X2_9 (n := 33) (p1 + 1) C E (Hh.o hZ hp1) rfl dX2_copyFrom_30 rfl ?_
      refine g_iload_n (n := 34) (i := 2) C dX2_copyFrom_33 rfl 2 rfl rfl ?_
      refine g_iald (n := 35) C E (Hh.f1 hZ hp1) h.1 dX2_copyFrom_34 rfl ?_
      replace h := h.2
      refine g_iast (n := 36) C E (Hh.f1 hZ ha) h.1 dX2_copyFrom_35 rfl (fun M4 eM4 => ?_)
      replace h := h.2 M4 eM4
      refine g_aload_n (n := 37) (i := 0) C dX2_copyFrom_36 rfl 0 rfl rfl ?_
      refine gf_X2_15 (n := 40) (a + 2) C E (Hh.o hZ ha) rfl dX2_copyFrom_37 rfl ?_
      refine g_iload_n (n := 41) (i := 2) C dX2_copyFrom_40 rfl 2 rfl rfl ?_
      refine g_aload_n (n := 42) (i := 1) C dX2_copyFrom_41 rfl 1 rfl rfl ?_
      refine gf_X2_15 (n := 45) (p1 + 2) C E (Hh.o hZ hp1) rfl dX2_copyFrom_42 rfl ?_
      refine g_iload_n (n := 46) (i := 2) C dX2_copyFrom_45 rfl 2 rfl rfl ?_
      refine g_iald (n := 47) C E (Hh.f2 hZ hp1) h.1 dX2_copyFrom_46 rfl ?_
      replace h := h.2
      refine g_iast (n := 48) C E (Hh.f2 hZ ha) h.1 dX2_copyFrom_47 rfl (fun M5 eM5 => ?_)
      replace h := h.2 M5 eM5
      refine g_aload_n (n := 49) (i := 0) C dX2_copyFrom_48 rfl 0 rfl rfl ?_
      refine gf_X2_18 (n := 52) (a + 3) C E (Hh.o hZ ha) rfl dX2_copyFrom_49 rfl ?_
      refine g_iload_n (n := 53) (i := 2) C dX2_copyFrom_52 rfl 2 rfl rfl ?_
      refine g_aload_n (n := 54) (i := 1) C dX2_copyFrom_53 rfl 1 rfl rfl ?_
      refine gf_X2_18 (n := 57) (p1 + 3) C E (Hh.o hZ hp1) rfl dX2_copyFrom_54 rfl ?_
      refine g_iload_n (n := 58) (i := 2) C dX2_copyFrom_57 rfl 2 rfl rfl ?_
      refine g_iald (n := 59) C E (Hh.f3 hZ hp1) h.1 dX2_copyFrom_58 rfl ?_
      replace h := h.2
      refine g_iast (n := 60) C E (Hh.f3 hZ ha) h.1 dX2_copyFrom_59 rfl (fun M6 eM6 => ?_)
      replace h := h.2 M6 eM6
      refine g_aload_n (n := 61) (i := 0) C dX2_copyFrom_60 rfl 0 rfl rfl ?_
      refine gf_X2_21 (n := 64) (a + 4) C E (Hh.o hZ ha) rfl dX2_copyFrom_61 rfl ?_
      refine g_iload_n (n := 65) (i := 2) C dX2_copyFrom_64 rfl 2 rfl rfl ?_
      refine g_aload_n (n := 66) (i := 1) C dX2_copyFrom_65 rfl 1 rfl rfl ?_
      refine gf_X2_21 (n := 69) (p1 + 4) C E (Hh.o hZ hp1) rfl dX2_copyFrom_66 rfl ?_
      refine g_iload_n (n := 70) (i := 2) C dX2_copyFrom_69 rfl 2 rfl rfl ?_
      refine g_iald (n := 71) C E (Hh.f4 hZ hp1) h.1 dX2_copyFrom_70 rfl ?_
      replace h := h.2
      refine g_iast (n := 72) C E (Hh.f4 hZ ha) h.1 dX2_copyFrom_71 rfl (fun M7 eM7 => ?_)
      replace h := h.2 M7 eM7
      refine g_aload_n (n := 73) (i := 0) C dX2_copyFrom_72 rfl 0 rfl rfl ?_
      refine gf_X2_24 (n := 76) (a + 5) C E (Hh.o hZ ha) rfl dX2_copyFrom_73 rfl ?_
      refine g_iload_n (n := 77) (i := 2) C dX2_copyFrom_76 rfl 2 rfl rfl ?_
      refine g_aload_n (n := 78) (i := 1) C dX2_copyFrom_77 rfl 1 rfl rfl ?_
      refine gf_X2_24 (n := 81) (p1 + 5) C E (Hh.o hZ hp1) rfl dX2_copyFrom_78 rfl ?_
      refine g_iload_n (n := 82) (i := 2) C dX2_copyFrom_81 rfl 2 rfl rfl ?_
      refine g_iald (n := 83) C E (Hh.f5 hZ hp1) h.1 dX2_copyFrom_82 rfl ?_
      replace h := h.2
      refine g_iast (n := 84) C E (Hh.f5 hZ ha) h.1 dX2_copyFrom_83 rfl (fun M8 eM8 => ?_)
      replace h := h.2 M8 eM8
      refine g_aload_n (n := 85) (i := 0) C dX2_copyFrom_84 rfl 0 rfl rfl ?_
      refine gf_X2_27 (n := 88) (a + 6) C E (Hh.o hZ ha) rfl dX2_copyFrom_85 rfl ?_
      refine g_iload_n (n := 89) (i := 2) C dX2_copyFrom_88 rfl 2 rfl rfl ?_
      refine g_aload_n (n := 90) (i := 1) C dX2_copyFrom_89 rfl 1 rfl rfl ?_
      refine gf_X2_27 (n := 93) (p1 + 6) C E (Hh.o hZ hp1) rfl dX2_copyFrom_90 rfl ?_
      refine g_iload_n (n := 94) (i := 2) C dX2_copyFrom_93 rfl 2 rfl rfl ?_
      refine g_iald (n := 95) C E (Hh.f6 hZ hp1) h.1 dX2_copyFrom_94 rfl ?_
      replace h := h.2
      refine g_iast (n := 96) C E (Hh.f6 hZ ha) h.1 dX2_copyFrom_95 rfl (fun M9 eM9 => ?_)
      replace h := h.2 M9 eM9
      refine g_aload_n (n := 97) (i := 0) C dX2_copyFrom_96 rfl 0 rfl rfl ?_
      refine gf_X2_30 (n := 100) (a + 7) C E (Hh.o hZ ha) rfl dX2_copyFrom_97 rfl ?_
      refine g_iload_n (n := 101) (i := 2) C dX2_copyFrom_100 rfl 2 rfl rfl ?_
      refine g_aload_n (n := 102) (i := 1) C dX2_copyFrom_101 rfl 1 rfl rfl ?_
      refine gf_X2_30 (n := 105) (p1 + 7) C E (Hh.o hZ hp1) rfl dX2_copyFrom_102 rfl ?_
      refine g_iload_n (n := 106) (i := 2) C dX2_copyFrom_105 rfl 2 rfl rfl ?_
      refine g_iald (n := 107) C E (Hh.f7 hZ hp1) h.1 dX2_copyFrom_106 rfl ?_
      replace h := h.2
      refine g_iast (n := 108) C E (Hh.f7 hZ ha) h.1 dX2_copyFrom_107 rfl (fun M10 eM10 => ?_)
      replace h := h.2 M10 eM10
      refine g_iinc (n := 111) (v := (1 : Int32)) C dX2_copyFrom_108 2 rfl (by decide) (Nat.le_of_ble_eq_true rfl) rfl rfl (fun z11 ez11 => ?_)
      replace h := h z11 ez11
      refine g_goto (tgt := 18) C dX2_copyFrom_111 (by decide) ?_
      exact g_sub [1, 2, 0] rfl h
  replace h := h (fun (M : Mem) (x18_2 : Int32) => GS Z X 18 [(0, .ref (zb Z + a)), (1, .ref (zb Z + p1)), (2, .int x18_2)] [] M) s18
  unfold B_House_copyFrom_i at h
  show GS Z X 0 [(0, .ref (zb Z + a)), (1, .ref (zb Z + p1))] [] M
  refine g_aload_n (n := 1) (i := 0) C dX2_copyFrom_0 rfl 0 rfl rfl ?_
  refine g_aload_n (n := 2) (i := 1) C dX2_copyFrom_1 rfl 1 rfl rfl ?_
  refine gf_X2_33 (n := 5) C E (Hh.o hZ hp1) dX2_copyFrom_2 rfl ?_
  refine gp_X2_33 (n := 8) C E (Hh.o hZ ha) dX2_copyFrom_5 rfl (fun M1 eM1 => ?_)
  replace h := h M1 eM1
  refine g_aload_n (n := 9) (i := 0) C dX2_copyFrom_8 rfl 0 rfl rfl ?_
  refine g_aload_n (n := 10) (i := 1) C dX2_copyFrom_9 rfl 1 rfl rfl ?_
  refine gf_X2_37 (n := 13) C E (Hh.o hZ hp1) dX2_copyFrom_10 rfl ?_
  refine gp_X2_37 (n := 16) C E (Hh.o hZ ha) dX2_copyFrom_13 rfl (fun M2 eM2 => ?_)
  replace h := h M2 eM2
  refine g_iconst (n := 17) (0 : Int32) C dX2_copyFrom_16 (by decide) rfl ?_
  refine g_istore_n (n := 18) (i := 2) C dX2_copyFrom_17 rfl (Nat.le_of_ble_eq_true rfl) rfl rfl (fun z3 ez3 => ?_)
  replace h := h z3 ez3
  exact g_sub [1, 2, 0] rfl h
def B_House_hourOf_i (a : Nat) (p1 : Int32) (post : Int32 → Mem → Prop)  (M : Mem)  : Prop :=
  P_Plan_has M 4 p1 (fun (r2 : Int32) (M1 : Mem) => (((r2 = 0) → post (1000000 : Int32) M1) ∧ ((¬ r2 = 0) → vp_in p1 7 ∧ (post (M1 (a + 2) (p1).toNatClampNeg) M1))))
def P_House_hourOf (M : Mem) (a : Nat) (p1 : Int32) (post : Int32 → Mem → Prop) : Prop := B_House_hourOf_i a p1 post M
set_option maxHeartbeats 4000000 in
set_option maxRecDepth 100000 in
theorem c_House_hourOf {Z : ZT} (hZ : IsX Z) (l : Launch) (a : Nat) (ha : Hh a) (p1 : Int32) (M : Mem) (post : Int32 → Mem → Prop) (h : P_House_hourOf M a p1 post) : CtI Z l yX2_hourOf cX2_hourOf 2 (some .int) 1 21 [.ref (zb Z + a), .int p1] M post := by
  refine ctI (own := RX2) rfl (by decide) (Nat.le_of_ble_eq_true rfl) (fun X C E hr hQ => ?_)
  unfold P_House_hourOf at h
  unfold B_House_hourOf_i at h
  show GS Z X 0 [(0, .ref (zb Z + a)), (1, .int p1)] [] M
  refine g_aload_n (n := 1) (i := 0) C dX2_hourOf_0 rfl 0 rfl rfl ?_
  refine gf_X2_40 (n := 4) C E (Hh.o hZ ha) dX2_hourOf_1 rfl ?_
  refine g_iload_n (n := 5) (i := 1) C dX2_hourOf_4 rfl 1 rfl rfl ?_
  refine g_callNi (n := 8) (kd := 4) C E (c_Plan_has hZ _ 4 (by unfold Hp; decide) p1 M _ h) yi_X4_has wn_540 rfl (ox_4 hZ) (by decide) (Nat.le_of_ble_eq_true rfl) dX2_hourOf_5 rfl rfl (fun r2 M1 h => ?_)
  refine g_if_eq (n := 11) (tgt := 20) C dX2_hourOf_8 (by decide) rfl (fun c => ?_) (fun c => ?_)
  · replace h := h.1 c
    refine g_ldc (n := 22) (1000000 : Int32) C wd_607 dX2_hourOf_20 rfl ?_
    exact g_iret C hr hQ dX2_hourOf_22 h
  · replace h := h.2 c
    refine g_aload_n (n := 12) (i := 0) C dX2_hourOf_11 rfl 0 rfl rfl ?_
    refine gf_X2_15 (n := 15) (a + 2) C E (Hh.o hZ ha) rfl dX2_hourOf_12 rfl ?_
    refine g_iload_n (n := 16) (i := 1) C dX2_hourOf_15 rfl 1 rfl rfl ?_
    refine g_iald (n := 17) C E (Hh.f2 hZ ha) h.1 dX2_hourOf_16 rfl ?_
    replace h := h.2
    refine g_goto (tgt := 22) C dX2_hourOf_17 (by decide) ?_
    exact g_iret C hr hQ dX2_hourOf_22 h
def B_House_brings_i (a : Nat) (p1 : Int32) (post : Int32 → Mem → Prop)  (M : Mem)  : Prop :=
  P_Plan_has M 4 p1 (fun (r2 : Int32) (M1 : Mem) => (((¬ r2 = 0) → vp_in p1 7 ∧ (∀ z3 : Int32, z3 = (M1 7 (p1).toNatClampNeg) → vp_in p1 7 ∧ ((((¬ (M1 5 (p1).toNatClampNeg) = (1 : Int32)) → vp_in p1 7 ∧ ((((¬ (M1 5 (p1).toNatClampNeg) = (3 : Int32)) → vp_in p1 7 ∧ (post (z3 + (M1 (a + 3) (p1).toNatClampNeg)) M1)) ∧ (((M1 5 (p1).toNatClampNeg) = (3 : Int32)) → ∀ z4 : Int32, z4 = (z3 / (2 : Int32)) → vp_in p1 7 ∧ (post (z4 + (M1 (a + 3) (p1).toNatClampNeg)) M1))))) ∧ (((M1 5 (p1).toNatClampNeg) = (1 : Int32)) → ∀ z5 : Int32, z5 = ((2 : Int32) * z3) → vp_in p1 7 ∧ (post (z5 + (M1 (a + 3) (p1).toNatClampNeg)) M1)))))) ∧ ((r2 = 0) → post (0 : Int32) M1)))
def P_House_brings (M : Mem) (a : Nat) (p1 : Int32) (post : Int32 → Mem → Prop) : Prop := B_House_brings_i a p1 post M
set_option maxHeartbeats 4000000 in
set_option maxRecDepth 100000 in
theorem c_House_brings {Z : ZT} (hZ : IsX Z) (l : Launch) (a : Nat) (ha : Hh a) (p1 : Int32) (M : Mem) (post : Int32 → Mem → Prop) (h : P_House_brings M a p1 post) : CtI Z l yX2_brings cX2_brings 3 (some .int) 1 21 [.ref (zb Z + a), .int p1] M post := by
  refine ctI (own := RX2) rfl (by decide) (Nat.le_of_ble_eq_true rfl) (fun X C E hr hQ => ?_)
  unfold P_House_brings at h
  unfold B_House_brings_i at h
  show GS Z X 0 [(0, .ref (zb Z + a)), (1, .int p1)] [] M
  refine g_aload_n (n := 1) (i := 0) C dX2_brings_0 rfl 0 rfl rfl ?_
  refine gf_X2_40 (n := 4) C E (Hh.o hZ ha) dX2_brings_1 rfl ?_
  refine g_iload_n (n := 5) (i := 1) C dX2_brings_4 rfl 1 rfl rfl ?_
  refine g_callNi (n := 8) (kd := 4) C E (c_Plan_has hZ _ 4 (by unfold Hp; decide) p1 M _ h) yi_X4_has wn_540 rfl (ox_4 hZ) (by decide) (Nat.le_of_ble_eq_true rfl) dX2_brings_5 rfl rfl (fun r2 M1 h => ?_)
  refine g_if_ne (n := 11) (tgt := 13) C dX2_brings_8 (by decide) rfl (fun c => ?_) (fun c => ?_)
  · replace h := h.1 c
    refine g_aload_n (n := 14) (i := 0) C dX2_brings_13 rfl 0 rfl rfl ?_
    refine gf_X2_40 (n := 17) C E (Hh.o hZ ha) dX2_brings_14 rfl ?_
    refine gf_X2_56 (n := 20) 7 C E (ox_4 hZ) rfl dX2_brings_17 rfl ?_
    refine g_iload_n (n := 21) (i := 1) C dX2_brings_20 rfl 1 rfl rfl ?_
    refine g_iald (n := 22) C E (ox_7 hZ) h.1 dX2_brings_21 rfl ?_
    replace h := h.2
    refine g_istore_n (n := 23) (i := 2) C dX2_brings_22 rfl (Nat.le_of_ble_eq_true rfl) rfl rfl (fun z3 ez3 => ?_)
    replace h := h z3 ez3
    refine g_aload_n (n := 24) (i := 0) C dX2_brings_23 rfl 1 rfl rfl ?_
    refine gf_X2_40 (n := 27) C E (Hh.o hZ ha) dX2_brings_24 rfl ?_
    refine gf_X2_59 (n := 30) 5 C E (ox_4 hZ) rfl dX2_brings_27 rfl ?_
    refine g_iload_n (n := 31) (i := 1) C dX2_brings_30 rfl 2 rfl rfl ?_
    refine g_iald (n := 32) C E (ox_5 hZ) h.1 dX2_brings_31 rfl ?_
    replace h := h.2
    refine g_iconst (n := 33) (1 : Int32) C dX2_brings_32 (by decide) rfl ?_
    refine g_icmp_ne (n := 36) (tgt := 43) C dX2_brings_33 (by decide) rfl (fun c => ?_) (fun c => ?_)
    · replace h := h.1 c
      refine g_aload_n (n := 44) (i := 0) C dX2_brings_43 rfl 1 rfl rfl ?_
      refine gf_X2_40 (n := 47) C E (Hh.o hZ ha) dX2_brings_44 rfl ?_
      refine gf_X2_59 (n := 50) 5 C E (ox_4 hZ) rfl dX2_brings_47 rfl ?_
      refine g_iload_n (n := 51) (i := 1) C dX2_brings_50 rfl 2 rfl rfl ?_
      refine g_iald (n := 52) C E (ox_5 hZ) h.1 dX2_brings_51 rfl ?_
      replace h := h.2
      refine g_iconst (n := 53) (3 : Int32) C dX2_brings_52 (by decide) rfl ?_
      refine g_icmp_ne (n := 56) (tgt := 60) C dX2_brings_53 (by decide) rfl (fun c => ?_) (fun c => ?_)
      · replace h := h.1 c
        refine g_iload_n (n := 61) (i := 2) C dX2_brings_60 rfl 0 rfl rfl ?_
        refine g_aload_n (n := 62) (i := 0) C dX2_brings_61 rfl 1 rfl rfl ?_
        refine gf_X2_18 (n := 65) (a + 3) C E (Hh.o hZ ha) rfl dX2_brings_62 rfl ?_
        refine g_iload_n (n := 66) (i := 1) C dX2_brings_65 rfl 2 rfl rfl ?_
        refine g_iald (n := 67) C E (Hh.f3 hZ ha) h.1 dX2_brings_66 rfl ?_
        replace h := h.2
        refine g_iadd (n := 68) C dX2_brings_67 rfl ?_
        exact g_iret C hr hQ dX2_brings_68 h
      · replace h := h.2 c
        refine g_iload_n (n := 57) (i := 2) C dX2_brings_56 rfl 0 rfl rfl ?_
        refine g_iconst (n := 58) (2 : Int32) C dX2_brings_57 (by decide) rfl ?_
        refine g_idiv (n := 59) C dX2_brings_58 (by decide) rfl ?_
        refine g_istore_n (n := 60) (i := 2) C dX2_brings_59 rfl (Nat.le_of_ble_eq_true rfl) rfl rfl (fun z4 ez4 => ?_)
        replace h := h z4 ez4
        refine g_iload_n (n := 61) (i := 2) C dX2_brings_60 rfl 0 rfl rfl ?_
        refine g_aload_n (n := 62) (i := 0) C dX2_brings_61 rfl 1 rfl rfl ?_
        refine gf_X2_18 (n := 65) (a + 3) C E (Hh.o hZ ha) rfl dX2_brings_62 rfl ?_
        refine g_iload_n (n := 66) (i := 1) C dX2_brings_65 rfl 2 rfl rfl ?_
        refine g_iald (n := 67) C E (Hh.f3 hZ ha) h.1 dX2_brings_66 rfl ?_
        replace h := h.2
        refine g_iadd (n := 68) C dX2_brings_67 rfl ?_
        exact g_iret C hr hQ dX2_brings_68 h
    · replace h := h.2 c
      refine g_iconst (n := 37) (2 : Int32) C dX2_brings_36 (by decide) rfl ?_
      refine g_iload_n (n := 38) (i := 2) C dX2_brings_37 rfl 0 rfl rfl ?_
      refine g_imul (n := 39) C dX2_brings_38 rfl ?_
      refine g_istore_n (n := 40) (i := 2) C dX2_brings_39 rfl (Nat.le_of_ble_eq_true rfl) rfl rfl (fun z5 ez5 => ?_)
      replace h := h z5 ez5
      refine g_goto (tgt := 60) C dX2_brings_40 (by decide) ?_
      refine g_iload_n (n := 61) (i := 2) C dX2_brings_60 rfl 0 rfl rfl ?_
      refine g_aload_n (n := 62) (i := 0) C dX2_brings_61 rfl 1 rfl rfl ?_
      refine gf_X2_18 (n := 65) (a + 3) C E (Hh.o hZ ha) rfl dX2_brings_62 rfl ?_
      refine g_iload_n (n := 66) (i := 1) C dX2_brings_65 rfl 2 rfl rfl ?_
      refine g_iald (n := 67) C E (Hh.f3 hZ ha) h.1 dX2_brings_66 rfl ?_
      replace h := h.2
      refine g_iadd (n := 68) C dX2_brings_67 rfl ?_
      exact g_iret C hr hQ dX2_brings_68 h
  · replace h := h.2 c
    refine g_iconst (n := 12) (0 : Int32) C dX2_brings_11 (by decide) rfl ?_
    exact g_iret C hr hQ dX2_brings_12 h
def B_House_giveRoom_i (a : Nat) (p1 : Int32) (p2 : Int32) (post : Mem → Prop)  (M : Mem)  : Prop :=
  P_Plan_has M 4 p1 (fun (r2 : Int32) (M1 : Mem) => (((r2 = 0) → post M1) ∧ ((¬ r2 = 0) → vp_in p1 7 ∧ (∀ M3 : Mem, M3 = mset M1 (a + 3) (p1).toNatClampNeg p2 → post M3))))
def P_House_giveRoom (M : Mem) (a : Nat) (p1 : Int32) (p2 : Int32) (post : Mem → Prop) : Prop := B_House_giveRoom_i a p1 p2 post M
set_option maxHeartbeats 4000000 in
set_option maxRecDepth 100000 in
theorem c_House_giveRoom {Z : ZT} (hZ : IsX Z) (l : Launch) (a : Nat) (ha : Hh a) (p1 : Int32) (p2 : Int32) (M : Mem) (post : Mem → Prop) (h : P_House_giveRoom M a p1 p2 post) : CtV Z l yX2_giveRoom cX2_giveRoom 3 none 1 21 [.ref (zb Z + a), .int p1, .int p2] M post := by
  refine ctV (own := RX2) rfl (by decide) (Nat.le_of_ble_eq_true rfl) (fun X C E hr hQ => ?_)
  unfold P_House_giveRoom at h
  unfold B_House_giveRoom_i at h
  show GS Z X 0 [(0, .ref (zb Z + a)), (1, .int p1), (2, .int p2)] [] M
  refine g_aload_n (n := 1) (i := 0) C dX2_giveRoom_0 rfl 0 rfl rfl ?_
  refine gf_X2_40 (n := 4) C E (Hh.o hZ ha) dX2_giveRoom_1 rfl ?_
  refine g_iload_n (n := 5) (i := 1) C dX2_giveRoom_4 rfl 1 rfl rfl ?_
  refine g_callNi (n := 8) (kd := 4) C E (c_Plan_has hZ _ 4 (by unfold Hp; decide) p1 M _ h) yi_X4_has wn_540 rfl (ox_4 hZ) (by decide) (Nat.le_of_ble_eq_true rfl) dX2_giveRoom_5 rfl rfl (fun r2 M1 h => ?_)
  refine g_if_eq (n := 11) (tgt := 18) C dX2_giveRoom_8 (by decide) rfl (fun c => ?_) (fun c => ?_)
  · replace h := h.1 c
    exact g_vret C hr hQ dX2_giveRoom_18 h
  · replace h := h.2 c
    refine g_aload_n (n := 12) (i := 0) C dX2_giveRoom_11 rfl 0 rfl rfl ?_
    refine gf_X2_18 (n := 15) (a + 3) C E (Hh.o hZ ha) rfl dX2_giveRoom_12 rfl ?_
    refine g_iload_n (n := 16) (i := 1) C dX2_giveRoom_15 rfl 1 rfl rfl ?_
    refine g_iload_n (n := 17) (i := 2) C dX2_giveRoom_16 rfl 2 rfl rfl ?_
    refine g_iast (n := 18) C E (Hh.f3 hZ ha) h.1 dX2_giveRoom_17 rfl (fun M3 eM3 => ?_)
    replace h := h.2 M3 eM3
    exact g_vret C hr hQ dX2_giveRoom_18 h
def B_House_roomOf_i (a : Nat) (p1 : Int32) (post : Int32 → Mem → Prop)  (M : Mem)  : Prop :=
  P_Plan_has M 4 p1 (fun (r2 : Int32) (M1 : Mem) => (((r2 = 0) → post (0 : Int32) M1) ∧ ((¬ r2 = 0) → vp_in p1 7 ∧ (post (M1 (a + 3) (p1).toNatClampNeg) M1))))
def P_House_roomOf (M : Mem) (a : Nat) (p1 : Int32) (post : Int32 → Mem → Prop) : Prop := B_House_roomOf_i a p1 post M
set_option maxHeartbeats 4000000 in
set_option maxRecDepth 100000 in
theorem c_House_roomOf {Z : ZT} (hZ : IsX Z) (l : Launch) (a : Nat) (ha : Hh a) (p1 : Int32) (M : Mem) (post : Int32 → Mem → Prop) (h : P_House_roomOf M a p1 post) : CtI Z l yX2_roomOf cX2_roomOf 2 (some .int) 1 21 [.ref (zb Z + a), .int p1] M post := by
  refine ctI (own := RX2) rfl (by decide) (Nat.le_of_ble_eq_true rfl) (fun X C E hr hQ => ?_)
  unfold P_House_roomOf at h
  unfold B_House_roomOf_i at h
  show GS Z X 0 [(0, .ref (zb Z + a)), (1, .int p1)] [] M
  refine g_aload_n (n := 1) (i := 0) C dX2_roomOf_0 rfl 0 rfl rfl ?_
  refine gf_X2_40 (n := 4) C E (Hh.o hZ ha) dX2_roomOf_1 rfl ?_
  refine g_iload_n (n := 5) (i := 1) C dX2_roomOf_4 rfl 1 rfl rfl ?_
  refine g_callNi (n := 8) (kd := 4) C E (c_Plan_has hZ _ 4 (by unfold Hp; decide) p1 M _ h) yi_X4_has wn_540 rfl (ox_4 hZ) (by decide) (Nat.le_of_ble_eq_true rfl) dX2_roomOf_5 rfl rfl (fun r2 M1 h => ?_)
  refine g_if_eq (n := 11) (tgt := 20) C dX2_roomOf_8 (by decide) rfl (fun c => ?_) (fun c => ?_)
  · replace h := h.1 c
    refine g_iconst (n := 21) (0 : Int32) C dX2_roomOf_20 (by decide) rfl ?_
    exact g_iret C hr hQ dX2_roomOf_21 h
  · replace h := h.2 c
    refine g_aload_n (n := 12) (i := 0) C dX2_roomOf_11 rfl 0 rfl rfl ?_
    refine gf_X2_18 (n := 15) (a + 3) C E (Hh.o hZ ha) rfl dX2_roomOf_12 rfl ?_
    refine g_iload_n (n := 16) (i := 1) C dX2_roomOf_15 rfl 1 rfl rfl ?_
    refine g_iald (n := 17) C E (Hh.f3 hZ ha) h.1 dX2_roomOf_16 rfl ?_
    replace h := h.2
    refine g_goto (tgt := 21) C dX2_roomOf_17 (by decide) ?_
    exact g_iret C hr hQ dX2_roomOf_21 h
def B_House_open_i (a : Nat) (post : Mem → Prop) (R13 : Mem → Int32 → Prop) (M : Mem)  : Prop :=
  ∀ M1 : Mem, M1 = mset M a 8 (-4 : Int32) → ∀ M2 : Mem, M2 = mset M1 a 9 (0 : Int32) → ∀ z3 : Int32, z3 = (0 : Int32) → (R13 M2 z3)
def B_House_open_13 (a : Nat) (post : Mem → Prop) (R13 : Mem → Int32 → Prop) (M : Mem) (x13_1 : Int32) : Prop :=
  ((((7 : Int32) ≤ x13_1) → post M) ∧ ((¬ (7 : Int32) ≤ x13_1) → vp_in x13_1 7 ∧ (∀ M4 : Mem, M4 = mset M (a + 1) (x13_1).toNatClampNeg (0 : Int32) → vp_in x13_1 7 ∧ (vp_in x13_1 7 ∧ (∀ M5 : Mem, M5 = mset M4 (a + 2) (x13_1).toNatClampNeg (M4 6 (x13_1).toNatClampNeg) → vp_in x13_1 7 ∧ (vp_in x13_1 7 ∧ (∀ M6 : Mem, M6 = mset M5 (a + 3) (x13_1).toNatClampNeg (M5 10 (x13_1).toNatClampNeg) → vp_in x13_1 7 ∧ (∀ M7 : Mem, M7 = mset M6 (a + 4) (x13_1).toNatClampNeg (0 : Int32) → vp_in x13_1 7 ∧ (∀ M8 : Mem, M8 = mset M7 (a + 5) (x13_1).toNatClampNeg (-4 : Int32) → vp_in x13_1 7 ∧ (∀ M9 : Mem, M9 = mset M8 (a + 6) (x13_1).toNatClampNeg (0 : Int32) → vp_in x13_1 7 ∧ (∀ M10 : Mem, M10 = mset M9 (a + 7) (x13_1).toNatClampNeg (0 : Int32) → ∀ z11 : Int32, z11 = x13_1 + (1 : Int32) → (R13 M10 z11))))))))))))
def P_House_open (M : Mem) (a : Nat) (post : Mem → Prop) : Prop :=
  ∀ (R13 : Mem → Int32 → Prop), (∀ (M : Mem) (x13_1 : Int32), B_House_open_13 a post R13 M x13_1 → R13 M x13_1) → B_House_open_i a post R13 M
set_option maxHeartbeats 4000000 in
set_option maxRecDepth 100000 in
theorem c_House_open {Z : ZT} (hZ : IsX Z) (l : Launch) (a : Nat) (ha : Hh a) (M : Mem) (post : Mem → Prop) (h : P_House_open M a post) : CtV Z l yX2_open cX2_open 2 none 0 0 [.ref (zb Z + a)] M post := by
  refine ctV (own := RX2) rfl (by decide) (Nat.le_of_ble_eq_true rfl) (fun X C E hr hQ => ?_)
  have s13 : ∀ (M : Mem) (x13_1 : Int32), B_House_open_13 a post (fun (M : Mem) (x13_1 : Int32) => GS Z X 13 [(0, .ref (zb Z + a)), (1, .int x13_1)] [] M) M x13_1 → GS Z X 13 [(0, .ref (zb Z + a)), (1, .int x13_1)] [] M := by
    intro M x13_1 h
    unfold B_House_open_13 at h
    refine g_iload_n (n := 14) (i := 1) C dX2_open_13 rfl 1 rfl rfl ?_
    refine g_bipush (n := 16) (7 : Int32) C dX2_open_14 (by decide) rfl ?_
    refine g_icmp_ge (n := 19) (tgt := 91) C dX2_open_16 (by decide) rfl (fun c => ?_) (fun c => ?_)
    · replace h := h.1 c
      exact g_vret C hr hQ dX2_open_91 h
    · replace h := h.2 c
      refine g_aload_n (n := 20) (i := 0) C dX2_open_19 rfl 0 rfl rfl ?_
      refine gf_X2_9 (n := 23) (a + 1) C E (Hh.o hZ ha) rfl dX2_open_20 rfl ?_
      refine g_iload_n (n := 24) (i := 1) C dX2_open_23 rfl 1 rfl rfl ?_
      refine g_iconst (n := 25) (0 : Int32) C dX2_open_24 (by decide) rfl ?_
      refine g_iast (n := 26) C E (Hh.f1 hZ ha) h.1 dX2_open_25 rfl (fun M4 eM4 => ?_)
      replace h := h.2 M4 eM4
      refine g_aload_n (n := 27) (i := 0) C dX2_open_26 rfl 0 rfl rfl ?_
      refine gf_X2_15 (n := 30) (a + 2) C E (Hh.o hZ ha) rfl dX2_open_27 rfl ?_
      refine g_iload_n (n := 31) (i := 1) C dX2_open_30 rfl 1 rfl rfl ?_
      refine g_aload_n (n := 32) (i := 0) C dX2_open_31 rfl 0 rfl rfl ?_
      refine gf_X2_40 (n := 35) C E (Hh.o hZ ha) dX2_open_32 rfl ?_
      refine gf_X2_44 (n := 38) 6 C E (ox_4 hZ) rfl dX2_open_35 rfl ?_
      refine g_iload_n (n := 39) (i := 1) C dX2_open_38 rfl 1 rfl rfl ?_
      refine g_iald (n := 40) C E (ox_6 hZ) h.1 dX2_open_39 rfl ?_
      replace h := h.2
      refine g_iast (n := 41) C E (Hh.f2 hZ ha) h.1 dX2_open_40 rfl (fun M5 eM5 => ?_)
      replace h := h.2 M5 eM5
      refine g_aload_n (n := 42) (i := 0) C dX2_open_41 rfl 0 rfl rfl ?_
      refine gf_X2_18 (n := 45) (a + 3) C E (Hh.o hZ ha) rfl dX2_open_42 rfl ?_
      refine g_iload_n (n := 46) (i := 1) C dX2_open_45 rfl 1 rfl rfl ?_
      refine g_aload_n (n := 47) (i := 0) C dX2_open_46 rfl 0 rfl rfl ?_
      refine gf_X2_40 (n := 50) C E (Hh.o hZ ha) dX2_open_47 rfl ?_
      refine gf_X2_47 (n := 53) 10 C E (ox_4 hZ) rfl dX2_open_50 rfl ?_
      refine g_iload_n (n := 54) (i := 1) C dX2_open_53 rfl 1 rfl rfl ?_
      refine g_iald (n := 55) C E (ox_10 hZ) h.1 dX2_open_54 rfl ?_
      replace h := h.2
      refine g_iast (n := 56) C E (Hh.f3 hZ ha) h.1 dX2_open_55 rfl (fun M6 eM6 => ?_)
      replace h := h.2 M6 eM6
      refine g_aload_n (n := 57) (i := 0) C dX2_open_56 rfl 0 rfl rfl ?_
      refine gf_X2_21 (n := 60) (a + 4) C E (Hh.o hZ ha) rfl dX2_open_57 rfl ?_
      refine g_iload_n (n := 61) (i := 1) C dX2_open_60 rfl 1 rfl rfl ?_
      refine g_iconst (n := 62) (0 : Int32) C dX2_open_61 (by decide) rfl ?_
      refine g_iast (n := 63) C E (Hh.f4 hZ ha) h.1 dX2_open_62 rfl (fun M7 eM7 => ?_)
      replace h := h.2 M7 eM7
      refine g_aload_n (n := 64) (i := 0) C dX2_open_63 rfl 0 rfl rfl ?_
      refine gf_X2_24 (n := 67) (a + 5) C E (Hh.o hZ ha) rfl dX2_open_64 rfl ?_
      refine g_iload_n (n := 68) (i := 1) C dX2_open_67 rfl 1 rfl rfl ?_
      refine g_bipush (n := 70) (-4 : Int32) C dX2_open_68 (by decide) rfl ?_
      refine g_iast (n := 71) C E (Hh.f5 hZ ha) h.1 dX2_open_70 rfl (fun M8 eM8 => ?_)
      replace h := h.2 M8 eM8
      refine g_aload_n (n := 72) (i := 0) C dX2_open_71 rfl 0 rfl rfl ?_
      refine gf_X2_27 (n := 75) (a + 6) C E (Hh.o hZ ha) rfl dX2_open_72 rfl ?_
      refine g_iload_n (n := 76) (i := 1) C dX2_open_75 rfl 1 rfl rfl ?_
      refine g_iconst (n := 77) (0 : Int32) C dX2_open_76 (by decide) rfl ?_
      refine g_iast (n := 78) C E (Hh.f6 hZ ha) h.1 dX2_open_77 rfl (fun M9 eM9 => ?_)
      replace h := h.2 M9 eM9
      refine g_aload_n (n := 79) (i := 0) C dX2_open_78 rfl 0 rfl rfl ?_
      refine gf_X2_30 (n := 82) (a + 7) C E (Hh.o hZ ha) rfl dX2_open_79 rfl ?_
      refine g_iload_n (n := 83) (i := 1) C dX2_open_82 rfl 1 rfl rfl ?_
      refine g_iconst (n := 84) (0 : Int32) C dX2_open_83 (by decide) rfl ?_
      refine g_iast (n := 85) C E (Hh.f7 hZ ha) h.1 dX2_open_84 rfl (fun M10 eM10 => ?_)
      replace h := h.2 M10 eM10
      refine g_iinc (n := 88) (v := (1 : Int32)) C dX2_open_85 1 rfl (by decide) (Nat.le_of_ble_eq_true rfl) rfl rfl (fun z11 ez11 => ?_)
      replace h := h z11 ez11
      refine g_goto (tgt := 13) C dX2_open_88 (by decide) ?_
      exact g_sub [1, 0] rfl h
  replace h := h (fun (M : Mem) (x13_1 : Int32) => GS Z X 13 [(0, .ref (zb Z + a)), (1, .int x13_1)] [] M) s13
  unfold B_House_open_i at h
  show GS Z X 0 [(0, .ref (zb Z + a))] [] M
  refine g_aload_n (n := 1) (i := 0) C dX2_open_0 rfl 0 rfl rfl ?_
  refine g_bipush (n := 3) (-4 : Int32) C dX2_open_1 (by decide) rfl ?_
  refine gp_X2_33 (n := 6) C E (Hh.o hZ ha) dX2_open_3 rfl (fun M1 eM1 => ?_)
  replace h := h M1 eM1
  refine g_aload_n (n := 7) (i := 0) C dX2_open_6 rfl 0 rfl rfl ?_
  refine g_iconst (n := 8) (0 : Int32) C dX2_open_7 (by decide) rfl ?_
  refine gp_X2_37 (n := 11) C E (Hh.o hZ ha) dX2_open_8 rfl (fun M2 eM2 => ?_)
  replace h := h M2 eM2
  refine g_iconst (n := 12) (0 : Int32) C dX2_open_11 (by decide) rfl ?_
  refine g_istore_n (n := 13) (i := 1) C dX2_open_12 rfl (Nat.le_of_ble_eq_true rfl) rfl rfl (fun z3 ez3 => ?_)
  replace h := h z3 ez3
  exact g_sub [1, 0] rfl h
def B_House_isBooked_i (a : Nat) (p1 : Int32) (post : Int32 → Mem → Prop)  (M : Mem)  : Prop :=
  P_Plan_has M 4 p1 (fun (r2 : Int32) (M1 : Mem) => (((r2 = 0) → post (0 : Int32) M1) ∧ ((¬ r2 = 0) → vp_in p1 7 ∧ ((((¬ (M1 (a + 1) (p1).toNatClampNeg) = 0) → post (0 : Int32) M1) ∧ (((M1 (a + 1) (p1).toNatClampNeg) = 0) → post (1 : Int32) M1))))))
def P_House_isBooked (M : Mem) (a : Nat) (p1 : Int32) (post : Int32 → Mem → Prop) : Prop := B_House_isBooked_i a p1 post M
set_option maxHeartbeats 4000000 in
set_option maxRecDepth 100000 in
theorem c_House_isBooked {Z : ZT} (hZ : IsX Z) (l : Launch) (a : Nat) (ha : Hh a) (p1 : Int32) (M : Mem) (post : Int32 → Mem → Prop) (h : P_House_isBooked M a p1 post) : CtI Z l yX2_isBooked cX2_isBooked 2 (some .boolean) 1 21 [.ref (zb Z + a), .int p1] M post := by
  refine ctI (own := RX2) rfl (by decide) (Nat.le_of_ble_eq_true rfl) (fun X C E hr hQ => ?_)
  unfold P_House_isBooked at h
  unfold B_House_isBooked_i at h
  show GS Z X 0 [(0, .ref (zb Z + a)), (1, .int p1)] [] M
  refine g_aload_n (n := 1) (i := 0) C dX2_isBooked_0 rfl 0 rfl rfl ?_
  refine gf_X2_40 (n := 4) C E (Hh.o hZ ha) dX2_isBooked_1 rfl ?_
  refine g_iload_n (n := 5) (i := 1) C dX2_isBooked_4 rfl 1 rfl rfl ?_
  refine g_callNi (n := 8) (kd := 4) C E (c_Plan_has hZ _ 4 (by unfold Hp; decide) p1 M _ h) yi_X4_has wn_540 rfl (ox_4 hZ) (by decide) (Nat.le_of_ble_eq_true rfl) dX2_isBooked_5 rfl rfl (fun r2 M1 h => ?_)
  refine g_if_eq (n := 11) (tgt := 24) C dX2_isBooked_8 (by decide) rfl (fun c => ?_) (fun c => ?_)
  · replace h := h.1 c
    refine g_iconst (n := 25) (0 : Int32) C dX2_isBooked_24 (by decide) rfl ?_
    exact g_zret C hr hQ dX2_isBooked_25 rfl h
  · replace h := h.2 c
    refine g_aload_n (n := 12) (i := 0) C dX2_isBooked_11 rfl 0 rfl rfl ?_
    refine gf_X2_9 (n := 15) (a + 1) C E (Hh.o hZ ha) rfl dX2_isBooked_12 rfl ?_
    refine g_iload_n (n := 16) (i := 1) C dX2_isBooked_15 rfl 1 rfl rfl ?_
    refine g_iald (n := 17) C E (Hh.f1 hZ ha) h.1 dX2_isBooked_16 rfl ?_
    replace h := h.2
    refine g_if_ne (n := 20) (tgt := 24) C dX2_isBooked_17 (by decide) rfl (fun c => ?_) (fun c => ?_)
    · replace h := h.1 c
      refine g_iconst (n := 25) (0 : Int32) C dX2_isBooked_24 (by decide) rfl ?_
      exact g_zret C hr hQ dX2_isBooked_25 rfl h
    · replace h := h.2 c
      refine g_iconst (n := 21) (1 : Int32) C dX2_isBooked_20 (by decide) rfl ?_
      refine g_goto (tgt := 25) C dX2_isBooked_21 (by decide) ?_
      exact g_zret C hr hQ dX2_isBooked_25 rfl h
def B_House_rebook_i (a : Nat) (p1 : Int32) (p2 : Int32) (post : Mem → Prop)  (M : Mem)  : Prop :=
  P_House_isBooked M a p1 (fun (r2 : Int32) (M1 : Mem) => (((r2 = 0) → post M1) ∧ ((¬ r2 = 0) → (((p2 < (M1 a 9)) → post M1) ∧ ((¬ p2 < (M1 a 9)) → vp_in p1 7 ∧ (∀ M3 : Mem, M3 = mset M1 (a + 2) (p1).toNatClampNeg p2 → post M3))))))
def P_House_rebook (M : Mem) (a : Nat) (p1 : Int32) (p2 : Int32) (post : Mem → Prop) : Prop := B_House_rebook_i a p1 p2 post M
set_option maxHeartbeats 4000000 in
set_option maxRecDepth 100000 in
theorem c_House_rebook {Z : ZT} (hZ : IsX Z) (l : Launch) (a : Nat) (ha : Hh a) (p1 : Int32) (p2 : Int32) (M : Mem) (post : Mem → Prop) (h : P_House_rebook M a p1 p2 post) : CtV Z l yX2_rebook cX2_rebook 3 none 2 42 [.ref (zb Z + a), .int p1, .int p2] M post := by
  refine ctV (own := RX2) rfl (by decide) (Nat.le_of_ble_eq_true rfl) (fun X C E hr hQ => ?_)
  unfold P_House_rebook at h
  unfold B_House_rebook_i at h
  show GS Z X 0 [(0, .ref (zb Z + a)), (1, .int p1), (2, .int p2)] [] M
  refine g_aload_n (n := 1) (i := 0) C dX2_rebook_0 rfl 0 rfl rfl ?_
  refine g_iload_n (n := 2) (i := 1) C dX2_rebook_1 rfl 1 rfl rfl ?_
  refine g_callVi (n := 5) (kd := 2) C E (c_House_isBooked hZ _ a ha p1 M _ h) yi_X2_isBooked wd_562 rfl (Hh.o hZ ha) (by decide) (Nat.le_of_ble_eq_true rfl) dX2_rebook_2 rfl rfl (fun r2 M1 h => ?_)
  refine g_if_eq (n := 8) (tgt := 23) C dX2_rebook_5 (by decide) rfl (fun c => ?_) (fun c => ?_)
  · replace h := h.1 c
    exact g_vret C hr hQ dX2_rebook_23 h
  · replace h := h.2 c
    refine g_iload_n (n := 9) (i := 2) C dX2_rebook_8 rfl 2 rfl rfl ?_
    refine g_aload_n (n := 10) (i := 0) C dX2_rebook_9 rfl 0 rfl rfl ?_
    refine gf_X2_37 (n := 13) C E (Hh.o hZ ha) dX2_rebook_10 rfl ?_
    refine g_icmp_lt (n := 16) (tgt := 23) C dX2_rebook_13 (by decide) rfl (fun c => ?_) (fun c => ?_)
    · replace h := h.1 c
      exact g_vret C hr hQ dX2_rebook_23 h
    · replace h := h.2 c
      refine g_aload_n (n := 17) (i := 0) C dX2_rebook_16 rfl 0 rfl rfl ?_
      refine gf_X2_15 (n := 20) (a + 2) C E (Hh.o hZ ha) rfl dX2_rebook_17 rfl ?_
      refine g_iload_n (n := 21) (i := 1) C dX2_rebook_20 rfl 1 rfl rfl ?_
      refine g_iload_n (n := 22) (i := 2) C dX2_rebook_21 rfl 2 rfl rfl ?_
      refine g_iast (n := 23) C E (Hh.f2 hZ ha) h.1 dX2_rebook_22 rfl (fun M3 eM3 => ?_)
      replace h := h.2 M3 eM3
      exact g_vret C hr hQ dX2_rebook_23 h
def B_House_callOff_i (a : Nat) (p1 : Int32) (post : Mem → Prop)  (M : Mem)  : Prop :=
  P_House_isBooked M a p1 (fun (r2 : Int32) (M1 : Mem) => (((r2 = 0) → post M1) ∧ ((¬ r2 = 0) → vp_in p1 7 ∧ (∀ M3 : Mem, M3 = mset M1 (a + 1) (p1).toNatClampNeg (3 : Int32) → post M3))))
def P_House_callOff (M : Mem) (a : Nat) (p1 : Int32) (post : Mem → Prop) : Prop := B_House_callOff_i a p1 post M
set_option maxHeartbeats 4000000 in
set_option maxRecDepth 100000 in
theorem c_House_callOff {Z : ZT} (hZ : IsX Z) (l : Launch) (a : Nat) (ha : Hh a) (p1 : Int32) (M : Mem) (post : Mem → Prop) (h : P_House_callOff M a p1 post) : CtV Z l yX2_callOff cX2_callOff 2 none 2 42 [.ref (zb Z + a), .int p1] M post := by
  refine ctV (own := RX2) rfl (by decide) (Nat.le_of_ble_eq_true rfl) (fun X C E hr hQ => ?_)
  unfold P_House_callOff at h
  unfold B_House_callOff_i at h
  show GS Z X 0 [(0, .ref (zb Z + a)), (1, .int p1)] [] M
  refine g_aload_n (n := 1) (i := 0) C dX2_callOff_0 rfl 0 rfl rfl ?_
  refine g_iload_n (n := 2) (i := 1) C dX2_callOff_1 rfl 1 rfl rfl ?_
  refine g_callVi (n := 5) (kd := 2) C E (c_House_isBooked hZ _ a ha p1 M _ h) yi_X2_isBooked wd_562 rfl (Hh.o hZ ha) (by decide) (Nat.le_of_ble_eq_true rfl) dX2_callOff_2 rfl rfl (fun r2 M1 h => ?_)
  refine g_if_eq (n := 8) (tgt := 15) C dX2_callOff_5 (by decide) rfl (fun c => ?_) (fun c => ?_)
  · replace h := h.1 c
    exact g_vret C hr hQ dX2_callOff_15 h
  · replace h := h.2 c
    refine g_aload_n (n := 9) (i := 0) C dX2_callOff_8 rfl 0 rfl rfl ?_
    refine gf_X2_9 (n := 12) (a + 1) C E (Hh.o hZ ha) rfl dX2_callOff_9 rfl ?_
    refine g_iload_n (n := 13) (i := 1) C dX2_callOff_12 rfl 1 rfl rfl ?_
    refine g_iconst (n := 14) (3 : Int32) C dX2_callOff_13 (by decide) rfl ?_
    refine g_iast (n := 15) C E (Hh.f1 hZ ha) h.1 dX2_callOff_14 rfl (fun M3 eM3 => ?_)
    replace h := h.2 M3 eM3
    exact g_vret C hr hQ dX2_callOff_15 h
def B_House_swapRooms_i (a : Nat) (p1 : Int32) (p2 : Int32) (post : Mem → Prop)  (M : Mem)  : Prop :=
  P_House_isBooked M a p1 (fun (r2 : Int32) (M1 : Mem) => (((r2 = 0) → post M1) ∧ ((¬ r2 = 0) → P_House_isBooked M1 a p2 (fun (r4 : Int32) (M3 : Mem) => (((r4 = 0) → post M3) ∧ ((¬ r4 = 0) → vp_in p1 7 ∧ (∀ z5 : Int32, z5 = (M3 (a + 3) (p1).toNatClampNeg) → vp_in p2 7 ∧ (vp_in p1 7 ∧ (∀ M6 : Mem, M6 = mset M3 (a + 3) (p1).toNatClampNeg (M3 (a + 3) (p2).toNatClampNeg) → vp_in p2 7 ∧ (∀ M7 : Mem, M7 = mset M6 (a + 3) (p2).toNatClampNeg z5 → post M7))))))))))
def P_House_swapRooms (M : Mem) (a : Nat) (p1 : Int32) (p2 : Int32) (post : Mem → Prop) : Prop := B_House_swapRooms_i a p1 p2 post M
set_option maxHeartbeats 4000000 in
set_option maxRecDepth 100000 in
theorem c_House_swapRooms {Z : ZT} (hZ : IsX Z) (l : Launch) (a : Nat) (ha : Hh a) (p1 : Int32) (p2 : Int32) (M : Mem) (post : Mem → Prop) (h : P_House_swapRooms M a p1 p2 post) : CtV Z l yX2_swapRooms cX2_swapRooms 4 none 2 42 [.ref (zb Z + a), .int p1, .int p2] M post := by
  refine ctV (own := RX2) rfl (by decide) (Nat.le_of_ble_eq_true rfl) (fun X C E hr hQ => ?_)
  unfold P_House_swapRooms at h
  unfold B_House_swapRooms_i at h
  show GS Z X 0 [(0, .ref (zb Z + a)), (1, .int p1), (2, .int p2)] [] M
  refine g_aload_n (n := 1) (i := 0) C dX2_swapRooms_0 rfl 0 rfl rfl ?_
  refine g_iload_n (n := 2) (i := 1) C dX2_swapRooms_1 rfl 1 rfl rfl ?_
  refine g_callVi (n := 5) (kd := 2) C E (c_House_isBooked hZ _ a ha p1 M _ h) yi_X2_isBooked wd_562 rfl (Hh.o hZ ha) (by decide) (Nat.le_of_ble_eq_true rfl) dX2_swapRooms_2 rfl rfl (fun r2 M1 h => ?_)
  refine g_if_eq (n := 8) (tgt := 42) C dX2_swapRooms_5 (by decide) rfl (fun c => ?_) (fun c => ?_)
  · replace h := h.1 c
    exact g_vret C hr hQ dX2_swapRooms_42 h
  · replace h := h.2 c
    refine g_aload_n (n := 9) (i := 0) C dX2_swapRooms_8 rfl 0 rfl rfl ?_
    refine g_iload_n (n := 10) (i := 2) C dX2_swapRooms_9 rfl 2 rfl rfl ?_
    refine g_callVi (n := 13) (kd := 2) C E (c_House_isBooked hZ _ a ha p2 M1 _ h) yi_X2_isBooked wd_562 rfl (Hh.o hZ ha) (by decide) (Nat.le_of_ble_eq_true rfl) dX2_swapRooms_10 rfl rfl (fun r4 M3 h => ?_)
    refine g_if_eq (n := 16) (tgt := 42) C dX2_swapRooms_13 (by decide) rfl (fun c => ?_) (fun c => ?_)
    · replace h := h.1 c
      exact g_vret C hr hQ dX2_swapRooms_42 h
    · replace h := h.2 c
      refine g_aload_n (n := 17) (i := 0) C dX2_swapRooms_16 rfl 0 rfl rfl ?_
      refine gf_X2_18 (n := 20) (a + 3) C E (Hh.o hZ ha) rfl dX2_swapRooms_17 rfl ?_
      refine g_iload_n (n := 21) (i := 1) C dX2_swapRooms_20 rfl 1 rfl rfl ?_
      refine g_iald (n := 22) C E (Hh.f3 hZ ha) h.1 dX2_swapRooms_21 rfl ?_
      replace h := h.2
      refine g_istore_n (n := 23) (i := 3) C dX2_swapRooms_22 rfl (Nat.le_of_ble_eq_true rfl) rfl rfl (fun z5 ez5 => ?_)
      replace h := h z5 ez5
      refine g_aload_n (n := 24) (i := 0) C dX2_swapRooms_23 rfl 1 rfl rfl ?_
      refine gf_X2_18 (n := 27) (a + 3) C E (Hh.o hZ ha) rfl dX2_swapRooms_24 rfl ?_
      refine g_iload_n (n := 28) (i := 1) C dX2_swapRooms_27 rfl 2 rfl rfl ?_
      refine g_aload_n (n := 29) (i := 0) C dX2_swapRooms_28 rfl 1 rfl rfl ?_
      refine gf_X2_18 (n := 32) (a + 3) C E (Hh.o hZ ha) rfl dX2_swapRooms_29 rfl ?_
      refine g_iload_n (n := 33) (i := 2) C dX2_swapRooms_32 rfl 3 rfl rfl ?_
      refine g_iald (n := 34) C E (Hh.f3 hZ ha) h.1 dX2_swapRooms_33 rfl ?_
      replace h := h.2
      refine g_iast (n := 35) C E (Hh.f3 hZ ha) h.1 dX2_swapRooms_34 rfl (fun M6 eM6 => ?_)
      replace h := h.2 M6 eM6
      refine g_aload_n (n := 36) (i := 0) C dX2_swapRooms_35 rfl 1 rfl rfl ?_
      refine gf_X2_18 (n := 39) (a + 3) C E (Hh.o hZ ha) rfl dX2_swapRooms_36 rfl ?_
      refine g_iload_n (n := 40) (i := 2) C dX2_swapRooms_39 rfl 3 rfl rfl ?_
      refine g_iload_n (n := 41) (i := 3) C dX2_swapRooms_40 rfl 0 rfl rfl ?_
      refine g_iast (n := 42) C E (Hh.f3 hZ ha) h.1 dX2_swapRooms_41 rfl (fun M7 eM7 => ?_)
      replace h := h.2 M7 eM7
      exact g_vret C hr hQ dX2_swapRooms_42 h
def B_House_comes_i (a : Nat) (p1 : Int32) (post : Mem → Prop) (R68 : Mem → Prop) (M : Mem)  : Prop :=
  P_Plan_has M 4 p1 (fun (r2 : Int32) (M1 : Mem) => (((¬ r2 = 0) → P_Plan_has M1 4 (M1 a 8) (fun (r4 : Int32) (M3 : Mem) => (((r4 = 0) → (R68 M3)) ∧ ((¬ r4 = 0) → vp_in (M3 a 8) 7 ∧ (P_House_brings M3 a p1 (fun (r6 : Int32) (M5 : Mem) => vp_in (M3 a 8) 7 ∧ (∀ M7 : Mem, M7 = mset M5 (a + 4) ((M3 a 8)).toNatClampNeg ((M3 (a + 4) ((M3 a 8)).toNatClampNeg) + r6) → vp_in (M7 a 8) 7 ∧ (vp_in (M7 a 8) 7 ∧ (∀ M8 : Mem, M8 = mset M7 (a + 6) ((M7 a 8)).toNatClampNeg ((M7 (a + 6) ((M7 a 8)).toNatClampNeg) ||| ((1 : Int32) <<< (p1 &&& 31))) → vp_in p1 7 ∧ (∀ M9 : Mem, M9 = mset M8 (a + 5) (p1).toNatClampNeg (M8 a 8) → (R68 M9))))))))))) ∧ ((r2 = 0) → post M1)))
def B_House_comes_68 (a : Nat) (p1 : Int32) (post : Mem → Prop) (R68 : Mem → Prop) (M : Mem)  : Prop :=
  vp_in p1 7 ∧ ((((¬ (M 5 (p1).toNatClampNeg) = (2 : Int32)) → vp_in p1 7 ∧ (∀ M10 : Mem, M10 = mset M (a + 1) (p1).toNatClampNeg (1 : Int32) → ∀ M11 : Mem, M11 = mset M10 a 8 p1 → post M11)) ∧ (((M 5 (p1).toNatClampNeg) = (2 : Int32)) → vp_in p1 7 ∧ (∀ M12 : Mem, M12 = mset M (a + 1) (p1).toNatClampNeg (2 : Int32) → post M12))))
def P_House_comes (M : Mem) (a : Nat) (p1 : Int32) (post : Mem → Prop) : Prop :=
  ∀ (R68 : Mem → Prop), (∀ (M : Mem) , B_House_comes_68 a p1 post R68 M  → R68 M ) → B_House_comes_i a p1 post R68 M
set_option maxHeartbeats 4000000 in
set_option maxRecDepth 100000 in
theorem c_House_comes {Z : ZT} (hZ : IsX Z) (l : Launch) (a : Nat) (ha : Hh a) (p1 : Int32) (M : Mem) (post : Mem → Prop) (h : P_House_comes M a p1 post) : CtV Z l yX2_comes cX2_comes 2 none 2 43 [.ref (zb Z + a), .int p1] M post := by
  refine ctV (own := RX2) rfl (by decide) (Nat.le_of_ble_eq_true rfl) (fun X C E hr hQ => ?_)
  have s68 : ∀ (M : Mem) , B_House_comes_68 a p1 post (fun (M : Mem)  => GS Z X 68 [(0, .ref (zb Z + a)), (1, .int p1)] [] M) M  → GS Z X 68 [(0, .ref (zb Z + a)), (1, .int p1)] [] M := by
    intro M  h
    unfold B_House_comes_68 at h
    refine g_aload_n (n := 69) (i := 0) C dX2_comes_68 rfl 0 rfl rfl ?_
    refine gf_X2_40 (n := 72) C E (Hh.o hZ ha) dX2_comes_69 rfl ?_
    refine gf_X2_59 (n := 75) 5 C E (ox_4 hZ) rfl dX2_comes_72 rfl ?_
    refine g_iload_n (n := 76) (i := 1) C dX2_comes_75 rfl 1 rfl rfl ?_
    refine g_iald (n := 77) C E (ox_5 hZ) h.1 dX2_comes_76 rfl ?_
    replace h := h.2
    refine g_iconst (n := 78) (2 : Int32) C dX2_comes_77 (by decide) rfl ?_
    refine g_icmp_ne (n := 81) (tgt := 91) C dX2_comes_78 (by decide) rfl (fun c => ?_) (fun c => ?_)
    · replace h := h.1 c
      refine g_aload_n (n := 92) (i := 0) C dX2_comes_91 rfl 0 rfl rfl ?_
      refine gf_X2_9 (n := 95) (a + 1) C E (Hh.o hZ ha) rfl dX2_comes_92 rfl ?_
      refine g_iload_n (n := 96) (i := 1) C dX2_comes_95 rfl 1 rfl rfl ?_
      refine g_iconst (n := 97) (1 : Int32) C dX2_comes_96 (by decide) rfl ?_
      refine g_iast (n := 98) C E (Hh.f1 hZ ha) h.1 dX2_comes_97 rfl (fun M10 eM10 => ?_)
      replace h := h.2 M10 eM10
      refine g_aload_n (n := 99) (i := 0) C dX2_comes_98 rfl 0 rfl rfl ?_
      refine g_iload_n (n := 100) (i := 1) C dX2_comes_99 rfl 1 rfl rfl ?_
      refine gp_X2_33 (n := 103) C E (Hh.o hZ ha) dX2_comes_100 rfl (fun M11 eM11 => ?_)
      replace h := h M11 eM11
      exact g_vret C hr hQ dX2_comes_103 h
    · replace h := h.2 c
      refine g_aload_n (n := 82) (i := 0) C dX2_comes_81 rfl 0 rfl rfl ?_
      refine gf_X2_9 (n := 85) (a + 1) C E (Hh.o hZ ha) rfl dX2_comes_82 rfl ?_
      refine g_iload_n (n := 86) (i := 1) C dX2_comes_85 rfl 1 rfl rfl ?_
      refine g_iconst (n := 87) (2 : Int32) C dX2_comes_86 (by decide) rfl ?_
      refine g_iast (n := 88) C E (Hh.f1 hZ ha) h.1 dX2_comes_87 rfl (fun M12 eM12 => ?_)
      replace h := h.2 M12 eM12
      refine g_goto (tgt := 103) C dX2_comes_88 (by decide) ?_
      exact g_vret C hr hQ dX2_comes_103 h
  replace h := h (fun (M : Mem)  => GS Z X 68 [(0, .ref (zb Z + a)), (1, .int p1)] [] M) s68
  unfold B_House_comes_i at h
  show GS Z X 0 [(0, .ref (zb Z + a)), (1, .int p1)] [] M
  refine g_aload_n (n := 1) (i := 0) C dX2_comes_0 rfl 0 rfl rfl ?_
  refine gf_X2_40 (n := 4) C E (Hh.o hZ ha) dX2_comes_1 rfl ?_
  refine g_iload_n (n := 5) (i := 1) C dX2_comes_4 rfl 1 rfl rfl ?_
  refine g_callNi (n := 8) (kd := 4) C E (c_Plan_has hZ _ 4 (by unfold Hp; decide) p1 M _ h) yi_X4_has wn_540 rfl (ox_4 hZ) (by decide) (Nat.le_of_ble_eq_true rfl) dX2_comes_5 rfl rfl (fun r2 M1 h => ?_)
  refine g_if_ne (n := 11) (tgt := 12) C dX2_comes_8 (by decide) rfl (fun c => ?_) (fun c => ?_)
  · replace h := h.1 c
    refine g_aload_n (n := 13) (i := 0) C dX2_comes_12 rfl 0 rfl rfl ?_
    refine gf_X2_40 (n := 16) C E (Hh.o hZ ha) dX2_comes_13 rfl ?_
    refine g_aload_n (n := 17) (i := 0) C dX2_comes_16 rfl 0 rfl rfl ?_
    refine gf_X2_33 (n := 20) C E (Hh.o hZ ha) dX2_comes_17 rfl ?_
    refine g_callNi (n := 23) (kd := 4) C E (c_Plan_has hZ _ 4 (by unfold Hp; decide) (M1 a 8) M1 _ h) yi_X4_has wn_540 rfl (ox_4 hZ) (by decide) (Nat.le_of_ble_eq_true rfl) dX2_comes_20 rfl rfl (fun r4 M3 h => ?_)
    refine g_if_eq (n := 26) (tgt := 68) C dX2_comes_23 (by decide) rfl (fun c => ?_) (fun c => ?_)
    · replace h := h.1 c
      exact g_sub [0, 1] rfl h
    · replace h := h.2 c
      refine g_aload_n (n := 27) (i := 0) C dX2_comes_26 rfl 0 rfl rfl ?_
      refine gf_X2_21 (n := 30) (a + 4) C E (Hh.o hZ ha) rfl dX2_comes_27 rfl ?_
      refine g_aload_n (n := 31) (i := 0) C dX2_comes_30 rfl 0 rfl rfl ?_
      refine gf_X2_33 (n := 34) C E (Hh.o hZ ha) dX2_comes_31 rfl ?_
      refine g_dup2 (n := 35) C dX2_comes_34 rfl rfl rfl ?_
      refine g_iald (n := 36) C E (Hh.f4 hZ ha) h.1 dX2_comes_35 rfl ?_
      replace h := h.2
      refine g_aload_n (n := 37) (i := 0) C dX2_comes_36 rfl 0 rfl rfl ?_
      refine g_iload_n (n := 38) (i := 1) C dX2_comes_37 rfl 1 rfl rfl ?_
      refine g_callVi (n := 41) (kd := 2) C E (c_House_brings hZ _ a ha p1 M3 _ h) yi_X2_brings wd_541 rfl (Hh.o hZ ha) (by decide) (Nat.le_of_ble_eq_true rfl) dX2_comes_38 rfl rfl (fun r6 M5 h => ?_)
      refine g_iadd (n := 42) C dX2_comes_41 rfl ?_
      refine g_iast (n := 43) C E (Hh.f4 hZ ha) h.1 dX2_comes_42 rfl (fun M7 eM7 => ?_)
      replace h := h.2 M7 eM7
      refine g_aload_n (n := 44) (i := 0) C dX2_comes_43 rfl 0 rfl rfl ?_
      refine gf_X2_27 (n := 47) (a + 6) C E (Hh.o hZ ha) rfl dX2_comes_44 rfl ?_
      refine g_aload_n (n := 48) (i := 0) C dX2_comes_47 rfl 0 rfl rfl ?_
      refine gf_X2_33 (n := 51) C E (Hh.o hZ ha) dX2_comes_48 rfl ?_
      refine g_dup2 (n := 52) C dX2_comes_51 rfl rfl rfl ?_
      refine g_iald (n := 53) C E (Hh.f6 hZ ha) h.1 dX2_comes_52 rfl ?_
      replace h := h.2
      refine g_iconst (n := 54) (1 : Int32) C dX2_comes_53 (by decide) rfl ?_
      refine g_iload_n (n := 55) (i := 1) C dX2_comes_54 rfl 1 rfl rfl ?_
      refine g_ishl (n := 56) C dX2_comes_55 rfl ?_
      refine g_ior (n := 57) C dX2_comes_56 rfl ?_
      refine g_iast (n := 58) C E (Hh.f6 hZ ha) h.1 dX2_comes_57 rfl (fun M8 eM8 => ?_)
      replace h := h.2 M8 eM8
      refine g_aload_n (n := 59) (i := 0) C dX2_comes_58 rfl 0 rfl rfl ?_
      refine gf_X2_24 (n := 62) (a + 5) C E (Hh.o hZ ha) rfl dX2_comes_59 rfl ?_
      refine g_iload_n (n := 63) (i := 1) C dX2_comes_62 rfl 1 rfl rfl ?_
      refine g_aload_n (n := 64) (i := 0) C dX2_comes_63 rfl 0 rfl rfl ?_
      refine gf_X2_33 (n := 67) C E (Hh.o hZ ha) dX2_comes_64 rfl ?_
      refine g_iast (n := 68) C E (Hh.f5 hZ ha) h.1 dX2_comes_67 rfl (fun M9 eM9 => ?_)
      replace h := h.2 M9 eM9
      exact g_sub [0, 1] rfl h
  · replace h := h.2 c
    exact g_vret C hr hQ dX2_comes_11 h
def B_House_setFree_i (a : Nat) (p1 : Int32) (post : Mem → Prop) (R21 : Mem → Int32 → Prop) (R76 : Mem → Prop) (M : Mem)  : Prop :=
  P_Plan_has M 4 p1 (fun (r2 : Int32) (M1 : Mem) => (((¬ r2 = 0) → vp_in p1 7 ∧ (∀ M3 : Mem, M3 = mset M1 (a + 1) (p1).toNatClampNeg (2 : Int32) → ∀ z4 : Int32, z4 = (0 : Int32) → (R21 M3 z4))) ∧ ((r2 = 0) → post M1)))
def B_House_setFree_21 (a : Nat) (p1 : Int32) (post : Mem → Prop) (R21 : Mem → Int32 → Prop) (R76 : Mem → Prop) (M : Mem) (x21_2 : Int32) : Prop :=
  ((((7 : Int32) ≤ x21_2) → (R76 M)) ∧ ((¬ (7 : Int32) ≤ x21_2) → ((((M 4 6) ≤ x21_2) → (R76 M)) ∧ ((¬ (M 4 6) ≤ x21_2) → vp_in p1 7 ∧ ((((¬ (((M (a + 6) (p1).toNatClampNeg) >>> (x21_2 &&& 31)) &&& (1 : Int32)) = (1 : Int32)) → ∀ z5 : Int32, z5 = x21_2 + (1 : Int32) → (R21 M z5)) ∧ (((((M (a + 6) (p1).toNatClampNeg) >>> (x21_2 &&& 31)) &&& (1 : Int32)) = (1 : Int32)) → vp_in p1 7 ∧ (vp_in x21_2 7 ∧ (vp_in p1 7 ∧ (∀ M6 : Mem, M6 = mset M (a + 7) (p1).toNatClampNeg ((M (a + 7) (p1).toNatClampNeg) + (M 8 (x21_2).toNatClampNeg)) → ∀ z7 : Int32, z7 = x21_2 + (1 : Int32) → (R21 M6 z7)))))))))))
def B_House_setFree_76 (a : Nat) (p1 : Int32) (post : Mem → Prop) (R21 : Mem → Int32 → Prop) (R76 : Mem → Prop) (M : Mem)  : Prop :=
  vp_in p1 7 ∧ (∀ z8 : Int32, z8 = (M (a + 5) (p1).toNatClampNeg) → P_Plan_has M 4 z8 (fun (r10 : Int32) (M9 : Mem) => (((r10 = 0) → post M9) ∧ ((¬ r10 = 0) → vp_in p1 7 ∧ (∀ z11 : Int32, z11 = ((M9 (a + 7) (p1).toNatClampNeg) / (2 : Int32)) → vp_in p1 7 ∧ (vp_in p1 7 ∧ (∀ M12 : Mem, M12 = mset M9 (a + 7) (p1).toNatClampNeg ((M9 (a + 7) (p1).toNatClampNeg) - z11) → vp_in z8 7 ∧ (vp_in z8 7 ∧ (∀ M13 : Mem, M13 = mset M12 (a + 7) (z8).toNatClampNeg ((M12 (a + 7) (z8).toNatClampNeg) + z11) → post M13)))))))))
def P_House_setFree (M : Mem) (a : Nat) (p1 : Int32) (post : Mem → Prop) : Prop :=
  ∀ (R21 : Mem → Int32 → Prop) (R76 : Mem → Prop), (∀ (M : Mem) (x21_2 : Int32), B_House_setFree_21 a p1 post R21 R76 M x21_2 → R21 M x21_2) → (∀ (M : Mem) , B_House_setFree_76 a p1 post R21 R76 M  → R76 M ) → B_House_setFree_i a p1 post R21 R76 M
set_option maxHeartbeats 4000000 in
set_option maxRecDepth 100000 in
theorem c_House_setFree {Z : ZT} (hZ : IsX Z) (l : Launch) (a : Nat) (ha : Hh a) (p1 : Int32) (M : Mem) (post : Mem → Prop) (h : P_House_setFree M a p1 post) : CtV Z l yX2_setFree cX2_setFree 4 none 1 21 [.ref (zb Z + a), .int p1] M post := by
  refine ctV (own := RX2) rfl (by decide) (Nat.le_of_ble_eq_true rfl) (fun X C E hr hQ => ?_)
  have s21 : ∀ (M : Mem) (x21_2 : Int32), B_House_setFree_21 a p1 post (fun (M : Mem) (x21_2 : Int32) => GS Z X 21 [(0, .ref (zb Z + a)), (1, .int p1), (2, .int x21_2)] [] M) (fun (M : Mem)  => GS Z X 76 [(0, .ref (zb Z + a)), (1, .int p1)] [] M) M x21_2 → GS Z X 21 [(0, .ref (zb Z + a)), (1, .int p1), (2, .int x21_2)] [] M := by
    intro M x21_2 h
    unfold B_House_setFree_21 at h
    refine g_iload_n (n := 22) (i := 2) C dX2_setFree_21 rfl 2 rfl rfl ?_
    refine g_bipush (n := 24) (7 : Int32) C dX2_setFree_22 (by decide) rfl ?_
    refine g_icmp_ge (n := 27) (tgt := 76) C dX2_setFree_24 (by decide) rfl (fun c => ?_) (fun c => ?_)
    · replace h := h.1 c
      exact g_sub [0, 1] rfl h
    · replace h := h.2 c
      refine g_iload_n (n := 28) (i := 2) C dX2_setFree_27 rfl 2 rfl rfl ?_
      refine g_aload_n (n := 29) (i := 0) C dX2_setFree_28 rfl 0 rfl rfl ?_
      refine gf_X2_40 (n := 32) C E (Hh.o hZ ha) dX2_setFree_29 rfl ?_
      refine gf_X2_62 (n := 35) C E (ox_4 hZ) dX2_setFree_32 rfl ?_
      refine g_icmp_ge (n := 38) (tgt := 76) C dX2_setFree_35 (by decide) rfl (fun c => ?_) (fun c => ?_)
      · replace h := h.1 c
        exact g_sub [0, 1] rfl h
      · replace h := h.2 c
        refine g_aload_n (n := 39) (i := 0) C dX2_setFree_38 rfl 0 rfl rfl ?_
        refine gf_X2_27 (n := 42) (a + 6) C E (Hh.o hZ ha) rfl dX2_setFree_39 rfl ?_
        refine g_iload_n (n := 43) (i := 1) C dX2_setFree_42 rfl 1 rfl rfl ?_
        refine g_iald (n := 44) C E (Hh.f6 hZ ha) h.1 dX2_setFree_43 rfl ?_
        replace h := h.2
        refine g_iload_n (n := 45) (i := 2) C dX2_setFree_44 rfl 2 rfl rfl ?_
        refine g_ishr (n := 46) C dX2_setFree_45 rfl ?_
        refine g_iconst (n := 47) (1 : Int32) C dX2_setFree_46 (by decide) rfl ?_
        refine g_iand (n := 48) C dX2_setFree_47 rfl ?_
        refine g_iconst (n := 49) (1 : Int32) C dX2_setFree_48 (by decide) rfl ?_
        refine g_icmp_ne (n := 52) (tgt := 70) C dX2_setFree_49 (by decide) rfl (fun c => ?_) (fun c => ?_)
        · replace h := h.1 c
          refine g_iinc (n := 73) (v := (1 : Int32)) C dX2_setFree_70 2 rfl (by decide) (Nat.le_of_ble_eq_true rfl) rfl rfl (fun z5 ez5 => ?_)
          replace h := h z5 ez5
          refine g_goto (tgt := 21) C dX2_setFree_73 (by decide) ?_
          exact g_sub [1, 2, 0] rfl h
        · replace h := h.2 c
          refine g_aload_n (n := 53) (i := 0) C dX2_setFree_52 rfl 0 rfl rfl ?_
          refine gf_X2_30 (n := 56) (a + 7) C E (Hh.o hZ ha) rfl dX2_setFree_53 rfl ?_
          refine g_iload_n (n := 57) (i := 1) C dX2_setFree_56 rfl 1 rfl rfl ?_
          refine g_dup2 (n := 58) C dX2_setFree_57 rfl rfl rfl ?_
          refine g_iald (n := 59) C E (Hh.f7 hZ ha) h.1 dX2_setFree_58 rfl ?_
          replace h := h.2
          refine g_aload_n (n := 60) (i := 0) C dX2_setFree_59 rfl 0 rfl rfl ?_
          refine gf_X2_40 (n := 63) C E (Hh.o hZ ha) dX2_setFree_60 rfl ?_
          refine gf_X2_85 (n := 66) 8 C E (ox_4 hZ) rfl dX2_setFree_63 rfl ?_
          refine g_iload_n (n := 67) (i := 2) C dX2_setFree_66 rfl 2 rfl rfl ?_
          refine g_iald (n := 68) C E (ox_8 hZ) h.1 dX2_setFree_67 rfl ?_
          replace h := h.2
          refine g_iadd (n := 69) C dX2_setFree_68 rfl ?_
          refine g_iast (n := 70) C E (Hh.f7 hZ ha) h.1 dX2_setFree_69 rfl (fun M6 eM6 => ?_)
          replace h := h.2 M6 eM6
          refine g_iinc (n := 73) (v := (1 : Int32)) C dX2_setFree_70 2 rfl (by decide) (Nat.le_of_ble_eq_true rfl) rfl rfl (fun z7 ez7 => ?_)
          replace h := h z7 ez7
          refine g_goto (tgt := 21) C dX2_setFree_73 (by decide) ?_
          exact g_sub [1, 2, 0] rfl h
  have s76 : ∀ (M : Mem) , B_House_setFree_76 a p1 post (fun (M : Mem) (x21_2 : Int32) => GS Z X 21 [(0, .ref (zb Z + a)), (1, .int p1), (2, .int x21_2)] [] M) (fun (M : Mem)  => GS Z X 76 [(0, .ref (zb Z + a)), (1, .int p1)] [] M) M  → GS Z X 76 [(0, .ref (zb Z + a)), (1, .int p1)] [] M := by
    intro M  h
    unfold B_House_setFree_76 at h
    refine g_aload_n (n := 77) (i := 0) C dX2_setFree_76 rfl 0 rfl rfl ?_
    refine gf_X2_24 (n := 80) (a + 5) C E (Hh.o hZ ha) rfl dX2_setFree_77 rfl ?_
    refine g_iload_n (n := 81) (i := 1) C dX2_setFree_80 rfl 1 rfl rfl ?_
    refine g_iald (n := 82) C E (Hh.f5 hZ ha) h.1 dX2_setFree_81 rfl ?_
    replace h := h.2
    refine g_istore_n (n := 83) (i := 2) C dX2_setFree_82 rfl (Nat.le_of_ble_eq_true rfl) rfl rfl (fun z8 ez8 => ?_)
    replace h := h z8 ez8
    refine g_aload_n (n := 84) (i := 0) C dX2_setFree_83 rfl 1 rfl rfl ?_
    refine gf_X2_40 (n := 87) C E (Hh.o hZ ha) dX2_setFree_84 rfl ?_
    refine g_iload_n (n := 88) (i := 2) C dX2_setFree_87 rfl 0 rfl rfl ?_
    refine g_callNi (n := 91) (kd := 4) C E (c_Plan_has hZ _ 4 (by unfold Hp; decide) z8 M _ h) yi_X4_has wn_540 rfl (ox_4 hZ) (by decide) (Nat.le_of_ble_eq_true rfl) dX2_setFree_88 rfl rfl (fun r10 M9 h => ?_)
    refine g_if_eq (n := 94) (tgt := 123) C dX2_setFree_91 (by decide) rfl (fun c => ?_) (fun c => ?_)
    · replace h := h.1 c
      exact g_vret C hr hQ dX2_setFree_123 h
    · replace h := h.2 c
      refine g_aload_n (n := 95) (i := 0) C dX2_setFree_94 rfl 1 rfl rfl ?_
      refine gf_X2_30 (n := 98) (a + 7) C E (Hh.o hZ ha) rfl dX2_setFree_95 rfl ?_
      refine g_iload_n (n := 99) (i := 1) C dX2_setFree_98 rfl 2 rfl rfl ?_
      refine g_iald (n := 100) C E (Hh.f7 hZ ha) h.1 dX2_setFree_99 rfl ?_
      replace h := h.2
      refine g_iconst (n := 101) (2 : Int32) C dX2_setFree_100 (by decide) rfl ?_
      refine g_idiv (n := 102) C dX2_setFree_101 (by decide) rfl ?_
      refine g_istore_n (n := 103) (i := 3) C dX2_setFree_102 rfl (Nat.le_of_ble_eq_true rfl) rfl rfl (fun z11 ez11 => ?_)
      replace h := h z11 ez11
      refine g_aload_n (n := 104) (i := 0) C dX2_setFree_103 rfl 2 rfl rfl ?_
      refine gf_X2_30 (n := 107) (a + 7) C E (Hh.o hZ ha) rfl dX2_setFree_104 rfl ?_
      refine g_iload_n (n := 108) (i := 1) C dX2_setFree_107 rfl 3 rfl rfl ?_
      refine g_dup2 (n := 109) C dX2_setFree_108 rfl rfl rfl ?_
      refine g_iald (n := 110) C E (Hh.f7 hZ ha) h.1 dX2_setFree_109 rfl ?_
      replace h := h.2
      refine g_iload_n (n := 111) (i := 3) C dX2_setFree_110 rfl 0 rfl rfl ?_
      refine g_isub (n := 112) C dX2_setFree_111 rfl ?_
      refine g_iast (n := 113) C E (Hh.f7 hZ ha) h.1 dX2_setFree_112 rfl (fun M12 eM12 => ?_)
      replace h := h.2 M12 eM12
      refine g_aload_n (n := 114) (i := 0) C dX2_setFree_113 rfl 2 rfl rfl ?_
      refine gf_X2_30 (n := 117) (a + 7) C E (Hh.o hZ ha) rfl dX2_setFree_114 rfl ?_
      refine g_iload_n (n := 118) (i := 2) C dX2_setFree_117 rfl 1 rfl rfl ?_
      refine g_dup2 (n := 119) C dX2_setFree_118 rfl rfl rfl ?_
      refine g_iald (n := 120) C E (Hh.f7 hZ ha) h.1 dX2_setFree_119 rfl ?_
      replace h := h.2
      refine g_iload_n (n := 121) (i := 3) C dX2_setFree_120 rfl 0 rfl rfl ?_
      refine g_iadd (n := 122) C dX2_setFree_121 rfl ?_
      refine g_iast (n := 123) C E (Hh.f7 hZ ha) h.1 dX2_setFree_122 rfl (fun M13 eM13 => ?_)
      replace h := h.2 M13 eM13
      exact g_vret C hr hQ dX2_setFree_123 h
  replace h := h (fun (M : Mem) (x21_2 : Int32) => GS Z X 21 [(0, .ref (zb Z + a)), (1, .int p1), (2, .int x21_2)] [] M) (fun (M : Mem)  => GS Z X 76 [(0, .ref (zb Z + a)), (1, .int p1)] [] M) s21 s76
  unfold B_House_setFree_i at h
  show GS Z X 0 [(0, .ref (zb Z + a)), (1, .int p1)] [] M
  refine g_aload_n (n := 1) (i := 0) C dX2_setFree_0 rfl 0 rfl rfl ?_
  refine gf_X2_40 (n := 4) C E (Hh.o hZ ha) dX2_setFree_1 rfl ?_
  refine g_iload_n (n := 5) (i := 1) C dX2_setFree_4 rfl 1 rfl rfl ?_
  refine g_callNi (n := 8) (kd := 4) C E (c_Plan_has hZ _ 4 (by unfold Hp; decide) p1 M _ h) yi_X4_has wn_540 rfl (ox_4 hZ) (by decide) (Nat.le_of_ble_eq_true rfl) dX2_setFree_5 rfl rfl (fun r2 M1 h => ?_)
  refine g_if_ne (n := 11) (tgt := 12) C dX2_setFree_8 (by decide) rfl (fun c => ?_) (fun c => ?_)
  · replace h := h.1 c
    refine g_aload_n (n := 13) (i := 0) C dX2_setFree_12 rfl 0 rfl rfl ?_
    refine gf_X2_9 (n := 16) (a + 1) C E (Hh.o hZ ha) rfl dX2_setFree_13 rfl ?_
    refine g_iload_n (n := 17) (i := 1) C dX2_setFree_16 rfl 1 rfl rfl ?_
    refine g_iconst (n := 18) (2 : Int32) C dX2_setFree_17 (by decide) rfl ?_
    refine g_iast (n := 19) C E (Hh.f1 hZ ha) h.1 dX2_setFree_18 rfl (fun M3 eM3 => ?_)
    replace h := h.2 M3 eM3
    refine g_iconst (n := 20) (0 : Int32) C dX2_setFree_19 (by decide) rfl ?_
    refine g_istore_n (n := 21) (i := 2) C dX2_setFree_20 rfl (Nat.le_of_ble_eq_true rfl) rfl rfl (fun z4 ez4 => ?_)
    replace h := h z4 ez4
    exact g_sub [1, 2, 0] rfl h
  · replace h := h.2 c
    exact g_vret C hr hQ dX2_setFree_11 h
def B_House_oneHour_i (a : Nat) (post : Mem → Prop) (R2 : Mem → Int32 → Prop) (R54 : Mem → Int32 → Prop) (R115 : Mem → Int32 → Prop) (M : Mem)  : Prop :=
  ∀ z1 : Int32, z1 = (0 : Int32) → (R2 M z1)
def B_House_oneHour_2 (a : Nat) (post : Mem → Prop) (R2 : Mem → Int32 → Prop) (R54 : Mem → Int32 → Prop) (R115 : Mem → Int32 → Prop) (M : Mem) (x2_1 : Int32) : Prop :=
  ((((7 : Int32) ≤ x2_1) → ∀ z2 : Int32, z2 = (0 : Int32) → (R54 M z2)) ∧ ((¬ (7 : Int32) ≤ x2_1) → ((((M 4 6) ≤ x2_1) → ∀ z3 : Int32, z3 = (0 : Int32) → (R54 M z3)) ∧ ((¬ (M 4 6) ≤ x2_1) → vp_in x2_1 7 ∧ ((((¬ (M (a + 1) (x2_1).toNatClampNeg) = 0) → ∀ z4 : Int32, z4 = x2_1 + (1 : Int32) → (R2 M z4)) ∧ (((M (a + 1) (x2_1).toNatClampNeg) = 0) → vp_in x2_1 7 ∧ ((((¬ (M (a + 2) (x2_1).toNatClampNeg) = (M a 9)) → ∀ z5 : Int32, z5 = x2_1 + (1 : Int32) → (R2 M z5)) ∧ (((M (a + 2) (x2_1).toNatClampNeg) = (M a 9)) → P_House_comes M a x2_1 (fun (M6 : Mem) => ∀ z7 : Int32, z7 = x2_1 + (1 : Int32) → (R2 M6 z7))))))))))))
def B_House_oneHour_54 (a : Nat) (post : Mem → Prop) (R2 : Mem → Int32 → Prop) (R54 : Mem → Int32 → Prop) (R115 : Mem → Int32 → Prop) (M : Mem) (x54_1 : Int32) : Prop :=
  ((((7 : Int32) ≤ x54_1) → ∀ z8 : Int32, z8 = (0 : Int32) → (R115 M z8)) ∧ ((¬ (7 : Int32) ≤ x54_1) → ((((M 4 6) ≤ x54_1) → ∀ z9 : Int32, z9 = (0 : Int32) → (R115 M z9)) ∧ ((¬ (M 4 6) ≤ x54_1) → vp_in x54_1 7 ∧ ((((¬ (M (a + 1) (x54_1).toNatClampNeg) = (1 : Int32)) → ∀ z10 : Int32, z10 = x54_1 + (1 : Int32) → (R54 M z10)) ∧ (((M (a + 1) (x54_1).toNatClampNeg) = (1 : Int32)) → vp_in x54_1 7 ∧ (vp_in x54_1 7 ∧ (vp_in x54_1 7 ∧ (∀ M11 : Mem, M11 = mset M (a + 4) (x54_1).toNatClampNeg (imax (0 : Int32) ((M (a + 4) (x54_1).toNatClampNeg) - (M 9 (x54_1).toNatClampNeg))) → ∀ z12 : Int32, z12 = x54_1 + (1 : Int32) → (R54 M11 z12)))))))))))
def B_House_oneHour_115 (a : Nat) (post : Mem → Prop) (R2 : Mem → Int32 → Prop) (R54 : Mem → Int32 → Prop) (R115 : Mem → Int32 → Prop) (M : Mem) (x115_1 : Int32) : Prop :=
  ((((7 : Int32) ≤ x115_1) → ∀ M13 : Mem, M13 = mset M a 9 ((M a 9) + (1 : Int32)) → post M13) ∧ ((¬ (7 : Int32) ≤ x115_1) → ((((M 4 6) ≤ x115_1) → ∀ M14 : Mem, M14 = mset M a 9 ((M a 9) + (1 : Int32)) → post M14) ∧ ((¬ (M 4 6) ≤ x115_1) → vp_in x115_1 7 ∧ ((((¬ (M (a + 1) (x115_1).toNatClampNeg) = (1 : Int32)) → ∀ z15 : Int32, z15 = x115_1 + (1 : Int32) → (R115 M z15)) ∧ (((M (a + 1) (x115_1).toNatClampNeg) = (1 : Int32)) → (((x115_1 = (M a 8)) → ∀ z16 : Int32, z16 = x115_1 + (1 : Int32) → (R115 M z16)) ∧ ((¬ x115_1 = (M a 8)) → vp_in x115_1 7 ∧ ((((¬ (M (a + 4) (x115_1).toNatClampNeg) = 0) → ∀ z17 : Int32, z17 = x115_1 + (1 : Int32) → (R115 M z17)) ∧ (((M (a + 4) (x115_1).toNatClampNeg) = 0) → P_House_setFree M a x115_1 (fun (M18 : Mem) => ∀ z19 : Int32, z19 = x115_1 + (1 : Int32) → (R115 M18 z19))))))))))))))
def P_House_oneHour (M : Mem) (a : Nat) (post : Mem → Prop) : Prop :=
  ∀ (R2 : Mem → Int32 → Prop) (R54 : Mem → Int32 → Prop) (R115 : Mem → Int32 → Prop), (∀ (M : Mem) (x2_1 : Int32), B_House_oneHour_2 a post R2 R54 R115 M x2_1 → R2 M x2_1) → (∀ (M : Mem) (x54_1 : Int32), B_House_oneHour_54 a post R2 R54 R115 M x54_1 → R54 M x54_1) → (∀ (M : Mem) (x115_1 : Int32), B_House_oneHour_115 a post R2 R54 R115 M x115_1 → R115 M x115_1) → B_House_oneHour_i a post R2 R54 R115 M
set_option maxHeartbeats 4000000 in
set_option maxRecDepth 100000 in
theorem c_House_oneHour {Z : ZT} (hZ : IsX Z) (l : Launch) (a : Nat) (ha : Hh a) (M : Mem) (post : Mem → Prop) (h : P_House_oneHour M a post) : CtV Z l yX2_oneHour cX2_oneHour 2 none 3 64 [.ref (zb Z + a)] M post := by
  refine ctV (own := RX2) rfl (by decide) (Nat.le_of_ble_eq_true rfl) (fun X C E hr hQ => ?_)
  have s2 : ∀ (M : Mem) (x2_1 : Int32), B_House_oneHour_2 a post (fun (M : Mem) (x2_1 : Int32) => GS Z X 2 [(0, .ref (zb Z + a)), (1, .int x2_1)] [] M) (fun (M : Mem) (x54_1 : Int32) => GS Z X 54 [(0, .ref (zb Z + a)), (1, .int x54_1)] [] M) (fun (M : Mem) (x115_1 : Int32) => GS Z X 115 [(0, .ref (zb Z + a)), (1, .int x115_1)] [] M) M x2_1 → GS Z X 2 [(0, .ref (zb Z + a)), (1, .int x2_1)] [] M := by
    intro M x2_1 h
    unfold B_House_oneHour_2 at h
    refine g_iload_n (n := 3) (i := 1) C dX2_oneHour_2 rfl 1 rfl rfl ?_
    refine g_bipush (n := 5) (7 : Int32) C dX2_oneHour_3 (by decide) rfl ?_
    refine g_icmp_ge (n := 8) (tgt := 52) C dX2_oneHour_5 (by decide) rfl (fun c => ?_) (fun c => ?_)
    · replace h := h.1 c
      refine g_iconst (n := 53) (0 : Int32) C dX2_oneHour_52 (by decide) rfl ?_
      refine g_istore_n (n := 54) (i := 1) C dX2_oneHour_53 rfl (Nat.le_of_ble_eq_true rfl) rfl rfl (fun z2 ez2 => ?_)
      replace h := h z2 ez2
      exact g_sub [1, 0] rfl h
    · replace h := h.2 c
      refine g_iload_n (n := 9) (i := 1) C dX2_oneHour_8 rfl 1 rfl rfl ?_
      refine g_aload_n (n := 10) (i := 0) C dX2_oneHour_9 rfl 0 rfl rfl ?_
      refine gf_X2_40 (n := 13) C E (Hh.o hZ ha) dX2_oneHour_10 rfl ?_
      refine gf_X2_62 (n := 16) C E (ox_4 hZ) dX2_oneHour_13 rfl ?_
      refine g_icmp_ge (n := 19) (tgt := 52) C dX2_oneHour_16 (by decide) rfl (fun c => ?_) (fun c => ?_)
      · replace h := h.1 c
        refine g_iconst (n := 53) (0 : Int32) C dX2_oneHour_52 (by decide) rfl ?_
        refine g_istore_n (n := 54) (i := 1) C dX2_oneHour_53 rfl (Nat.le_of_ble_eq_true rfl) rfl rfl (fun z3 ez3 => ?_)
        replace h := h z3 ez3
        exact g_sub [1, 0] rfl h
      · replace h := h.2 c
        refine g_aload_n (n := 20) (i := 0) C dX2_oneHour_19 rfl 0 rfl rfl ?_
        refine gf_X2_9 (n := 23) (a + 1) C E (Hh.o hZ ha) rfl dX2_oneHour_20 rfl ?_
        refine g_iload_n (n := 24) (i := 1) C dX2_oneHour_23 rfl 1 rfl rfl ?_
        refine g_iald (n := 25) C E (Hh.f1 hZ ha) h.1 dX2_oneHour_24 rfl ?_
        replace h := h.2
        refine g_if_ne (n := 28) (tgt := 46) C dX2_oneHour_25 (by decide) rfl (fun c => ?_) (fun c => ?_)
        · replace h := h.1 c
          refine g_iinc (n := 49) (v := (1 : Int32)) C dX2_oneHour_46 1 rfl (by decide) (Nat.le_of_ble_eq_true rfl) rfl rfl (fun z4 ez4 => ?_)
          replace h := h z4 ez4
          refine g_goto (tgt := 2) C dX2_oneHour_49 (by decide) ?_
          exact g_sub [1, 0] rfl h
        · replace h := h.2 c
          refine g_aload_n (n := 29) (i := 0) C dX2_oneHour_28 rfl 0 rfl rfl ?_
          refine gf_X2_15 (n := 32) (a + 2) C E (Hh.o hZ ha) rfl dX2_oneHour_29 rfl ?_
          refine g_iload_n (n := 33) (i := 1) C dX2_oneHour_32 rfl 1 rfl rfl ?_
          refine g_iald (n := 34) C E (Hh.f2 hZ ha) h.1 dX2_oneHour_33 rfl ?_
          replace h := h.2
          refine g_aload_n (n := 35) (i := 0) C dX2_oneHour_34 rfl 0 rfl rfl ?_
          refine gf_X2_37 (n := 38) C E (Hh.o hZ ha) dX2_oneHour_35 rfl ?_
          refine g_icmp_ne (n := 41) (tgt := 46) C dX2_oneHour_38 (by decide) rfl (fun c => ?_) (fun c => ?_)
          · replace h := h.1 c
            refine g_iinc (n := 49) (v := (1 : Int32)) C dX2_oneHour_46 1 rfl (by decide) (Nat.le_of_ble_eq_true rfl) rfl rfl (fun z5 ez5 => ?_)
            replace h := h z5 ez5
            refine g_goto (tgt := 2) C dX2_oneHour_49 (by decide) ?_
            exact g_sub [1, 0] rfl h
          · replace h := h.2 c
            refine g_aload_n (n := 42) (i := 0) C dX2_oneHour_41 rfl 0 rfl rfl ?_
            refine g_iload_n (n := 43) (i := 1) C dX2_oneHour_42 rfl 1 rfl rfl ?_
            refine g_callVv (n := 46) (kd := 2) C E (c_House_comes hZ _ a ha x2_1 M _ h) yi_X2_comes wd_536 rfl (Hh.o hZ ha) (by decide) (Nat.le_of_ble_eq_true rfl) dX2_oneHour_43 rfl rfl (fun M6 h => ?_)
            refine g_iinc (n := 49) (v := (1 : Int32)) C dX2_oneHour_46 1 rfl (by decide) (Nat.le_of_ble_eq_true rfl) rfl rfl (fun z7 ez7 => ?_)
            replace h := h z7 ez7
            refine g_goto (tgt := 2) C dX2_oneHour_49 (by decide) ?_
            exact g_sub [1, 0] rfl h
  have s54 : ∀ (M : Mem) (x54_1 : Int32), B_House_oneHour_54 a post (fun (M : Mem) (x2_1 : Int32) => GS Z X 2 [(0, .ref (zb Z + a)), (1, .int x2_1)] [] M) (fun (M : Mem) (x54_1 : Int32) => GS Z X 54 [(0, .ref (zb Z + a)), (1, .int x54_1)] [] M) (fun (M : Mem) (x115_1 : Int32) => GS Z X 115 [(0, .ref (zb Z + a)), (1, .int x115_1)] [] M) M x54_1 → GS Z X 54 [(0, .ref (zb Z + a)), (1, .int x54_1)] [] M := by
    intro M x54_1 h
    unfold B_House_oneHour_54 at h
    refine g_iload_n (n := 55) (i := 1) C dX2_oneHour_54 rfl 1 rfl rfl ?_
    refine g_bipush (n := 57) (7 : Int32) C dX2_oneHour_55 (by decide) rfl ?_
    refine g_icmp_ge (n := 60) (tgt := 113) C dX2_oneHour_57 (by decide) rfl (fun c => ?_) (fun c => ?_)
    · replace h := h.1 c
      refine g_iconst (n := 114) (0 : Int32) C dX2_oneHour_113 (by decide) rfl ?_
      refine g_istore_n (n := 115) (i := 1) C dX2_oneHour_114 rfl (Nat.le_of_ble_eq_true rfl) rfl rfl (fun z8 ez8 => ?_)
      replace h := h z8 ez8
      exact g_sub [1, 0] rfl h
    · replace h := h.2 c
      refine g_iload_n (n := 61) (i := 1) C dX2_oneHour_60 rfl 1 rfl rfl ?_
      refine g_aload_n (n := 62) (i := 0) C dX2_oneHour_61 rfl 0 rfl rfl ?_
      refine gf_X2_40 (n := 65) C E (Hh.o hZ ha) dX2_oneHour_62 rfl ?_
      refine gf_X2_62 (n := 68) C E (ox_4 hZ) dX2_oneHour_65 rfl ?_
      refine g_icmp_ge (n := 71) (tgt := 113) C dX2_oneHour_68 (by decide) rfl (fun c => ?_) (fun c => ?_)
      · replace h := h.1 c
        refine g_iconst (n := 114) (0 : Int32) C dX2_oneHour_113 (by decide) rfl ?_
        refine g_istore_n (n := 115) (i := 1) C dX2_oneHour_114 rfl (Nat.le_of_ble_eq_true rfl) rfl rfl (fun z9 ez9 => ?_)
        replace h := h z9 ez9
        exact g_sub [1, 0] rfl h
      · replace h := h.2 c
        refine g_aload_n (n := 72) (i := 0) C dX2_oneHour_71 rfl 0 rfl rfl ?_
        refine gf_X2_9 (n := 75) (a + 1) C E (Hh.o hZ ha) rfl dX2_oneHour_72 rfl ?_
        refine g_iload_n (n := 76) (i := 1) C dX2_oneHour_75 rfl 1 rfl rfl ?_
        refine g_iald (n := 77) C E (Hh.f1 hZ ha) h.1 dX2_oneHour_76 rfl ?_
        replace h := h.2
        refine g_iconst (n := 78) (1 : Int32) C dX2_oneHour_77 (by decide) rfl ?_
        refine g_icmp_ne (n := 81) (tgt := 107) C dX2_oneHour_78 (by decide) rfl (fun c => ?_) (fun c => ?_)
        · replace h := h.1 c
          refine g_iinc (n := 110) (v := (1 : Int32)) C dX2_oneHour_107 1 rfl (by decide) (Nat.le_of_ble_eq_true rfl) rfl rfl (fun z10 ez10 => ?_)
          replace h := h z10 ez10
          refine g_goto (tgt := 54) C dX2_oneHour_110 (by decide) ?_
          exact g_sub [1, 0] rfl h
        · replace h := h.2 c
          refine g_aload_n (n := 82) (i := 0) C dX2_oneHour_81 rfl 0 rfl rfl ?_
          refine gf_X2_21 (n := 85) (a + 4) C E (Hh.o hZ ha) rfl dX2_oneHour_82 rfl ?_
          refine g_iload_n (n := 86) (i := 1) C dX2_oneHour_85 rfl 1 rfl rfl ?_
          refine g_iconst (n := 87) (0 : Int32) C dX2_oneHour_86 (by decide) rfl ?_
          refine g_aload_n (n := 88) (i := 0) C dX2_oneHour_87 rfl 0 rfl rfl ?_
          refine gf_X2_21 (n := 91) (a + 4) C E (Hh.o hZ ha) rfl dX2_oneHour_88 rfl ?_
          refine g_iload_n (n := 92) (i := 1) C dX2_oneHour_91 rfl 1 rfl rfl ?_
          refine g_iald (n := 93) C E (Hh.f4 hZ ha) h.1 dX2_oneHour_92 rfl ?_
          replace h := h.2
          refine g_aload_n (n := 94) (i := 0) C dX2_oneHour_93 rfl 0 rfl rfl ?_
          refine gf_X2_40 (n := 97) C E (Hh.o hZ ha) dX2_oneHour_94 rfl ?_
          refine gf_X2_69 (n := 100) 9 C E (ox_4 hZ) rfl dX2_oneHour_97 rfl ?_
          refine g_iload_n (n := 101) (i := 1) C dX2_oneHour_100 rfl 1 rfl rfl ?_
          refine g_iald (n := 102) C E (ox_9 hZ) h.1 dX2_oneHour_101 rfl ?_
          replace h := h.2
          refine g_isub (n := 103) C dX2_oneHour_102 rfl ?_
          refine g_mmax (n := 106) C wd_545 wq_193 wq_7 wq_194 (by decide) (Nat.le_of_ble_eq_true rfl) dX2_oneHour_103 rfl ?_
          refine g_iast (n := 107) C E (Hh.f4 hZ ha) h.1 dX2_oneHour_106 rfl (fun M11 eM11 => ?_)
          replace h := h.2 M11 eM11
          refine g_iinc (n := 110) (v := (1 : Int32)) C dX2_oneHour_107 1 rfl (by decide) (Nat.le_of_ble_eq_true rfl) rfl rfl (fun z12 ez12 => ?_)
          replace h := h z12 ez12
          refine g_goto (tgt := 54) C dX2_oneHour_110 (by decide) ?_
          exact g_sub [1, 0] rfl h
  have s115 : ∀ (M : Mem) (x115_1 : Int32), B_House_oneHour_115 a post (fun (M : Mem) (x2_1 : Int32) => GS Z X 2 [(0, .ref (zb Z + a)), (1, .int x2_1)] [] M) (fun (M : Mem) (x54_1 : Int32) => GS Z X 54 [(0, .ref (zb Z + a)), (1, .int x54_1)] [] M) (fun (M : Mem) (x115_1 : Int32) => GS Z X 115 [(0, .ref (zb Z + a)), (1, .int x115_1)] [] M) M x115_1 → GS Z X 115 [(0, .ref (zb Z + a)), (1, .int x115_1)] [] M := by
    intro M x115_1 h
    unfold B_House_oneHour_115 at h
    refine g_iload_n (n := 116) (i := 1) C dX2_oneHour_115 rfl 1 rfl rfl ?_
    refine g_bipush (n := 118) (7 : Int32) C dX2_oneHour_116 (by decide) rfl ?_
    refine g_icmp_ge (n := 121) (tgt := 170) C dX2_oneHour_118 (by decide) rfl (fun c => ?_) (fun c => ?_)
    · replace h := h.1 c
      refine g_aload_n (n := 171) (i := 0) C dX2_oneHour_170 rfl 0 rfl rfl ?_
      refine g_dup (n := 172) C dX2_oneHour_171 rfl rfl ?_
      refine gf_X2_37 (n := 175) C E (Hh.o hZ ha) dX2_oneHour_172 rfl ?_
      refine g_iconst (n := 176) (1 : Int32) C dX2_oneHour_175 (by decide) rfl ?_
      refine g_iadd (n := 177) C dX2_oneHour_176 rfl ?_
      refine gp_X2_37 (n := 180) C E (Hh.o hZ ha) dX2_oneHour_177 rfl (fun M13 eM13 => ?_)
      replace h := h M13 eM13
      exact g_vret C hr hQ dX2_oneHour_180 h
    · replace h := h.2 c
      refine g_iload_n (n := 122) (i := 1) C dX2_oneHour_121 rfl 1 rfl rfl ?_
      refine g_aload_n (n := 123) (i := 0) C dX2_oneHour_122 rfl 0 rfl rfl ?_
      refine gf_X2_40 (n := 126) C E (Hh.o hZ ha) dX2_oneHour_123 rfl ?_
      refine gf_X2_62 (n := 129) C E (ox_4 hZ) dX2_oneHour_126 rfl ?_
      refine g_icmp_ge (n := 132) (tgt := 170) C dX2_oneHour_129 (by decide) rfl (fun c => ?_) (fun c => ?_)
      · replace h := h.1 c
        refine g_aload_n (n := 171) (i := 0) C dX2_oneHour_170 rfl 0 rfl rfl ?_
        refine g_dup (n := 172) C dX2_oneHour_171 rfl rfl ?_
        refine gf_X2_37 (n := 175) C E (Hh.o hZ ha) dX2_oneHour_172 rfl ?_
        refine g_iconst (n := 176) (1 : Int32) C dX2_oneHour_175 (by decide) rfl ?_
        refine g_iadd (n := 177) C dX2_oneHour_176 rfl ?_
        refine gp_X2_37 (n := 180) C E (Hh.o hZ ha) dX2_oneHour_177 rfl (fun M14 eM14 => ?_)
        replace h := h M14 eM14
        exact g_vret C hr hQ dX2_oneHour_180 h
      · replace h := h.2 c
        refine g_aload_n (n := 133) (i := 0) C dX2_oneHour_132 rfl 0 rfl rfl ?_
        refine gf_X2_9 (n := 136) (a + 1) C E (Hh.o hZ ha) rfl dX2_oneHour_133 rfl ?_
        refine g_iload_n (n := 137) (i := 1) C dX2_oneHour_136 rfl 1 rfl rfl ?_
        refine g_iald (n := 138) C E (Hh.f1 hZ ha) h.1 dX2_oneHour_137 rfl ?_
        replace h := h.2
        refine g_iconst (n := 139) (1 : Int32) C dX2_oneHour_138 (by decide) rfl ?_
        refine g_icmp_ne (n := 142) (tgt := 164) C dX2_oneHour_139 (by decide) rfl (fun c => ?_) (fun c => ?_)
        · replace h := h.1 c
          refine g_iinc (n := 167) (v := (1 : Int32)) C dX2_oneHour_164 1 rfl (by decide) (Nat.le_of_ble_eq_true rfl) rfl rfl (fun z15 ez15 => ?_)
          replace h := h z15 ez15
          refine g_goto (tgt := 115) C dX2_oneHour_167 (by decide) ?_
          exact g_sub [1, 0] rfl h
        · replace h := h.2 c
          refine g_iload_n (n := 143) (i := 1) C dX2_oneHour_142 rfl 1 rfl rfl ?_
          refine g_aload_n (n := 144) (i := 0) C dX2_oneHour_143 rfl 0 rfl rfl ?_
          refine gf_X2_33 (n := 147) C E (Hh.o hZ ha) dX2_oneHour_144 rfl ?_
          refine g_icmp_eq (n := 150) (tgt := 164) C dX2_oneHour_147 (by decide) rfl (fun c => ?_) (fun c => ?_)
          · replace h := h.1 c
            refine g_iinc (n := 167) (v := (1 : Int32)) C dX2_oneHour_164 1 rfl (by decide) (Nat.le_of_ble_eq_true rfl) rfl rfl (fun z16 ez16 => ?_)
            replace h := h z16 ez16
            refine g_goto (tgt := 115) C dX2_oneHour_167 (by decide) ?_
            exact g_sub [1, 0] rfl h
          · replace h := h.2 c
            refine g_aload_n (n := 151) (i := 0) C dX2_oneHour_150 rfl 0 rfl rfl ?_
            refine gf_X2_21 (n := 154) (a + 4) C E (Hh.o hZ ha) rfl dX2_oneHour_151 rfl ?_
            refine g_iload_n (n := 155) (i := 1) C dX2_oneHour_154 rfl 1 rfl rfl ?_
            refine g_iald (n := 156) C E (Hh.f4 hZ ha) h.1 dX2_oneHour_155 rfl ?_
            replace h := h.2
            refine g_if_ne (n := 159) (tgt := 164) C dX2_oneHour_156 (by decide) rfl (fun c => ?_) (fun c => ?_)
            · replace h := h.1 c
              refine g_iinc (n := 167) (v := (1 : Int32)) C dX2_oneHour_164 1 rfl (by decide) (Nat.le_of_ble_eq_true rfl) rfl rfl (fun z17 ez17 => ?_)
              replace h := h z17 ez17
              refine g_goto (tgt := 115) C dX2_oneHour_167 (by decide) ?_
              exact g_sub [1, 0] rfl h
            · replace h := h.2 c
              refine g_aload_n (n := 160) (i := 0) C dX2_oneHour_159 rfl 0 rfl rfl ?_
              refine g_iload_n (n := 161) (i := 1) C dX2_oneHour_160 rfl 1 rfl rfl ?_
              refine g_callVv (n := 164) (kd := 2) C E (c_House_setFree hZ _ a ha x115_1 M _ h) yi_X2_setFree wd_546 rfl (Hh.o hZ ha) (by decide) (Nat.le_of_ble_eq_true rfl) dX2_oneHour_161 rfl rfl (fun M18 h => ?_)
              refine g_iinc (n := 167) (v := (1 : Int32)) C dX2_oneHour_164 1 rfl (by decide) (Nat.le_of_ble_eq_true rfl) rfl rfl (fun z19 ez19 => ?_)
              replace h := h z19 ez19
              refine g_goto (tgt := 115) C dX2_oneHour_167 (by decide) ?_
              exact g_sub [1, 0] rfl h
  replace h := h (fun (M : Mem) (x2_1 : Int32) => GS Z X 2 [(0, .ref (zb Z + a)), (1, .int x2_1)] [] M) (fun (M : Mem) (x54_1 : Int32) => GS Z X 54 [(0, .ref (zb Z + a)), (1, .int x54_1)] [] M) (fun (M : Mem) (x115_1 : Int32) => GS Z X 115 [(0, .ref (zb Z + a)), (1, .int x115_1)] [] M) s2 s54 s115
  unfold B_House_oneHour_i at h
  show GS Z X 0 [(0, .ref (zb Z + a))] [] M
  refine g_iconst (n := 1) (0 : Int32) C dX2_oneHour_0 (by decide) rfl ?_
  refine g_istore_n (n := 2) (i := 1) C dX2_oneHour_1 rfl (Nat.le_of_ble_eq_true rfl) rfl rfl (fun z1 ez1 => ?_)
  replace h := h z1 ez1
  exact g_sub [1, 0] rfl h
def B_House_disturb_i (a : Nat) (p1 : Int32) (post : Mem → Prop)  (M : Mem)  : Prop :=
  ∀ z1 : Int32, z1 = (M 4 6) → ((((1 : Int32) ≤ z1) → (¬ z1 = 0) ∧ (∀ z2 : Int32, z2 = ((p1 / (8 : Int32)) - (p1 / (8 : Int32)) / z1 * z1) → ∀ z3 : Int32, z3 = (p1 / (64 : Int32)) → ((((p1 - p1 / (8 : Int32) * (8 : Int32)) = (0 : Int32)) → P_House_rebook M a z2 (imin (40 : Int32) ((M a 9) + (z3 - z3 / (8 : Int32) * (8 : Int32)))) (fun (M4 : Mem) => post M4)) ∧ ((((p1 - p1 / (8 : Int32) * (8 : Int32)) = (1 : Int32)) → P_House_callOff M a z2 (fun (M5 : Mem) => post M5)) ∧ ((((p1 - p1 / (8 : Int32) * (8 : Int32)) = (2 : Int32)) → (¬ z1 = 0) ∧ (P_House_swapRooms M a z2 (z3 - z3 / z1 * z1) (fun (M6 : Mem) => post M6))) ∧ ((¬ (p1 - p1 / (8 : Int32) * (8 : Int32)) = (0 : Int32) → ¬ (p1 - p1 / (8 : Int32) * (8 : Int32)) = (1 : Int32) → ¬ (p1 - p1 / (8 : Int32) * (8 : Int32)) = (2 : Int32) → post M))))))) ∧ ((¬ (1 : Int32) ≤ z1) → post M))
def P_House_disturb (M : Mem) (a : Nat) (p1 : Int32) (post : Mem → Prop) : Prop := B_House_disturb_i a p1 post M
set_option maxHeartbeats 4000000 in
set_option maxRecDepth 100000 in
theorem c_House_disturb {Z : ZT} (hZ : IsX Z) (l : Launch) (a : Nat) (ha : Hh a) (p1 : Int32) (M : Mem) (post : Mem → Prop) (h : P_House_disturb M a p1 post) : CtV Z l yX2_disturb cX2_disturb 5 none 3 65 [.ref (zb Z + a), .int p1] M post := by
  refine ctV (own := RX2) rfl (by decide) (Nat.le_of_ble_eq_true rfl) (fun X C E hr hQ => ?_)
  unfold P_House_disturb at h
  unfold B_House_disturb_i at h
  show GS Z X 0 [(0, .ref (zb Z + a)), (1, .int p1)] [] M
  refine g_aload_n (n := 1) (i := 0) C dX2_disturb_0 rfl 0 rfl rfl ?_
  refine gf_X2_40 (n := 4) C E (Hh.o hZ ha) dX2_disturb_1 rfl ?_
  refine gf_X2_62 (n := 7) C E (ox_4 hZ) dX2_disturb_4 rfl ?_
  refine g_istore_n (n := 8) (i := 2) C dX2_disturb_7 rfl (Nat.le_of_ble_eq_true rfl) rfl rfl (fun z1 ez1 => ?_)
  replace h := h z1 ez1
  refine g_iload_n (n := 9) (i := 2) C dX2_disturb_8 rfl 0 rfl rfl ?_
  refine g_iconst (n := 10) (1 : Int32) C dX2_disturb_9 (by decide) rfl ?_
  refine g_icmp_ge (n := 13) (tgt := 14) C dX2_disturb_10 (by decide) rfl (fun c => ?_) (fun c => ?_)
  · replace h := h.1 c
    refine g_iload_n (n := 15) (i := 1) C dX2_disturb_14 rfl 2 rfl rfl ?_
    refine g_bipush (n := 17) (8 : Int32) C dX2_disturb_15 (by decide) rfl ?_
    refine g_idiv (n := 18) C dX2_disturb_17 (by decide) rfl ?_
    refine g_iload_n (n := 19) (i := 2) C dX2_disturb_18 rfl 0 rfl rfl ?_
    refine g_irem (n := 20) C dX2_disturb_19 h.1 rfl ?_
    replace h := h.2
    refine g_istore_n (n := 21) (i := 3) C dX2_disturb_20 rfl (Nat.le_of_ble_eq_true rfl) rfl rfl (fun z2 ez2 => ?_)
    replace h := h z2 ez2
    refine g_iload_n (n := 22) (i := 1) C dX2_disturb_21 rfl 3 rfl rfl ?_
    refine g_bipush (n := 24) (64 : Int32) C dX2_disturb_22 (by decide) rfl ?_
    refine g_idiv (n := 25) C dX2_disturb_24 (by decide) rfl ?_
    refine g_istore (n := 27) (i := 4) C dX2_disturb_25 (Nat.le_of_ble_eq_true rfl) rfl rfl (fun z3 ez3 => ?_)
    replace h := h z3 ez3
    refine g_iload_n (n := 28) (i := 1) C dX2_disturb_27 rfl 4 rfl rfl ?_
    refine g_bipush (n := 30) (8 : Int32) C dX2_disturb_28 (by decide) rfl ?_
    refine g_irem (n := 31) C dX2_disturb_30 (by decide) rfl ?_
    by_cases c0 : (p1 - p1 / (8 : Int32) * (8 : Int32)) = (0 : Int32)
    · replace h := h.1 c0
      refine g_tableIn (off := 25) (tgt := 56) C dX2_disturb_31 c0 (by decide) (by decide) rfl (by decide) ?_
      refine g_aload_n (n := 57) (i := 0) C dX2_disturb_56 rfl 3 rfl rfl ?_
      refine g_iload_n (n := 58) (i := 3) C dX2_disturb_57 rfl 1 rfl rfl ?_
      refine g_bipush (n := 60) (40 : Int32) C dX2_disturb_58 (by decide) rfl ?_
      refine g_aload_n (n := 61) (i := 0) C dX2_disturb_60 rfl 3 rfl rfl ?_
      refine gf_X2_37 (n := 64) C E (Hh.o hZ ha) dX2_disturb_61 rfl ?_
      refine g_iload (n := 66) C dX2_disturb_64 0 rfl rfl ?_
      refine g_bipush (n := 68) (8 : Int32) C dX2_disturb_66 (by decide) rfl ?_
      refine g_irem (n := 69) C dX2_disturb_68 (by decide) rfl ?_
      refine g_iadd (n := 70) C dX2_disturb_69 rfl ?_
      refine g_mmin (n := 73) C wd_788 wq_403 wq_7 wq_404 (by decide) (Nat.le_of_ble_eq_true rfl) dX2_disturb_70 rfl ?_
      refine g_callVv (n := 76) (kd := 2) C E (c_House_rebook hZ _ a ha z2 (imin (40 : Int32) ((M a 9) + (z3 - z3 / (8 : Int32) * (8 : Int32)))) M _ h) yi_X2_rebook wd_789 rfl (Hh.o hZ ha) (by decide) (Nat.le_of_ble_eq_true rfl) dX2_disturb_73 rfl rfl (fun M4 h => ?_)
      refine g_goto (tgt := 99) C dX2_disturb_76 (by decide) ?_
      exact g_vret C hr hQ dX2_disturb_99 h
    by_cases c1 : (p1 - p1 / (8 : Int32) * (8 : Int32)) = (1 : Int32)
    · replace h := h.2.1 c1
      refine g_tableIn (off := 48) (tgt := 79) C dX2_disturb_31 c1 (by decide) (by decide) rfl (by decide) ?_
      refine g_aload_n (n := 80) (i := 0) C dX2_disturb_79 rfl 3 rfl rfl ?_
      refine g_iload_n (n := 81) (i := 3) C dX2_disturb_80 rfl 1 rfl rfl ?_
      refine g_callVv (n := 84) (kd := 2) C E (c_House_callOff hZ _ a ha z2 M _ h) yi_X2_callOff wd_790 rfl (Hh.o hZ ha) (by decide) (Nat.le_of_ble_eq_true rfl) dX2_disturb_81 rfl rfl (fun M5 h => ?_)
      refine g_goto (tgt := 99) C dX2_disturb_84 (by decide) ?_
      exact g_vret C hr hQ dX2_disturb_99 h
    by_cases c2 : (p1 - p1 / (8 : Int32) * (8 : Int32)) = (2 : Int32)
    · replace h := h.2.2.1 c2
      refine g_tableIn (off := 56) (tgt := 87) C dX2_disturb_31 c2 (by decide) (by decide) rfl (by decide) ?_
      refine g_aload_n (n := 88) (i := 0) C dX2_disturb_87 rfl 3 rfl rfl ?_
      refine g_iload_n (n := 89) (i := 3) C dX2_disturb_88 rfl 1 rfl rfl ?_
      refine g_iload (n := 91) C dX2_disturb_89 0 rfl rfl ?_
      refine g_iload_n (n := 92) (i := 2) C dX2_disturb_91 rfl 2 rfl rfl ?_
      refine g_irem (n := 93) C dX2_disturb_92 h.1 rfl ?_
      replace h := h.2
      refine g_callVv (n := 96) (kd := 2) C E (c_House_swapRooms hZ _ a ha z2 (z3 - z3 / z1 * z1) M _ h) yi_X2_swapRooms wd_791 rfl (Hh.o hZ ha) (by decide) (Nat.le_of_ble_eq_true rfl) dX2_disturb_93 rfl rfl (fun M6 h => ?_)
      refine g_goto (tgt := 99) C dX2_disturb_96 (by decide) ?_
      exact g_vret C hr hQ dX2_disturb_99 h
    replace h := h.2.2.2 c0 c1 c2
    refine g_tableOut (tgt := 99) C dX2_disturb_31 (tbl_out (fun k h1 h2 e => ?_)) (by decide) ?_
    · rcases (show k = 0 ∨ k = 1 ∨ k = 2 by omega) with rfl | rfl | rfl
      · exact c0 e
      · exact c1 e
      · exact c2 e
    · exact g_vret C hr hQ dX2_disturb_99 h
  · replace h := h.2 c
    exact g_vret C hr hQ dX2_disturb_13 h
def B_House_loadSoFar_i (a : Nat) (p1 : Int32) (post : Int32 → Mem → Prop) (R4 : Mem → Int32 → Int32 → Prop) (M : Mem)  : Prop :=
  ∀ z1 : Int32, z1 = (0 : Int32) → ∀ z2 : Int32, z2 = (0 : Int32) → (R4 M z1 z2)
def B_House_loadSoFar_4 (a : Nat) (p1 : Int32) (post : Int32 → Mem → Prop) (R4 : Mem → Int32 → Int32 → Prop) (M : Mem) (x4_2 : Int32) (x4_3 : Int32) : Prop :=
  ((((7 : Int32) ≤ x4_3) → post x4_2 M) ∧ ((¬ (7 : Int32) ≤ x4_3) → ((((M 4 6) ≤ x4_3) → post x4_2 M) ∧ ((¬ (M 4 6) ≤ x4_3) → P_Plan_has M 4 p1 (fun (r4 : Int32) (M3 : Mem) => (((r4 = 0) → post x4_2 M3) ∧ ((¬ r4 = 0) → vp_in p1 7 ∧ ((((¬ (((M3 (a + 6) (p1).toNatClampNeg) >>> (x4_3 &&& 31)) &&& (1 : Int32)) = (1 : Int32)) → ∀ z5 : Int32, z5 = x4_3 + (1 : Int32) → (R4 M3 x4_2 z5)) ∧ (((((M3 (a + 6) (p1).toNatClampNeg) >>> (x4_3 &&& 31)) &&& (1 : Int32)) = (1 : Int32)) → P_House_brings M3 a x4_3 (fun (r7 : Int32) (M6 : Mem) => ∀ z8 : Int32, z8 = (x4_2 + r7) → ∀ z9 : Int32, z9 = x4_3 + (1 : Int32) → (R4 M6 z8 z9))))))))))))
def P_House_loadSoFar (M : Mem) (a : Nat) (p1 : Int32) (post : Int32 → Mem → Prop) : Prop :=
  ∀ (R4 : Mem → Int32 → Int32 → Prop), (∀ (M : Mem) (x4_2 : Int32) (x4_3 : Int32), B_House_loadSoFar_4 a p1 post R4 M x4_2 x4_3 → R4 M x4_2 x4_3) → B_House_loadSoFar_i a p1 post R4 M
set_option maxHeartbeats 4000000 in
set_option maxRecDepth 100000 in
theorem c_House_loadSoFar {Z : ZT} (hZ : IsX Z) (l : Launch) (a : Nat) (ha : Hh a) (p1 : Int32) (M : Mem) (post : Int32 → Mem → Prop) (h : P_House_loadSoFar M a p1 post) : CtI Z l yX2_loadSoFar cX2_loadSoFar 4 (some .int) 2 43 [.ref (zb Z + a), .int p1] M post := by
  refine ctI (own := RX2) rfl (by decide) (Nat.le_of_ble_eq_true rfl) (fun X C E hr hQ => ?_)
  have s4 : ∀ (M : Mem) (x4_2 : Int32) (x4_3 : Int32), B_House_loadSoFar_4 a p1 post (fun (M : Mem) (x4_2 : Int32) (x4_3 : Int32) => GS Z X 4 [(0, .ref (zb Z + a)), (1, .int p1), (2, .int x4_2), (3, .int x4_3)] [] M) M x4_2 x4_3 → GS Z X 4 [(0, .ref (zb Z + a)), (1, .int p1), (2, .int x4_2), (3, .int x4_3)] [] M := by
    intro M x4_2 x4_3 h
    unfold B_House_loadSoFar_4 at h
    refine g_iload_n (n := 5) (i := 3) C dX2_loadSoFar_4 rfl 3 rfl rfl ?_
    refine g_bipush (n := 7) (7 : Int32) C dX2_loadSoFar_5 (by decide) rfl ?_
    refine g_icmp_ge (n := 10) (tgt := 60) C dX2_loadSoFar_7 (by decide) rfl (fun c => ?_) (fun c => ?_)
    · replace h := h.1 c
      refine g_iload_n (n := 61) (i := 2) C dX2_loadSoFar_60 rfl 2 rfl rfl ?_
      exact g_iret C hr hQ dX2_loadSoFar_61 h
    · replace h := h.2 c
      refine g_iload_n (n := 11) (i := 3) C dX2_loadSoFar_10 rfl 3 rfl rfl ?_
      refine g_aload_n (n := 12) (i := 0) C dX2_loadSoFar_11 rfl 0 rfl rfl ?_
      refine gf_X2_40 (n := 15) C E (Hh.o hZ ha) dX2_loadSoFar_12 rfl ?_
      refine gf_X2_62 (n := 18) C E (ox_4 hZ) dX2_loadSoFar_15 rfl ?_
      refine g_icmp_ge (n := 21) (tgt := 60) C dX2_loadSoFar_18 (by decide) rfl (fun c => ?_) (fun c => ?_)
      · replace h := h.1 c
        refine g_iload_n (n := 61) (i := 2) C dX2_loadSoFar_60 rfl 2 rfl rfl ?_
        exact g_iret C hr hQ dX2_loadSoFar_61 h
      · replace h := h.2 c
        refine g_aload_n (n := 22) (i := 0) C dX2_loadSoFar_21 rfl 0 rfl rfl ?_
        refine gf_X2_40 (n := 25) C E (Hh.o hZ ha) dX2_loadSoFar_22 rfl ?_
        refine g_iload_n (n := 26) (i := 1) C dX2_loadSoFar_25 rfl 1 rfl rfl ?_
        refine g_callNi (n := 29) (kd := 4) C E (c_Plan_has hZ _ 4 (by unfold Hp; decide) p1 M _ h) yi_X4_has wn_540 rfl (ox_4 hZ) (by decide) (Nat.le_of_ble_eq_true rfl) dX2_loadSoFar_26 rfl rfl (fun r4 M3 h => ?_)
        refine g_if_eq (n := 32) (tgt := 60) C dX2_loadSoFar_29 (by decide) rfl (fun c => ?_) (fun c => ?_)
        · replace h := h.1 c
          refine g_iload_n (n := 61) (i := 2) C dX2_loadSoFar_60 rfl 2 rfl rfl ?_
          exact g_iret C hr hQ dX2_loadSoFar_61 h
        · replace h := h.2 c
          refine g_aload_n (n := 33) (i := 0) C dX2_loadSoFar_32 rfl 0 rfl rfl ?_
          refine gf_X2_27 (n := 36) (a + 6) C E (Hh.o hZ ha) rfl dX2_loadSoFar_33 rfl ?_
          refine g_iload_n (n := 37) (i := 1) C dX2_loadSoFar_36 rfl 1 rfl rfl ?_
          refine g_iald (n := 38) C E (Hh.f6 hZ ha) h.1 dX2_loadSoFar_37 rfl ?_
          replace h := h.2
          refine g_iload_n (n := 39) (i := 3) C dX2_loadSoFar_38 rfl 3 rfl rfl ?_
          refine g_ishr (n := 40) C dX2_loadSoFar_39 rfl ?_
          refine g_iconst (n := 41) (1 : Int32) C dX2_loadSoFar_40 (by decide) rfl ?_
          refine g_iand (n := 42) C dX2_loadSoFar_41 rfl ?_
          refine g_iconst (n := 43) (1 : Int32) C dX2_loadSoFar_42 (by decide) rfl ?_
          refine g_icmp_ne (n := 46) (tgt := 54) C dX2_loadSoFar_43 (by decide) rfl (fun c => ?_) (fun c => ?_)
          · replace h := h.1 c
            refine g_iinc (n := 57) (v := (1 : Int32)) C dX2_loadSoFar_54 3 rfl (by decide) (Nat.le_of_ble_eq_true rfl) rfl rfl (fun z5 ez5 => ?_)
            replace h := h z5 ez5
            refine g_goto (tgt := 4) C dX2_loadSoFar_57 (by decide) ?_
            exact g_sub [1, 2, 3, 0] rfl h
          · replace h := h.2 c
            refine g_iload_n (n := 47) (i := 2) C dX2_loadSoFar_46 rfl 2 rfl rfl ?_
            refine g_aload_n (n := 48) (i := 0) C dX2_loadSoFar_47 rfl 0 rfl rfl ?_
            refine g_iload_n (n := 49) (i := 3) C dX2_loadSoFar_48 rfl 3 rfl rfl ?_
            refine g_callVi (n := 52) (kd := 2) C E (c_House_brings hZ _ a ha x4_3 M3 _ h) yi_X2_brings wd_541 rfl (Hh.o hZ ha) (by decide) (Nat.le_of_ble_eq_true rfl) dX2_loadSoFar_49 rfl rfl (fun r7 M6 h => ?_)
            refine g_iadd (n := 53) C dX2_loadSoFar_52 rfl ?_
            refine g_istore_n (n := 54) (i := 2) C dX2_loadSoFar_53 rfl (Nat.le_of_ble_eq_true rfl) rfl rfl (fun z8 ez8 => ?_)
            replace h := h z8 ez8
            refine g_iinc (n := 57) (v := (1 : Int32)) C dX2_loadSoFar_54 3 rfl (by decide) (Nat.le_of_ble_eq_true rfl) rfl rfl (fun z9 ez9 => ?_)
            replace h := h z9 ez9
            refine g_goto (tgt := 4) C dX2_loadSoFar_57 (by decide) ?_
            exact g_sub [2, 3, 1, 0] rfl h
  replace h := h (fun (M : Mem) (x4_2 : Int32) (x4_3 : Int32) => GS Z X 4 [(0, .ref (zb Z + a)), (1, .int p1), (2, .int x4_2), (3, .int x4_3)] [] M) s4
  unfold B_House_loadSoFar_i at h
  show GS Z X 0 [(0, .ref (zb Z + a)), (1, .int p1)] [] M
  refine g_iconst (n := 1) (0 : Int32) C dX2_loadSoFar_0 (by decide) rfl ?_
  refine g_istore_n (n := 2) (i := 2) C dX2_loadSoFar_1 rfl (Nat.le_of_ble_eq_true rfl) rfl rfl (fun z1 ez1 => ?_)
  replace h := h z1 ez1
  refine g_iconst (n := 3) (0 : Int32) C dX2_loadSoFar_2 (by decide) rfl ?_
  refine g_istore_n (n := 4) (i := 3) C dX2_loadSoFar_3 rfl (Nat.le_of_ble_eq_true rfl) rfl rfl (fun z2 ez2 => ?_)
  replace h := h z2 ez2
  exact g_sub [2, 3, 1, 0] rfl h
def B_House_howMany_i (a : Nat) (p1 : Int32) (post : Int32 → Mem → Prop) (R4 : Mem → Int32 → Int32 → Prop) (M : Mem)  : Prop :=
  ∀ z1 : Int32, z1 = (0 : Int32) → ∀ z2 : Int32, z2 = (0 : Int32) → (R4 M z1 z2)
def B_House_howMany_4 (a : Nat) (p1 : Int32) (post : Int32 → Mem → Prop) (R4 : Mem → Int32 → Int32 → Prop) (M : Mem) (x4_2 : Int32) (x4_3 : Int32) : Prop :=
  ((((7 : Int32) ≤ x4_3) → post x4_2 M) ∧ ((¬ (7 : Int32) ≤ x4_3) → ((((M 4 6) ≤ x4_3) → post x4_2 M) ∧ ((¬ (M 4 6) ≤ x4_3) → vp_in x4_3 7 ∧ ((((¬ (M (a + 1) (x4_3).toNatClampNeg) = p1) → ∀ z3 : Int32, z3 = x4_3 + (1 : Int32) → (R4 M x4_2 z3)) ∧ (((M (a + 1) (x4_3).toNatClampNeg) = p1) → ∀ z4 : Int32, z4 = x4_2 + (1 : Int32) → ∀ z5 : Int32, z5 = x4_3 + (1 : Int32) → (R4 M z4 z5))))))))
def P_House_howMany (M : Mem) (a : Nat) (p1 : Int32) (post : Int32 → Mem → Prop) : Prop :=
  ∀ (R4 : Mem → Int32 → Int32 → Prop), (∀ (M : Mem) (x4_2 : Int32) (x4_3 : Int32), B_House_howMany_4 a p1 post R4 M x4_2 x4_3 → R4 M x4_2 x4_3) → B_House_howMany_i a p1 post R4 M
set_option maxHeartbeats 4000000 in
set_option maxRecDepth 100000 in
theorem c_House_howMany {Z : ZT} (hZ : IsX Z) (l : Launch) (a : Nat) (ha : Hh a) (p1 : Int32) (M : Mem) (post : Int32 → Mem → Prop) (h : P_House_howMany M a p1 post) : CtI Z l yX2_howMany cX2_howMany 4 (some .int) 0 0 [.ref (zb Z + a), .int p1] M post := by
  refine ctI (own := RX2) rfl (by decide) (Nat.le_of_ble_eq_true rfl) (fun X C E hr hQ => ?_)
  have s4 : ∀ (M : Mem) (x4_2 : Int32) (x4_3 : Int32), B_House_howMany_4 a p1 post (fun (M : Mem) (x4_2 : Int32) (x4_3 : Int32) => GS Z X 4 [(0, .ref (zb Z + a)), (1, .int p1), (2, .int x4_2), (3, .int x4_3)] [] M) M x4_2 x4_3 → GS Z X 4 [(0, .ref (zb Z + a)), (1, .int p1), (2, .int x4_2), (3, .int x4_3)] [] M := by
    intro M x4_2 x4_3 h
    unfold B_House_howMany_4 at h
    refine g_iload_n (n := 5) (i := 3) C dX2_howMany_4 rfl 3 rfl rfl ?_
    refine g_bipush (n := 7) (7 : Int32) C dX2_howMany_5 (by decide) rfl ?_
    refine g_icmp_ge (n := 10) (tgt := 40) C dX2_howMany_7 (by decide) rfl (fun c => ?_) (fun c => ?_)
    · replace h := h.1 c
      refine g_iload_n (n := 41) (i := 2) C dX2_howMany_40 rfl 2 rfl rfl ?_
      exact g_iret C hr hQ dX2_howMany_41 h
    · replace h := h.2 c
      refine g_iload_n (n := 11) (i := 3) C dX2_howMany_10 rfl 3 rfl rfl ?_
      refine g_aload_n (n := 12) (i := 0) C dX2_howMany_11 rfl 0 rfl rfl ?_
      refine gf_X2_40 (n := 15) C E (Hh.o hZ ha) dX2_howMany_12 rfl ?_
      refine gf_X2_62 (n := 18) C E (ox_4 hZ) dX2_howMany_15 rfl ?_
      refine g_icmp_ge (n := 21) (tgt := 40) C dX2_howMany_18 (by decide) rfl (fun c => ?_) (fun c => ?_)
      · replace h := h.1 c
        refine g_iload_n (n := 41) (i := 2) C dX2_howMany_40 rfl 2 rfl rfl ?_
        exact g_iret C hr hQ dX2_howMany_41 h
      · replace h := h.2 c
        refine g_aload_n (n := 22) (i := 0) C dX2_howMany_21 rfl 0 rfl rfl ?_
        refine gf_X2_9 (n := 25) (a + 1) C E (Hh.o hZ ha) rfl dX2_howMany_22 rfl ?_
        refine g_iload_n (n := 26) (i := 3) C dX2_howMany_25 rfl 3 rfl rfl ?_
        refine g_iald (n := 27) C E (Hh.f1 hZ ha) h.1 dX2_howMany_26 rfl ?_
        replace h := h.2
        refine g_iload_n (n := 28) (i := 1) C dX2_howMany_27 rfl 1 rfl rfl ?_
        refine g_icmp_ne (n := 31) (tgt := 34) C dX2_howMany_28 (by decide) rfl (fun c => ?_) (fun c => ?_)
        · replace h := h.1 c
          refine g_iinc (n := 37) (v := (1 : Int32)) C dX2_howMany_34 3 rfl (by decide) (Nat.le_of_ble_eq_true rfl) rfl rfl (fun z3 ez3 => ?_)
          replace h := h z3 ez3
          refine g_goto (tgt := 4) C dX2_howMany_37 (by decide) ?_
          exact g_sub [1, 2, 3, 0] rfl h
        · replace h := h.2 c
          refine g_iinc (n := 34) (v := (1 : Int32)) C dX2_howMany_31 2 rfl (by decide) (Nat.le_of_ble_eq_true rfl) rfl rfl (fun z4 ez4 => ?_)
          replace h := h z4 ez4
          refine g_iinc (n := 37) (v := (1 : Int32)) C dX2_howMany_34 3 rfl (by decide) (Nat.le_of_ble_eq_true rfl) rfl rfl (fun z5 ez5 => ?_)
          replace h := h z5 ez5
          refine g_goto (tgt := 4) C dX2_howMany_37 (by decide) ?_
          exact g_sub [2, 3, 1, 0] rfl h
  replace h := h (fun (M : Mem) (x4_2 : Int32) (x4_3 : Int32) => GS Z X 4 [(0, .ref (zb Z + a)), (1, .int p1), (2, .int x4_2), (3, .int x4_3)] [] M) s4
  unfold B_House_howMany_i at h
  show GS Z X 0 [(0, .ref (zb Z + a)), (1, .int p1)] [] M
  refine g_iconst (n := 1) (0 : Int32) C dX2_howMany_0 (by decide) rfl ?_
  refine g_istore_n (n := 2) (i := 2) C dX2_howMany_1 rfl (Nat.le_of_ble_eq_true rfl) rfl rfl (fun z1 ez1 => ?_)
  replace h := h z1 ez1
  refine g_iconst (n := 3) (0 : Int32) C dX2_howMany_2 (by decide) rfl ?_
  refine g_istore_n (n := 4) (i := 3) C dX2_howMany_3 rfl (Nat.le_of_ble_eq_true rfl) rfl rfl (fun z2 ez2 => ?_)
  replace h := h z2 ez2
  exact g_sub [2, 3, 1, 0] rfl h
def B_House_allCoins_i (a : Nat) (post : Int32 → Mem → Prop) (R4 : Mem → Int32 → Int32 → Prop) (M : Mem)  : Prop :=
  ∀ z1 : Int32, z1 = (0 : Int32) → ∀ z2 : Int32, z2 = (0 : Int32) → (R4 M z1 z2)
def B_House_allCoins_4 (a : Nat) (post : Int32 → Mem → Prop) (R4 : Mem → Int32 → Int32 → Prop) (M : Mem) (x4_1 : Int32) (x4_2 : Int32) : Prop :=
  ((((7 : Int32) ≤ x4_2) → post x4_1 M) ∧ ((¬ (7 : Int32) ≤ x4_2) → ((((M 4 6) ≤ x4_2) → post x4_1 M) ∧ ((¬ (M 4 6) ≤ x4_2) → vp_in x4_2 7 ∧ (∀ z3 : Int32, z3 = (x4_1 + (M (a + 7) (x4_2).toNatClampNeg)) → ∀ z4 : Int32, z4 = x4_2 + (1 : Int32) → (R4 M z3 z4))))))
def P_House_allCoins (M : Mem) (a : Nat) (post : Int32 → Mem → Prop) : Prop :=
  ∀ (R4 : Mem → Int32 → Int32 → Prop), (∀ (M : Mem) (x4_1 : Int32) (x4_2 : Int32), B_House_allCoins_4 a post R4 M x4_1 x4_2 → R4 M x4_1 x4_2) → B_House_allCoins_i a post R4 M
set_option maxHeartbeats 4000000 in
set_option maxRecDepth 100000 in
theorem c_House_allCoins {Z : ZT} (hZ : IsX Z) (l : Launch) (a : Nat) (ha : Hh a) (M : Mem) (post : Int32 → Mem → Prop) (h : P_House_allCoins M a post) : CtI Z l yX2_allCoins cX2_allCoins 3 (some .int) 0 0 [.ref (zb Z + a)] M post := by
  refine ctI (own := RX2) rfl (by decide) (Nat.le_of_ble_eq_true rfl) (fun X C E hr hQ => ?_)
  have s4 : ∀ (M : Mem) (x4_1 : Int32) (x4_2 : Int32), B_House_allCoins_4 a post (fun (M : Mem) (x4_1 : Int32) (x4_2 : Int32) => GS Z X 4 [(0, .ref (zb Z + a)), (1, .int x4_1), (2, .int x4_2)] [] M) M x4_1 x4_2 → GS Z X 4 [(0, .ref (zb Z + a)), (1, .int x4_1), (2, .int x4_2)] [] M := by
    intro M x4_1 x4_2 h
    unfold B_House_allCoins_4 at h
    refine g_iload_n (n := 5) (i := 2) C dX2_allCoins_4 rfl 2 rfl rfl ?_
    refine g_bipush (n := 7) (7 : Int32) C dX2_allCoins_5 (by decide) rfl ?_
    refine g_icmp_ge (n := 10) (tgt := 36) C dX2_allCoins_7 (by decide) rfl (fun c => ?_) (fun c => ?_)
    · replace h := h.1 c
      refine g_iload_n (n := 37) (i := 1) C dX2_allCoins_36 rfl 1 rfl rfl ?_
      exact g_iret C hr hQ dX2_allCoins_37 h
    · replace h := h.2 c
      refine g_iload_n (n := 11) (i := 2) C dX2_allCoins_10 rfl 2 rfl rfl ?_
      refine g_aload_n (n := 12) (i := 0) C dX2_allCoins_11 rfl 0 rfl rfl ?_
      refine gf_X2_40 (n := 15) C E (Hh.o hZ ha) dX2_allCoins_12 rfl ?_
      refine gf_X2_62 (n := 18) C E (ox_4 hZ) dX2_allCoins_15 rfl ?_
      refine g_icmp_ge (n := 21) (tgt := 36) C dX2_allCoins_18 (by decide) rfl (fun c => ?_) (fun c => ?_)
      · replace h := h.1 c
        refine g_iload_n (n := 37) (i := 1) C dX2_allCoins_36 rfl 1 rfl rfl ?_
        exact g_iret C hr hQ dX2_allCoins_37 h
      · replace h := h.2 c
        refine g_iload_n (n := 22) (i := 1) C dX2_allCoins_21 rfl 1 rfl rfl ?_
        refine g_aload_n (n := 23) (i := 0) C dX2_allCoins_22 rfl 0 rfl rfl ?_
        refine gf_X2_30 (n := 26) (a + 7) C E (Hh.o hZ ha) rfl dX2_allCoins_23 rfl ?_
        refine g_iload_n (n := 27) (i := 2) C dX2_allCoins_26 rfl 2 rfl rfl ?_
        refine g_iald (n := 28) C E (Hh.f7 hZ ha) h.1 dX2_allCoins_27 rfl ?_
        replace h := h.2
        refine g_iadd (n := 29) C dX2_allCoins_28 rfl ?_
        refine g_istore_n (n := 30) (i := 1) C dX2_allCoins_29 rfl (Nat.le_of_ble_eq_true rfl) rfl rfl (fun z3 ez3 => ?_)
        replace h := h z3 ez3
        refine g_iinc (n := 33) (v := (1 : Int32)) C dX2_allCoins_30 2 rfl (by decide) (Nat.le_of_ble_eq_true rfl) rfl rfl (fun z4 ez4 => ?_)
        replace h := h z4 ez4
        refine g_goto (tgt := 4) C dX2_allCoins_33 (by decide) ?_
        exact g_sub [2, 1, 0] rfl h
  replace h := h (fun (M : Mem) (x4_1 : Int32) (x4_2 : Int32) => GS Z X 4 [(0, .ref (zb Z + a)), (1, .int x4_1), (2, .int x4_2)] [] M) s4
  unfold B_House_allCoins_i at h
  show GS Z X 0 [(0, .ref (zb Z + a))] [] M
  refine g_iconst (n := 1) (0 : Int32) C dX2_allCoins_0 (by decide) rfl ?_
  refine g_istore_n (n := 2) (i := 1) C dX2_allCoins_1 rfl (Nat.le_of_ble_eq_true rfl) rfl rfl (fun z1 ez1 => ?_)
  replace h := h z1 ez1
  refine g_iconst (n := 3) (0 : Int32) C dX2_allCoins_2 (by decide) rfl ?_
  refine g_istore_n (n := 4) (i := 2) C dX2_allCoins_3 rfl (Nat.le_of_ble_eq_true rfl) rfl rfl (fun z2 ez2 => ?_)
  replace h := h z2 ez2
  exact g_sub [2, 1, 0] rfl h
def B_House_allWork_i (a : Nat) (post : Int32 → Mem → Prop) (R4 : Mem → Int32 → Int32 → Prop) (M : Mem)  : Prop :=
  ∀ z1 : Int32, z1 = (0 : Int32) → ∀ z2 : Int32, z2 = (0 : Int32) → (R4 M z1 z2)
def B_House_allWork_4 (a : Nat) (post : Int32 → Mem → Prop) (R4 : Mem → Int32 → Int32 → Prop) (M : Mem) (x4_1 : Int32) (x4_2 : Int32) : Prop :=
  ((((7 : Int32) ≤ x4_2) → post x4_1 M) ∧ ((¬ (7 : Int32) ≤ x4_2) → ((((M 4 6) ≤ x4_2) → post x4_1 M) ∧ ((¬ (M 4 6) ≤ x4_2) → vp_in x4_2 7 ∧ (∀ z3 : Int32, z3 = (x4_1 + (M (a + 4) (x4_2).toNatClampNeg)) → ∀ z4 : Int32, z4 = x4_2 + (1 : Int32) → (R4 M z3 z4))))))
def P_House_allWork (M : Mem) (a : Nat) (post : Int32 → Mem → Prop) : Prop :=
  ∀ (R4 : Mem → Int32 → Int32 → Prop), (∀ (M : Mem) (x4_1 : Int32) (x4_2 : Int32), B_House_allWork_4 a post R4 M x4_1 x4_2 → R4 M x4_1 x4_2) → B_House_allWork_i a post R4 M
set_option maxHeartbeats 4000000 in
set_option maxRecDepth 100000 in
theorem c_House_allWork {Z : ZT} (hZ : IsX Z) (l : Launch) (a : Nat) (ha : Hh a) (M : Mem) (post : Int32 → Mem → Prop) (h : P_House_allWork M a post) : CtI Z l yX2_allWork cX2_allWork 3 (some .int) 0 0 [.ref (zb Z + a)] M post := by
  refine ctI (own := RX2) rfl (by decide) (Nat.le_of_ble_eq_true rfl) (fun X C E hr hQ => ?_)
  have s4 : ∀ (M : Mem) (x4_1 : Int32) (x4_2 : Int32), B_House_allWork_4 a post (fun (M : Mem) (x4_1 : Int32) (x4_2 : Int32) => GS Z X 4 [(0, .ref (zb Z + a)), (1, .int x4_1), (2, .int x4_2)] [] M) M x4_1 x4_2 → GS Z X 4 [(0, .ref (zb Z + a)), (1, .int x4_1), (2, .int x4_2)] [] M := by
    intro M x4_1 x4_2 h
    unfold B_House_allWork_4 at h
    refine g_iload_n (n := 5) (i := 2) C dX2_allWork_4 rfl 2 rfl rfl ?_
    refine g_bipush (n := 7) (7 : Int32) C dX2_allWork_5 (by decide) rfl ?_
    refine g_icmp_ge (n := 10) (tgt := 36) C dX2_allWork_7 (by decide) rfl (fun c => ?_) (fun c => ?_)
    · replace h := h.1 c
      refine g_iload_n (n := 37) (i := 1) C dX2_allWork_36 rfl 1 rfl rfl ?_
      exact g_iret C hr hQ dX2_allWork_37 h
    · replace h := h.2 c
      refine g_iload_n (n := 11) (i := 2) C dX2_allWork_10 rfl 2 rfl rfl ?_
      refine g_aload_n (n := 12) (i := 0) C dX2_allWork_11 rfl 0 rfl rfl ?_
      refine gf_X2_40 (n := 15) C E (Hh.o hZ ha) dX2_allWork_12 rfl ?_
      refine gf_X2_62 (n := 18) C E (ox_4 hZ) dX2_allWork_15 rfl ?_
      refine g_icmp_ge (n := 21) (tgt := 36) C dX2_allWork_18 (by decide) rfl (fun c => ?_) (fun c => ?_)
      · replace h := h.1 c
        refine g_iload_n (n := 37) (i := 1) C dX2_allWork_36 rfl 1 rfl rfl ?_
        exact g_iret C hr hQ dX2_allWork_37 h
      · replace h := h.2 c
        refine g_iload_n (n := 22) (i := 1) C dX2_allWork_21 rfl 1 rfl rfl ?_
        refine g_aload_n (n := 23) (i := 0) C dX2_allWork_22 rfl 0 rfl rfl ?_
        refine gf_X2_21 (n := 26) (a + 4) C E (Hh.o hZ ha) rfl dX2_allWork_23 rfl ?_
        refine g_iload_n (n := 27) (i := 2) C dX2_allWork_26 rfl 2 rfl rfl ?_
        refine g_iald (n := 28) C E (Hh.f4 hZ ha) h.1 dX2_allWork_27 rfl ?_
        replace h := h.2
        refine g_iadd (n := 29) C dX2_allWork_28 rfl ?_
        refine g_istore_n (n := 30) (i := 1) C dX2_allWork_29 rfl (Nat.le_of_ble_eq_true rfl) rfl rfl (fun z3 ez3 => ?_)
        replace h := h z3 ez3
        refine g_iinc (n := 33) (v := (1 : Int32)) C dX2_allWork_30 2 rfl (by decide) (Nat.le_of_ble_eq_true rfl) rfl rfl (fun z4 ez4 => ?_)
        replace h := h z4 ez4
        refine g_goto (tgt := 4) C dX2_allWork_33 (by decide) ?_
        exact g_sub [2, 1, 0] rfl h
  replace h := h (fun (M : Mem) (x4_1 : Int32) (x4_2 : Int32) => GS Z X 4 [(0, .ref (zb Z + a)), (1, .int x4_1), (2, .int x4_2)] [] M) s4
  unfold B_House_allWork_i at h
  show GS Z X 0 [(0, .ref (zb Z + a))] [] M
  refine g_iconst (n := 1) (0 : Int32) C dX2_allWork_0 (by decide) rfl ?_
  refine g_istore_n (n := 2) (i := 1) C dX2_allWork_1 rfl (Nat.le_of_ble_eq_true rfl) rfl rfl (fun z1 ez1 => ?_)
  replace h := h z1 ez1
  refine g_iconst (n := 3) (0 : Int32) C dX2_allWork_2 (by decide) rfl ?_
  refine g_istore_n (n := 4) (i := 2) C dX2_allWork_3 rfl (Nat.le_of_ble_eq_true rfl) rfl rfl (fun z2 ez2 => ?_)
  replace h := h z2 ez2
  exact g_sub [2, 1, 0] rfl h
