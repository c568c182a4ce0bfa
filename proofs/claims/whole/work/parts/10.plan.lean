def B_Plan_has_i (a : Nat) (p1 : Int32) (post : Int32 → Mem → Prop)  (M : Mem)  : Prop :=
  (((p1 < 0) → post (0 : Int32) M) ∧ ((¬ p1 < 0) → ((((M a 6) ≤ p1) → post (0 : Int32) M) ∧ ((¬ (M a 6) ≤ p1) → ((((7 : Int32) ≤ p1) → post (0 : Int32) M) ∧ ((¬ (7 : Int32) ≤ p1) → post (1 : Int32) M))))))
def P_Plan_has (M : Mem) (a : Nat) (p1 : Int32) (post : Int32 → Mem → Prop) : Prop := B_Plan_has_i a p1 post M
set_option maxHeartbeats 4000000 in
set_option maxRecDepth 100000 in
theorem c_Plan_has {Z : ZT} (hZ : IsX Z) (l : Launch) (a : Nat) (ha : Hp a) (p1 : Int32) (M : Mem) (post : Int32 → Mem → Prop) (h : P_Plan_has M a p1 post) : CtI Z l yX4_has cX4_has 2 (some .boolean) 0 0 [.ref (zb Z + a), .int p1] M post := by
  refine ctI (own := RX4) rfl (by decide) (Nat.le_of_ble_eq_true rfl) (fun X C E hr hQ => ?_)
  unfold P_Plan_has at h
  unfold B_Plan_has_i at h
  show GS Z X 0 [(0, .ref (zb Z + a)), (1, .int p1)] [] M
  refine g_iload_n (n := 1) (i := 1) C dX4_has_0 rfl 1 rfl rfl ?_
  refine g_if_lt (n := 4) (tgt := 22) C dX4_has_1 (by decide) rfl (fun c => ?_) (fun c => ?_)
  · replace h := h.1 c
    refine g_iconst (n := 23) (0 : Int32) C dX4_has_22 (by decide) rfl ?_
    exact g_zret C hr hQ dX4_has_23 rfl h
  · replace h := h.2 c
    refine g_iload_n (n := 5) (i := 1) C dX4_has_4 rfl 1 rfl rfl ?_
    refine g_aload_n (n := 6) (i := 0) C dX4_has_5 rfl 0 rfl rfl ?_
    refine gf_X4_30 (n := 9) C E (Hp.o hZ ha) dX4_has_6 rfl ?_
    refine g_icmp_ge (n := 12) (tgt := 22) C dX4_has_9 (by decide) rfl (fun c => ?_) (fun c => ?_)
    · replace h := h.1 c
      refine g_iconst (n := 23) (0 : Int32) C dX4_has_22 (by decide) rfl ?_
      exact g_zret C hr hQ dX4_has_23 rfl h
    · replace h := h.2 c
      refine g_iload_n (n := 13) (i := 1) C dX4_has_12 rfl 1 rfl rfl ?_
      refine g_bipush (n := 15) (7 : Int32) C dX4_has_13 (by decide) rfl ?_
      refine g_icmp_ge (n := 18) (tgt := 22) C dX4_has_15 (by decide) rfl (fun c => ?_) (fun c => ?_)
      · replace h := h.1 c
        refine g_iconst (n := 23) (0 : Int32) C dX4_has_22 (by decide) rfl ?_
        exact g_zret C hr hQ dX4_has_23 rfl h
      · replace h := h.2 c
        refine g_iconst (n := 19) (1 : Int32) C dX4_has_18 (by decide) rfl ?_
        refine g_goto (tgt := 23) C dX4_has_19 (by decide) ?_
        exact g_zret C hr hQ dX4_has_23 rfl h
def B_Plan_clear_i (a : Nat) (post : Mem → Prop) (R12 : Mem → Int32 → Prop) (M : Mem)  : Prop :=
  ∀ M1 : Mem, M1 = mset M a 6 (0 : Int32) → ∀ M2 : Mem, M2 = mset M1 a 7 (0 : Int32) → ∀ z3 : Int32, z3 = (0 : Int32) → (R12 M2 z3)
def B_Plan_clear_12 (a : Nat) (post : Mem → Prop) (R12 : Mem → Int32 → Prop) (M : Mem) (x12_1 : Int32) : Prop :=
  ((((7 : Int32) ≤ x12_1) → post M) ∧ ((¬ (7 : Int32) ≤ x12_1) → vp_in x12_1 7 ∧ (∀ M4 : Mem, M4 = mset M (a + 6) (x12_1).toNatClampNeg (0 : Int32) → ∀ z5 : Int32, z5 = x12_1 + (1 : Int32) → (R12 M4 z5))))
def P_Plan_clear (M : Mem) (a : Nat) (post : Mem → Prop) : Prop :=
  ∀ (R12 : Mem → Int32 → Prop), (∀ (M : Mem) (x12_1 : Int32), B_Plan_clear_12 a post R12 M x12_1 → R12 M x12_1) → B_Plan_clear_i a post R12 M
set_option maxHeartbeats 4000000 in
set_option maxRecDepth 100000 in
theorem c_Plan_clear {Z : ZT} (hZ : IsX Z) (l : Launch) (a : Nat) (ha : Hp a) (M : Mem) (post : Mem → Prop) (h : P_Plan_clear M a post) : CtV Z l yX4_clear cX4_clear 2 none 0 0 [.ref (zb Z + a)] M post := by
  refine ctV (own := RX4) rfl (by decide) (Nat.le_of_ble_eq_true rfl) (fun X C E hr hQ => ?_)
  have s12 : ∀ (M : Mem) (x12_1 : Int32), B_Plan_clear_12 a post (fun (M : Mem) (x12_1 : Int32) => GS Z X 12 [(0, .ref (zb Z + a)), (1, .int x12_1)] [] M) M x12_1 → GS Z X 12 [(0, .ref (zb Z + a)), (1, .int x12_1)] [] M := by
    intro M x12_1 h
    unfold B_Plan_clear_12 at h
    refine g_iload_n (n := 13) (i := 1) C dX4_clear_12 rfl 1 rfl rfl ?_
    refine g_bipush (n := 15) (7 : Int32) C dX4_clear_13 (by decide) rfl ?_
    refine g_icmp_ge (n := 18) (tgt := 31) C dX4_clear_15 (by decide) rfl (fun c => ?_) (fun c => ?_)
    · replace h := h.1 c
      exact g_vret C hr hQ dX4_clear_31 h
    · replace h := h.2 c
      refine g_aload_n (n := 19) (i := 0) C dX4_clear_18 rfl 0 rfl rfl ?_
      refine gf_X4_27 (n := 22) (a + 6) C E (Hp.o hZ ha) rfl dX4_clear_19 rfl ?_
      refine g_iload_n (n := 23) (i := 1) C dX4_clear_22 rfl 1 rfl rfl ?_
      refine g_iconst (n := 24) (0 : Int32) C dX4_clear_23 (by decide) rfl ?_
      refine g_iast (n := 25) C E (Hp.f6 hZ ha) h.1 dX4_clear_24 rfl (fun M4 eM4 => ?_)
      replace h := h.2 M4 eM4
      refine g_iinc (n := 28) (v := (1 : Int32)) C dX4_clear_25 1 rfl (by decide) (Nat.le_of_ble_eq_true rfl) rfl rfl (fun z5 ez5 => ?_)
      replace h := h z5 ez5
      refine g_goto (tgt := 12) C dX4_clear_28 (by decide) ?_
      exact g_sub [1, 0] rfl h
  replace h := h (fun (M : Mem) (x12_1 : Int32) => GS Z X 12 [(0, .ref (zb Z + a)), (1, .int x12_1)] [] M) s12
  unfold B_Plan_clear_i at h
  show GS Z X 0 [(0, .ref (zb Z + a))] [] M
  refine g_aload_n (n := 1) (i := 0) C dX4_clear_0 rfl 0 rfl rfl ?_
  refine g_iconst (n := 2) (0 : Int32) C dX4_clear_1 (by decide) rfl ?_
  refine gp_X4_30 (n := 5) C E (Hp.o hZ ha) dX4_clear_2 rfl (fun M1 eM1 => ?_)
  replace h := h M1 eM1
  refine g_aload_n (n := 6) (i := 0) C dX4_clear_5 rfl 0 rfl rfl ?_
  refine g_iconst (n := 7) (0 : Int32) C dX4_clear_6 (by decide) rfl ?_
  refine gp_X4_34 (n := 10) C E (Hp.o hZ ha) dX4_clear_7 rfl (fun M2 eM2 => ?_)
  replace h := h M2 eM2
  refine g_iconst (n := 11) (0 : Int32) C dX4_clear_10 (by decide) rfl ?_
  refine g_istore_n (n := 12) (i := 1) C dX4_clear_11 rfl (Nat.le_of_ble_eq_true rfl) rfl rfl (fun z3 ez3 => ?_)
  replace h := h z3 ez3
  exact g_sub [1, 0] rfl h
def B_Plan_addGuest_i (a : Nat) (p1 : Nat) (post : Int32 → Mem → Prop)  (M : Mem)  : Prop :=
  ((((M a 6) < 0) → post (0 : Int32) M) ∧ ((¬ (M a 6) < 0) → ((((7 : Int32) ≤ (M a 6)) → post (0 : Int32) M) ∧ ((¬ (7 : Int32) ≤ (M a 6)) → ((((5 : Int32) ≤ (5 : Int32)) → vp_in (0 : Int32) 5 ∧ (vp_in (M a 6) 7 ∧ (∀ M1 : Mem, M1 = mset M (a + 1) ((M a 6)).toNatClampNeg (M p1 ((0 : Int32)).toNatClampNeg) → vp_in (1 : Int32) 5 ∧ (vp_in (M1 a 6) 7 ∧ (∀ M2 : Mem, M2 = mset M1 (a + 2) ((M1 a 6)).toNatClampNeg (M1 p1 ((1 : Int32)).toNatClampNeg) → vp_in (2 : Int32) 5 ∧ (vp_in (M2 a 6) 7 ∧ (∀ M3 : Mem, M3 = mset M2 (a + 3) ((M2 a 6)).toNatClampNeg (M2 p1 ((2 : Int32)).toNatClampNeg) → vp_in (3 : Int32) 5 ∧ (vp_in (M3 a 6) 7 ∧ (∀ M4 : Mem, M4 = mset M3 (a + 4) ((M3 a 6)).toNatClampNeg (M3 p1 ((3 : Int32)).toNatClampNeg) → vp_in (4 : Int32) 5 ∧ (vp_in (M4 a 6) 7 ∧ (∀ M5 : Mem, M5 = mset M4 (a + 5) ((M4 a 6)).toNatClampNeg (M4 p1 ((4 : Int32)).toNatClampNeg) → ∀ M6 : Mem, M6 = mset M5 a 6 ((M5 a 6) + (1 : Int32)) → post (1 : Int32) M6))))))))))) ∧ ((¬ (5 : Int32) ≤ (5 : Int32)) → post (0 : Int32) M))))))
def P_Plan_addGuest (M : Mem) (a : Nat) (p1 : Nat) (post : Int32 → Mem → Prop) : Prop := B_Plan_addGuest_i a p1 post M
set_option maxHeartbeats 4000000 in
set_option maxRecDepth 100000 in
theorem c_Plan_addGuest {Z : ZT} (hZ : IsX Z) (l : Launch) (a : Nat) (ha : Hp a) (p1 : Nat) (hp1 : H5 p1) (M : Mem) (post : Int32 → Mem → Prop) (h : P_Plan_addGuest M a p1 post) : CtI Z l yX4_addGuest cX4_addGuest 2 (some .boolean) 0 0 [.ref (zb Z + a), .ref (zb Z + p1)] M post := by
  refine ctI (own := RX4) rfl (by decide) (Nat.le_of_ble_eq_true rfl) (fun X C E hr hQ => ?_)
  unfold P_Plan_addGuest at h
  unfold B_Plan_addGuest_i at h
  show GS Z X 0 [(0, .ref (zb Z + a)), (1, .ref (zb Z + p1))] [] M
  refine g_aload_n (n := 1) (i := 0) C dX4_addGuest_0 rfl 0 rfl rfl ?_
  refine gf_X4_30 (n := 4) C E (Hp.o hZ ha) dX4_addGuest_1 rfl ?_
  refine g_if_lt (n := 7) (tgt := 22) C dX4_addGuest_4 (by decide) rfl (fun c => ?_) (fun c => ?_)
  · replace h := h.1 c
    refine g_iconst (n := 23) (0 : Int32) C dX4_addGuest_22 (by decide) rfl ?_
    exact g_zret C hr hQ dX4_addGuest_23 rfl h
  · replace h := h.2 c
    refine g_aload_n (n := 8) (i := 0) C dX4_addGuest_7 rfl 0 rfl rfl ?_
    refine gf_X4_30 (n := 11) C E (Hp.o hZ ha) dX4_addGuest_8 rfl ?_
    refine g_bipush (n := 13) (7 : Int32) C dX4_addGuest_11 (by decide) rfl ?_
    refine g_icmp_ge (n := 16) (tgt := 22) C dX4_addGuest_13 (by decide) rfl (fun c => ?_) (fun c => ?_)
    · replace h := h.1 c
      refine g_iconst (n := 23) (0 : Int32) C dX4_addGuest_22 (by decide) rfl ?_
      exact g_zret C hr hQ dX4_addGuest_23 rfl h
    · replace h := h.2 c
      refine g_aload_n (n := 17) (i := 1) C dX4_addGuest_16 rfl 1 rfl rfl ?_
      refine g_alen (n := 18) (5 : Int32) C E (H5.o hZ hp1) (by decide) dX4_addGuest_17 rfl ?_
      refine g_iconst (n := 19) (5 : Int32) C dX4_addGuest_18 (by decide) rfl ?_
      refine g_icmp_ge (n := 22) (tgt := 24) C dX4_addGuest_19 (by decide) rfl (fun c => ?_) (fun c => ?_)
      · replace h := h.1 c
        refine g_aload_n (n := 25) (i := 0) C dX4_addGuest_24 rfl 0 rfl rfl ?_
        refine gf_X4_9 (n := 28) (a + 1) C E (Hp.o hZ ha) rfl dX4_addGuest_25 rfl ?_
        refine g_aload_n (n := 29) (i := 0) C dX4_addGuest_28 rfl 0 rfl rfl ?_
        refine gf_X4_30 (n := 32) C E (Hp.o hZ ha) dX4_addGuest_29 rfl ?_
        refine g_aload_n (n := 33) (i := 1) C dX4_addGuest_32 rfl 1 rfl rfl ?_
        refine g_iconst (n := 34) (0 : Int32) C dX4_addGuest_33 (by decide) rfl ?_
        refine g_iald (n := 35) C E (H5.o hZ hp1) h.1 dX4_addGuest_34 rfl ?_
        replace h := h.2
        refine g_iast (n := 36) C E (Hp.f1 hZ ha) h.1 dX4_addGuest_35 rfl (fun M1 eM1 => ?_)
        replace h := h.2 M1 eM1
        refine g_aload_n (n := 37) (i := 0) C dX4_addGuest_36 rfl 0 rfl rfl ?_
        refine gf_X4_15 (n := 40) (a + 2) C E (Hp.o hZ ha) rfl dX4_addGuest_37 rfl ?_
        refine g_aload_n (n := 41) (i := 0) C dX4_addGuest_40 rfl 0 rfl rfl ?_
        refine gf_X4_30 (n := 44) C E (Hp.o hZ ha) dX4_addGuest_41 rfl ?_
        refine g_aload_n (n := 45) (i := 1) C dX4_addGuest_44 rfl 1 rfl rfl ?_
        refine g_iconst (n := 46) (1 : Int32) C dX4_addGuest_45 (by decide) rfl ?_
        refine g_iald (n := 47) C E (H5.o hZ hp1) h.1 dX4_addGuest_46 rfl ?_
        replace h := h.2
        refine g_iast (n := 48) C E (Hp.f2 hZ ha) h.1 dX4_addGuest_47 rfl (fun M2 eM2 => ?_)
        replace h := h.2 M2 eM2
        refine g_aload_n (n := 49) (i := 0) C dX4_addGuest_48 rfl 0 rfl rfl ?_
        refine gf_X4_18 (n := 52) (a + 3) C E (Hp.o hZ ha) rfl dX4_addGuest_49 rfl ?_
        refine g_aload_n (n := 53) (i := 0) C dX4_addGuest_52 rfl 0 rfl rfl ?_
        refine gf_X4_30 (n := 56) C E (Hp.o hZ ha) dX4_addGuest_53 rfl ?_
        refine g_aload_n (n := 57) (i := 1) C dX4_addGuest_56 rfl 1 rfl rfl ?_
        refine g_iconst (n := 58) (2 : Int32) C dX4_addGuest_57 (by decide) rfl ?_
        refine g_iald (n := 59) C E (H5.o hZ hp1) h.1 dX4_addGuest_58 rfl ?_
        replace h := h.2
        refine g_iast (n := 60) C E (Hp.f3 hZ ha) h.1 dX4_addGuest_59 rfl (fun M3 eM3 => ?_)
        replace h := h.2 M3 eM3
        refine g_aload_n (n := 61) (i := 0) C dX4_addGuest_60 rfl 0 rfl rfl ?_
        refine gf_X4_21 (n := 64) (a + 4) C E (Hp.o hZ ha) rfl dX4_addGuest_61 rfl ?_
        refine g_aload_n (n := 65) (i := 0) C dX4_addGuest_64 rfl 0 rfl rfl ?_
        refine gf_X4_30 (n := 68) C E (Hp.o hZ ha) dX4_addGuest_65 rfl ?_
        refine g_aload_n (n := 69) (i := 1) C dX4_addGuest_68 rfl 1 rfl rfl ?_
        refine g_iconst (n := 70) (3 : Int32) C dX4_addGuest_69 (by decide) rfl ?_
        refine g_iald (n := 71) C E (H5.o hZ hp1) h.1 dX4_addGuest_70 rfl ?_
        replace h := h.2
        refine g_iast (n := 72) C E (Hp.f4 hZ ha) h.1 dX4_addGuest_71 rfl (fun M4 eM4 => ?_)
        replace h := h.2 M4 eM4
        refine g_aload_n (n := 73) (i := 0) C dX4_addGuest_72 rfl 0 rfl rfl ?_
        refine gf_X4_24 (n := 76) (a + 5) C E (Hp.o hZ ha) rfl dX4_addGuest_73 rfl ?_
        refine g_aload_n (n := 77) (i := 0) C dX4_addGuest_76 rfl 0 rfl rfl ?_
        refine gf_X4_30 (n := 80) C E (Hp.o hZ ha) dX4_addGuest_77 rfl ?_
        refine g_aload_n (n := 81) (i := 1) C dX4_addGuest_80 rfl 1 rfl rfl ?_
        refine g_iconst (n := 82) (4 : Int32) C dX4_addGuest_81 (by decide) rfl ?_
        refine g_iald (n := 83) C E (H5.o hZ hp1) h.1 dX4_addGuest_82 rfl ?_
        replace h := h.2
        refine g_iast (n := 84) C E (Hp.f5 hZ ha) h.1 dX4_addGuest_83 rfl (fun M5 eM5 => ?_)
        replace h := h.2 M5 eM5
        refine g_aload_n (n := 85) (i := 0) C dX4_addGuest_84 rfl 0 rfl rfl ?_
        refine g_dup (n := 86) C dX4_addGuest_85 rfl rfl ?_
        refine gf_X4_30 (n := 89) C E (Hp.o hZ ha) dX4_addGuest_86 rfl ?_
        refine g_iconst (n := 90) (1 : Int32) C dX4_addGuest_89 (by decide) rfl ?_
        refine g_iadd (n := 91) C dX4_addGuest_90 rfl ?_
        refine gp_X4_30 (n := 94) C E (Hp.o hZ ha) dX4_addGuest_91 rfl (fun M6 eM6 => ?_)
        replace h := h M6 eM6
        refine g_iconst (n := 95) (1 : Int32) C dX4_addGuest_94 (by decide) rfl ?_
        exact g_zret C hr hQ dX4_addGuest_95 rfl h
      · replace h := h.2 c
        refine g_iconst (n := 23) (0 : Int32) C dX4_addGuest_22 (by decide) rfl ?_
        exact g_zret C hr hQ dX4_addGuest_23 rfl h
def B_Plan_addRoom_i (a : Nat) (p1 : Int32) (post : Int32 → Mem → Prop)  (M : Mem)  : Prop :=
  ((((M a 7) < 0) → post (0 : Int32) M) ∧ ((¬ (M a 7) < 0) → ((((M a 7) < (7 : Int32)) → vp_in (M a 7) 7 ∧ (∀ M1 : Mem, M1 = mset M (a + 6) ((M a 7)).toNatClampNeg p1 → ∀ M2 : Mem, M2 = mset M1 a 7 ((M1 a 7) + (1 : Int32)) → post (1 : Int32) M2)) ∧ ((¬ (M a 7) < (7 : Int32)) → post (0 : Int32) M))))
def P_Plan_addRoom (M : Mem) (a : Nat) (p1 : Int32) (post : Int32 → Mem → Prop) : Prop := B_Plan_addRoom_i a p1 post M
set_option maxHeartbeats 4000000 in
set_option maxRecDepth 100000 in
theorem c_Plan_addRoom {Z : ZT} (hZ : IsX Z) (l : Launch) (a : Nat) (ha : Hp a) (p1 : Int32) (M : Mem) (post : Int32 → Mem → Prop) (h : P_Plan_addRoom M a p1 post) : CtI Z l yX4_addRoom cX4_addRoom 2 (some .boolean) 0 0 [.ref (zb Z + a), .int p1] M post := by
  refine ctI (own := RX4) rfl (by decide) (Nat.le_of_ble_eq_true rfl) (fun X C E hr hQ => ?_)
  unfold P_Plan_addRoom at h
  unfold B_Plan_addRoom_i at h
  show GS Z X 0 [(0, .ref (zb Z + a)), (1, .int p1)] [] M
  refine g_aload_n (n := 1) (i := 0) C dX4_addRoom_0 rfl 0 rfl rfl ?_
  refine gf_X4_34 (n := 4) C E (Hp.o hZ ha) dX4_addRoom_1 rfl ?_
  refine g_if_lt (n := 7) (tgt := 16) C dX4_addRoom_4 (by decide) rfl (fun c => ?_) (fun c => ?_)
  · replace h := h.1 c
    refine g_iconst (n := 17) (0 : Int32) C dX4_addRoom_16 (by decide) rfl ?_
    exact g_zret C hr hQ dX4_addRoom_17 rfl h
  · replace h := h.2 c
    refine g_aload_n (n := 8) (i := 0) C dX4_addRoom_7 rfl 0 rfl rfl ?_
    refine gf_X4_34 (n := 11) C E (Hp.o hZ ha) dX4_addRoom_8 rfl ?_
    refine g_bipush (n := 13) (7 : Int32) C dX4_addRoom_11 (by decide) rfl ?_
    refine g_icmp_lt (n := 16) (tgt := 18) C dX4_addRoom_13 (by decide) rfl (fun c => ?_) (fun c => ?_)
    · replace h := h.1 c
      refine g_aload_n (n := 19) (i := 0) C dX4_addRoom_18 rfl 0 rfl rfl ?_
      refine gf_X4_27 (n := 22) (a + 6) C E (Hp.o hZ ha) rfl dX4_addRoom_19 rfl ?_
      refine g_aload_n (n := 23) (i := 0) C dX4_addRoom_22 rfl 0 rfl rfl ?_
      refine gf_X4_34 (n := 26) C E (Hp.o hZ ha) dX4_addRoom_23 rfl ?_
      refine g_iload_n (n := 27) (i := 1) C dX4_addRoom_26 rfl 1 rfl rfl ?_
      refine g_iast (n := 28) C E (Hp.f6 hZ ha) h.1 dX4_addRoom_27 rfl (fun M1 eM1 => ?_)
      replace h := h.2 M1 eM1
      refine g_aload_n (n := 29) (i := 0) C dX4_addRoom_28 rfl 0 rfl rfl ?_
      refine g_dup (n := 30) C dX4_addRoom_29 rfl rfl ?_
      refine gf_X4_34 (n := 33) C E (Hp.o hZ ha) dX4_addRoom_30 rfl ?_
      refine g_iconst (n := 34) (1 : Int32) C dX4_addRoom_33 (by decide) rfl ?_
      refine g_iadd (n := 35) C dX4_addRoom_34 rfl ?_
      refine gp_X4_34 (n := 38) C E (Hp.o hZ ha) dX4_addRoom_35 rfl (fun M2 eM2 => ?_)
      replace h := h M2 eM2
      refine g_iconst (n := 39) (1 : Int32) C dX4_addRoom_38 (by decide) rfl ?_
      exact g_zret C hr hQ dX4_addRoom_39 rfl h
    · replace h := h.2 c
      refine g_iconst (n := 17) (0 : Int32) C dX4_addRoom_16 (by decide) rfl ?_
      exact g_zret C hr hQ dX4_addRoom_17 rfl h
def B_Plan_copyFrom_i (a : Nat) (p1 : Nat) (post : Mem → Prop) (R18 : Mem → Int32 → Prop) (M : Mem)  : Prop :=
  ∀ M1 : Mem, M1 = mset M a 6 (M p1 6) → ∀ M2 : Mem, M2 = mset M1 a 7 (M1 p1 7) → ∀ z3 : Int32, z3 = (0 : Int32) → (R18 M2 z3)
def B_Plan_copyFrom_18 (a : Nat) (p1 : Nat) (post : Mem → Prop) (R18 : Mem → Int32 → Prop) (M : Mem) (x18_2 : Int32) : Prop :=
  ((((7 : Int32) ≤ x18_2) → post M) ∧ ((¬ (7 : Int32) ≤ x18_2) → vp_in x18_2 7 ∧ (vp_in x18_2 7 ∧ (∀ M4 : Mem, M4 = mset M (a + 1) (x18_2).toNatClampNeg (M (p1 + 1) (x18_2).toNatClampNeg) → vp_in x18_2 7 ∧ (vp_in x18_2 7 ∧ (∀ M5 : Mem, M5 = mset M4 (a + 2) (x18_2).toNatClampNeg (M4 (p1 + 2) (x18_2).toNatClampNeg) → vp_in x18_2 7 ∧ (vp_in x18_2 7 ∧ (∀ M6 : Mem, M6 = mset M5 (a + 3) (x18_2).toNatClampNeg (M5 (p1 + 3) (x18_2).toNatClampNeg) → vp_in x18_2 7 ∧ (vp_in x18_2 7 ∧ (∀ M7 : Mem, M7 = mset M6 (a + 4) (x18_2).toNatClampNeg (M6 (p1 + 4) (x18_2).toNatClampNeg) → vp_in x18_2 7 ∧ (vp_in x18_2 7 ∧ (∀ M8 : Mem, M8 = mset M7 (a + 5) (x18_2).toNatClampNeg (M7 (p1 + 5) (x18_2).toNatClampNeg) → vp_in x18_2 7 ∧ (vp_in x18_2 7 ∧ (∀ M9 : Mem, M9 = mset M8 (a + 6) (x18_2).toNatClampNeg (M8 (p1 + 6) (x18_2).toNatClampNeg) → ∀ z10 : Int32, z10 = x18_2 + (1 : Int32) → (R18 M9 z10)))))))))))))))
def P_Plan_copyFrom (M : Mem) (a : Nat) (p1 : Nat) (post : Mem → Prop) : Prop :=
  ∀ (R18 : Mem → Int32 → Prop), (∀ (M : Mem) (x18_2 : Int32), B_Plan_copyFrom_18 a p1 post R18 M x18_2 → R18 M x18_2) → B_Plan_copyFrom_i a p1 post R18 M
set_option maxHeartbeats 4000000 in
set_option maxRecDepth 100000 in
theorem c_Plan_copyFrom {Z : ZT} (hZ : IsX Z) (l : Launch) (a : Nat) (ha : Hp a) (p1 : Nat) (hp1 : Hp p1) (M : Mem) (post : Mem → Prop) (h : P_Plan_copyFrom M a p1 post) : CtV Z l yX4_copyFrom cX4_copyFrom 3 none 0 0 [.ref (zb Z + a), .ref (zb Z + p1)] M post := by
  refine ctV (own := RX4) rfl (by decide) (Nat.le_of_ble_eq_true rfl) (fun X C E hr hQ => ?_)
  have s18 : ∀ (M : Mem) (x18_2 : Int32), B_Plan_copyFrom_18 a p1 post (fun (M : Mem) (x18_2 : Int32) => GS Z X 18 [(0, .ref (zb Z + a)), (1, .ref (zb Z + p1)), (2, .int x18_2)] [] M) M x18_2 → GS Z X 18 [(0, .ref (zb Z + a)), (1, .ref (zb Z + p1)), (2, .int x18_2)] [] M := by
    intro M x18_2 h
    unfold B_Plan_copyFrom_18 at h
    refine g_iload_n (n := 19) (i := 2) C dX4_copyFrom_18 rfl 2 rfl rfl ?_
    refine g_bipush (n := 21) (7 : Int32) C dX4_copyFrom_19 (by decide) rfl ?_
    refine g_icmp_ge (n := 24) (tgt := 102) C dX4_copyFrom_21 (by decide) rfl (fun c => ?_) (fun c => ?_)
    · replace h := h.1 c
      exact g_vret C hr hQ dX4_copyFrom_102 h
    · replace h := h.2 c
      refine g_aload_n (n := 25) (i := 0) C dX4_copyFrom_24 rfl 0 rfl rfl ?_
      refine gf_X4_9 (n := 28) (a + 1) C E (Hp.o hZ ha) rfl dX4_copyFrom_25 rfl ?_
      refine g_iload_n (n := 29) (i := 2) C dX4_copyFrom_28 rfl 2 rfl rfl ?_
      refine g_aload_n (n := 30) (i := 1) C dX4_copyFrom_29 rfl 1 rfl rfl ?_
      refine gf_X4_9 (n := 33) (p1 + 1) C E (Hp.o hZ hp1) rfl dX4_copyFrom_30 rfl ?_
      refine g_iload_n (n := 34) (i := 2) C dX4_copyFrom_33 rfl 2 rfl rfl ?_
      refine g_iald (n := 35) C E (Hp.f1 hZ hp1) h.1 dX4_copyFrom_34 rfl ?_
      replace h := h.2
      refine g_iast (n := 36) C E (Hp.f1 hZ ha) h.1 dX4_copyFrom_35 rfl (fun M4 eM4 => ?_)
      replace h := h.2 M4 eM4
      refine g_aload_n (n := 37) (i := 0) C dX4_copyFrom_36 rfl 0 rfl rfl ?_
      refine gf_X4_15 (n := 40) (a + 2) C E (Hp.o hZ ha) rfl dX4_copyFrom_37 rfl ?_
      refine g_iload_n (n := 41) (i := 2) C dX4_copyFrom_40 rfl 2 rfl rfl ?_
      refine g_aload_n (n := 42) (i := 1) C dX4_copyFrom_41 rfl 1 rfl rfl ?_
      refine gf_X4_15 (n := 45) (p1 + 2) C E (Hp.o hZ hp1) rfl dX4_copyFrom_42 rfl ?_
      refine g_iload_n (n := 46) (i := 2) C dX4_copyFrom_45 rfl 2 rfl rfl ?_
      refine g_iald (n := 47) C E (Hp.f2 hZ hp1) h.1 dX4_copyFrom_46 rfl ?_
      replace h := h.2
      refine g_iast (n := 48) C E (Hp.f2 hZ ha) h.1 dX4_copyFrom_47 rfl (fun M5 eM5 => ?_)
      replace h := h.2 M5 eM5
      refine g_aload_n (n := 49) (i := 0) C dX4_copyFrom_48 rfl 0 rfl rfl ?_
      refine gf_X4_18 (n := 52) (a + 3) C E (Hp.o hZ ha) rfl dX4_copyFrom_49 rfl ?_
      refine g_iload_n (n := 53) (i := 2) C dX4_copyFrom_52 rfl 2 rfl rfl ?_
      refine g_aload_n (n := 54) (i := 1) C dX4_copyFrom_53 rfl 1 rfl rfl ?_
      refine gf_X4_18 (n := 57) (p1 + 3) C E (Hp.o hZ hp1) rfl dX4_copyFrom_54 rfl ?_
      refine g_iload_n (n := 58) (i := 2) C dX4_copyFrom_57 rfl 2 rfl rfl ?_
      refine g_iald (n := 59) C E (Hp.f3 hZ hp1) h.1 dX4_copyFrom_58 rfl ?_
      replace h := h.2
      refine g_iast (n := 60) C E (Hp.f3 hZ ha) h.1 dX4_copyFrom_59 rfl (fun M6 eM6 => ?_)
      replace h := h.2 M6 eM6
      refine g_aload_n (n := 61) (i := 0) C dX4_copyFrom_60 rfl 0 rfl rfl ?_
      refine gf_X4_21 (n := 64) (a + 4) C E (Hp.o hZ ha) rfl dX4_copyFrom_61 rfl ?_
      refine g_iload_n (n := 65) (i := 2) C dX4_copyFrom_64 rfl 2 rfl rfl ?_
      refine g_aload_n (n := 66) (i := 1) C dX4_copyFrom_65 rfl 1 rfl rfl ?_
      refine gf_X4_21 (n := 69) (p1 + 4) C E (Hp.o hZ hp1) rfl dX4_copyFrom_66 rfl ?_
      refine g_iload_n (n := 70) (i := 2) C dX4_copyFrom_69 rfl 2 rfl rfl ?_
      refine g_iald (n := 71) C E (Hp.f4 hZ hp1) h.1 dX4_copyFrom_70 rfl ?_
      replace h := h.2
      refine g_iast (n := 72) C E (Hp.f4 hZ ha) h.1 dX4_copyFrom_71 rfl (fun M7 eM7 => ?_)
      replace h := h.2 M7 eM7
      refine g_aload_n (n := 73) (i := 0) C dX4_copyFrom_72 rfl 0 rfl rfl ?_
      refine gf_X4_24 (n := 76) (a + 5) C E (Hp.o hZ ha) rfl dX4_copyFrom_73 rfl ?_
      refine g_iload_n (n := 77) (i := 2) C dX4_copyFrom_76 rfl 2 rfl rfl ?_
      refine g_aload_n (n := 78) (i := 1) C dX4_copyFrom_77 rfl 1 rfl rfl ?_
      refine gf_X4_24 (n := 81) (p1 + 5) C E (Hp.o hZ hp1) rfl dX4_copyFrom_78 rfl ?_
      refine g_iload_n (n := 82) (i := 2) C dX4_copyFrom_81 rfl 2 rfl rfl ?_
      refine g_iald (n := 83) C E (Hp.f5 hZ hp1) h.1 dX4_copyFrom_82 rfl ?_
      replace h := h.2
      refine g_iast (n := 84) C E (Hp.f5 hZ ha) h.1 dX4_copyFrom_83 rfl (fun M8 eM8 => ?_)
      replace h := h.2 M8 eM8
      refine g_aload_n (n := 85) (i := 0) C dX4_copyFrom_84 rfl 0 rfl rfl ?_
      refine gf_X4_27 (n := 88) (a + 6) C E (Hp.o hZ ha) rfl dX4_copyFrom_85 rfl ?_
      refine g_iload_n (n := 89) (i := 2) C dX4_copyFrom_88 rfl 2 rfl rfl ?_
      refine g_aload_n (n := 90) (i := 1) C dX4_copyFrom_89 rfl 1 rfl rfl ?_
      refine gf_X4_27 (n := 93) (p1 + 6) C E (Hp.o hZ hp1) rfl dX4_copyFrom_90 rfl ?_
      refine g_iload_n (n := 94) (i := 2) C dX4_copyFrom_93 rfl 2 rfl rfl ?_
      refine g_iald (n := 95) C E (Hp.f6 hZ hp1) h.1 dX4_copyFrom_94 rfl ?_
      replace h := h.2
      refine g_iast (n := 96) C E (Hp.f6 hZ ha) h.1 dX4_copyFrom_95 rfl (fun M9 eM9 => ?_)
      replace h := h.2 M9 eM9
      refine g_iinc (n := 99) (v := (1 : Int32)) C dX4_copyFrom_96 2 rfl (by decide) (Nat.le_of_ble_eq_true rfl) rfl rfl (fun z10 ez10 => ?_)
      replace h := h z10 ez10
      refine g_goto (tgt := 18) C dX4_copyFrom_99 (by decide) ?_
      exact g_sub [1, 2, 0] rfl h
  replace h := h (fun (M : Mem) (x18_2 : Int32) => GS Z X 18 [(0, .ref (zb Z + a)), (1, .ref (zb Z + p1)), (2, .int x18_2)] [] M) s18
  unfold B_Plan_copyFrom_i at h
  show GS Z X 0 [(0, .ref (zb Z + a)), (1, .ref (zb Z + p1))] [] M
  refine g_aload_n (n := 1) (i := 0) C dX4_copyFrom_0 rfl 0 rfl rfl ?_
  refine g_aload_n (n := 2) (i := 1) C dX4_copyFrom_1 rfl 1 rfl rfl ?_
  refine gf_X4_30 (n := 5) C E (Hp.o hZ hp1) dX4_copyFrom_2 rfl ?_
  refine gp_X4_30 (n := 8) C E (Hp.o hZ ha) dX4_copyFrom_5 rfl (fun M1 eM1 => ?_)
  replace h := h M1 eM1
  refine g_aload_n (n := 9) (i := 0) C dX4_copyFrom_8 rfl 0 rfl rfl ?_
  refine g_aload_n (n := 10) (i := 1) C dX4_copyFrom_9 rfl 1 rfl rfl ?_
  refine gf_X4_34 (n := 13) C E (Hp.o hZ hp1) dX4_copyFrom_10 rfl ?_
  refine gp_X4_34 (n := 16) C E (Hp.o hZ ha) dX4_copyFrom_13 rfl (fun M2 eM2 => ?_)
  replace h := h M2 eM2
  refine g_iconst (n := 17) (0 : Int32) C dX4_copyFrom_16 (by decide) rfl ?_
  refine g_istore_n (n := 18) (i := 2) C dX4_copyFrom_17 rfl (Nat.le_of_ble_eq_true rfl) rfl rfl (fun z3 ez3 => ?_)
  replace h := h z3 ez3
  exact g_sub [1, 2, 0] rfl h
