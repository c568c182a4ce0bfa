def B_Outlook_lineUp_i (a : Nat) (p1 : Nat) (post : Mem → Prop) (R7 : Mem → Int32 → Prop) (R32 : Mem → Int32 → Int32 → Prop) (R78 : Mem → Int32 → Int32 → Prop) (M : Mem)  : Prop :=
  ∀ M1 : Mem, M1 = mset M a 6 (0 : Int32) → ∀ z2 : Int32, z2 = (0 : Int32) → (R7 M1 z2)
def B_Outlook_lineUp_7 (a : Nat) (p1 : Nat) (post : Mem → Prop) (R7 : Mem → Int32 → Prop) (R32 : Mem → Int32 → Int32 → Prop) (R78 : Mem → Int32 → Int32 → Prop) (M : Mem) (x7_2 : Int32) : Prop :=
  ((((M 4 6) ≤ x7_2) → post M) ∧ ((¬ (M 4 6) ≤ x7_2) → vp_in x7_2 7 ∧ ((((¬ (M (p1 + 1) (x7_2).toNatClampNeg) = 0) → ∀ z3 : Int32, z3 = x7_2 + (1 : Int32) → (R7 M z3)) ∧ (((M (p1 + 1) (x7_2).toNatClampNeg) = 0) → ∀ z4 : Int32, z4 = (M a 6) → (R32 M x7_2 z4))))))
def B_Outlook_lineUp_32 (a : Nat) (p1 : Nat) (post : Mem → Prop) (R7 : Mem → Int32 → Prop) (R32 : Mem → Int32 → Int32 → Prop) (R78 : Mem → Int32 → Int32 → Prop) (M : Mem) (x32_2 : Int32) (x32_3 : Int32) : Prop :=
  (((x32_3 ≤ 0) → (R78 M x32_2 x32_3)) ∧ ((¬ x32_3 ≤ 0) → vp_in (x32_3 - (1 : Int32)) 7 ∧ (vp_in (M (a + 1) ((x32_3 - (1 : Int32))).toNatClampNeg) 7 ∧ (vp_in x32_2 7 ∧ (((((M (p1 + 2) ((M (a + 1) ((x32_3 - (1 : Int32))).toNatClampNeg)).toNatClampNeg) ≤ (M (p1 + 2) (x32_2).toNatClampNeg)) → (R78 M x32_2 x32_3)) ∧ ((¬ (M (p1 + 2) ((M (a + 1) ((x32_3 - (1 : Int32))).toNatClampNeg)).toNatClampNeg) ≤ (M (p1 + 2) (x32_2).toNatClampNeg)) → vp_in (x32_3 - (1 : Int32)) 7 ∧ (vp_in x32_3 7 ∧ (∀ M5 : Mem, M5 = mset M (a + 1) (x32_3).toNatClampNeg (M (a + 1) ((x32_3 - (1 : Int32))).toNatClampNeg) → ∀ z6 : Int32, z6 = x32_3 + (-1 : Int32) → (R32 M5 x32_2 z6))))))))))
def B_Outlook_lineUp_78 (a : Nat) (p1 : Nat) (post : Mem → Prop) (R7 : Mem → Int32 → Prop) (R32 : Mem → Int32 → Int32 → Prop) (R78 : Mem → Int32 → Int32 → Prop) (M : Mem) (x78_2 : Int32) (x78_3 : Int32) : Prop :=
  vp_in x78_3 7 ∧ (∀ M7 : Mem, M7 = mset M (a + 1) (x78_3).toNatClampNeg x78_2 → ∀ M8 : Mem, M8 = mset M7 a 6 ((M7 a 6) + (1 : Int32)) → ∀ z9 : Int32, z9 = x78_2 + (1 : Int32) → (R7 M8 z9))
def P_Outlook_lineUp (M : Mem) (a : Nat) (p1 : Nat) (post : Mem → Prop) : Prop :=
  ∀ (R7 : Mem → Int32 → Prop) (R32 : Mem → Int32 → Int32 → Prop) (R78 : Mem → Int32 → Int32 → Prop), (∀ (M : Mem) (x7_2 : Int32), B_Outlook_lineUp_7 a p1 post R7 R32 R78 M x7_2 → R7 M x7_2) → (∀ (M : Mem) (x32_2 : Int32) (x32_3 : Int32), B_Outlook_lineUp_32 a p1 post R7 R32 R78 M x32_2 x32_3 → R32 M x32_2 x32_3) → (∀ (M : Mem) (x78_2 : Int32) (x78_3 : Int32), B_Outlook_lineUp_78 a p1 post R7 R32 R78 M x78_2 x78_3 → R78 M x78_2 x78_3) → B_Outlook_lineUp_i a p1 post R7 R32 R78 M
set_option maxHeartbeats 4000000 in
set_option maxRecDepth 100000 in
theorem c_Outlook_lineUp {Z : ZT} (hZ : IsX Z) (l : Launch) (a : Nat) (ha : Ho a) (p1 : Nat) (hp1 : Hh p1) (M : Mem) (post : Mem → Prop) (h : P_Outlook_lineUp M a p1 post) : CtV Z l yX3_lineUp cX3_lineUp 4 none 0 0 [.ref (zb Z + a), .ref (zb Z + p1)] M post := by
  refine ctV (own := RX3) rfl (by decide) (Nat.le_of_ble_eq_true rfl) (fun X C E hr hQ => ?_)
  have s7 : ∀ (M : Mem) (x7_2 : Int32), B_Outlook_lineUp_7 a p1 post (fun (M : Mem) (x7_2 : Int32) => GS Z X 7 [(0, .ref (zb Z + a)), (1, .ref (zb Z + p1)), (2, .int x7_2)] [] M) (fun (M : Mem) (x32_2 : Int32) (x32_3 : Int32) => GS Z X 32 [(0, .ref (zb Z + a)), (1, .ref (zb Z + p1)), (2, .int x32_2), (3, .int x32_3)] [] M) (fun (M : Mem) (x78_2 : Int32) (x78_3 : Int32) => GS Z X 78 [(0, .ref (zb Z + a)), (1, .ref (zb Z + p1)), (2, .int x78_2), (3, .int x78_3)] [] M) M x7_2 → GS Z X 7 [(0, .ref (zb Z + a)), (1, .ref (zb Z + p1)), (2, .int x7_2)] [] M := by
    intro M x7_2 h
    unfold B_Outlook_lineUp_7 at h
    refine g_iload_n (n := 8) (i := 2) C dX3_lineUp_7 rfl 2 rfl rfl ?_
    refine g_aload_n (n := 9) (i := 0) C dX3_lineUp_8 rfl 0 rfl rfl ?_
    refine gf_X3_37 (n := 12) C E (Ho.o hZ ha) dX3_lineUp_9 rfl ?_
    refine gf_X3_48 (n := 15) C E (ox_4 hZ) dX3_lineUp_12 rfl ?_
    refine g_icmp_ge (n := 18) (tgt := 101) C dX3_lineUp_15 (by decide) rfl (fun c => ?_) (fun c => ?_)
    · replace h := h.1 c
      exact g_vret C hr hQ dX3_lineUp_101 h
    · replace h := h.2 c
      refine g_aload_n (n := 19) (i := 1) C dX3_lineUp_18 rfl 1 rfl rfl ?_
      refine gf_X3_53 (n := 22) (p1 + 1) C E (Hh.o hZ hp1) rfl dX3_lineUp_19 rfl ?_
      refine g_iload_n (n := 23) (i := 2) C dX3_lineUp_22 rfl 2 rfl rfl ?_
      refine g_iald (n := 24) C E (Hh.f1 hZ hp1) h.1 dX3_lineUp_23 rfl ?_
      replace h := h.2
      refine g_if_ne (n := 27) (tgt := 95) C dX3_lineUp_24 (by decide) rfl (fun c => ?_) (fun c => ?_)
      · replace h := h.1 c
        refine g_iinc (n := 98) (v := (1 : Int32)) C dX3_lineUp_95 2 rfl (by decide) (Nat.le_of_ble_eq_true rfl) rfl rfl (fun z3 ez3 => ?_)
        replace h := h z3 ez3
        refine g_goto (tgt := 7) C dX3_lineUp_98 (by decide) ?_
        exact g_sub [1, 2, 0] rfl h
      · replace h := h.2 c
        refine g_aload_n (n := 28) (i := 0) C dX3_lineUp_27 rfl 0 rfl rfl ?_
        refine gf_X3_27 (n := 31) C E (Ho.o hZ ha) dX3_lineUp_28 rfl ?_
        refine g_istore_n (n := 32) (i := 3) C dX3_lineUp_31 rfl (Nat.le_of_ble_eq_true rfl) rfl rfl (fun z4 ez4 => ?_)
        replace h := h z4 ez4
        exact g_sub [1, 2, 3, 0] rfl h
  have s32 : ∀ (M : Mem) (x32_2 : Int32) (x32_3 : Int32), B_Outlook_lineUp_32 a p1 post (fun (M : Mem) (x7_2 : Int32) => GS Z X 7 [(0, .ref (zb Z + a)), (1, .ref (zb Z + p1)), (2, .int x7_2)] [] M) (fun (M : Mem) (x32_2 : Int32) (x32_3 : Int32) => GS Z X 32 [(0, .ref (zb Z + a)), (1, .ref (zb Z + p1)), (2, .int x32_2), (3, .int x32_3)] [] M) (fun (M : Mem) (x78_2 : Int32) (x78_3 : Int32) => GS Z X 78 [(0, .ref (zb Z + a)), (1, .ref (zb Z + p1)), (2, .int x78_2), (3, .int x78_3)] [] M) M x32_2 x32_3 → GS Z X 32 [(0, .ref (zb Z + a)), (1, .ref (zb Z + p1)), (2, .int x32_2), (3, .int x32_3)] [] M := by
    intro M x32_2 x32_3 h
    unfold B_Outlook_lineUp_32 at h
    refine g_iload_n (n := 33) (i := 3) C dX3_lineUp_32 rfl 3 rfl rfl ?_
    refine g_if_le (n := 36) (tgt := 78) C dX3_lineUp_33 (by decide) rfl (fun c => ?_) (fun c => ?_)
    · replace h := h.1 c
      exact g_sub [0, 1, 2, 3] rfl h
    · replace h := h.2 c
      refine g_aload_n (n := 37) (i := 1) C dX3_lineUp_36 rfl 1 rfl rfl ?_
      refine gf_X3_58 (n := 40) (p1 + 2) C E (Hh.o hZ hp1) rfl dX3_lineUp_37 rfl ?_
      refine g_aload_n (n := 41) (i := 0) C dX3_lineUp_40 rfl 0 rfl rfl ?_
      refine gf_X3_9 (n := 44) (a + 1) C E (Ho.o hZ ha) rfl dX3_lineUp_41 rfl ?_
      refine g_iload_n (n := 45) (i := 3) C dX3_lineUp_44 rfl 3 rfl rfl ?_
      refine g_iconst (n := 46) (1 : Int32) C dX3_lineUp_45 (by decide) rfl ?_
      refine g_isub (n := 47) C dX3_lineUp_46 rfl ?_
      refine g_iald (n := 48) C E (Ho.f1 hZ ha) h.1 dX3_lineUp_47 rfl ?_
      replace h := h.2
      refine g_iald (n := 49) C E (Hh.f2 hZ hp1) h.1 dX3_lineUp_48 rfl ?_
      replace h := h.2
      refine g_aload_n (n := 50) (i := 1) C dX3_lineUp_49 rfl 1 rfl rfl ?_
      refine gf_X3_58 (n := 53) (p1 + 2) C E (Hh.o hZ hp1) rfl dX3_lineUp_50 rfl ?_
      refine g_iload_n (n := 54) (i := 2) C dX3_lineUp_53 rfl 2 rfl rfl ?_
      refine g_iald (n := 55) C E (Hh.f2 hZ hp1) h.1 dX3_lineUp_54 rfl ?_
      replace h := h.2
      refine g_icmp_le (n := 58) (tgt := 78) C dX3_lineUp_55 (by decide) rfl (fun c => ?_) (fun c => ?_)
      · replace h := h.1 c
        exact g_sub [0, 1, 2, 3] rfl h
      · replace h := h.2 c
        refine g_aload_n (n := 59) (i := 0) C dX3_lineUp_58 rfl 0 rfl rfl ?_
        refine gf_X3_9 (n := 62) (a + 1) C E (Ho.o hZ ha) rfl dX3_lineUp_59 rfl ?_
        refine g_iload_n (n := 63) (i := 3) C dX3_lineUp_62 rfl 3 rfl rfl ?_
        refine g_aload_n (n := 64) (i := 0) C dX3_lineUp_63 rfl 0 rfl rfl ?_
        refine gf_X3_9 (n := 67) (a + 1) C E (Ho.o hZ ha) rfl dX3_lineUp_64 rfl ?_
        refine g_iload_n (n := 68) (i := 3) C dX3_lineUp_67 rfl 3 rfl rfl ?_
        refine g_iconst (n := 69) (1 : Int32) C dX3_lineUp_68 (by decide) rfl ?_
        refine g_isub (n := 70) C dX3_lineUp_69 rfl ?_
        refine g_iald (n := 71) C E (Ho.f1 hZ ha) h.1 dX3_lineUp_70 rfl ?_
        replace h := h.2
        refine g_iast (n := 72) C E (Ho.f1 hZ ha) h.1 dX3_lineUp_71 rfl (fun M5 eM5 => ?_)
        replace h := h.2 M5 eM5
        refine g_iinc (n := 75) (v := (-1 : Int32)) C dX3_lineUp_72 3 rfl (by decide) (Nat.le_of_ble_eq_true rfl) rfl rfl (fun z6 ez6 => ?_)
        replace h := h z6 ez6
        refine g_goto (tgt := 32) C dX3_lineUp_75 (by decide) ?_
        exact g_sub [1, 2, 3, 0] rfl h
  have s78 : ∀ (M : Mem) (x78_2 : Int32) (x78_3 : Int32), B_Outlook_lineUp_78 a p1 post (fun (M : Mem) (x7_2 : Int32) => GS Z X 7 [(0, .ref (zb Z + a)), (1, .ref (zb Z + p1)), (2, .int x7_2)] [] M) (fun (M : Mem) (x32_2 : Int32) (x32_3 : Int32) => GS Z X 32 [(0, .ref (zb Z + a)), (1, .ref (zb Z + p1)), (2, .int x32_2), (3, .int x32_3)] [] M) (fun (M : Mem) (x78_2 : Int32) (x78_3 : Int32) => GS Z X 78 [(0, .ref (zb Z + a)), (1, .ref (zb Z + p1)), (2, .int x78_2), (3, .int x78_3)] [] M) M x78_2 x78_3 → GS Z X 78 [(0, .ref (zb Z + a)), (1, .ref (zb Z + p1)), (2, .int x78_2), (3, .int x78_3)] [] M := by
    intro M x78_2 x78_3 h
    unfold B_Outlook_lineUp_78 at h
    refine g_aload_n (n := 79) (i := 0) C dX3_lineUp_78 rfl 0 rfl rfl ?_
    refine gf_X3_9 (n := 82) (a + 1) C E (Ho.o hZ ha) rfl dX3_lineUp_79 rfl ?_
    refine g_iload_n (n := 83) (i := 3) C dX3_lineUp_82 rfl 3 rfl rfl ?_
    refine g_iload_n (n := 84) (i := 2) C dX3_lineUp_83 rfl 2 rfl rfl ?_
    refine g_iast (n := 85) C E (Ho.f1 hZ ha) h.1 dX3_lineUp_84 rfl (fun M7 eM7 => ?_)
    replace h := h.2 M7 eM7
    refine g_aload_n (n := 86) (i := 0) C dX3_lineUp_85 rfl 0 rfl rfl ?_
    refine g_dup (n := 87) C dX3_lineUp_86 rfl rfl ?_
    refine gf_X3_27 (n := 90) C E (Ho.o hZ ha) dX3_lineUp_87 rfl ?_
    refine g_iconst (n := 91) (1 : Int32) C dX3_lineUp_90 (by decide) rfl ?_
    refine g_iadd (n := 92) C dX3_lineUp_91 rfl ?_
    refine gp_X3_27 (n := 95) C E (Ho.o hZ ha) dX3_lineUp_92 rfl (fun M8 eM8 => ?_)
    replace h := h M8 eM8
    refine g_iinc (n := 98) (v := (1 : Int32)) C dX3_lineUp_95 2 rfl (by decide) (Nat.le_of_ble_eq_true rfl) rfl rfl (fun z9 ez9 => ?_)
    replace h := h z9 ez9
    refine g_goto (tgt := 7) C dX3_lineUp_98 (by decide) ?_
    exact g_sub [1, 2, 0] rfl h
  replace h := h (fun (M : Mem) (x7_2 : Int32) => GS Z X 7 [(0, .ref (zb Z + a)), (1, .ref (zb Z + p1)), (2, .int x7_2)] [] M) (fun (M : Mem) (x32_2 : Int32) (x32_3 : Int32) => GS Z X 32 [(0, .ref (zb Z + a)), (1, .ref (zb Z + p1)), (2, .int x32_2), (3, .int x32_3)] [] M) (fun (M : Mem) (x78_2 : Int32) (x78_3 : Int32) => GS Z X 78 [(0, .ref (zb Z + a)), (1, .ref (zb Z + p1)), (2, .int x78_2), (3, .int x78_3)] [] M) s7 s32 s78
  unfold B_Outlook_lineUp_i at h
  show GS Z X 0 [(0, .ref (zb Z + a)), (1, .ref (zb Z + p1))] [] M
  refine g_aload_n (n := 1) (i := 0) C dX3_lineUp_0 rfl 0 rfl rfl ?_
  refine g_iconst (n := 2) (0 : Int32) C dX3_lineUp_1 (by decide) rfl ?_
  refine gp_X3_27 (n := 5) C E (Ho.o hZ ha) dX3_lineUp_2 rfl (fun M1 eM1 => ?_)
  replace h := h M1 eM1
  refine g_iconst (n := 6) (0 : Int32) C dX3_lineUp_5 (by decide) rfl ?_
  refine g_istore_n (n := 7) (i := 2) C dX3_lineUp_6 rfl (Nat.le_of_ble_eq_true rfl) rfl rfl (fun z2 ez2 => ?_)
  replace h := h z2 ez2
  exact g_sub [1, 2, 0] rfl h
def B_Outlook_leaves_i (a : Nat) (p1 : Int32) (p2 : Int32) (post : Mem → Prop)  (M : Mem)  : Prop :=
  vp_in p1 7 ∧ (∀ z1 : Int32, z1 = (M 9 (p1).toNatClampNeg) → (((z1 ≤ 0) → post M) ∧ ((¬ z1 ≤ 0) → vp_in p1 7 ∧ ((¬ z1 = 0) ∧ (vp_in p1 7 ∧ (∀ M2 : Mem, M2 = mset M (a + 4) (p1).toNatClampNeg (p2 + (imax (1 : Int32) ((((M (a + 2) (p1).toNatClampNeg) + z1) - (1 : Int32)) / z1))) → vp_in p1 7 ∧ (∀ M3 : Mem, M3 = mset M2 a 8 (imax (M2 a 8) (M2 (a + 4) (p1).toNatClampNeg)) → post M3)))))))
def P_Outlook_leaves (M : Mem) (a : Nat) (p1 : Int32) (p2 : Int32) (post : Mem → Prop) : Prop := B_Outlook_leaves_i a p1 p2 post M
set_option maxHeartbeats 4000000 in
set_option maxRecDepth 100000 in
theorem c_Outlook_leaves {Z : ZT} (hZ : IsX Z) (l : Launch) (a : Nat) (ha : Ho a) (p1 : Int32) (p2 : Int32) (M : Mem) (post : Mem → Prop) (h : P_Outlook_leaves M a p1 p2 post) : CtV Z l yX3_leaves cX3_leaves 4 none 1 21 [.ref (zb Z + a), .int p1, .int p2] M post := by
  refine ctV (own := RX3) rfl (by decide) (Nat.le_of_ble_eq_true rfl) (fun X C E hr hQ => ?_)
  unfold P_Outlook_leaves at h
  unfold B_Outlook_leaves_i at h
  show GS Z X 0 [(0, .ref (zb Z + a)), (1, .int p1), (2, .int p2)] [] M
  refine g_aload_n (n := 1) (i := 0) C dX3_leaves_0 rfl 0 rfl rfl ?_
  refine gf_X3_37 (n := 4) C E (Ho.o hZ ha) dX3_leaves_1 rfl ?_
  refine gf_X3_92 (n := 7) 9 C E (ox_4 hZ) rfl dX3_leaves_4 rfl ?_
  refine g_iload_n (n := 8) (i := 1) C dX3_leaves_7 rfl 1 rfl rfl ?_
  refine g_iald (n := 9) C E (ox_9 hZ) h.1 dX3_leaves_8 rfl ?_
  replace h := h.2
  refine g_istore_n (n := 10) (i := 3) C dX3_leaves_9 rfl (Nat.le_of_ble_eq_true rfl) rfl rfl (fun z1 ez1 => ?_)
  replace h := h z1 ez1
  refine g_iload_n (n := 11) (i := 3) C dX3_leaves_10 rfl 0 rfl rfl ?_
  refine g_if_le (n := 14) (tgt := 55) C dX3_leaves_11 (by decide) rfl (fun c => ?_) (fun c => ?_)
  · replace h := h.1 c
    exact g_vret C hr hQ dX3_leaves_55 h
  · replace h := h.2 c
    refine g_aload_n (n := 15) (i := 0) C dX3_leaves_14 rfl 1 rfl rfl ?_
    refine gf_X3_21 (n := 18) (a + 4) C E (Ho.o hZ ha) rfl dX3_leaves_15 rfl ?_
    refine g_iload_n (n := 19) (i := 1) C dX3_leaves_18 rfl 2 rfl rfl ?_
    refine g_iload_n (n := 20) (i := 2) C dX3_leaves_19 rfl 3 rfl rfl ?_
    refine g_iconst (n := 21) (1 : Int32) C dX3_leaves_20 (by decide) rfl ?_
    refine g_aload_n (n := 22) (i := 0) C dX3_leaves_21 rfl 1 rfl rfl ?_
    refine gf_X3_15 (n := 25) (a + 2) C E (Ho.o hZ ha) rfl dX3_leaves_22 rfl ?_
    refine g_iload_n (n := 26) (i := 1) C dX3_leaves_25 rfl 2 rfl rfl ?_
    refine g_iald (n := 27) C E (Ho.f2 hZ ha) h.1 dX3_leaves_26 rfl ?_
    replace h := h.2
    refine g_iload_n (n := 28) (i := 3) C dX3_leaves_27 rfl 0 rfl rfl ?_
    refine g_iadd (n := 29) C dX3_leaves_28 rfl ?_
    refine g_iconst (n := 30) (1 : Int32) C dX3_leaves_29 (by decide) rfl ?_
    refine g_isub (n := 31) C dX3_leaves_30 rfl ?_
    refine g_iload_n (n := 32) (i := 3) C dX3_leaves_31 rfl 0 rfl rfl ?_
    refine g_idiv (n := 33) C dX3_leaves_32 h.1 rfl ?_
    replace h := h.2
    refine g_mmax (n := 36) C wd_616 wq_193 wq_7 wq_194 (by decide) (Nat.le_of_ble_eq_true rfl) dX3_leaves_33 rfl ?_
    refine g_iadd (n := 37) C dX3_leaves_36 rfl ?_
    refine g_iast (n := 38) C E (Ho.f4 hZ ha) h.1 dX3_leaves_37 rfl (fun M2 eM2 => ?_)
    replace h := h.2 M2 eM2
    refine g_aload_n (n := 39) (i := 0) C dX3_leaves_38 rfl 1 rfl rfl ?_
    refine g_aload_n (n := 40) (i := 0) C dX3_leaves_39 rfl 1 rfl rfl ?_
    refine gf_X3_34 (n := 43) C E (Ho.o hZ ha) dX3_leaves_40 rfl ?_
    refine g_aload_n (n := 44) (i := 0) C dX3_leaves_43 rfl 1 rfl rfl ?_
    refine gf_X3_21 (n := 47) (a + 4) C E (Ho.o hZ ha) rfl dX3_leaves_44 rfl ?_
    refine g_iload_n (n := 48) (i := 1) C dX3_leaves_47 rfl 2 rfl rfl ?_
    refine g_iald (n := 49) C E (Ho.f4 hZ ha) h.1 dX3_leaves_48 rfl ?_
    replace h := h.2
    refine g_mmax (n := 52) C wd_616 wq_193 wq_7 wq_194 (by decide) (Nat.le_of_ble_eq_true rfl) dX3_leaves_49 rfl ?_
    refine gp_X3_34 (n := 55) C E (Ho.o hZ ha) dX3_leaves_52 rfl (fun M3 eM3 => ?_)
    replace h := h M3 eM3
    exact g_vret C hr hQ dX3_leaves_55 h
def B_Outlook_begin_i (a : Nat) (p1 : Nat) (post : Mem → Prop) (R15 : Mem → Int32 → Prop) (M : Mem)  : Prop :=
  ∀ M1 : Mem, M1 = mset M a 7 (M p1 8) → ∀ M2 : Mem, M2 = mset M1 a 8 (0 : Int32) → ∀ z3 : Int32, z3 = (0 : Int32) → (R15 M2 z3)
def B_Outlook_begin_15 (a : Nat) (p1 : Nat) (post : Mem → Prop) (R15 : Mem → Int32 → Prop) (M : Mem) (x15_2 : Int32) : Prop :=
  ((((M 4 6) ≤ x15_2) → post M) ∧ ((¬ (M 4 6) ≤ x15_2) → vp_in x15_2 7 ∧ (∀ M4 : Mem, M4 = mset M (a + 5) (x15_2).toNatClampNeg (0 : Int32) → vp_in x15_2 7 ∧ (vp_in x15_2 7 ∧ (∀ M5 : Mem, M5 = mset M4 (a + 2) (x15_2).toNatClampNeg (M4 (p1 + 4) (x15_2).toNatClampNeg) → vp_in x15_2 7 ∧ (∀ M6 : Mem, M6 = mset M5 (a + 3) (x15_2).toNatClampNeg (M5 p1 9) → vp_in x15_2 7 ∧ (∀ M7 : Mem, M7 = mset M6 (a + 4) (x15_2).toNatClampNeg (1000000 : Int32) → vp_in x15_2 7 ∧ ((((¬ (M7 (p1 + 1) (x15_2).toNatClampNeg) = (2 : Int32)) → vp_in x15_2 7 ∧ ((((¬ (M7 (p1 + 1) (x15_2).toNatClampNeg) = (1 : Int32)) → ∀ z8 : Int32, z8 = x15_2 + (1 : Int32) → (R15 M7 z8)) ∧ (((M7 (p1 + 1) (x15_2).toNatClampNeg) = (1 : Int32)) → (((x15_2 = (M7 a 7)) → ∀ z9 : Int32, z9 = x15_2 + (1 : Int32) → (R15 M7 z9)) ∧ ((¬ x15_2 = (M7 a 7)) → P_Outlook_leaves M7 a x15_2 (0 : Int32) (fun (M10 : Mem) => ∀ z11 : Int32, z11 = x15_2 + (1 : Int32) → (R15 M10 z11)))))))) ∧ (((M7 (p1 + 1) (x15_2).toNatClampNeg) = (2 : Int32)) → vp_in x15_2 7 ∧ (∀ M12 : Mem, M12 = mset M7 (a + 4) (x15_2).toNatClampNeg (0 : Int32) → ∀ z13 : Int32, z13 = x15_2 + (1 : Int32) → (R15 M12 z13))))))))))))
def P_Outlook_begin (M : Mem) (a : Nat) (p1 : Nat) (post : Mem → Prop) : Prop :=
  ∀ (R15 : Mem → Int32 → Prop), (∀ (M : Mem) (x15_2 : Int32), B_Outlook_begin_15 a p1 post R15 M x15_2 → R15 M x15_2) → B_Outlook_begin_i a p1 post R15 M
set_option maxHeartbeats 4000000 in
set_option maxRecDepth 100000 in
theorem c_Outlook_begin {Z : ZT} (hZ : IsX Z) (l : Launch) (a : Nat) (ha : Ho a) (p1 : Nat) (hp1 : Hh p1) (M : Mem) (post : Mem → Prop) (h : P_Outlook_begin M a p1 post) : CtV Z l yX3_begin cX3_begin 3 none 2 44 [.ref (zb Z + a), .ref (zb Z + p1)] M post := by
  refine ctV (own := RX3) rfl (by decide) (Nat.le_of_ble_eq_true rfl) (fun X C E hr hQ => ?_)
  have s15 : ∀ (M : Mem) (x15_2 : Int32), B_Outlook_begin_15 a p1 post (fun (M : Mem) (x15_2 : Int32) => GS Z X 15 [(0, .ref (zb Z + a)), (1, .ref (zb Z + p1)), (2, .int x15_2)] [] M) M x15_2 → GS Z X 15 [(0, .ref (zb Z + a)), (1, .ref (zb Z + p1)), (2, .int x15_2)] [] M := by
    intro M x15_2 h
    unfold B_Outlook_begin_15 at h
    refine g_iload_n (n := 16) (i := 2) C dX3_begin_15 rfl 2 rfl rfl ?_
    refine g_aload_n (n := 17) (i := 0) C dX3_begin_16 rfl 0 rfl rfl ?_
    refine gf_X3_37 (n := 20) C E (Ho.o hZ ha) dX3_begin_17 rfl ?_
    refine gf_X3_48 (n := 23) C E (ox_4 hZ) dX3_begin_20 rfl ?_
    refine g_icmp_ge (n := 26) (tgt := 113) C dX3_begin_23 (by decide) rfl (fun c => ?_) (fun c => ?_)
    · replace h := h.1 c
      exact g_vret C hr hQ dX3_begin_113 h
    · replace h := h.2 c
      refine g_aload_n (n := 27) (i := 0) C dX3_begin_26 rfl 0 rfl rfl ?_
      refine gf_X3_24 (n := 30) (a + 5) C E (Ho.o hZ ha) rfl dX3_begin_27 rfl ?_
      refine g_iload_n (n := 31) (i := 2) C dX3_begin_30 rfl 2 rfl rfl ?_
      refine g_iconst (n := 32) (0 : Int32) C dX3_begin_31 (by decide) rfl ?_
      refine g_iast (n := 33) C E (Ho.f5 hZ ha) h.1 dX3_begin_32 rfl (fun M4 eM4 => ?_)
      replace h := h.2 M4 eM4
      refine g_aload_n (n := 34) (i := 0) C dX3_begin_33 rfl 0 rfl rfl ?_
      refine gf_X3_15 (n := 37) (a + 2) C E (Ho.o hZ ha) rfl dX3_begin_34 rfl ?_
      refine g_iload_n (n := 38) (i := 2) C dX3_begin_37 rfl 2 rfl rfl ?_
      refine g_aload_n (n := 39) (i := 1) C dX3_begin_38 rfl 1 rfl rfl ?_
      refine gf_X3_73 (n := 42) (p1 + 4) C E (Hh.o hZ hp1) rfl dX3_begin_39 rfl ?_
      refine g_iload_n (n := 43) (i := 2) C dX3_begin_42 rfl 2 rfl rfl ?_
      refine g_iald (n := 44) C E (Hh.f4 hZ hp1) h.1 dX3_begin_43 rfl ?_
      replace h := h.2
      refine g_iast (n := 45) C E (Ho.f2 hZ ha) h.1 dX3_begin_44 rfl (fun M5 eM5 => ?_)
      replace h := h.2 M5 eM5
      refine g_aload_n (n := 46) (i := 0) C dX3_begin_45 rfl 0 rfl rfl ?_
      refine gf_X3_18 (n := 49) (a + 3) C E (Ho.o hZ ha) rfl dX3_begin_46 rfl ?_
      refine g_iload_n (n := 50) (i := 2) C dX3_begin_49 rfl 2 rfl rfl ?_
      refine g_aload_n (n := 51) (i := 1) C dX3_begin_50 rfl 1 rfl rfl ?_
      refine gf_X3_74 (n := 54) C E (Hh.o hZ hp1) dX3_begin_51 rfl ?_
      refine g_iast (n := 55) C E (Ho.f3 hZ ha) h.1 dX3_begin_54 rfl (fun M6 eM6 => ?_)
      replace h := h.2 M6 eM6
      refine g_aload_n (n := 56) (i := 0) C dX3_begin_55 rfl 0 rfl rfl ?_
      refine gf_X3_21 (n := 59) (a + 4) C E (Ho.o hZ ha) rfl dX3_begin_56 rfl ?_
      refine g_iload_n (n := 60) (i := 2) C dX3_begin_59 rfl 2 rfl rfl ?_
      refine g_ldc (n := 62) (1000000 : Int32) C wd_611 dX3_begin_60 rfl ?_
      refine g_iast (n := 63) C E (Ho.f4 hZ ha) h.1 dX3_begin_62 rfl (fun M7 eM7 => ?_)
      replace h := h.2 M7 eM7
      refine g_aload_n (n := 64) (i := 1) C dX3_begin_63 rfl 1 rfl rfl ?_
      refine gf_X3_53 (n := 67) (p1 + 1) C E (Hh.o hZ hp1) rfl dX3_begin_64 rfl ?_
      refine g_iload_n (n := 68) (i := 2) C dX3_begin_67 rfl 2 rfl rfl ?_
      refine g_iald (n := 69) C E (Hh.f1 hZ hp1) h.1 dX3_begin_68 rfl ?_
      replace h := h.2
      refine g_iconst (n := 70) (2 : Int32) C dX3_begin_69 (by decide) rfl ?_
      refine g_icmp_ne (n := 73) (tgt := 83) C dX3_begin_70 (by decide) rfl (fun c => ?_) (fun c => ?_)
      · replace h := h.1 c
        refine g_aload_n (n := 84) (i := 1) C dX3_begin_83 rfl 1 rfl rfl ?_
        refine gf_X3_53 (n := 87) (p1 + 1) C E (Hh.o hZ hp1) rfl dX3_begin_84 rfl ?_
        refine g_iload_n (n := 88) (i := 2) C dX3_begin_87 rfl 2 rfl rfl ?_
        refine g_iald (n := 89) C E (Hh.f1 hZ hp1) h.1 dX3_begin_88 rfl ?_
        replace h := h.2
        refine g_iconst (n := 90) (1 : Int32) C dX3_begin_89 (by decide) rfl ?_
        refine g_icmp_ne (n := 93) (tgt := 107) C dX3_begin_90 (by decide) rfl (fun c => ?_) (fun c => ?_)
        · replace h := h.1 c
          refine g_iinc (n := 110) (v := (1 : Int32)) C dX3_begin_107 2 rfl (by decide) (Nat.le_of_ble_eq_true rfl) rfl rfl (fun z8 ez8 => ?_)
          replace h := h z8 ez8
          refine g_goto (tgt := 15) C dX3_begin_110 (by decide) ?_
          exact g_sub [1, 2, 0] rfl h
        · replace h := h.2 c
          refine g_iload_n (n := 94) (i := 2) C dX3_begin_93 rfl 2 rfl rfl ?_
          refine g_aload_n (n := 95) (i := 0) C dX3_begin_94 rfl 0 rfl rfl ?_
          refine gf_X3_31 (n := 98) C E (Ho.o hZ ha) dX3_begin_95 rfl ?_
          refine g_icmp_eq (n := 101) (tgt := 107) C dX3_begin_98 (by decide) rfl (fun c => ?_) (fun c => ?_)
          · replace h := h.1 c
            refine g_iinc (n := 110) (v := (1 : Int32)) C dX3_begin_107 2 rfl (by decide) (Nat.le_of_ble_eq_true rfl) rfl rfl (fun z9 ez9 => ?_)
            replace h := h z9 ez9
            refine g_goto (tgt := 15) C dX3_begin_110 (by decide) ?_
            exact g_sub [1, 2, 0] rfl h
          · replace h := h.2 c
            refine g_aload_n (n := 102) (i := 0) C dX3_begin_101 rfl 0 rfl rfl ?_
            refine g_iload_n (n := 103) (i := 2) C dX3_begin_102 rfl 2 rfl rfl ?_
            refine g_iconst (n := 104) (0 : Int32) C dX3_begin_103 (by decide) rfl ?_
            refine g_callVv (n := 107) (kd := 3) C E (c_Outlook_leaves hZ _ a ha x15_2 (0 : Int32) M7 _ h) yi_X3_leaves wd_612 rfl (Ho.o hZ ha) (by decide) (Nat.le_of_ble_eq_true rfl) dX3_begin_104 rfl rfl (fun M10 h => ?_)
            refine g_iinc (n := 110) (v := (1 : Int32)) C dX3_begin_107 2 rfl (by decide) (Nat.le_of_ble_eq_true rfl) rfl rfl (fun z11 ez11 => ?_)
            replace h := h z11 ez11
            refine g_goto (tgt := 15) C dX3_begin_110 (by decide) ?_
            exact g_sub [1, 2, 0] rfl h
      · replace h := h.2 c
        refine g_aload_n (n := 74) (i := 0) C dX3_begin_73 rfl 0 rfl rfl ?_
        refine gf_X3_21 (n := 77) (a + 4) C E (Ho.o hZ ha) rfl dX3_begin_74 rfl ?_
        refine g_iload_n (n := 78) (i := 2) C dX3_begin_77 rfl 2 rfl rfl ?_
        refine g_iconst (n := 79) (0 : Int32) C dX3_begin_78 (by decide) rfl ?_
        refine g_iast (n := 80) C E (Ho.f4 hZ ha) h.1 dX3_begin_79 rfl (fun M12 eM12 => ?_)
        replace h := h.2 M12 eM12
        refine g_goto (tgt := 107) C dX3_begin_80 (by decide) ?_
        refine g_iinc (n := 110) (v := (1 : Int32)) C dX3_begin_107 2 rfl (by decide) (Nat.le_of_ble_eq_true rfl) rfl rfl (fun z13 ez13 => ?_)
        replace h := h z13 ez13
        refine g_goto (tgt := 15) C dX3_begin_110 (by decide) ?_
        exact g_sub [1, 2, 0] rfl h
  replace h := h (fun (M : Mem) (x15_2 : Int32) => GS Z X 15 [(0, .ref (zb Z + a)), (1, .ref (zb Z + p1)), (2, .int x15_2)] [] M) s15
  unfold B_Outlook_begin_i at h
  show GS Z X 0 [(0, .ref (zb Z + a)), (1, .ref (zb Z + p1))] [] M
  refine g_aload_n (n := 1) (i := 0) C dX3_begin_0 rfl 0 rfl rfl ?_
  refine g_aload_n (n := 2) (i := 1) C dX3_begin_1 rfl 1 rfl rfl ?_
  refine gf_X3_72 (n := 5) C E (Hh.o hZ hp1) dX3_begin_2 rfl ?_
  refine gp_X3_31 (n := 8) C E (Ho.o hZ ha) dX3_begin_5 rfl (fun M1 eM1 => ?_)
  replace h := h M1 eM1
  refine g_aload_n (n := 9) (i := 0) C dX3_begin_8 rfl 0 rfl rfl ?_
  refine g_iconst (n := 10) (0 : Int32) C dX3_begin_9 (by decide) rfl ?_
  refine gp_X3_34 (n := 13) C E (Ho.o hZ ha) dX3_begin_10 rfl (fun M2 eM2 => ?_)
  replace h := h M2 eM2
  refine g_iconst (n := 14) (0 : Int32) C dX3_begin_13 (by decide) rfl ?_
  refine g_istore_n (n := 15) (i := 2) C dX3_begin_14 rfl (Nat.le_of_ble_eq_true rfl) rfl rfl (fun z3 ez3 => ?_)
  replace h := h z3 ez3
  exact g_sub [1, 2, 0] rfl h
def B_Outlook_meets_i (a : Nat) (p1 : Int32) (p2 : Nat) (post : Mem → Prop) (R129 : Mem → Int32 → Prop) (M : Mem)  : Prop :=
  vp_in p1 7 ∧ (∀ z1 : Int32, z1 = (M (p2 + 2) (p1).toNatClampNeg) → ∀ z2 : Int32, z2 = (z1 - (M p2 9)) → ∀ M3 : Mem, M3 = mset M a 8 (imax (M a 8) (z2 + (1 : Int32))) → P_Plan_has M3 4 (M3 a 7) (fun (r5 : Int32) (M4 : Mem) => (((r5 = 0) → (R129 M4 z2)) ∧ ((¬ r5 = 0) → P_House_brings M4 p2 p1 (fun (r7 : Int32) (M6 : Mem) => ∀ z8 : Int32, z8 = r7 → vp_in (M6 a 7) 7 ∧ (vp_in (M6 a 7) 7 ∧ (vp_in (M6 a 7) 7 ∧ (∀ z9 : Int32, z9 = ((M6 (a + 2) ((M6 a 7)).toNatClampNeg) - ((M6 9 ((M6 a 7)).toNatClampNeg) * (z1 - (M6 (a + 3) ((M6 a 7)).toNatClampNeg)))) → vp_in (M6 a 7) 7 ∧ (∀ M10 : Mem, M10 = mset M6 (a + 2) ((M6 a 7)).toNatClampNeg ((imax (0 : Int32) z9) + z8) → vp_in (M10 a 7) 7 ∧ (∀ M11 : Mem, M11 = mset M10 (a + 3) ((M10 a 7)).toNatClampNeg z1 → vp_in (M11 a 7) 7 ∧ (vp_in (M11 a 7) 7 ∧ (∀ M12 : Mem, M12 = mset M11 (a + 5) ((M11 a 7)).toNatClampNeg ((M11 (a + 5) ((M11 a 7)).toNatClampNeg) + z8) → (R129 M12 z2)))))))))))))
def B_Outlook_meets_129 (a : Nat) (p1 : Int32) (p2 : Nat) (post : Mem → Prop) (R129 : Mem → Int32 → Prop) (M : Mem) (x129_4 : Int32) : Prop :=
  vp_in p1 7 ∧ ((((¬ (M 5 (p1).toNatClampNeg) = (2 : Int32)) → P_Plan_has M 4 (M a 7) (fun (r14 : Int32) (M13 : Mem) => (((r14 = 0) → ∀ M15 : Mem, M15 = mset M13 a 7 p1 → post M15) ∧ ((¬ r14 = 0) → P_Outlook_leaves M13 a (M13 a 7) x129_4 (fun (M16 : Mem) => ∀ M17 : Mem, M17 = mset M16 a 7 p1 → post M17))))) ∧ (((M 5 (p1).toNatClampNeg) = (2 : Int32)) → vp_in p1 7 ∧ (∀ M18 : Mem, M18 = mset M (a + 4) (p1).toNatClampNeg (x129_4 + (1 : Int32)) → post M18))))
def P_Outlook_meets (M : Mem) (a : Nat) (p1 : Int32) (p2 : Nat) (post : Mem → Prop) : Prop :=
  ∀ (R129 : Mem → Int32 → Prop), (∀ (M : Mem) (x129_4 : Int32), B_Outlook_meets_129 a p1 p2 post R129 M x129_4 → R129 M x129_4) → B_Outlook_meets_i a p1 p2 post R129 M
set_option maxHeartbeats 4000000 in
set_option maxRecDepth 100000 in
theorem c_Outlook_meets {Z : ZT} (hZ : IsX Z) (l : Launch) (a : Nat) (ha : Ho a) (p1 : Int32) (p2 : Nat) (hp2 : Hh p2) (M : Mem) (post : Mem → Prop) (h : P_Outlook_meets M a p1 p2 post) : CtV Z l yX3_meets cX3_meets 7 none 2 44 [.ref (zb Z + a), .int p1, .ref (zb Z + p2)] M post := by
  refine ctV (own := RX3) rfl (by decide) (Nat.le_of_ble_eq_true rfl) (fun X C E hr hQ => ?_)
  have s129 : ∀ (M : Mem) (x129_4 : Int32), B_Outlook_meets_129 a p1 p2 post (fun (M : Mem) (x129_4 : Int32) => GS Z X 129 [(0, .ref (zb Z + a)), (1, .int p1), (4, .int x129_4)] [] M) M x129_4 → GS Z X 129 [(0, .ref (zb Z + a)), (1, .int p1), (4, .int x129_4)] [] M := by
    intro M x129_4 h
    unfold B_Outlook_meets_129 at h
    refine g_aload_n (n := 130) (i := 0) C dX3_meets_129 rfl 0 rfl rfl ?_
    refine gf_X3_37 (n := 133) C E (Ho.o hZ ha) dX3_meets_130 rfl ?_
    refine gf_X3_95 (n := 136) 5 C E (ox_4 hZ) rfl dX3_meets_133 rfl ?_
    refine g_iload_n (n := 137) (i := 1) C dX3_meets_136 rfl 1 rfl rfl ?_
    refine g_iald (n := 138) C E (ox_5 hZ) h.1 dX3_meets_137 rfl ?_
    replace h := h.2
    refine g_iconst (n := 139) (2 : Int32) C dX3_meets_138 (by decide) rfl ?_
    refine g_icmp_ne (n := 142) (tgt := 153) C dX3_meets_139 (by decide) rfl (fun c => ?_) (fun c => ?_)
    · replace h := h.1 c
      refine g_aload_n (n := 154) (i := 0) C dX3_meets_153 rfl 0 rfl rfl ?_
      refine gf_X3_37 (n := 157) C E (Ho.o hZ ha) dX3_meets_154 rfl ?_
      refine g_aload_n (n := 158) (i := 0) C dX3_meets_157 rfl 0 rfl rfl ?_
      refine gf_X3_31 (n := 161) C E (Ho.o hZ ha) dX3_meets_158 rfl ?_
      refine g_callNi (n := 164) (kd := 4) C E (c_Plan_has hZ _ 4 (by unfold Hp; decide) (M a 7) M _ h) yi_X4_has wn_617 rfl (ox_4 hZ) (by decide) (Nat.le_of_ble_eq_true rfl) dX3_meets_161 rfl rfl (fun r14 M13 h => ?_)
      refine g_if_eq (n := 167) (tgt := 177) C dX3_meets_164 (by decide) rfl (fun c => ?_) (fun c => ?_)
      · replace h := h.1 c
        refine g_aload_n (n := 178) (i := 0) C dX3_meets_177 rfl 0 rfl rfl ?_
        refine g_iload_n (n := 179) (i := 1) C dX3_meets_178 rfl 1 rfl rfl ?_
        refine gp_X3_31 (n := 182) C E (Ho.o hZ ha) dX3_meets_179 rfl (fun M15 eM15 => ?_)
        replace h := h M15 eM15
        exact g_vret C hr hQ dX3_meets_182 h
      · replace h := h.2 c
        refine g_aload_n (n := 168) (i := 0) C dX3_meets_167 rfl 0 rfl rfl ?_
        refine g_aload_n (n := 169) (i := 0) C dX3_meets_168 rfl 0 rfl rfl ?_
        refine gf_X3_31 (n := 172) C E (Ho.o hZ ha) dX3_meets_169 rfl ?_
        refine g_iload (n := 174) C dX3_meets_172 2 rfl rfl ?_
        refine g_callVv (n := 177) (kd := 3) C E (c_Outlook_leaves hZ _ a ha (M13 a 7) x129_4 M13 _ h) yi_X3_leaves wd_612 rfl (Ho.o hZ ha) (by decide) (Nat.le_of_ble_eq_true rfl) dX3_meets_174 rfl rfl (fun M16 h => ?_)
        refine g_aload_n (n := 178) (i := 0) C dX3_meets_177 rfl 0 rfl rfl ?_
        refine g_iload_n (n := 179) (i := 1) C dX3_meets_178 rfl 1 rfl rfl ?_
        refine gp_X3_31 (n := 182) C E (Ho.o hZ ha) dX3_meets_179 rfl (fun M17 eM17 => ?_)
        replace h := h M17 eM17
        exact g_vret C hr hQ dX3_meets_182 h
    · replace h := h.2 c
      refine g_aload_n (n := 143) (i := 0) C dX3_meets_142 rfl 0 rfl rfl ?_
      refine gf_X3_21 (n := 146) (a + 4) C E (Ho.o hZ ha) rfl dX3_meets_143 rfl ?_
      refine g_iload_n (n := 147) (i := 1) C dX3_meets_146 rfl 1 rfl rfl ?_
      refine g_iload (n := 149) C dX3_meets_147 2 rfl rfl ?_
      refine g_iconst (n := 150) (1 : Int32) C dX3_meets_149 (by decide) rfl ?_
      refine g_iadd (n := 151) C dX3_meets_150 rfl ?_
      refine g_iast (n := 152) C E (Ho.f4 hZ ha) h.1 dX3_meets_151 rfl (fun M18 eM18 => ?_)
      replace h := h.2 M18 eM18
      exact g_vret C hr hQ dX3_meets_152 h
  replace h := h (fun (M : Mem) (x129_4 : Int32) => GS Z X 129 [(0, .ref (zb Z + a)), (1, .int p1), (4, .int x129_4)] [] M) s129
  unfold B_Outlook_meets_i at h
  show GS Z X 0 [(0, .ref (zb Z + a)), (1, .int p1), (2, .ref (zb Z + p2))] [] M
  refine g_aload_n (n := 1) (i := 2) C dX3_meets_0 rfl 2 rfl rfl ?_
  refine gf_X3_58 (n := 4) (p2 + 2) C E (Hh.o hZ hp2) rfl dX3_meets_1 rfl ?_
  refine g_iload_n (n := 5) (i := 1) C dX3_meets_4 rfl 1 rfl rfl ?_
  refine g_iald (n := 6) C E (Hh.f2 hZ hp2) h.1 dX3_meets_5 rfl ?_
  replace h := h.2
  refine g_istore_n (n := 7) (i := 3) C dX3_meets_6 rfl (Nat.le_of_ble_eq_true rfl) rfl rfl (fun z1 ez1 => ?_)
  replace h := h z1 ez1
  refine g_iload_n (n := 8) (i := 3) C dX3_meets_7 rfl 0 rfl rfl ?_
  refine g_aload_n (n := 9) (i := 2) C dX3_meets_8 rfl 3 rfl rfl ?_
  refine gf_X3_74 (n := 12) C E (Hh.o hZ hp2) dX3_meets_9 rfl ?_
  refine g_isub (n := 13) C dX3_meets_12 rfl ?_
  refine g_istore (n := 15) (i := 4) C dX3_meets_13 (Nat.le_of_ble_eq_true rfl) rfl rfl (fun z2 ez2 => ?_)
  replace h := h z2 ez2
  refine g_aload_n (n := 16) (i := 0) C dX3_meets_15 rfl 2 rfl rfl ?_
  refine g_aload_n (n := 17) (i := 0) C dX3_meets_16 rfl 2 rfl rfl ?_
  refine gf_X3_34 (n := 20) C E (Ho.o hZ ha) dX3_meets_17 rfl ?_
  refine g_iload (n := 22) C dX3_meets_20 0 rfl rfl ?_
  refine g_iconst (n := 23) (1 : Int32) C dX3_meets_22 (by decide) rfl ?_
  refine g_iadd (n := 24) C dX3_meets_23 rfl ?_
  refine g_mmax (n := 27) C wd_616 wq_193 wq_7 wq_194 (by decide) (Nat.le_of_ble_eq_true rfl) dX3_meets_24 rfl ?_
  refine gp_X3_34 (n := 30) C E (Ho.o hZ ha) dX3_meets_27 rfl (fun M3 eM3 => ?_)
  replace h := h M3 eM3
  refine g_aload_n (n := 31) (i := 0) C dX3_meets_30 rfl 2 rfl rfl ?_
  refine gf_X3_37 (n := 34) C E (Ho.o hZ ha) dX3_meets_31 rfl ?_
  refine g_aload_n (n := 35) (i := 0) C dX3_meets_34 rfl 2 rfl rfl ?_
  refine gf_X3_31 (n := 38) C E (Ho.o hZ ha) dX3_meets_35 rfl ?_
  refine g_callNi (n := 41) (kd := 4) C E (c_Plan_has hZ _ 4 (by unfold Hp; decide) (M3 a 7) M3 _ h) yi_X4_has wn_617 rfl (ox_4 hZ) (by decide) (Nat.le_of_ble_eq_true rfl) dX3_meets_38 rfl rfl (fun r5 M4 h => ?_)
  refine g_if_eq (n := 44) (tgt := 129) C dX3_meets_41 (by decide) rfl (fun c => ?_) (fun c => ?_)
  · replace h := h.1 c
    exact g_sub [2, 3, 0] rfl h
  · replace h := h.2 c
    refine g_aload_n (n := 45) (i := 2) C dX3_meets_44 rfl 4 rfl rfl ?_
    refine g_iload_n (n := 46) (i := 1) C dX3_meets_45 rfl 3 rfl rfl ?_
    refine g_callNi (n := 49) (kd := 2) C E (c_House_brings hZ _ p2 hp2 p1 M4 _ h) yi_X2_brings wn_622 rfl (Hh.o hZ hp2) (by decide) (Nat.le_of_ble_eq_true rfl) dX3_meets_46 rfl rfl (fun r7 M6 h => ?_)
    refine g_istore (n := 51) (i := 5) C dX3_meets_49 (Nat.le_of_ble_eq_true rfl) rfl rfl (fun z8 ez8 => ?_)
    replace h := h z8 ez8
    refine g_aload_n (n := 52) (i := 0) C dX3_meets_51 rfl 3 rfl rfl ?_
    refine gf_X3_15 (n := 55) (a + 2) C E (Ho.o hZ ha) rfl dX3_meets_52 rfl ?_
    refine g_aload_n (n := 56) (i := 0) C dX3_meets_55 rfl 3 rfl rfl ?_
    refine gf_X3_31 (n := 59) C E (Ho.o hZ ha) dX3_meets_56 rfl ?_
    refine g_iald (n := 60) C E (Ho.f2 hZ ha) h.1 dX3_meets_59 rfl ?_
    replace h := h.2
    refine g_aload_n (n := 61) (i := 0) C dX3_meets_60 rfl 3 rfl rfl ?_
    refine gf_X3_37 (n := 64) C E (Ho.o hZ ha) dX3_meets_61 rfl ?_
    refine gf_X3_92 (n := 67) 9 C E (ox_4 hZ) rfl dX3_meets_64 rfl ?_
    refine g_aload_n (n := 68) (i := 0) C dX3_meets_67 rfl 3 rfl rfl ?_
    refine gf_X3_31 (n := 71) C E (Ho.o hZ ha) dX3_meets_68 rfl ?_
    refine g_iald (n := 72) C E (ox_9 hZ) h.1 dX3_meets_71 rfl ?_
    replace h := h.2
    refine g_iload_n (n := 73) (i := 3) C dX3_meets_72 rfl 2 rfl rfl ?_
    refine g_aload_n (n := 74) (i := 0) C dX3_meets_73 rfl 3 rfl rfl ?_
    refine gf_X3_18 (n := 77) (a + 3) C E (Ho.o hZ ha) rfl dX3_meets_74 rfl ?_
    refine g_aload_n (n := 78) (i := 0) C dX3_meets_77 rfl 3 rfl rfl ?_
    refine gf_X3_31 (n := 81) C E (Ho.o hZ ha) dX3_meets_78 rfl ?_
    refine g_iald (n := 82) C E (Ho.f3 hZ ha) h.1 dX3_meets_81 rfl ?_
    replace h := h.2
    refine g_isub (n := 83) C dX3_meets_82 rfl ?_
    refine g_imul (n := 84) C dX3_meets_83 rfl ?_
    refine g_isub (n := 85) C dX3_meets_84 rfl ?_
    refine g_istore (n := 87) (i := 6) C dX3_meets_85 (Nat.le_of_ble_eq_true rfl) rfl rfl (fun z9 ez9 => ?_)
    replace h := h z9 ez9
    refine g_aload_n (n := 88) (i := 0) C dX3_meets_87 rfl 4 rfl rfl ?_
    refine gf_X3_15 (n := 91) (a + 2) C E (Ho.o hZ ha) rfl dX3_meets_88 rfl ?_
    refine g_aload_n (n := 92) (i := 0) C dX3_meets_91 rfl 4 rfl rfl ?_
    refine gf_X3_31 (n := 95) C E (Ho.o hZ ha) dX3_meets_92 rfl ?_
    refine g_iconst (n := 96) (0 : Int32) C dX3_meets_95 (by decide) rfl ?_
    refine g_iload (n := 98) C dX3_meets_96 0 rfl rfl ?_
    refine g_mmax (n := 101) C wd_616 wq_193 wq_7 wq_194 (by decide) (Nat.le_of_ble_eq_true rfl) dX3_meets_98 rfl ?_
    refine g_iload (n := 103) C dX3_meets_101 1 rfl rfl ?_
    refine g_iadd (n := 104) C dX3_meets_103 rfl ?_
    refine g_iast (n := 105) C E (Ho.f2 hZ ha) h.1 dX3_meets_104 rfl (fun M10 eM10 => ?_)
    replace h := h.2 M10 eM10
    refine g_aload_n (n := 106) (i := 0) C dX3_meets_105 rfl 4 rfl rfl ?_
    refine gf_X3_18 (n := 109) (a + 3) C E (Ho.o hZ ha) rfl dX3_meets_106 rfl ?_
    refine g_aload_n (n := 110) (i := 0) C dX3_meets_109 rfl 4 rfl rfl ?_
    refine gf_X3_31 (n := 113) C E (Ho.o hZ ha) dX3_meets_110 rfl ?_
    refine g_iload_n (n := 114) (i := 3) C dX3_meets_113 rfl 3 rfl rfl ?_
    refine g_iast (n := 115) C E (Ho.f3 hZ ha) h.1 dX3_meets_114 rfl (fun M11 eM11 => ?_)
    replace h := h.2 M11 eM11
    refine g_aload_n (n := 116) (i := 0) C dX3_meets_115 rfl 4 rfl rfl ?_
    refine gf_X3_24 (n := 119) (a + 5) C E (Ho.o hZ ha) rfl dX3_meets_116 rfl ?_
    refine g_aload_n (n := 120) (i := 0) C dX3_meets_119 rfl 4 rfl rfl ?_
    refine gf_X3_31 (n := 123) C E (Ho.o hZ ha) dX3_meets_120 rfl ?_
    refine g_dup2 (n := 124) C dX3_meets_123 rfl rfl rfl ?_
    refine g_iald (n := 125) C E (Ho.f5 hZ ha) h.1 dX3_meets_124 rfl ?_
    replace h := h.2
    refine g_iload (n := 127) C dX3_meets_125 1 rfl rfl ?_
    refine g_iadd (n := 128) C dX3_meets_127 rfl ?_
    refine g_iast (n := 129) C E (Ho.f5 hZ ha) h.1 dX3_meets_128 rfl (fun M12 eM12 => ?_)
    replace h := h.2 M12 eM12
    exact g_sub [4, 5, 2] rfl h
def B_Outlook_reckon_i (a : Nat) (p1 : Nat) (post : Mem → Prop) (R7 : Mem → Int32 → Prop) (M : Mem)  : Prop :=
  P_Outlook_begin M a p1 (fun (M1 : Mem) => ∀ z2 : Int32, z2 = (0 : Int32) → (R7 M1 z2))
def B_Outlook_reckon_7 (a : Nat) (p1 : Nat) (post : Mem → Prop) (R7 : Mem → Int32 → Prop) (M : Mem) (x7_2 : Int32) : Prop :=
  ((((M a 6) ≤ x7_2) → post M) ∧ ((¬ (M a 6) ≤ x7_2) → vp_in x7_2 7 ∧ (∀ z3 : Int32, z3 = (M (a + 1) (x7_2).toNatClampNeg) → P_Plan_has M 4 z3 (fun (r5 : Int32) (M4 : Mem) => (((r5 = 0) → ∀ z6 : Int32, z6 = x7_2 + (1 : Int32) → (R7 M4 z6)) ∧ ((¬ r5 = 0) → P_Outlook_meets M4 a z3 p1 (fun (M7 : Mem) => ∀ z8 : Int32, z8 = x7_2 + (1 : Int32) → (R7 M7 z8))))))))
def P_Outlook_reckon (M : Mem) (a : Nat) (p1 : Nat) (post : Mem → Prop) : Prop :=
  ∀ (R7 : Mem → Int32 → Prop), (∀ (M : Mem) (x7_2 : Int32), B_Outlook_reckon_7 a p1 post R7 M x7_2 → R7 M x7_2) → B_Outlook_reckon_i a p1 post R7 M
set_option maxHeartbeats 4000000 in
set_option maxRecDepth 100000 in
theorem c_Outlook_reckon {Z : ZT} (hZ : IsX Z) (l : Launch) (a : Nat) (ha : Ho a) (p1 : Nat) (hp1 : Hh p1) (M : Mem) (post : Mem → Prop) (h : P_Outlook_reckon M a p1 post) : CtV Z l yX3_reckon cX3_reckon 4 none 3 70 [.ref (zb Z + a), .ref (zb Z + p1)] M post := by
  refine ctV (own := RX3) rfl (by decide) (Nat.le_of_ble_eq_true rfl) (fun X C E hr hQ => ?_)
  have s7 : ∀ (M : Mem) (x7_2 : Int32), B_Outlook_reckon_7 a p1 post (fun (M : Mem) (x7_2 : Int32) => GS Z X 7 [(0, .ref (zb Z + a)), (1, .ref (zb Z + p1)), (2, .int x7_2)] [] M) M x7_2 → GS Z X 7 [(0, .ref (zb Z + a)), (1, .ref (zb Z + p1)), (2, .int x7_2)] [] M := by
    intro M x7_2 h
    unfold B_Outlook_reckon_7 at h
    refine g_iload_n (n := 8) (i := 2) C dX3_reckon_7 rfl 2 rfl rfl ?_
    refine g_aload_n (n := 9) (i := 0) C dX3_reckon_8 rfl 0 rfl rfl ?_
    refine gf_X3_27 (n := 12) C E (Ho.o hZ ha) dX3_reckon_9 rfl ?_
    refine g_icmp_ge (n := 15) (tgt := 45) C dX3_reckon_12 (by decide) rfl (fun c => ?_) (fun c => ?_)
    · replace h := h.1 c
      exact g_vret C hr hQ dX3_reckon_45 h
    · replace h := h.2 c
      refine g_aload_n (n := 16) (i := 0) C dX3_reckon_15 rfl 0 rfl rfl ?_
      refine gf_X3_9 (n := 19) (a + 1) C E (Ho.o hZ ha) rfl dX3_reckon_16 rfl ?_
      refine g_iload_n (n := 20) (i := 2) C dX3_reckon_19 rfl 2 rfl rfl ?_
      refine g_iald (n := 21) C E (Ho.f1 hZ ha) h.1 dX3_reckon_20 rfl ?_
      replace h := h.2
      refine g_istore_n (n := 22) (i := 3) C dX3_reckon_21 rfl (Nat.le_of_ble_eq_true rfl) rfl rfl (fun z3 ez3 => ?_)
      replace h := h z3 ez3
      refine g_aload_n (n := 23) (i := 0) C dX3_reckon_22 rfl 1 rfl rfl ?_
      refine gf_X3_37 (n := 26) C E (Ho.o hZ ha) dX3_reckon_23 rfl ?_
      refine g_iload_n (n := 27) (i := 3) C dX3_reckon_26 rfl 0 rfl rfl ?_
      refine g_callNi (n := 30) (kd := 4) C E (c_Plan_has hZ _ 4 (by unfold Hp; decide) z3 M _ h) yi_X4_has wn_617 rfl (ox_4 hZ) (by decide) (Nat.le_of_ble_eq_true rfl) dX3_reckon_27 rfl rfl (fun r5 M4 h => ?_)
      refine g_if_eq (n := 33) (tgt := 39) C dX3_reckon_30 (by decide) rfl (fun c => ?_) (fun c => ?_)
      · replace h := h.1 c
        refine g_iinc (n := 42) (v := (1 : Int32)) C dX3_reckon_39 3 rfl (by decide) (Nat.le_of_ble_eq_true rfl) rfl rfl (fun z6 ez6 => ?_)
        replace h := h z6 ez6
        refine g_goto (tgt := 7) C dX3_reckon_42 (by decide) ?_
        exact g_sub [2, 3, 0] rfl h
      · replace h := h.2 c
        refine g_aload_n (n := 34) (i := 0) C dX3_reckon_33 rfl 1 rfl rfl ?_
        refine g_iload_n (n := 35) (i := 3) C dX3_reckon_34 rfl 0 rfl rfl ?_
        refine g_aload_n (n := 36) (i := 1) C dX3_reckon_35 rfl 2 rfl rfl ?_
        refine g_callVv (n := 39) (kd := 3) C E (c_Outlook_meets hZ _ a ha z3 p1 hp1 M4 _ h) yi_X3_meets wd_618 rfl (Ho.o hZ ha) (by decide) (Nat.le_of_ble_eq_true rfl) dX3_reckon_36 rfl rfl (fun M7 h => ?_)
        refine g_iinc (n := 42) (v := (1 : Int32)) C dX3_reckon_39 3 rfl (by decide) (Nat.le_of_ble_eq_true rfl) rfl rfl (fun z8 ez8 => ?_)
        replace h := h z8 ez8
        refine g_goto (tgt := 7) C dX3_reckon_42 (by decide) ?_
        exact g_sub [2, 3, 0] rfl h
  replace h := h (fun (M : Mem) (x7_2 : Int32) => GS Z X 7 [(0, .ref (zb Z + a)), (1, .ref (zb Z + p1)), (2, .int x7_2)] [] M) s7
  unfold B_Outlook_reckon_i at h
  show GS Z X 0 [(0, .ref (zb Z + a)), (1, .ref (zb Z + p1))] [] M
  refine g_aload_n (n := 1) (i := 0) C dX3_reckon_0 rfl 0 rfl rfl ?_
  refine g_aload_n (n := 2) (i := 1) C dX3_reckon_1 rfl 1 rfl rfl ?_
  refine g_callVv (n := 5) (kd := 3) C E (c_Outlook_begin hZ _ a ha p1 hp1 M _ h) yi_X3_begin wd_607 rfl (Ho.o hZ ha) (by decide) (Nat.le_of_ble_eq_true rfl) dX3_reckon_2 rfl rfl (fun M1 h => ?_)
  refine g_iconst (n := 6) (0 : Int32) C dX3_reckon_5 (by decide) rfl ?_
  refine g_istore_n (n := 7) (i := 2) C dX3_reckon_6 rfl (Nat.le_of_ble_eq_true rfl) rfl rfl (fun z2 ez2 => ?_)
  replace h := h z2 ez2
  exact g_sub [1, 2, 0] rfl h
def B_Outlook_look_i (a : Nat) (p1 : Nat) (post : Mem → Prop)  (M : Mem)  : Prop :=
  P_Outlook_lineUp M a p1 (fun (M1 : Mem) => P_Outlook_reckon M1 a p1 (fun (M2 : Mem) => post M2))
def P_Outlook_look (M : Mem) (a : Nat) (p1 : Nat) (post : Mem → Prop) : Prop := B_Outlook_look_i a p1 post M
set_option maxHeartbeats 4000000 in
set_option maxRecDepth 100000 in
theorem c_Outlook_look {Z : ZT} (hZ : IsX Z) (l : Launch) (a : Nat) (ha : Ho a) (p1 : Nat) (hp1 : Hh p1) (M : Mem) (post : Mem → Prop) (h : P_Outlook_look M a p1 post) : CtV Z l yX3_look cX3_look 2 none 4 93 [.ref (zb Z + a), .ref (zb Z + p1)] M post := by
  refine ctV (own := RX3) rfl (by decide) (Nat.le_of_ble_eq_true rfl) (fun X C E hr hQ => ?_)
  unfold P_Outlook_look at h
  unfold B_Outlook_look_i at h
  show GS Z X 0 [(0, .ref (zb Z + a)), (1, .ref (zb Z + p1))] [] M
  refine g_aload_n (n := 1) (i := 0) C dX3_look_0 rfl 0 rfl rfl ?_
  refine g_aload_n (n := 2) (i := 1) C dX3_look_1 rfl 1 rfl rfl ?_
  refine g_callVv (n := 5) (kd := 3) C E (c_Outlook_lineUp hZ _ a ha p1 hp1 M _ h) yi_X3_lineUp wd_599 rfl (Ho.o hZ ha) (by decide) (Nat.le_of_ble_eq_true rfl) dX3_look_2 rfl rfl (fun M1 h => ?_)
  refine g_aload_n (n := 6) (i := 0) C dX3_look_5 rfl 0 rfl rfl ?_
  refine g_aload_n (n := 7) (i := 1) C dX3_look_6 rfl 1 rfl rfl ?_
  refine g_callVv (n := 10) (kd := 3) C E (c_Outlook_reckon hZ _ a ha p1 hp1 M1 _ h) yi_X3_reckon wd_603 rfl (Ho.o hZ ha) (by decide) (Nat.le_of_ble_eq_true rfl) dX3_look_7 rfl rfl (fun M2 h => ?_)
  exact g_vret C hr hQ dX3_look_10 h
