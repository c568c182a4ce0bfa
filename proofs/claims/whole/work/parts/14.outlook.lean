def B_Outlook_lineUp_i (a : Nat) (p1 : Nat) (post : Mem → Prop) (R7 : Mem → Int32 → Prop) (R47 : Mem → Int32 → Int32 → Prop) (R91 : Mem → Int32 → Int32 → Prop) (M : Mem)  : Prop :=
  ∀ M1 : Mem, M1 = mset M a 6 (0 : Int32) → ∀ z2 : Int32, z2 = (0 : Int32) → (R7 M1 z2)
def B_Outlook_lineUp_7 (a : Nat) (p1 : Nat) (post : Mem → Prop) (R7 : Mem → Int32 → Prop) (R47 : Mem → Int32 → Int32 → Prop) (R91 : Mem → Int32 → Int32 → Prop) (M : Mem) (x7_2 : Int32) : Prop :=
  ((((7 : Int32) ≤ x7_2) → post M) ∧ ((¬ (7 : Int32) ≤ x7_2) → ((((M 4 6) ≤ x7_2) → post M) ∧ ((¬ (M 4 6) ≤ x7_2) → vp_in x7_2 7 ∧ ((((¬ (M (p1 + 1) (x7_2).toNatClampNeg) = 0) → ∀ z3 : Int32, z3 = x7_2 + (1 : Int32) → (R7 M z3)) ∧ (((M (p1 + 1) (x7_2).toNatClampNeg) = 0) → ((((7 : Int32) ≤ (M a 6)) → ∀ z4 : Int32, z4 = x7_2 + (1 : Int32) → (R7 M z4)) ∧ ((¬ (7 : Int32) ≤ (M a 6)) → ∀ z5 : Int32, z5 = (M a 6) → (R47 M x7_2 z5))))))))))
def B_Outlook_lineUp_47 (a : Nat) (p1 : Nat) (post : Mem → Prop) (R7 : Mem → Int32 → Prop) (R47 : Mem → Int32 → Int32 → Prop) (R91 : Mem → Int32 → Int32 → Prop) (M : Mem) (x47_2 : Int32) (x47_3 : Int32) : Prop :=
  (((x47_3 ≤ 0) → (R91 M x47_2 x47_3)) ∧ ((¬ x47_3 ≤ 0) → vp_in (x47_3 - (1 : Int32)) 7 ∧ (P_House_hourOf M p1 (M (a + 1) ((x47_3 - (1 : Int32))).toNatClampNeg) (fun (r7 : Int32) (M6 : Mem) => P_House_hourOf M6 p1 x47_2 (fun (r9 : Int32) (M8 : Mem) => (((r7 ≤ r9) → (R91 M8 x47_2 x47_3)) ∧ ((¬ r7 ≤ r9) → vp_in (x47_3 - (1 : Int32)) 7 ∧ (vp_in x47_3 7 ∧ (∀ M10 : Mem, M10 = mset M8 (a + 1) (x47_3).toNatClampNeg (M8 (a + 1) ((x47_3 - (1 : Int32))).toNatClampNeg) → ∀ z11 : Int32, z11 = x47_3 + (-1 : Int32) → (R47 M10 x47_2 z11))))))))))
def B_Outlook_lineUp_91 (a : Nat) (p1 : Nat) (post : Mem → Prop) (R7 : Mem → Int32 → Prop) (R47 : Mem → Int32 → Int32 → Prop) (R91 : Mem → Int32 → Int32 → Prop) (M : Mem) (x91_2 : Int32) (x91_3 : Int32) : Prop :=
  vp_in x91_3 7 ∧ (∀ M12 : Mem, M12 = mset M (a + 1) (x91_3).toNatClampNeg x91_2 → ∀ M13 : Mem, M13 = mset M12 a 6 ((M12 a 6) + (1 : Int32)) → ∀ z14 : Int32, z14 = x91_2 + (1 : Int32) → (R7 M13 z14))
def P_Outlook_lineUp (M : Mem) (a : Nat) (p1 : Nat) (post : Mem → Prop) : Prop :=
  ∀ (R7 : Mem → Int32 → Prop) (R47 : Mem → Int32 → Int32 → Prop) (R91 : Mem → Int32 → Int32 → Prop), (∀ (M : Mem) (x7_2 : Int32), B_Outlook_lineUp_7 a p1 post R7 R47 R91 M x7_2 → R7 M x7_2) → (∀ (M : Mem) (x47_2 : Int32) (x47_3 : Int32), B_Outlook_lineUp_47 a p1 post R7 R47 R91 M x47_2 x47_3 → R47 M x47_2 x47_3) → (∀ (M : Mem) (x91_2 : Int32) (x91_3 : Int32), B_Outlook_lineUp_91 a p1 post R7 R47 R91 M x91_2 x91_3 → R91 M x91_2 x91_3) → B_Outlook_lineUp_i a p1 post R7 R47 R91 M
set_option maxHeartbeats 4000000 in
set_option maxRecDepth 100000 in
theorem c_Outlook_lineUp {Z : ZT} (hZ : IsX Z) (l : Launch) (a : Nat) (ha : Ho a) (p1 : Nat) (hp1 : Hh p1) (M : Mem) (post : Mem → Prop) (h : P_Outlook_lineUp M a p1 post) : CtV Z l yX3_lineUp cX3_lineUp 4 none 2 42 [.ref (zb Z + a), .ref (zb Z + p1)] M post := by
  refine ctV (own := RX3) rfl (by decide) (Nat.le_of_ble_eq_true rfl) (fun X C E hr hQ => ?_)
  have s7 : ∀ (M : Mem) (x7_2 : Int32), B_Outlook_lineUp_7 a p1 post (fun (M : Mem) (x7_2 : Int32) => GS Z X 7 [(0, .ref (zb Z + a)), (1, .ref (zb Z + p1)), (2, .int x7_2)] [] M) (fun (M : Mem) (x47_2 : Int32) (x47_3 : Int32) => GS Z X 47 [(0, .ref (zb Z + a)), (1, .ref (zb Z + p1)), (2, .int x47_2), (3, .int x47_3)] [] M) (fun (M : Mem) (x91_2 : Int32) (x91_3 : Int32) => GS Z X 91 [(0, .ref (zb Z + a)), (1, .ref (zb Z + p1)), (2, .int x91_2), (3, .int x91_3)] [] M) M x7_2 → GS Z X 7 [(0, .ref (zb Z + a)), (1, .ref (zb Z + p1)), (2, .int x7_2)] [] M := by
    intro M x7_2 h
    unfold B_Outlook_lineUp_7 at h
    refine g_iload_n (n := 8) (i := 2) C dX3_lineUp_7 rfl 2 rfl rfl ?_
    refine g_bipush (n := 10) (7 : Int32) C dX3_lineUp_8 (by decide) rfl ?_
    refine g_icmp_ge (n := 13) (tgt := 114) C dX3_lineUp_10 (by decide) rfl (fun c => ?_) (fun c => ?_)
    · replace h := h.1 c
      exact g_vret C hr hQ dX3_lineUp_114 h
    · replace h := h.2 c
      refine g_iload_n (n := 14) (i := 2) C dX3_lineUp_13 rfl 2 rfl rfl ?_
      refine g_aload_n (n := 15) (i := 0) C dX3_lineUp_14 rfl 0 rfl rfl ?_
      refine gf_X3_37 (n := 18) C E (Ho.o hZ ha) dX3_lineUp_15 rfl ?_
      refine gf_X3_48 (n := 21) C E (ox_4 hZ) dX3_lineUp_18 rfl ?_
      refine g_icmp_ge (n := 24) (tgt := 114) C dX3_lineUp_21 (by decide) rfl (fun c => ?_) (fun c => ?_)
      · replace h := h.1 c
        exact g_vret C hr hQ dX3_lineUp_114 h
      · replace h := h.2 c
        refine g_aload_n (n := 25) (i := 1) C dX3_lineUp_24 rfl 1 rfl rfl ?_
        refine gf_X3_53 (n := 28) (p1 + 1) C E (Hh.o hZ hp1) rfl dX3_lineUp_25 rfl ?_
        refine g_iload_n (n := 29) (i := 2) C dX3_lineUp_28 rfl 2 rfl rfl ?_
        refine g_iald (n := 30) C E (Hh.f1 hZ hp1) h.1 dX3_lineUp_29 rfl ?_
        replace h := h.2
        refine g_if_ne (n := 33) (tgt := 108) C dX3_lineUp_30 (by decide) rfl (fun c => ?_) (fun c => ?_)
        · replace h := h.1 c
          refine g_iinc (n := 111) (v := (1 : Int32)) C dX3_lineUp_108 2 rfl (by decide) (Nat.le_of_ble_eq_true rfl) rfl rfl (fun z3 ez3 => ?_)
          replace h := h z3 ez3
          refine g_goto (tgt := 7) C dX3_lineUp_111 (by decide) ?_
          exact g_sub [1, 2, 0] rfl h
        · replace h := h.2 c
          refine g_aload_n (n := 34) (i := 0) C dX3_lineUp_33 rfl 0 rfl rfl ?_
          refine gf_X3_27 (n := 37) C E (Ho.o hZ ha) dX3_lineUp_34 rfl ?_
          refine g_bipush (n := 39) (7 : Int32) C dX3_lineUp_37 (by decide) rfl ?_
          refine g_icmp_ge (n := 42) (tgt := 108) C dX3_lineUp_39 (by decide) rfl (fun c => ?_) (fun c => ?_)
          · replace h := h.1 c
            refine g_iinc (n := 111) (v := (1 : Int32)) C dX3_lineUp_108 2 rfl (by decide) (Nat.le_of_ble_eq_true rfl) rfl rfl (fun z4 ez4 => ?_)
            replace h := h z4 ez4
            refine g_goto (tgt := 7) C dX3_lineUp_111 (by decide) ?_
            exact g_sub [1, 2, 0] rfl h
          · replace h := h.2 c
            refine g_aload_n (n := 43) (i := 0) C dX3_lineUp_42 rfl 0 rfl rfl ?_
            refine gf_X3_27 (n := 46) C E (Ho.o hZ ha) dX3_lineUp_43 rfl ?_
            refine g_istore_n (n := 47) (i := 3) C dX3_lineUp_46 rfl (Nat.le_of_ble_eq_true rfl) rfl rfl (fun z5 ez5 => ?_)
            replace h := h z5 ez5
            exact g_sub [1, 2, 3, 0] rfl h
  have s47 : ∀ (M : Mem) (x47_2 : Int32) (x47_3 : Int32), B_Outlook_lineUp_47 a p1 post (fun (M : Mem) (x7_2 : Int32) => GS Z X 7 [(0, .ref (zb Z + a)), (1, .ref (zb Z + p1)), (2, .int x7_2)] [] M) (fun (M : Mem) (x47_2 : Int32) (x47_3 : Int32) => GS Z X 47 [(0, .ref (zb Z + a)), (1, .ref (zb Z + p1)), (2, .int x47_2), (3, .int x47_3)] [] M) (fun (M : Mem) (x91_2 : Int32) (x91_3 : Int32) => GS Z X 91 [(0, .ref (zb Z + a)), (1, .ref (zb Z + p1)), (2, .int x91_2), (3, .int x91_3)] [] M) M x47_2 x47_3 → GS Z X 47 [(0, .ref (zb Z + a)), (1, .ref (zb Z + p1)), (2, .int x47_2), (3, .int x47_3)] [] M := by
    intro M x47_2 x47_3 h
    unfold B_Outlook_lineUp_47 at h
    refine g_iload_n (n := 48) (i := 3) C dX3_lineUp_47 rfl 3 rfl rfl ?_
    refine g_if_le (n := 51) (tgt := 91) C dX3_lineUp_48 (by decide) rfl (fun c => ?_) (fun c => ?_)
    · replace h := h.1 c
      exact g_sub [0, 1, 2, 3] rfl h
    · replace h := h.2 c
      refine g_aload_n (n := 52) (i := 1) C dX3_lineUp_51 rfl 1 rfl rfl ?_
      refine g_aload_n (n := 53) (i := 0) C dX3_lineUp_52 rfl 0 rfl rfl ?_
      refine gf_X3_9 (n := 56) (a + 1) C E (Ho.o hZ ha) rfl dX3_lineUp_53 rfl ?_
      refine g_iload_n (n := 57) (i := 3) C dX3_lineUp_56 rfl 3 rfl rfl ?_
      refine g_iconst (n := 58) (1 : Int32) C dX3_lineUp_57 (by decide) rfl ?_
      refine g_isub (n := 59) C dX3_lineUp_58 rfl ?_
      refine g_iald (n := 60) C E (Ho.f1 hZ ha) h.1 dX3_lineUp_59 rfl ?_
      replace h := h.2
      refine g_callNi (n := 63) (kd := 2) C E (c_House_hourOf hZ _ p1 hp1 (M (a + 1) ((x47_3 - (1 : Int32))).toNatClampNeg) M _ h) yi_X2_hourOf wn_603 rfl (Hh.o hZ hp1) (by decide) (Nat.le_of_ble_eq_true rfl) dX3_lineUp_60 rfl rfl (fun r7 M6 h => ?_)
      refine g_aload_n (n := 64) (i := 1) C dX3_lineUp_63 rfl 1 rfl rfl ?_
      refine g_iload_n (n := 65) (i := 2) C dX3_lineUp_64 rfl 2 rfl rfl ?_
      refine g_callNi (n := 68) (kd := 2) C E (c_House_hourOf hZ _ p1 hp1 x47_2 M6 _ h) yi_X2_hourOf wn_603 rfl (Hh.o hZ hp1) (by decide) (Nat.le_of_ble_eq_true rfl) dX3_lineUp_65 rfl rfl (fun r9 M8 h => ?_)
      refine g_icmp_le (n := 71) (tgt := 91) C dX3_lineUp_68 (by decide) rfl (fun c => ?_) (fun c => ?_)
      · replace h := h.1 c
        exact g_sub [0, 1, 2, 3] rfl h
      · replace h := h.2 c
        refine g_aload_n (n := 72) (i := 0) C dX3_lineUp_71 rfl 0 rfl rfl ?_
        refine gf_X3_9 (n := 75) (a + 1) C E (Ho.o hZ ha) rfl dX3_lineUp_72 rfl ?_
        refine g_iload_n (n := 76) (i := 3) C dX3_lineUp_75 rfl 3 rfl rfl ?_
        refine g_aload_n (n := 77) (i := 0) C dX3_lineUp_76 rfl 0 rfl rfl ?_
        refine gf_X3_9 (n := 80) (a + 1) C E (Ho.o hZ ha) rfl dX3_lineUp_77 rfl ?_
        refine g_iload_n (n := 81) (i := 3) C dX3_lineUp_80 rfl 3 rfl rfl ?_
        refine g_iconst (n := 82) (1 : Int32) C dX3_lineUp_81 (by decide) rfl ?_
        refine g_isub (n := 83) C dX3_lineUp_82 rfl ?_
        refine g_iald (n := 84) C E (Ho.f1 hZ ha) h.1 dX3_lineUp_83 rfl ?_
        replace h := h.2
        refine g_iast (n := 85) C E (Ho.f1 hZ ha) h.1 dX3_lineUp_84 rfl (fun M10 eM10 => ?_)
        replace h := h.2 M10 eM10
        refine g_iinc (n := 88) (v := (-1 : Int32)) C dX3_lineUp_85 3 rfl (by decide) (Nat.le_of_ble_eq_true rfl) rfl rfl (fun z11 ez11 => ?_)
        replace h := h z11 ez11
        refine g_goto (tgt := 47) C dX3_lineUp_88 (by decide) ?_
        exact g_sub [1, 2, 3, 0] rfl h
  have s91 : ∀ (M : Mem) (x91_2 : Int32) (x91_3 : Int32), B_Outlook_lineUp_91 a p1 post (fun (M : Mem) (x7_2 : Int32) => GS Z X 7 [(0, .ref (zb Z + a)), (1, .ref (zb Z + p1)), (2, .int x7_2)] [] M) (fun (M : Mem) (x47_2 : Int32) (x47_3 : Int32) => GS Z X 47 [(0, .ref (zb Z + a)), (1, .ref (zb Z + p1)), (2, .int x47_2), (3, .int x47_3)] [] M) (fun (M : Mem) (x91_2 : Int32) (x91_3 : Int32) => GS Z X 91 [(0, .ref (zb Z + a)), (1, .ref (zb Z + p1)), (2, .int x91_2), (3, .int x91_3)] [] M) M x91_2 x91_3 → GS Z X 91 [(0, .ref (zb Z + a)), (1, .ref (zb Z + p1)), (2, .int x91_2), (3, .int x91_3)] [] M := by
    intro M x91_2 x91_3 h
    unfold B_Outlook_lineUp_91 at h
    refine g_aload_n (n := 92) (i := 0) C dX3_lineUp_91 rfl 0 rfl rfl ?_
    refine gf_X3_9 (n := 95) (a + 1) C E (Ho.o hZ ha) rfl dX3_lineUp_92 rfl ?_
    refine g_iload_n (n := 96) (i := 3) C dX3_lineUp_95 rfl 3 rfl rfl ?_
    refine g_iload_n (n := 97) (i := 2) C dX3_lineUp_96 rfl 2 rfl rfl ?_
    refine g_iast (n := 98) C E (Ho.f1 hZ ha) h.1 dX3_lineUp_97 rfl (fun M12 eM12 => ?_)
    replace h := h.2 M12 eM12
    refine g_aload_n (n := 99) (i := 0) C dX3_lineUp_98 rfl 0 rfl rfl ?_
    refine g_dup (n := 100) C dX3_lineUp_99 rfl rfl ?_
    refine gf_X3_27 (n := 103) C E (Ho.o hZ ha) dX3_lineUp_100 rfl ?_
    refine g_iconst (n := 104) (1 : Int32) C dX3_lineUp_103 (by decide) rfl ?_
    refine g_iadd (n := 105) C dX3_lineUp_104 rfl ?_
    refine gp_X3_27 (n := 108) C E (Ho.o hZ ha) dX3_lineUp_105 rfl (fun M13 eM13 => ?_)
    replace h := h M13 eM13
    refine g_iinc (n := 111) (v := (1 : Int32)) C dX3_lineUp_108 2 rfl (by decide) (Nat.le_of_ble_eq_true rfl) rfl rfl (fun z14 ez14 => ?_)
    replace h := h z14 ez14
    refine g_goto (tgt := 7) C dX3_lineUp_111 (by decide) ?_
    exact g_sub [1, 2, 0] rfl h
  replace h := h (fun (M : Mem) (x7_2 : Int32) => GS Z X 7 [(0, .ref (zb Z + a)), (1, .ref (zb Z + p1)), (2, .int x7_2)] [] M) (fun (M : Mem) (x47_2 : Int32) (x47_3 : Int32) => GS Z X 47 [(0, .ref (zb Z + a)), (1, .ref (zb Z + p1)), (2, .int x47_2), (3, .int x47_3)] [] M) (fun (M : Mem) (x91_2 : Int32) (x91_3 : Int32) => GS Z X 91 [(0, .ref (zb Z + a)), (1, .ref (zb Z + p1)), (2, .int x91_2), (3, .int x91_3)] [] M) s7 s47 s91
  unfold B_Outlook_lineUp_i at h
  show GS Z X 0 [(0, .ref (zb Z + a)), (1, .ref (zb Z + p1))] [] M
  refine g_aload_n (n := 1) (i := 0) C dX3_lineUp_0 rfl 0 rfl rfl ?_
  refine g_iconst (n := 2) (0 : Int32) C dX3_lineUp_1 (by decide) rfl ?_
  refine gp_X3_27 (n := 5) C E (Ho.o hZ ha) dX3_lineUp_2 rfl (fun M1 eM1 => ?_)
  replace h := h M1 eM1
  refine g_iconst (n := 6) (0 : Int32) C dX3_lineUp_5 (by decide) rfl ?_
  refine g_istore_n (n := 7) (i := 2) C dX3_lineUp_6 rfl (Nat.le_of_ble_eq_true rfl) rfl rfl (fun z2 ez2 => ?_)
  replace h := h z2 ez2
  exact g_sub [1, 2, 0] rfl h
def B_Outlook_leaves_i (a : Nat) (p1 : Int32) (p2 : Int32) (post : Mem → Prop)  (M : Mem)  : Prop :=
  vp_in p1 7 ∧ (∀ z1 : Int32, z1 = (M 9 (p1).toNatClampNeg) → (((z1 ≤ 0) → post M) ∧ ((¬ z1 ≤ 0) → vp_in p1 7 ∧ ((¬ z1 = 0) ∧ (vp_in p1 7 ∧ (∀ M2 : Mem, M2 = mset M (a + 4) (p1).toNatClampNeg (p2 + (imax (1 : Int32) ((((M (a + 2) (p1).toNatClampNeg) + z1) - (1 : Int32)) / z1))) → vp_in p1 7 ∧ (∀ M3 : Mem, M3 = mset M2 a 8 (imax (M2 a 8) (M2 (a + 4) (p1).toNatClampNeg)) → post M3)))))))
def P_Outlook_leaves (M : Mem) (a : Nat) (p1 : Int32) (p2 : Int32) (post : Mem → Prop) : Prop := B_Outlook_leaves_i a p1 p2 post M
set_option maxHeartbeats 4000000 in
set_option maxRecDepth 100000 in
theorem c_Outlook_leaves {Z : ZT} (hZ : IsX Z) (l : Launch) (a : Nat) (ha : Ho a) (p1 : Int32) (p2 : Int32) (M : Mem) (post : Mem → Prop) (h : P_Outlook_leaves M a p1 p2 post) : CtV Z l yX3_leaves cX3_leaves 4 none 1 21 [.ref (zb Z + a), .int p1, .int p2] M post := by
  refine ctV (own := RX3) rfl (by decide) (Nat.le_of_ble_eq_true rfl) (fun X C E hr hQ => ?_)
  unfold P_Outlook_leaves at h
  unfold B_Outlook_leaves_i at h
  show GS Z X 0 [(0, .ref (zb Z + a)), (1, .int p1), (2, .int p2)] [] M
  refine g_aload_n (n := 1) (i := 0) C dX3_leaves_0 rfl 0 rfl rfl ?_
  refine gf_X3_37 (n := 4) C E (Ho.o hZ ha) dX3_leaves_1 rfl ?_
  refine gf_X3_95 (n := 7) 9 C E (ox_4 hZ) rfl dX3_leaves_4 rfl ?_
  refine g_iload_n (n := 8) (i := 1) C dX3_leaves_7 rfl 1 rfl rfl ?_
  refine g_iald (n := 9) C E (ox_9 hZ) h.1 dX3_leaves_8 rfl ?_
  replace h := h.2
  refine g_istore_n (n := 10) (i := 3) C dX3_leaves_9 rfl (Nat.le_of_ble_eq_true rfl) rfl rfl (fun z1 ez1 => ?_)
  replace h := h z1 ez1
  refine g_iload_n (n := 11) (i := 3) C dX3_leaves_10 rfl 0 rfl rfl ?_
  refine g_if_le (n := 14) (tgt := 55) C dX3_leaves_11 (by decide) rfl (fun c => ?_) (fun c => ?_)
  · replace h := h.1 c
    exact g_vret C hr hQ dX3_leaves_55 h
  · replace h := h.2 c
    refine g_aload_n (n := 15) (i := 0) C dX3_leaves_14 rfl 1 rfl rfl ?_
    refine gf_X3_21 (n := 18) (a + 4) C E (Ho.o hZ ha) rfl dX3_leaves_15 rfl ?_
    refine g_iload_n (n := 19) (i := 1) C dX3_leaves_18 rfl 2 rfl rfl ?_
    refine g_iload_n (n := 20) (i := 2) C dX3_leaves_19 rfl 3 rfl rfl ?_
    refine g_iconst (n := 21) (1 : Int32) C dX3_leaves_20 (by decide) rfl ?_
    refine g_aload_n (n := 22) (i := 0) C dX3_leaves_21 rfl 1 rfl rfl ?_
    refine gf_X3_15 (n := 25) (a + 2) C E (Ho.o hZ ha) rfl dX3_leaves_22 rfl ?_
    refine g_iload_n (n := 26) (i := 1) C dX3_leaves_25 rfl 2 rfl rfl ?_
    refine g_iald (n := 27) C E (Ho.f2 hZ ha) h.1 dX3_leaves_26 rfl ?_
    replace h := h.2
    refine g_iload_n (n := 28) (i := 3) C dX3_leaves_27 rfl 0 rfl rfl ?_
    refine g_iadd (n := 29) C dX3_leaves_28 rfl ?_
    refine g_iconst (n := 30) (1 : Int32) C dX3_leaves_29 (by decide) rfl ?_
    refine g_isub (n := 31) C dX3_leaves_30 rfl ?_
    refine g_iload_n (n := 32) (i := 3) C dX3_leaves_31 rfl 0 rfl rfl ?_
    refine g_idiv (n := 33) C dX3_leaves_32 h.1 rfl ?_
    replace h := h.2
    refine g_mmax (n := 36) C wd_621 wq_193 wq_7 wq_194 (by decide) (Nat.le_of_ble_eq_true rfl) dX3_leaves_33 rfl ?_
    refine g_iadd (n := 37) C dX3_leaves_36 rfl ?_
    refine g_iast (n := 38) C E (Ho.f4 hZ ha) h.1 dX3_leaves_37 rfl (fun M2 eM2 => ?_)
    replace h := h.2 M2 eM2
    refine g_aload_n (n := 39) (i := 0) C dX3_leaves_38 rfl 1 rfl rfl ?_
    refine g_aload_n (n := 40) (i := 0) C dX3_leaves_39 rfl 1 rfl rfl ?_
    refine gf_X3_34 (n := 43) C E (Ho.o hZ ha) dX3_leaves_40 rfl ?_
    refine g_aload_n (n := 44) (i := 0) C dX3_leaves_43 rfl 1 rfl rfl ?_
    refine gf_X3_21 (n := 47) (a + 4) C E (Ho.o hZ ha) rfl dX3_leaves_44 rfl ?_
    refine g_iload_n (n := 48) (i := 1) C dX3_leaves_47 rfl 2 rfl rfl ?_
    refine g_iald (n := 49) C E (Ho.f4 hZ ha) h.1 dX3_leaves_48 rfl ?_
    replace h := h.2
    refine g_mmax (n := 52) C wd_621 wq_193 wq_7 wq_194 (by decide) (Nat.le_of_ble_eq_true rfl) dX3_leaves_49 rfl ?_
    refine gp_X3_34 (n := 55) C E (Ho.o hZ ha) dX3_leaves_52 rfl (fun M3 eM3 => ?_)
    replace h := h M3 eM3
    exact g_vret C hr hQ dX3_leaves_55 h
def B_Outlook_begin_i (a : Nat) (p1 : Nat) (post : Mem → Prop) (R15 : Mem → Int32 → Prop) (M : Mem)  : Prop :=
  ∀ M1 : Mem, M1 = mset M a 7 (M p1 8) → ∀ M2 : Mem, M2 = mset M1 a 8 (0 : Int32) → ∀ z3 : Int32, z3 = (0 : Int32) → (R15 M2 z3)
def B_Outlook_begin_15 (a : Nat) (p1 : Nat) (post : Mem → Prop) (R15 : Mem → Int32 → Prop) (M : Mem) (x15_2 : Int32) : Prop :=
  ((((7 : Int32) ≤ x15_2) → post M) ∧ ((¬ (7 : Int32) ≤ x15_2) → ((((M 4 6) ≤ x15_2) → post M) ∧ ((¬ (M 4 6) ≤ x15_2) → vp_in x15_2 7 ∧ (∀ M4 : Mem, M4 = mset M (a + 5) (x15_2).toNatClampNeg (0 : Int32) → vp_in x15_2 7 ∧ (vp_in x15_2 7 ∧ (∀ M5 : Mem, M5 = mset M4 (a + 2) (x15_2).toNatClampNeg (M4 (p1 + 4) (x15_2).toNatClampNeg) → vp_in x15_2 7 ∧ (∀ M6 : Mem, M6 = mset M5 (a + 3) (x15_2).toNatClampNeg (M5 p1 9) → vp_in x15_2 7 ∧ (∀ M7 : Mem, M7 = mset M6 (a + 4) (x15_2).toNatClampNeg (1000000 : Int32) → vp_in x15_2 7 ∧ ((((¬ (M7 (p1 + 1) (x15_2).toNatClampNeg) = (2 : Int32)) → vp_in x15_2 7 ∧ ((((¬ (M7 (p1 + 1) (x15_2).toNatClampNeg) = (1 : Int32)) → ∀ z8 : Int32, z8 = x15_2 + (1 : Int32) → (R15 M7 z8)) ∧ (((M7 (p1 + 1) (x15_2).toNatClampNeg) = (1 : Int32)) → (((x15_2 = (M7 a 7)) → ∀ z9 : Int32, z9 = x15_2 + (1 : Int32) → (R15 M7 z9)) ∧ ((¬ x15_2 = (M7 a 7)) → P_Outlook_leaves M7 a x15_2 (0 : Int32) (fun (M10 : Mem) => ∀ z11 : Int32, z11 = x15_2 + (1 : Int32) → (R15 M10 z11)))))))) ∧ (((M7 (p1 + 1) (x15_2).toNatClampNeg) = (2 : Int32)) → vp_in x15_2 7 ∧ (∀ M12 : Mem, M12 = mset M7 (a + 4) (x15_2).toNatClampNeg (0 : Int32) → ∀ z13 : Int32, z13 = x15_2 + (1 : Int32) → (R15 M12 z13))))))))))))))
def P_Outlook_begin (M : Mem) (a : Nat) (p1 : Nat) (post : Mem → Prop) : Prop :=
  ∀ (R15 : Mem → Int32 → Prop), (∀ (M : Mem) (x15_2 : Int32), B_Outlook_begin_15 a p1 post R15 M x15_2 → R15 M x15_2) → B_Outlook_begin_i a p1 post R15 M
set_option maxHeartbeats 4000000 in
set_option maxRecDepth 100000 in
theorem c_Outlook_begin {Z : ZT} (hZ : IsX Z) (l : Launch) (a : Nat) (ha : Ho a) (p1 : Nat) (hp1 : Hh p1) (M : Mem) (post : Mem → Prop) (h : P_Outlook_begin M a p1 post) : CtV Z l yX3_begin cX3_begin 3 none 2 44 [.ref (zb Z + a), .ref (zb Z + p1)] M post := by
  refine ctV (own := RX3) rfl (by decide) (Nat.le_of_ble_eq_true rfl) (fun X C E hr hQ => ?_)
  have s15 : ∀ (M : Mem) (x15_2 : Int32), B_Outlook_begin_15 a p1 post (fun (M : Mem) (x15_2 : Int32) => GS Z X 15 [(0, .ref (zb Z + a)), (1, .ref (zb Z + p1)), (2, .int x15_2)] [] M) M x15_2 → GS Z X 15 [(0, .ref (zb Z + a)), (1, .ref (zb Z + p1)), (2, .int x15_2)] [] M := by
    intro M x15_2 h
    unfold B_Outlook_begin_15 at h
    refine g_iload_n (n := 16) (i := 2) C dX3_begin_15 rfl 2 rfl rfl ?_
    refine g_bipush (n := 18) (7 : Int32) C dX3_begin_16 (by decide) rfl ?_
    refine g_icmp_ge (n := 21) (tgt := 119) C dX3_begin_18 (by decide) rfl (fun c => ?_) (fun c => ?_)
    · replace h := h.1 c
      exact g_vret C hr hQ dX3_begin_119 h
    · replace h := h.2 c
      refine g_iload_n (n := 22) (i := 2) C dX3_begin_21 rfl 2 rfl rfl ?_
      refine g_aload_n (n := 23) (i := 0) C dX3_begin_22 rfl 0 rfl rfl ?_
      refine gf_X3_37 (n := 26) C E (Ho.o hZ ha) dX3_begin_23 rfl ?_
      refine gf_X3_48 (n := 29) C E (ox_4 hZ) dX3_begin_26 rfl ?_
      refine g_icmp_ge (n := 32) (tgt := 119) C dX3_begin_29 (by decide) rfl (fun c => ?_) (fun c => ?_)
      · replace h := h.1 c
        exact g_vret C hr hQ dX3_begin_119 h
      · replace h := h.2 c
        refine g_aload_n (n := 33) (i := 0) C dX3_begin_32 rfl 0 rfl rfl ?_
        refine gf_X3_24 (n := 36) (a + 5) C E (Ho.o hZ ha) rfl dX3_begin_33 rfl ?_
        refine g_iload_n (n := 37) (i := 2) C dX3_begin_36 rfl 2 rfl rfl ?_
        refine g_iconst (n := 38) (0 : Int32) C dX3_begin_37 (by decide) rfl ?_
        refine g_iast (n := 39) C E (Ho.f5 hZ ha) h.1 dX3_begin_38 rfl (fun M4 eM4 => ?_)
        replace h := h.2 M4 eM4
        refine g_aload_n (n := 40) (i := 0) C dX3_begin_39 rfl 0 rfl rfl ?_
        refine gf_X3_15 (n := 43) (a + 2) C E (Ho.o hZ ha) rfl dX3_begin_40 rfl ?_
        refine g_iload_n (n := 44) (i := 2) C dX3_begin_43 rfl 2 rfl rfl ?_
        refine g_aload_n (n := 45) (i := 1) C dX3_begin_44 rfl 1 rfl rfl ?_
        refine gf_X3_74 (n := 48) (p1 + 4) C E (Hh.o hZ hp1) rfl dX3_begin_45 rfl ?_
        refine g_iload_n (n := 49) (i := 2) C dX3_begin_48 rfl 2 rfl rfl ?_
        refine g_iald (n := 50) C E (Hh.f4 hZ hp1) h.1 dX3_begin_49 rfl ?_
        replace h := h.2
        refine g_iast (n := 51) C E (Ho.f2 hZ ha) h.1 dX3_begin_50 rfl (fun M5 eM5 => ?_)
        replace h := h.2 M5 eM5
        refine g_aload_n (n := 52) (i := 0) C dX3_begin_51 rfl 0 rfl rfl ?_
        refine gf_X3_18 (n := 55) (a + 3) C E (Ho.o hZ ha) rfl dX3_begin_52 rfl ?_
        refine g_iload_n (n := 56) (i := 2) C dX3_begin_55 rfl 2 rfl rfl ?_
        refine g_aload_n (n := 57) (i := 1) C dX3_begin_56 rfl 1 rfl rfl ?_
        refine gf_X3_75 (n := 60) C E (Hh.o hZ hp1) dX3_begin_57 rfl ?_
        refine g_iast (n := 61) C E (Ho.f3 hZ ha) h.1 dX3_begin_60 rfl (fun M6 eM6 => ?_)
        replace h := h.2 M6 eM6
        refine g_aload_n (n := 62) (i := 0) C dX3_begin_61 rfl 0 rfl rfl ?_
        refine gf_X3_21 (n := 65) (a + 4) C E (Ho.o hZ ha) rfl dX3_begin_62 rfl ?_
        refine g_iload_n (n := 66) (i := 2) C dX3_begin_65 rfl 2 rfl rfl ?_
        refine g_ldc (n := 68) (1000000 : Int32) C wd_616 dX3_begin_66 rfl ?_
        refine g_iast (n := 69) C E (Ho.f4 hZ ha) h.1 dX3_begin_68 rfl (fun M7 eM7 => ?_)
        replace h := h.2 M7 eM7
        refine g_aload_n (n := 70) (i := 1) C dX3_begin_69 rfl 1 rfl rfl ?_
        refine gf_X3_53 (n := 73) (p1 + 1) C E (Hh.o hZ hp1) rfl dX3_begin_70 rfl ?_
        refine g_iload_n (n := 74) (i := 2) C dX3_begin_73 rfl 2 rfl rfl ?_
        refine g_iald (n := 75) C E (Hh.f1 hZ hp1) h.1 dX3_begin_74 rfl ?_
        replace h := h.2
        refine g_iconst (n := 76) (2 : Int32) C dX3_begin_75 (by decide) rfl ?_
        refine g_icmp_ne (n := 79) (tgt := 89) C dX3_begin_76 (by decide) rfl (fun c => ?_) (fun c => ?_)
        · replace h := h.1 c
          refine g_aload_n (n := 90) (i := 1) C dX3_begin_89 rfl 1 rfl rfl ?_
          refine gf_X3_53 (n := 93) (p1 + 1) C E (Hh.o hZ hp1) rfl dX3_begin_90 rfl ?_
          refine g_iload_n (n := 94) (i := 2) C dX3_begin_93 rfl 2 rfl rfl ?_
          refine g_iald (n := 95) C E (Hh.f1 hZ hp1) h.1 dX3_begin_94 rfl ?_
          replace h := h.2
          refine g_iconst (n := 96) (1 : Int32) C dX3_begin_95 (by decide) rfl ?_
          refine g_icmp_ne (n := 99) (tgt := 113) C dX3_begin_96 (by decide) rfl (fun c => ?_) (fun c => ?_)
          · replace h := h.1 c
            refine g_iinc (n := 116) (v := (1 : Int32)) C dX3_begin_113 2 rfl (by decide) (Nat.le_of_ble_eq_true rfl) rfl rfl (fun z8 ez8 => ?_)
            replace h := h z8 ez8
            refine g_goto (tgt := 15) C dX3_begin_116 (by decide) ?_
            exact g_sub [1, 2, 0] rfl h
          · replace h := h.2 c
            refine g_iload_n (n := 100) (i := 2) C dX3_begin_99 rfl 2 rfl rfl ?_
            refine g_aload_n (n := 101) (i := 0) C dX3_begin_100 rfl 0 rfl rfl ?_
            refine gf_X3_31 (n := 104) C E (Ho.o hZ ha) dX3_begin_101 rfl ?_
            refine g_icmp_eq (n := 107) (tgt := 113) C dX3_begin_104 (by decide) rfl (fun c => ?_) (fun c => ?_)
            · replace h := h.1 c
              refine g_iinc (n := 116) (v := (1 : Int32)) C dX3_begin_113 2 rfl (by decide) (Nat.le_of_ble_eq_true rfl) rfl rfl (fun z9 ez9 => ?_)
              replace h := h z9 ez9
              refine g_goto (tgt := 15) C dX3_begin_116 (by decide) ?_
              exact g_sub [1, 2, 0] rfl h
            · replace h := h.2 c
              refine g_aload_n (n := 108) (i := 0) C dX3_begin_107 rfl 0 rfl rfl ?_
              refine g_iload_n (n := 109) (i := 2) C dX3_begin_108 rfl 2 rfl rfl ?_
              refine g_iconst (n := 110) (0 : Int32) C dX3_begin_109 (by decide) rfl ?_
              refine g_callVv (n := 113) (kd := 3) C E (c_Outlook_leaves hZ _ a ha x15_2 (0 : Int32) M7 _ h) yi_X3_leaves wd_617 rfl (Ho.o hZ ha) (by decide) (Nat.le_of_ble_eq_true rfl) dX3_begin_110 rfl rfl (fun M10 h => ?_)
              refine g_iinc (n := 116) (v := (1 : Int32)) C dX3_begin_113 2 rfl (by decide) (Nat.le_of_ble_eq_true rfl) rfl rfl (fun z11 ez11 => ?_)
              replace h := h z11 ez11
              refine g_goto (tgt := 15) C dX3_begin_116 (by decide) ?_
              exact g_sub [1, 2, 0] rfl h
        · replace h := h.2 c
          refine g_aload_n (n := 80) (i := 0) C dX3_begin_79 rfl 0 rfl rfl ?_
          refine gf_X3_21 (n := 83) (a + 4) C E (Ho.o hZ ha) rfl dX3_begin_80 rfl ?_
          refine g_iload_n (n := 84) (i := 2) C dX3_begin_83 rfl 2 rfl rfl ?_
          refine g_iconst (n := 85) (0 : Int32) C dX3_begin_84 (by decide) rfl ?_
          refine g_iast (n := 86) C E (Ho.f4 hZ ha) h.1 dX3_begin_85 rfl (fun M12 eM12 => ?_)
          replace h := h.2 M12 eM12
          refine g_goto (tgt := 113) C dX3_begin_86 (by decide) ?_
          refine g_iinc (n := 116) (v := (1 : Int32)) C dX3_begin_113 2 rfl (by decide) (Nat.le_of_ble_eq_true rfl) rfl rfl (fun z13 ez13 => ?_)
          replace h := h z13 ez13
          refine g_goto (tgt := 15) C dX3_begin_116 (by decide) ?_
          exact g_sub [1, 2, 0] rfl h
  replace h := h (fun (M : Mem) (x15_2 : Int32) => GS Z X 15 [(0, .ref (zb Z + a)), (1, .ref (zb Z + p1)), (2, .int x15_2)] [] M) s15
  unfold B_Outlook_begin_i at h
  show GS Z X 0 [(0, .ref (zb Z + a)), (1, .ref (zb Z + p1))] [] M
  refine g_aload_n (n := 1) (i := 0) C dX3_begin_0 rfl 0 rfl rfl ?_
  refine g_aload_n (n := 2) (i := 1) C dX3_begin_1 rfl 1 rfl rfl ?_
  refine gf_X3_73 (n := 5) C E (Hh.o hZ hp1) dX3_begin_2 rfl ?_
  refine gp_X3_31 (n := 8) C E (Ho.o hZ ha) dX3_begin_5 rfl (fun M1 eM1 => ?_)
  replace h := h M1 eM1
  refine g_aload_n (n := 9) (i := 0) C dX3_begin_8 rfl 0 rfl rfl ?_
  refine g_iconst (n := 10) (0 : Int32) C dX3_begin_9 (by decide) rfl ?_
  refine gp_X3_34 (n := 13) C E (Ho.o hZ ha) dX3_begin_10 rfl (fun M2 eM2 => ?_)
  replace h := h M2 eM2
  refine g_iconst (n := 14) (0 : Int32) C dX3_begin_13 (by decide) rfl ?_
  refine g_istore_n (n := 15) (i := 2) C dX3_begin_14 rfl (Nat.le_of_ble_eq_true rfl) rfl rfl (fun z3 ez3 => ?_)
  replace h := h z3 ez3
  exact g_sub [1, 2, 0] rfl h
def B_Outlook_meets_i (a : Nat) (p1 : Int32) (p2 : Nat) (post : Mem → Prop) (R129 : Mem → Int32 → Prop) (M : Mem)  : Prop :=
  vp_in p1 7 ∧ (∀ z1 : Int32, z1 = (M (p2 + 2) (p1).toNatClampNeg) → ∀ z2 : Int32, z2 = (z1 - (M p2 9)) → ∀ M3 : Mem, M3 = mset M a 8 (imax (M a 8) (z2 + (1 : Int32))) → P_Plan_has M3 4 (M3 a 7) (fun (r5 : Int32) (M4 : Mem) => (((r5 = 0) → (R129 M4 z2)) ∧ ((¬ r5 = 0) → P_House_brings M4 p2 p1 (fun (r7 : Int32) (M6 : Mem) => ∀ z8 : Int32, z8 = r7 → vp_in (M6 a 7) 7 ∧ (vp_in (M6 a 7) 7 ∧ (vp_in (M6 a 7) 7 ∧ (∀ z9 : Int32, z9 = ((M6 (a + 2) ((M6 a 7)).toNatClampNeg) - ((M6 9 ((M6 a 7)).toNatClampNeg) * (z1 - (M6 (a + 3) ((M6 a 7)).toNatClampNeg)))) → vp_in (M6 a 7) 7 ∧ (∀ M10 : Mem, M10 = mset M6 (a + 2) ((M6 a 7)).toNatClampNeg ((imax (0 : Int32) z9) + z8) → vp_in (M10 a 7) 7 ∧ (∀ M11 : Mem, M11 = mset M10 (a + 3) ((M10 a 7)).toNatClampNeg z1 → vp_in (M11 a 7) 7 ∧ (vp_in (M11 a 7) 7 ∧ (∀ M12 : Mem, M12 = mset M11 (a + 5) ((M11 a 7)).toNatClampNeg ((M11 (a + 5) ((M11 a 7)).toNatClampNeg) + z8) → (R129 M12 z2)))))))))))))
def B_Outlook_meets_129 (a : Nat) (p1 : Int32) (p2 : Nat) (post : Mem → Prop) (R129 : Mem → Int32 → Prop) (M : Mem) (x129_4 : Int32) : Prop :=
  vp_in p1 7 ∧ ((((¬ (M 5 (p1).toNatClampNeg) = (2 : Int32)) → P_Plan_has M 4 (M a 7) (fun (r14 : Int32) (M13 : Mem) => (((r14 = 0) → ∀ M15 : Mem, M15 = mset M13 a 7 p1 → post M15) ∧ ((¬ r14 = 0) → P_Outlook_leaves M13 a (M13 a 7) x129_4 (fun (M16 : Mem) => ∀ M17 : Mem, M17 = mset M16 a 7 p1 → post M17))))) ∧ (((M 5 (p1).toNatClampNeg) = (2 : Int32)) → vp_in p1 7 ∧ (∀ M18 : Mem, M18 = mset M (a + 4) (p1).toNatClampNeg (x129_4 + (1 : Int32)) → post M18))))
def P_Outlook_meets (M : Mem) (a : Nat) (p1 : Int32) (p2 : Nat) (post : Mem → Prop) : Prop :=
  ∀ (R129 : Mem → Int32 → Prop), (∀ (M : Mem) (x129_4 : Int32), B_Outlook_meets_129 a p1 p2 post R129 M x129_4 → R129 M x129_4) → B_Outlook_meets_i a p1 p2 post R129 M
set_option maxHeartbeats 4000000 in
set_option maxRecDepth 100000 in
theorem c_Outlook_meets {Z : ZT} (hZ : IsX Z) (l : Launch) (a : Nat) (ha : Ho a) (p1 : Int32) (p2 : Nat) (hp2 : Hh p2) (M : Mem) (post : Mem → Prop) (h : P_Outlook_meets M a p1 p2 post) : CtV Z l yX3_meets cX3_meets 7 none 2 44 [.ref (zb Z + a), .int p1, .ref (zb Z + p2)] M post := by
  refine ctV (own := RX3) rfl (by decide) (Nat.le_of_ble_eq_true rfl) (fun X C E hr hQ => ?_)
  have s129 : ∀ (M : Mem) (x129_4 : Int32), B_Outlook_meets_129 a p1 p2 post (fun (M : Mem) (x129_4 : Int32) => GS Z X 129 [(0, .ref (zb Z + a)), (1, .int p1), (4, .int x129_4)] [] M) M x129_4 → GS Z X 129 [(0, .ref (zb Z + a)), (1, .int p1), (4, .int x129_4)] [] M := by
    intro M x129_4 h
    unfold B_Outlook_meets_129 at h
    refine g_aload_n (n := 130) (i := 0) C dX3_meets_129 rfl 0 rfl rfl ?_
    refine gf_X3_37 (n := 133) C E (Ho.o hZ ha) dX3_meets_130 rfl ?_
    refine gf_X3_98 (n := 136) 5 C E (ox_4 hZ) rfl dX3_meets_133 rfl ?_
    refine g_iload_n (n := 137) (i := 1) C dX3_meets_136 rfl 1 rfl rfl ?_
    refine g_iald (n := 138) C E (ox_5 hZ) h.1 dX3_meets_137 rfl ?_
    replace h := h.2
    refine g_iconst (n := 139) (2 : Int32) C dX3_meets_138 (by decide) rfl ?_
    refine g_icmp_ne (n := 142) (tgt := 153) C dX3_meets_139 (by decide) rfl (fun c => ?_) (fun c => ?_)
    · replace h := h.1 c
      refine g_aload_n (n := 154) (i := 0) C dX3_meets_153 rfl 0 rfl rfl ?_
      refine gf_X3_37 (n := 157) C E (Ho.o hZ ha) dX3_meets_154 rfl ?_
      refine g_aload_n (n := 158) (i := 0) C dX3_meets_157 rfl 0 rfl rfl ?_
      refine gf_X3_31 (n := 161) C E (Ho.o hZ ha) dX3_meets_158 rfl ?_
      refine g_callNi (n := 164) (kd := 4) C E (c_Plan_has hZ _ 4 (by unfold Hp; decide) (M a 7) M _ h) yi_X4_has wn_622 rfl (ox_4 hZ) (by decide) (Nat.le_of_ble_eq_true rfl) dX3_meets_161 rfl rfl (fun r14 M13 h => ?_)
      refine g_if_eq (n := 167) (tgt := 177) C dX3_meets_164 (by decide) rfl (fun c => ?_) (fun c => ?_)
      · replace h := h.1 c
        refine g_aload_n (n := 178) (i := 0) C dX3_meets_177 rfl 0 rfl rfl ?_
        refine g_iload_n (n := 179) (i := 1) C dX3_meets_178 rfl 1 rfl rfl ?_
        refine gp_X3_31 (n := 182) C E (Ho.o hZ ha) dX3_meets_179 rfl (fun M15 eM15 => ?_)
        replace h := h M15 eM15
        exact g_vret C hr hQ dX3_meets_182 h
      · replace h := h.2 c
        refine g_aload_n (n := 168) (i := 0) C dX3_meets_167 rfl 0 rfl rfl ?_
        refine g_aload_n (n := 169) (i := 0) C dX3_meets_168 rfl 0 rfl rfl ?_
        refine gf_X3_31 (n := 172) C E (Ho.o hZ ha) dX3_meets_169 rfl ?_
        refine g_iload (n := 174) C dX3_meets_172 2 rfl rfl ?_
        refine g_callVv (n := 177) (kd := 3) C E (c_Outlook_leaves hZ _ a ha (M13 a 7) x129_4 M13 _ h) yi_X3_leaves wd_617 rfl (Ho.o hZ ha) (by decide) (Nat.le_of_ble_eq_true rfl) dX3_meets_174 rfl rfl (fun M16 h => ?_)
        refine g_aload_n (n := 178) (i := 0) C dX3_meets_177 rfl 0 rfl rfl ?_
        refine g_iload_n (n := 179) (i := 1) C dX3_meets_178 rfl 1 rfl rfl ?_
        refine gp_X3_31 (n := 182) C E (Ho.o hZ ha) dX3_meets_179 rfl (fun M17 eM17 => ?_)
        replace h := h M17 eM17
        exact g_vret C hr hQ dX3_meets_182 h
    · replace h := h.2 c
      refine g_aload_n (n := 143) (i := 0) C dX3_meets_142 rfl 0 rfl rfl ?_
      refine gf_X3_21 (n := 146) (a + 4) C E (Ho.o hZ ha) rfl dX3_meets_143 rfl ?_
      refine g_iload_n (n := 147) (i := 1) C dX3_meets_146 rfl 1 rfl rfl ?_
      refine g_iload (n := 149) C dX3_meets_147 2 rfl rfl ?_
      refine g_iconst (n := 150) (1 : Int32) C dX3_meets_149 (by decide) rfl ?_
      refine g_iadd (n := 151) C dX3_meets_150 rfl ?_
      refine g_iast (n := 152) C E (Ho.f4 hZ ha) h.1 dX3_meets_151 rfl (fun M18 eM18 => ?_)
      replace h := h.2 M18 eM18
      exact g_vret C hr hQ dX3_meets_152 h
  replace h := h (fun (M : Mem) (x129_4 : Int32) => GS Z X 129 [(0, .ref (zb Z + a)), (1, .int p1), (4, .int x129_4)] [] M) s129
  unfold B_Outlook_meets_i at h
  show GS Z X 0 [(0, .ref (zb Z + a)), (1, .int p1), (2, .ref (zb Z + p2))] [] M
  refine g_aload_n (n := 1) (i := 2) C dX3_meets_0 rfl 2 rfl rfl ?_
  refine gf_X3_83 (n := 4) (p2 + 2) C E (Hh.o hZ hp2) rfl dX3_meets_1 rfl ?_
  refine g_iload_n (n := 5) (i := 1) C dX3_meets_4 rfl 1 rfl rfl ?_
  refine g_iald (n := 6) C E (Hh.f2 hZ hp2) h.1 dX3_meets_5 rfl ?_
  replace h := h.2
  refine g_istore_n (n := 7) (i := 3) C dX3_meets_6 rfl (Nat.le_of_ble_eq_true rfl) rfl rfl (fun z1 ez1 => ?_)
  replace h := h z1 ez1
  refine g_iload_n (n := 8) (i := 3) C dX3_meets_7 rfl 0 rfl rfl ?_
  refine g_aload_n (n := 9) (i := 2) C dX3_meets_8 rfl 3 rfl rfl ?_
  refine gf_X3_75 (n := 12) C E (Hh.o hZ hp2) dX3_meets_9 rfl ?_
  refine g_isub (n := 13) C dX3_meets_12 rfl ?_
  refine g_istore (n := 15) (i := 4) C dX3_meets_13 (Nat.le_of_ble_eq_true rfl) rfl rfl (fun z2 ez2 => ?_)
  replace h := h z2 ez2
  refine g_aload_n (n := 16) (i := 0) C dX3_meets_15 rfl 2 rfl rfl ?_
  refine g_aload_n (n := 17) (i := 0) C dX3_meets_16 rfl 2 rfl rfl ?_
  refine gf_X3_34 (n := 20) C E (Ho.o hZ ha) dX3_meets_17 rfl ?_
  refine g_iload (n := 22) C dX3_meets_20 0 rfl rfl ?_
  refine g_iconst (n := 23) (1 : Int32) C dX3_meets_22 (by decide) rfl ?_
  refine g_iadd (n := 24) C dX3_meets_23 rfl ?_
  refine g_mmax (n := 27) C wd_621 wq_193 wq_7 wq_194 (by decide) (Nat.le_of_ble_eq_true rfl) dX3_meets_24 rfl ?_
  refine gp_X3_34 (n := 30) C E (Ho.o hZ ha) dX3_meets_27 rfl (fun M3 eM3 => ?_)
  replace h := h M3 eM3
  refine g_aload_n (n := 31) (i := 0) C dX3_meets_30 rfl 2 rfl rfl ?_
  refine gf_X3_37 (n := 34) C E (Ho.o hZ ha) dX3_meets_31 rfl ?_
  refine g_aload_n (n := 35) (i := 0) C dX3_meets_34 rfl 2 rfl rfl ?_
  refine gf_X3_31 (n := 38) C E (Ho.o hZ ha) dX3_meets_35 rfl ?_
  refine g_callNi (n := 41) (kd := 4) C E (c_Plan_has hZ _ 4 (by unfold Hp; decide) (M3 a 7) M3 _ h) yi_X4_has wn_622 rfl (ox_4 hZ) (by decide) (Nat.le_of_ble_eq_true rfl) dX3_meets_38 rfl rfl (fun r5 M4 h => ?_)
  refine g_if_eq (n := 44) (tgt := 129) C dX3_meets_41 (by decide) rfl (fun c => ?_) (fun c => ?_)
  · replace h := h.1 c
    exact g_sub [2, 3, 0] rfl h
  · replace h := h.2 c
    refine g_aload_n (n := 45) (i := 2) C dX3_meets_44 rfl 4 rfl rfl ?_
    refine g_iload_n (n := 46) (i := 1) C dX3_meets_45 rfl 3 rfl rfl ?_
    refine g_callNi (n := 49) (kd := 2) C E (c_House_brings hZ _ p2 hp2 p1 M4 _ h) yi_X2_brings wn_627 rfl (Hh.o hZ hp2) (by decide) (Nat.le_of_ble_eq_true rfl) dX3_meets_46 rfl rfl (fun r7 M6 h => ?_)
    refine g_istore (n := 51) (i := 5) C dX3_meets_49 (Nat.le_of_ble_eq_true rfl) rfl rfl (fun z8 ez8 => ?_)
    replace h := h z8 ez8
    refine g_aload_n (n := 52) (i := 0) C dX3_meets_51 rfl 3 rfl rfl ?_
    refine gf_X3_15 (n := 55) (a + 2) C E (Ho.o hZ ha) rfl dX3_meets_52 rfl ?_
    refine g_aload_n (n := 56) (i := 0) C dX3_meets_55 rfl 3 rfl rfl ?_
    refine gf_X3_31 (n := 59) C E (Ho.o hZ ha) dX3_meets_56 rfl ?_
    refine g_iald (n := 60) C E (Ho.f2 hZ ha) h.1 dX3_meets_59 rfl ?_
    replace h := h.2
    refine g_aload_n (n := 61) (i := 0) C dX3_meets_60 rfl 3 rfl rfl ?_
    refine gf_X3_37 (n := 64) C E (Ho.o hZ ha) dX3_meets_61 rfl ?_
    refine gf_X3_95 (n := 67) 9 C E (ox_4 hZ) rfl dX3_meets_64 rfl ?_
    refine g_aload_n (n := 68) (i := 0) C dX3_meets_67 rfl 3 rfl rfl ?_
    refine gf_X3_31 (n := 71) C E (Ho.o hZ ha) dX3_meets_68 rfl ?_
    refine g_iald (n := 72) C E (ox_9 hZ) h.1 dX3_meets_71 rfl ?_
    replace h := h.2
    refine g_iload_n (n := 73) (i := 3) C dX3_meets_72 rfl 2 rfl rfl ?_
    refine g_aload_n (n := 74) (i := 0) C dX3_meets_73 rfl 3 rfl rfl ?_
    refine gf_X3_18 (n := 77) (a + 3) C E (Ho.o hZ ha) rfl dX3_meets_74 rfl ?_
    refine g_aload_n (n := 78) (i := 0) C dX3_meets_77 rfl 3 rfl rfl ?_
    refine gf_X3_31 (n := 81) C E (Ho.o hZ ha) dX3_meets_78 rfl ?_
    refine g_iald (n := 82) C E (Ho.f3 hZ ha) h.1 dX3_meets_81 rfl ?_
    replace h := h.2
    refine g_isub (n := 83) C dX3_meets_82 rfl ?_
    refine g_imul (n := 84) C dX3_meets_83 rfl ?_
    refine g_isub (n := 85) C dX3_meets_84 rfl ?_
    refine g_istore (n := 87) (i := 6) C dX3_meets_85 (Nat.le_of_ble_eq_true rfl) rfl rfl (fun z9 ez9 => ?_)
    replace h := h z9 ez9
    refine g_aload_n (n := 88) (i := 0) C dX3_meets_87 rfl 4 rfl rfl ?_
    refine gf_X3_15 (n := 91) (a + 2) C E (Ho.o hZ ha) rfl dX3_meets_88 rfl ?_
    refine g_aload_n (n := 92) (i := 0) C dX3_meets_91 rfl 4 rfl rfl ?_
    refine gf_X3_31 (n := 95) C E (Ho.o hZ ha) dX3_meets_92 rfl ?_
    refine g_iconst (n := 96) (0 : Int32) C dX3_meets_95 (by decide) rfl ?_
    refine g_iload (n := 98) C dX3_meets_96 0 rfl rfl ?_
    refine g_mmax (n := 101) C wd_621 wq_193 wq_7 wq_194 (by decide) (Nat.le_of_ble_eq_true rfl) dX3_meets_98 rfl ?_
    refine g_iload (n := 103) C dX3_meets_101 1 rfl rfl ?_
    refine g_iadd (n := 104) C dX3_meets_103 rfl ?_
    refine g_iast (n := 105) C E (Ho.f2 hZ ha) h.1 dX3_meets_104 rfl (fun M10 eM10 => ?_)
    replace h := h.2 M10 eM10
    refine g_aload_n (n := 106) (i := 0) C dX3_meets_105 rfl 4 rfl rfl ?_
    refine gf_X3_18 (n := 109) (a + 3) C E (Ho.o hZ ha) rfl dX3_meets_106 rfl ?_
    refine g_aload_n (n := 110) (i := 0) C dX3_meets_109 rfl 4 rfl rfl ?_
    refine gf_X3_31 (n := 113) C E (Ho.o hZ ha) dX3_meets_110 rfl ?_
    refine g_iload_n (n := 114) (i := 3) C dX3_meets_113 rfl 3 rfl rfl ?_
    refine g_iast (n := 115) C E (Ho.f3 hZ ha) h.1 dX3_meets_114 rfl (fun M11 eM11 => ?_)
    replace h := h.2 M11 eM11
    refine g_aload_n (n := 116) (i := 0) C dX3_meets_115 rfl 4 rfl rfl ?_
    refine gf_X3_24 (n := 119) (a + 5) C E (Ho.o hZ ha) rfl dX3_meets_116 rfl ?_
    refine g_aload_n (n := 120) (i := 0) C dX3_meets_119 rfl 4 rfl rfl ?_
    refine gf_X3_31 (n := 123) C E (Ho.o hZ ha) dX3_meets_120 rfl ?_
    refine g_dup2 (n := 124) C dX3_meets_123 rfl rfl rfl ?_
    refine g_iald (n := 125) C E (Ho.f5 hZ ha) h.1 dX3_meets_124 rfl ?_
    replace h := h.2
    refine g_iload (n := 127) C dX3_meets_125 1 rfl rfl ?_
    refine g_iadd (n := 128) C dX3_meets_127 rfl ?_
    refine g_iast (n := 129) C E (Ho.f5 hZ ha) h.1 dX3_meets_128 rfl (fun M12 eM12 => ?_)
    replace h := h.2 M12 eM12
    exact g_sub [4, 5, 2] rfl h
def B_Outlook_reckon_i (a : Nat) (p1 : Nat) (post : Mem → Prop) (R7 : Mem → Int32 → Prop) (M : Mem)  : Prop :=
  P_Outlook_begin M a p1 (fun (M1 : Mem) => ∀ z2 : Int32, z2 = (0 : Int32) → (R7 M1 z2))
def B_Outlook_reckon_7 (a : Nat) (p1 : Nat) (post : Mem → Prop) (R7 : Mem → Int32 → Prop) (M : Mem) (x7_2 : Int32) : Prop :=
  ((((7 : Int32) ≤ x7_2) → post M) ∧ ((¬ (7 : Int32) ≤ x7_2) → ((((M a 6) ≤ x7_2) → post M) ∧ ((¬ (M a 6) ≤ x7_2) → vp_in x7_2 7 ∧ (∀ z3 : Int32, z3 = (M (a + 1) (x7_2).toNatClampNeg) → P_Plan_has M 4 z3 (fun (r5 : Int32) (M4 : Mem) => (((r5 = 0) → ∀ z6 : Int32, z6 = x7_2 + (1 : Int32) → (R7 M4 z6)) ∧ ((¬ r5 = 0) → P_Outlook_meets M4 a z3 p1 (fun (M7 : Mem) => ∀ z8 : Int32, z8 = x7_2 + (1 : Int32) → (R7 M7 z8))))))))))
def P_Outlook_reckon (M : Mem) (a : Nat) (p1 : Nat) (post : Mem → Prop) : Prop :=
  ∀ (R7 : Mem → Int32 → Prop), (∀ (M : Mem) (x7_2 : Int32), B_Outlook_reckon_7 a p1 post R7 M x7_2 → R7 M x7_2) → B_Outlook_reckon_i a p1 post R7 M
set_option maxHeartbeats 4000000 in
set_option maxRecDepth 100000 in
theorem c_Outlook_reckon {Z : ZT} (hZ : IsX Z) (l : Launch) (a : Nat) (ha : Ho a) (p1 : Nat) (hp1 : Hh p1) (M : Mem) (post : Mem → Prop) (h : P_Outlook_reckon M a p1 post) : CtV Z l yX3_reckon cX3_reckon 4 none 3 70 [.ref (zb Z + a), .ref (zb Z + p1)] M post := by
  refine ctV (own := RX3) rfl (by decide) (Nat.le_of_ble_eq_true rfl) (fun X C E hr hQ => ?_)
  have s7 : ∀ (M : Mem) (x7_2 : Int32), B_Outlook_reckon_7 a p1 post (fun (M : Mem) (x7_2 : Int32) => GS Z X 7 [(0, .ref (zb Z + a)), (1, .ref (zb Z + p1)), (2, .int x7_2)] [] M) M x7_2 → GS Z X 7 [(0, .ref (zb Z + a)), (1, .ref (zb Z + p1)), (2, .int x7_2)] [] M := by
    intro M x7_2 h
    unfold B_Outlook_reckon_7 at h
    refine g_iload_n (n := 8) (i := 2) C dX3_reckon_7 rfl 2 rfl rfl ?_
    refine g_bipush (n := 10) (7 : Int32) C dX3_reckon_8 (by decide) rfl ?_
    refine g_icmp_ge (n := 13) (tgt := 51) C dX3_reckon_10 (by decide) rfl (fun c => ?_) (fun c => ?_)
    · replace h := h.1 c
      exact g_vret C hr hQ dX3_reckon_51 h
    · replace h := h.2 c
      refine g_iload_n (n := 14) (i := 2) C dX3_reckon_13 rfl 2 rfl rfl ?_
      refine g_aload_n (n := 15) (i := 0) C dX3_reckon_14 rfl 0 rfl rfl ?_
      refine gf_X3_27 (n := 18) C E (Ho.o hZ ha) dX3_reckon_15 rfl ?_
      refine g_icmp_ge (n := 21) (tgt := 51) C dX3_reckon_18 (by decide) rfl (fun c => ?_) (fun c => ?_)
      · replace h := h.1 c
        exact g_vret C hr hQ dX3_reckon_51 h
      · replace h := h.2 c
        refine g_aload_n (n := 22) (i := 0) C dX3_reckon_21 rfl 0 rfl rfl ?_
        refine gf_X3_9 (n := 25) (a + 1) C E (Ho.o hZ ha) rfl dX3_reckon_22 rfl ?_
        refine g_iload_n (n := 26) (i := 2) C dX3_reckon_25 rfl 2 rfl rfl ?_
        refine g_iald (n := 27) C E (Ho.f1 hZ ha) h.1 dX3_reckon_26 rfl ?_
        replace h := h.2
        refine g_istore_n (n := 28) (i := 3) C dX3_reckon_27 rfl (Nat.le_of_ble_eq_true rfl) rfl rfl (fun z3 ez3 => ?_)
        replace h := h z3 ez3
        refine g_aload_n (n := 29) (i := 0) C dX3_reckon_28 rfl 1 rfl rfl ?_
        refine gf_X3_37 (n := 32) C E (Ho.o hZ ha) dX3_reckon_29 rfl ?_
        refine g_iload_n (n := 33) (i := 3) C dX3_reckon_32 rfl 0 rfl rfl ?_
        refine g_callNi (n := 36) (kd := 4) C E (c_Plan_has hZ _ 4 (by unfold Hp; decide) z3 M _ h) yi_X4_has wn_622 rfl (ox_4 hZ) (by decide) (Nat.le_of_ble_eq_true rfl) dX3_reckon_33 rfl rfl (fun r5 M4 h => ?_)
        refine g_if_eq (n := 39) (tgt := 45) C dX3_reckon_36 (by decide) rfl (fun c => ?_) (fun c => ?_)
        · replace h := h.1 c
          refine g_iinc (n := 48) (v := (1 : Int32)) C dX3_reckon_45 3 rfl (by decide) (Nat.le_of_ble_eq_true rfl) rfl rfl (fun z6 ez6 => ?_)
          replace h := h z6 ez6
          refine g_goto (tgt := 7) C dX3_reckon_48 (by decide) ?_
          exact g_sub [2, 3, 0] rfl h
        · replace h := h.2 c
          refine g_aload_n (n := 40) (i := 0) C dX3_reckon_39 rfl 1 rfl rfl ?_
          refine g_iload_n (n := 41) (i := 3) C dX3_reckon_40 rfl 0 rfl rfl ?_
          refine g_aload_n (n := 42) (i := 1) C dX3_reckon_41 rfl 2 rfl rfl ?_
          refine g_callVv (n := 45) (kd := 3) C E (c_Outlook_meets hZ _ a ha z3 p1 hp1 M4 _ h) yi_X3_meets wd_623 rfl (Ho.o hZ ha) (by decide) (Nat.le_of_ble_eq_true rfl) dX3_reckon_42 rfl rfl (fun M7 h => ?_)
          refine g_iinc (n := 48) (v := (1 : Int32)) C dX3_reckon_45 3 rfl (by decide) (Nat.le_of_ble_eq_true rfl) rfl rfl (fun z8 ez8 => ?_)
          replace h := h z8 ez8
          refine g_goto (tgt := 7) C dX3_reckon_48 (by decide) ?_
          exact g_sub [2, 3, 0] rfl h
  replace h := h (fun (M : Mem) (x7_2 : Int32) => GS Z X 7 [(0, .ref (zb Z + a)), (1, .ref (zb Z + p1)), (2, .int x7_2)] [] M) s7
  unfold B_Outlook_reckon_i at h
  show GS Z X 0 [(0, .ref (zb Z + a)), (1, .ref (zb Z + p1))] [] M
  refine g_aload_n (n := 1) (i := 0) C dX3_reckon_0 rfl 0 rfl rfl ?_
  refine g_aload_n (n := 2) (i := 1) C dX3_reckon_1 rfl 1 rfl rfl ?_
  refine g_callVv (n := 5) (kd := 3) C E (c_Outlook_begin hZ _ a ha p1 hp1 M _ h) yi_X3_begin wd_612 rfl (Ho.o hZ ha) (by decide) (Nat.le_of_ble_eq_true rfl) dX3_reckon_2 rfl rfl (fun M1 h => ?_)
  refine g_iconst (n := 6) (0 : Int32) C dX3_reckon_5 (by decide) rfl ?_
  refine g_istore_n (n := 7) (i := 2) C dX3_reckon_6 rfl (Nat.le_of_ble_eq_true rfl) rfl rfl (fun z2 ez2 => ?_)
  replace h := h z2 ez2
  exact g_sub [1, 2, 0] rfl h
def B_Outlook_look_i (a : Nat) (p1 : Nat) (post : Mem → Prop)  (M : Mem)  : Prop :=
  P_Outlook_lineUp M a p1 (fun (M1 : Mem) => P_Outlook_reckon M1 a p1 (fun (M2 : Mem) => post M2))
def P_Outlook_look (M : Mem) (a : Nat) (p1 : Nat) (post : Mem → Prop) : Prop := B_Outlook_look_i a p1 post M
set_option maxHeartbeats 4000000 in
set_option maxRecDepth 100000 in
theorem c_Outlook_look {Z : ZT} (hZ : IsX Z) (l : Launch) (a : Nat) (ha : Ho a) (p1 : Nat) (hp1 : Hh p1) (M : Mem) (post : Mem → Prop) (h : P_Outlook_look M a p1 post) : CtV Z l yX3_look cX3_look 2 none 4 93 [.ref (zb Z + a), .ref (zb Z + p1)] M post := by
  refine ctV (own := RX3) rfl (by decide) (Nat.le_of_ble_eq_true rfl) (fun X C E hr hQ => ?_)
  unfold P_Outlook_look at h
  unfold B_Outlook_look_i at h
  show GS Z X 0 [(0, .ref (zb Z + a)), (1, .ref (zb Z + p1))] [] M
  refine g_aload_n (n := 1) (i := 0) C dX3_look_0 rfl 0 rfl rfl ?_
  refine g_aload_n (n := 2) (i := 1) C dX3_look_1 rfl 1 rfl rfl ?_
  refine g_callVv (n := 5) (kd := 3) C E (c_Outlook_lineUp hZ _ a ha p1 hp1 M _ h) yi_X3_lineUp wd_599 rfl (Ho.o hZ ha) (by decide) (Nat.le_of_ble_eq_true rfl) dX3_look_2 rfl rfl (fun M1 h => ?_)
  refine g_aload_n (n := 6) (i := 0) C dX3_look_5 rfl 0 rfl rfl ?_
  refine g_aload_n (n := 7) (i := 1) C dX3_look_6 rfl 1 rfl rfl ?_
  refine g_callVv (n := 10) (kd := 3) C E (c_Outlook_reckon hZ _ a ha p1 hp1 M1 _ h) yi_X3_reckon wd_608 rfl (Ho.o hZ ha) (by decide) (Nat.le_of_ble_eq_true rfl) dX3_look_7 rfl rfl (fun M2 h => ?_)
  exact g_vret C hr hQ dX3_look_10 h
