def B_Chance_weightOf_i (p1 : Int32) (p2 : Int32) (post : Int32 → Mem → Prop) (R5 : Mem → Int32 → Int32 → Prop) (M : Mem)  : Prop :=
  ∀ z1 : Int32, z1 = (1 : Int32) → ∀ z2 : Int32, z2 = (0 : Int32) → (R5 M z1 z2)
def B_Chance_weightOf_5 (p1 : Int32) (p2 : Int32) (post : Int32 → Mem → Prop) (R5 : Mem → Int32 → Int32 → Prop) (M : Mem) (x5_3 : Int32) (x5_4 : Int32) : Prop :=
  ((((M 148 4) ≤ x5_4) → post x5_3 M) ∧ ((¬ (M 148 4) ≤ x5_4) → (((¬ ((p1 >>> (x5_4 &&& 31)) &&& (1 : Int32)) = (1 : Int32)) → ∀ z3 : Int32, z3 = (x5_3 * ((10 : Int32) - p2)) → ∀ z4 : Int32, z4 = x5_4 + (1 : Int32) → (R5 M z3 z4)) ∧ ((((p1 >>> (x5_4 &&& 31)) &&& (1 : Int32)) = (1 : Int32)) → ∀ z5 : Int32, z5 = (x5_3 * p2) → ∀ z6 : Int32, z6 = x5_4 + (1 : Int32) → (R5 M z5 z6)))))
def P_Chance_weightOf (M : Mem) (p1 : Int32) (p2 : Int32) (post : Int32 → Mem → Prop) : Prop :=
  ∀ (R5 : Mem → Int32 → Int32 → Prop), (∀ (M : Mem) (x5_3 : Int32) (x5_4 : Int32), B_Chance_weightOf_5 p1 p2 post R5 M x5_3 x5_4 → R5 M x5_3 x5_4) → B_Chance_weightOf_i p1 p2 post R5 M
set_option maxHeartbeats 4000000 in
set_option maxRecDepth 100000 in
theorem c_Chance_weightOf {Z : ZT} (hZ : IsX Z) (l : Launch) (p1 : Int32) (p2 : Int32) (M : Mem) (post : Int32 → Mem → Prop) (h : P_Chance_weightOf M p1 p2 post) : CtI Z l yX0_weightOf cX0_weightOf 5 (some .int) 0 0 [.ref (zb Z + 148), .int p1, .int p2] M post := by
  refine ctI (own := RX0) rfl (by decide) (Nat.le_of_ble_eq_true rfl) (fun X C E hr hQ => ?_)
  have s5 : ∀ (M : Mem) (x5_3 : Int32) (x5_4 : Int32), B_Chance_weightOf_5 p1 p2 post (fun (M : Mem) (x5_3 : Int32) (x5_4 : Int32) => GS Z X 5 [(0, .ref (zb Z + 148)), (1, .int p1), (2, .int p2), (3, .int x5_3), (4, .int x5_4)] [] M) M x5_3 x5_4 → GS Z X 5 [(0, .ref (zb Z + 148)), (1, .int p1), (2, .int p2), (3, .int x5_3), (4, .int x5_4)] [] M := by
    intro M x5_3 x5_4 h
    unfold B_Chance_weightOf_5 at h
    refine g_iload (n := 7) C dX0_weightOf_5 4 rfl rfl ?_
    refine g_aload_n (n := 8) (i := 0) C dX0_weightOf_7 rfl 0 rfl rfl ?_
    refine gf_X0_15 (n := 11) C E (ox_148 hZ) dX0_weightOf_8 rfl ?_
    refine g_icmp_ge (n := 14) (tgt := 41) C dX0_weightOf_11 (by decide) rfl (fun c => ?_) (fun c => ?_)
    · replace h := h.1 c
      refine g_iload_n (n := 42) (i := 3) C dX0_weightOf_41 rfl 3 rfl rfl ?_
      exact g_iret C hr hQ dX0_weightOf_42 h
    · replace h := h.2 c
      refine g_iload_n (n := 15) (i := 3) C dX0_weightOf_14 rfl 3 rfl rfl ?_
      refine g_iload_n (n := 16) (i := 1) C dX0_weightOf_15 rfl 1 rfl rfl ?_
      refine g_iload (n := 18) C dX0_weightOf_16 4 rfl rfl ?_
      refine g_ishr (n := 19) C dX0_weightOf_18 rfl ?_
      refine g_iconst (n := 20) (1 : Int32) C dX0_weightOf_19 (by decide) rfl ?_
      refine g_iand (n := 21) C dX0_weightOf_20 rfl ?_
      refine g_iconst (n := 22) (1 : Int32) C dX0_weightOf_21 (by decide) rfl ?_
      refine g_icmp_ne (n := 25) (tgt := 29) C dX0_weightOf_22 (by decide) rfl (fun c => ?_) (fun c => ?_)
      · replace h := h.1 c
        refine g_bipush (n := 31) (10 : Int32) C dX0_weightOf_29 (by decide) rfl ?_
        refine g_iload_n (n := 32) (i := 2) C dX0_weightOf_31 rfl 2 rfl rfl ?_
        refine g_isub (n := 33) C dX0_weightOf_32 rfl ?_
        refine g_imul (n := 34) C dX0_weightOf_33 rfl ?_
        refine g_istore_n (n := 35) (i := 3) C dX0_weightOf_34 rfl (Nat.le_of_ble_eq_true rfl) rfl rfl (fun z3 ez3 => ?_)
        replace h := h z3 ez3
        refine g_iinc (n := 38) (v := (1 : Int32)) C dX0_weightOf_35 4 rfl (by decide) (Nat.le_of_ble_eq_true rfl) rfl rfl (fun z4 ez4 => ?_)
        replace h := h z4 ez4
        refine g_goto (tgt := 5) C dX0_weightOf_38 (by decide) ?_
        exact g_sub [2, 3, 4, 1, 0] rfl h
      · replace h := h.2 c
        refine g_iload_n (n := 26) (i := 2) C dX0_weightOf_25 rfl 2 rfl rfl ?_
        refine g_goto (tgt := 33) C dX0_weightOf_26 (by decide) ?_
        refine g_imul (n := 34) C dX0_weightOf_33 rfl ?_
        refine g_istore_n (n := 35) (i := 3) C dX0_weightOf_34 rfl (Nat.le_of_ble_eq_true rfl) rfl rfl (fun z5 ez5 => ?_)
        replace h := h z5 ez5
        refine g_iinc (n := 38) (v := (1 : Int32)) C dX0_weightOf_35 4 rfl (by decide) (Nat.le_of_ble_eq_true rfl) rfl rfl (fun z6 ez6 => ?_)
        replace h := h z6 ez6
        refine g_goto (tgt := 5) C dX0_weightOf_38 (by decide) ?_
        exact g_sub [2, 3, 4, 1, 0] rfl h
  replace h := h (fun (M : Mem) (x5_3 : Int32) (x5_4 : Int32) => GS Z X 5 [(0, .ref (zb Z + 148)), (1, .int p1), (2, .int p2), (3, .int x5_3), (4, .int x5_4)] [] M) s5
  unfold B_Chance_weightOf_i at h
  show GS Z X 0 [(0, .ref (zb Z + 148)), (1, .int p1), (2, .int p2)] [] M
  refine g_iconst (n := 1) (1 : Int32) C dX0_weightOf_0 (by decide) rfl ?_
  refine g_istore_n (n := 2) (i := 3) C dX0_weightOf_1 rfl (Nat.le_of_ble_eq_true rfl) rfl rfl (fun z1 ez1 => ?_)
  replace h := h z1 ez1
  refine g_iconst (n := 3) (0 : Int32) C dX0_weightOf_2 (by decide) rfl ?_
  refine g_istore (n := 5) (i := 4) C dX0_weightOf_3 (Nat.le_of_ble_eq_true rfl) rfl rfl (fun z2 ez2 => ?_)
  replace h := h z2 ez2
  exact g_sub [2, 3, 4, 1, 0] rfl h
def B_Chance_isFreeWithout_i (p1 : Int32) (p2 : Int32) (post : Int32 → Mem → Prop) (R2 : Mem → Int32 → Prop) (R66 : Mem → Prop) (M : Mem)  : Prop :=
  ∀ z1 : Int32, z1 = (0 : Int32) → (R2 M z1)
def B_Chance_isFreeWithout_2 (p1 : Int32) (p2 : Int32) (post : Int32 → Mem → Prop) (R2 : Mem → Int32 → Prop) (R66 : Mem → Prop) (M : Mem) (x2_3 : Int32) : Prop :=
  ((((7 : Int32) ≤ x2_3) → (R66 M)) ∧ ((¬ (7 : Int32) ≤ x2_3) → ((((M 148 4) ≤ x2_3) → (R66 M)) ∧ ((¬ (M 148 4) ≤ x2_3) → vp_in x2_3 7 ∧ (P_Plan_has M 4 (M 149 (x2_3).toNatClampNeg) (fun (r3 : Int32) (M2 : Mem) => (((r3 = 0) → ∀ z4 : Int32, z4 = x2_3 + (1 : Int32) → (R2 M2 z4)) ∧ ((¬ r3 = 0) → vp_in x2_3 7 ∧ ((((¬ ((p1 >>> (x2_3 &&& 31)) &&& (1 : Int32)) = (1 : Int32)) → vp_in (M2 149 (x2_3).toNatClampNeg) 7 ∧ (∀ M5 : Mem, M5 = mset M2 151 ((M2 149 (x2_3).toNatClampNeg)).toNatClampNeg (0 : Int32) → ∀ z6 : Int32, z6 = x2_3 + (1 : Int32) → (R2 M5 z6))) ∧ ((((p1 >>> (x2_3 &&& 31)) &&& (1 : Int32)) = (1 : Int32)) → vp_in (M2 149 (x2_3).toNatClampNeg) 7 ∧ (∀ M7 : Mem, M7 = mset M2 151 ((M2 149 (x2_3).toNatClampNeg)).toNatClampNeg (3 : Int32) → ∀ z8 : Int32, z8 = x2_3 + (1 : Int32) → (R2 M7 z8)))))))))))))
def B_Chance_isFreeWithout_66 (p1 : Int32) (p2 : Int32) (post : Int32 → Mem → Prop) (R2 : Mem → Int32 → Prop) (R66 : Mem → Prop) (M : Mem)  : Prop :=
  P_Outlook_look M 158 150 (fun (M9 : Mem) => P_Plan_has M9 4 p2 (fun (r11 : Int32) (M10 : Mem) => (((r11 = 0) → post (0 : Int32) M10) ∧ ((¬ r11 = 0) → vp_in p2 7 ∧ (((((99 : Int32) < (M10 162 (p2).toNatClampNeg)) → post (0 : Int32) M10) ∧ ((¬ (99 : Int32) < (M10 162 (p2).toNatClampNeg)) → post (1 : Int32) M10)))))))
def P_Chance_isFreeWithout (M : Mem) (p1 : Int32) (p2 : Int32) (post : Int32 → Mem → Prop) : Prop :=
  ∀ (R2 : Mem → Int32 → Prop) (R66 : Mem → Prop), (∀ (M : Mem) (x2_3 : Int32), B_Chance_isFreeWithout_2 p1 p2 post R2 R66 M x2_3 → R2 M x2_3) → (∀ (M : Mem) , B_Chance_isFreeWithout_66 p1 p2 post R2 R66 M  → R66 M ) → B_Chance_isFreeWithout_i p1 p2 post R2 R66 M
set_option maxHeartbeats 4000000 in
set_option maxRecDepth 100000 in
theorem c_Chance_isFreeWithout {Z : ZT} (hZ : IsX Z) (l : Launch) (p1 : Int32) (p2 : Int32) (M : Mem) (post : Int32 → Mem → Prop) (h : P_Chance_isFreeWithout M p1 p2 post) : CtI Z l yX0_isFreeWithout cX0_isFreeWithout 4 (some .boolean) 5 114 [.ref (zb Z + 148), .int p1, .int p2] M post := by
  refine ctI (own := RX0) rfl (by decide) (Nat.le_of_ble_eq_true rfl) (fun X C E hr hQ => ?_)
  have s2 : ∀ (M : Mem) (x2_3 : Int32), B_Chance_isFreeWithout_2 p1 p2 post (fun (M : Mem) (x2_3 : Int32) => GS Z X 2 [(0, .ref (zb Z + 148)), (1, .int p1), (2, .int p2), (3, .int x2_3)] [] M) (fun (M : Mem)  => GS Z X 66 [(0, .ref (zb Z + 148)), (2, .int p2)] [] M) M x2_3 → GS Z X 2 [(0, .ref (zb Z + 148)), (1, .int p1), (2, .int p2), (3, .int x2_3)] [] M := by
    intro M x2_3 h
    unfold B_Chance_isFreeWithout_2 at h
    refine g_iload_n (n := 3) (i := 3) C dX0_isFreeWithout_2 rfl 3 rfl rfl ?_
    refine g_bipush (n := 5) (7 : Int32) C dX0_isFreeWithout_3 (by decide) rfl ?_
    refine g_icmp_ge (n := 8) (tgt := 66) C dX0_isFreeWithout_5 (by decide) rfl (fun c => ?_) (fun c => ?_)
    · replace h := h.1 c
      exact g_sub [0, 2] rfl h
    · replace h := h.2 c
      refine g_iload_n (n := 9) (i := 3) C dX0_isFreeWithout_8 rfl 3 rfl rfl ?_
      refine g_aload_n (n := 10) (i := 0) C dX0_isFreeWithout_9 rfl 0 rfl rfl ?_
      refine gf_X0_15 (n := 13) C E (ox_148 hZ) dX0_isFreeWithout_10 rfl ?_
      refine g_icmp_ge (n := 16) (tgt := 66) C dX0_isFreeWithout_13 (by decide) rfl (fun c => ?_) (fun c => ?_)
      · replace h := h.1 c
        exact g_sub [0, 2] rfl h
      · replace h := h.2 c
        refine g_aload_n (n := 17) (i := 0) C dX0_isFreeWithout_16 rfl 0 rfl rfl ?_
        refine gf_X0_25 (n := 20) C E (ox_148 hZ) dX0_isFreeWithout_17 rfl ?_
        refine g_aload_n (n := 21) (i := 0) C dX0_isFreeWithout_20 rfl 0 rfl rfl ?_
        refine gf_X0_9 (n := 24) 149 C E (ox_148 hZ) rfl dX0_isFreeWithout_21 rfl ?_
        refine g_iload_n (n := 25) (i := 3) C dX0_isFreeWithout_24 rfl 3 rfl rfl ?_
        refine g_iald (n := 26) C E (ox_149 hZ) h.1 dX0_isFreeWithout_25 rfl ?_
        replace h := h.2
        refine g_callNi (n := 29) (kd := 4) C E (c_Plan_has hZ _ 4 (by unfold Hp; decide) (M 149 (x2_3).toNatClampNeg) M _ h) yi_X4_has wn_768 rfl (ox_4 hZ) (by decide) (Nat.le_of_ble_eq_true rfl) dX0_isFreeWithout_26 rfl rfl (fun r3 M2 h => ?_)
        refine g_if_eq (n := 32) (tgt := 60) C dX0_isFreeWithout_29 (by decide) rfl (fun c => ?_) (fun c => ?_)
        · replace h := h.1 c
          refine g_iinc (n := 63) (v := (1 : Int32)) C dX0_isFreeWithout_60 3 rfl (by decide) (Nat.le_of_ble_eq_true rfl) rfl rfl (fun z4 ez4 => ?_)
          replace h := h z4 ez4
          refine g_goto (tgt := 2) C dX0_isFreeWithout_63 (by decide) ?_
          exact g_sub [1, 2, 3, 0] rfl h
        · replace h := h.2 c
          refine g_aload_n (n := 33) (i := 0) C dX0_isFreeWithout_32 rfl 0 rfl rfl ?_
          refine gf_X0_34 (n := 36) 150 C E (ox_148 hZ) rfl dX0_isFreeWithout_33 rfl ?_
          refine gf_X0_50 (n := 39) 151 C E (ox_150 hZ) rfl dX0_isFreeWithout_36 rfl ?_
          refine g_aload_n (n := 40) (i := 0) C dX0_isFreeWithout_39 rfl 0 rfl rfl ?_
          refine gf_X0_9 (n := 43) 149 C E (ox_148 hZ) rfl dX0_isFreeWithout_40 rfl ?_
          refine g_iload_n (n := 44) (i := 3) C dX0_isFreeWithout_43 rfl 3 rfl rfl ?_
          refine g_iald (n := 45) C E (ox_149 hZ) h.1 dX0_isFreeWithout_44 rfl ?_
          replace h := h.2
          refine g_iload_n (n := 46) (i := 1) C dX0_isFreeWithout_45 rfl 1 rfl rfl ?_
          refine g_iload_n (n := 47) (i := 3) C dX0_isFreeWithout_46 rfl 3 rfl rfl ?_
          refine g_ishr (n := 48) C dX0_isFreeWithout_47 rfl ?_
          refine g_iconst (n := 49) (1 : Int32) C dX0_isFreeWithout_48 (by decide) rfl ?_
          refine g_iand (n := 50) C dX0_isFreeWithout_49 rfl ?_
          refine g_iconst (n := 51) (1 : Int32) C dX0_isFreeWithout_50 (by decide) rfl ?_
          refine g_icmp_ne (n := 54) (tgt := 58) C dX0_isFreeWithout_51 (by decide) rfl (fun c => ?_) (fun c => ?_)
          · replace h := h.1 c
            refine g_iconst (n := 59) (0 : Int32) C dX0_isFreeWithout_58 (by decide) rfl ?_
            refine g_iast (n := 60) C E (ox_151 hZ) h.1 dX0_isFreeWithout_59 rfl (fun M5 eM5 => ?_)
            replace h := h.2 M5 eM5
            refine g_iinc (n := 63) (v := (1 : Int32)) C dX0_isFreeWithout_60 3 rfl (by decide) (Nat.le_of_ble_eq_true rfl) rfl rfl (fun z6 ez6 => ?_)
            replace h := h z6 ez6
            refine g_goto (tgt := 2) C dX0_isFreeWithout_63 (by decide) ?_
            exact g_sub [1, 2, 3, 0] rfl h
          · replace h := h.2 c
            refine g_iconst (n := 55) (3 : Int32) C dX0_isFreeWithout_54 (by decide) rfl ?_
            refine g_goto (tgt := 59) C dX0_isFreeWithout_55 (by decide) ?_
            refine g_iast (n := 60) C E (ox_151 hZ) h.1 dX0_isFreeWithout_59 rfl (fun M7 eM7 => ?_)
            replace h := h.2 M7 eM7
            refine g_iinc (n := 63) (v := (1 : Int32)) C dX0_isFreeWithout_60 3 rfl (by decide) (Nat.le_of_ble_eq_true rfl) rfl rfl (fun z8 ez8 => ?_)
            replace h := h z8 ez8
            refine g_goto (tgt := 2) C dX0_isFreeWithout_63 (by decide) ?_
            exact g_sub [1, 2, 3, 0] rfl h
  have s66 : ∀ (M : Mem) , B_Chance_isFreeWithout_66 p1 p2 post (fun (M : Mem) (x2_3 : Int32) => GS Z X 2 [(0, .ref (zb Z + 148)), (1, .int p1), (2, .int p2), (3, .int x2_3)] [] M) (fun (M : Mem)  => GS Z X 66 [(0, .ref (zb Z + 148)), (2, .int p2)] [] M) M  → GS Z X 66 [(0, .ref (zb Z + 148)), (2, .int p2)] [] M := by
    intro M  h
    unfold B_Chance_isFreeWithout_66 at h
    refine g_aload_n (n := 67) (i := 0) C dX0_isFreeWithout_66 rfl 0 rfl rfl ?_
    refine gf_X0_41 (n := 70) 158 C E (ox_148 hZ) rfl dX0_isFreeWithout_67 rfl ?_
    refine g_aload_n (n := 71) (i := 0) C dX0_isFreeWithout_70 rfl 0 rfl rfl ?_
    refine gf_X0_34 (n := 74) 150 C E (ox_148 hZ) rfl dX0_isFreeWithout_71 rfl ?_
    refine g_callNv (n := 77) (kd := 3) C E (c_Outlook_look hZ _ 158 (by unfold Ho; decide) 150 (by unfold Hh; decide) M _ h) yi_X3_look wn_769 rfl (ox_158 hZ) (by decide) (Nat.le_of_ble_eq_true rfl) dX0_isFreeWithout_74 rfl rfl (fun M9 h => ?_)
    refine g_aload_n (n := 78) (i := 0) C dX0_isFreeWithout_77 rfl 0 rfl rfl ?_
    refine gf_X0_25 (n := 81) C E (ox_148 hZ) dX0_isFreeWithout_78 rfl ?_
    refine g_iload_n (n := 82) (i := 2) C dX0_isFreeWithout_81 rfl 1 rfl rfl ?_
    refine g_callNi (n := 85) (kd := 4) C E (c_Plan_has hZ _ 4 (by unfold Hp; decide) p2 M9 _ h) yi_X4_has wn_768 rfl (ox_4 hZ) (by decide) (Nat.le_of_ble_eq_true rfl) dX0_isFreeWithout_82 rfl rfl (fun r11 M10 h => ?_)
    refine g_if_eq (n := 88) (tgt := 106) C dX0_isFreeWithout_85 (by decide) rfl (fun c => ?_) (fun c => ?_)
    · replace h := h.1 c
      refine g_iconst (n := 107) (0 : Int32) C dX0_isFreeWithout_106 (by decide) rfl ?_
      exact g_zret C hr hQ dX0_isFreeWithout_107 rfl h
    · replace h := h.2 c
      refine g_aload_n (n := 89) (i := 0) C dX0_isFreeWithout_88 rfl 0 rfl rfl ?_
      refine gf_X0_41 (n := 92) 158 C E (ox_148 hZ) rfl dX0_isFreeWithout_89 rfl ?_
      refine gf_X0_75 (n := 95) 162 C E (ox_158 hZ) rfl dX0_isFreeWithout_92 rfl ?_
      refine g_iload_n (n := 96) (i := 2) C dX0_isFreeWithout_95 rfl 1 rfl rfl ?_
      refine g_iald (n := 97) C E (ox_162 hZ) h.1 dX0_isFreeWithout_96 rfl ?_
      replace h := h.2
      refine g_bipush (n := 99) (99 : Int32) C dX0_isFreeWithout_97 (by decide) rfl ?_
      refine g_icmp_gt (n := 102) (tgt := 106) C dX0_isFreeWithout_99 (by decide) rfl (fun c => ?_) (fun c => ?_)
      · replace h := h.1 c
        refine g_iconst (n := 107) (0 : Int32) C dX0_isFreeWithout_106 (by decide) rfl ?_
        exact g_zret C hr hQ dX0_isFreeWithout_107 rfl h
      · replace h := h.2 c
        refine g_iconst (n := 103) (1 : Int32) C dX0_isFreeWithout_102 (by decide) rfl ?_
        refine g_goto (tgt := 107) C dX0_isFreeWithout_103 (by decide) ?_
        exact g_zret C hr hQ dX0_isFreeWithout_107 rfl h
  replace h := h (fun (M : Mem) (x2_3 : Int32) => GS Z X 2 [(0, .ref (zb Z + 148)), (1, .int p1), (2, .int p2), (3, .int x2_3)] [] M) (fun (M : Mem)  => GS Z X 66 [(0, .ref (zb Z + 148)), (2, .int p2)] [] M) s2 s66
  unfold B_Chance_isFreeWithout_i at h
  show GS Z X 0 [(0, .ref (zb Z + 148)), (1, .int p1), (2, .int p2)] [] M
  refine g_iconst (n := 1) (0 : Int32) C dX0_isFreeWithout_0 (by decide) rfl ?_
  refine g_istore_n (n := 2) (i := 3) C dX0_isFreeWithout_1 rfl (Nat.le_of_ble_eq_true rfl) rfl rfl (fun z1 ez1 => ?_)
  replace h := h z1 ez1
  exact g_sub [1, 2, 3, 0] rfl h
def B_Chance_lower_i  (post : Mem → Prop) (R12 : Mem → Int32 → Int32 → Int32 → Prop) (R38 : Mem → Int32 → Prop) (M : Mem)  : Prop :=
  ∀ z1 : Int32, z1 = (M 148 6) → ∀ z2 : Int32, z2 = (M 148 5) → ∀ z3 : Int32, z3 = (0 : Int32) → (R12 M z1 z2 z3)
def B_Chance_lower_12  (post : Mem → Prop) (R12 : Mem → Int32 → Int32 → Int32 → Prop) (R38 : Mem → Int32 → Prop) (M : Mem) (x12_1 : Int32) (x12_2 : Int32) (x12_3 : Int32) : Prop :=
  ((((100 : Int32) ≤ x12_3) → (R38 M x12_1)) ∧ ((¬ (100 : Int32) ≤ x12_3) → (((x12_2 = 0) → (R38 M x12_1)) ∧ ((¬ x12_2 = 0) → (¬ x12_2 = 0) ∧ (∀ z4 : Int32, z4 = (x12_1 - x12_1 / x12_2 * x12_2) → ∀ z5 : Int32, z5 = x12_2 → ∀ z6 : Int32, z6 = z4 → ∀ z7 : Int32, z7 = x12_3 + (1 : Int32) → (R12 M z5 z6 z7))))))
def B_Chance_lower_38  (post : Mem → Prop) (R12 : Mem → Int32 → Int32 → Int32 → Prop) (R38 : Mem → Int32 → Prop) (M : Mem) (x38_1 : Int32) : Prop :=
  (((x38_1 ≤ 0) → post M) ∧ ((¬ x38_1 ≤ 0) → (¬ x38_1 = 0) ∧ (∀ M8 : Mem, M8 = mset M 148 5 ((M 148 5) / x38_1) → (¬ x38_1 = 0) ∧ (∀ M9 : Mem, M9 = mset M8 148 6 ((M8 148 6) / x38_1) → post M9))))
def P_Chance_lower (M : Mem)  (post : Mem → Prop) : Prop :=
  ∀ (R12 : Mem → Int32 → Int32 → Int32 → Prop) (R38 : Mem → Int32 → Prop), (∀ (M : Mem) (x12_1 : Int32) (x12_2 : Int32) (x12_3 : Int32), B_Chance_lower_12  post R12 R38 M x12_1 x12_2 x12_3 → R12 M x12_1 x12_2 x12_3) → (∀ (M : Mem) (x38_1 : Int32), B_Chance_lower_38  post R12 R38 M x38_1 → R38 M x38_1) → B_Chance_lower_i  post R12 R38 M
set_option maxHeartbeats 4000000 in
set_option maxRecDepth 100000 in
theorem c_Chance_lower {Z : ZT} (hZ : IsX Z) (l : Launch)  (M : Mem) (post : Mem → Prop) (h : P_Chance_lower M  post) : CtV Z l yX0_lower cX0_lower 5 none 0 0 [.ref (zb Z + 148)] M post := by
  refine ctV (own := RX0) rfl (by decide) (Nat.le_of_ble_eq_true rfl) (fun X C E hr hQ => ?_)
  have s12 : ∀ (M : Mem) (x12_1 : Int32) (x12_2 : Int32) (x12_3 : Int32), B_Chance_lower_12  post (fun (M : Mem) (x12_1 : Int32) (x12_2 : Int32) (x12_3 : Int32) => GS Z X 12 [(0, .ref (zb Z + 148)), (1, .int x12_1), (2, .int x12_2), (3, .int x12_3)] [] M) (fun (M : Mem) (x38_1 : Int32) => GS Z X 38 [(0, .ref (zb Z + 148)), (1, .int x38_1)] [] M) M x12_1 x12_2 x12_3 → GS Z X 12 [(0, .ref (zb Z + 148)), (1, .int x12_1), (2, .int x12_2), (3, .int x12_3)] [] M := by
    intro M x12_1 x12_2 x12_3 h
    unfold B_Chance_lower_12 at h
    refine g_iload_n (n := 13) (i := 3) C dX0_lower_12 rfl 3 rfl rfl ?_
    refine g_bipush (n := 15) (100 : Int32) C dX0_lower_13 (by decide) rfl ?_
    refine g_icmp_ge (n := 18) (tgt := 38) C dX0_lower_15 (by decide) rfl (fun c => ?_) (fun c => ?_)
    · replace h := h.1 c
      exact g_sub [0, 1] rfl h
    · replace h := h.2 c
      refine g_iload_n (n := 19) (i := 2) C dX0_lower_18 rfl 2 rfl rfl ?_
      refine g_if_eq (n := 22) (tgt := 38) C dX0_lower_19 (by decide) rfl (fun c => ?_) (fun c => ?_)
      · replace h := h.1 c
        exact g_sub [0, 1] rfl h
      · replace h := h.2 c
        refine g_iload_n (n := 23) (i := 1) C dX0_lower_22 rfl 1 rfl rfl ?_
        refine g_iload_n (n := 24) (i := 2) C dX0_lower_23 rfl 2 rfl rfl ?_
        refine g_irem (n := 25) C dX0_lower_24 h.1 rfl ?_
        replace h := h.2
        refine g_istore (n := 27) (i := 4) C dX0_lower_25 (Nat.le_of_ble_eq_true rfl) rfl rfl (fun z4 ez4 => ?_)
        replace h := h z4 ez4
        refine g_iload_n (n := 28) (i := 2) C dX0_lower_27 rfl 3 rfl rfl ?_
        refine g_istore_n (n := 29) (i := 1) C dX0_lower_28 rfl (Nat.le_of_ble_eq_true rfl) rfl rfl (fun z5 ez5 => ?_)
        replace h := h z5 ez5
        refine g_iload (n := 31) C dX0_lower_29 1 rfl rfl ?_
        refine g_istore_n (n := 32) (i := 2) C dX0_lower_31 rfl (Nat.le_of_ble_eq_true rfl) rfl rfl (fun z6 ez6 => ?_)
        replace h := h z6 ez6
        refine g_iinc (n := 35) (v := (1 : Int32)) C dX0_lower_32 4 rfl (by decide) (Nat.le_of_ble_eq_true rfl) rfl rfl (fun z7 ez7 => ?_)
        replace h := h z7 ez7
        refine g_goto (tgt := 12) C dX0_lower_35 (by decide) ?_
        exact g_sub [4, 2, 1, 0] rfl h
  have s38 : ∀ (M : Mem) (x38_1 : Int32), B_Chance_lower_38  post (fun (M : Mem) (x12_1 : Int32) (x12_2 : Int32) (x12_3 : Int32) => GS Z X 12 [(0, .ref (zb Z + 148)), (1, .int x12_1), (2, .int x12_2), (3, .int x12_3)] [] M) (fun (M : Mem) (x38_1 : Int32) => GS Z X 38 [(0, .ref (zb Z + 148)), (1, .int x38_1)] [] M) M x38_1 → GS Z X 38 [(0, .ref (zb Z + 148)), (1, .int x38_1)] [] M := by
    intro M x38_1 h
    unfold B_Chance_lower_38 at h
    refine g_iload_n (n := 39) (i := 1) C dX0_lower_38 rfl 1 rfl rfl ?_
    refine g_if_le (n := 42) (tgt := 62) C dX0_lower_39 (by decide) rfl (fun c => ?_) (fun c => ?_)
    · replace h := h.1 c
      exact g_vret C hr hQ dX0_lower_62 h
    · replace h := h.2 c
      refine g_aload_n (n := 43) (i := 0) C dX0_lower_42 rfl 0 rfl rfl ?_
      refine g_dup (n := 44) C dX0_lower_43 rfl rfl ?_
      refine gf_X0_19 (n := 47) C E (ox_148 hZ) dX0_lower_44 rfl ?_
      refine g_iload_n (n := 48) (i := 1) C dX0_lower_47 rfl 1 rfl rfl ?_
      refine g_idiv (n := 49) C dX0_lower_48 h.1 rfl ?_
      replace h := h.2
      refine gp_X0_19 (n := 52) C E (ox_148 hZ) dX0_lower_49 rfl (fun M8 eM8 => ?_)
      replace h := h M8 eM8
      refine g_aload_n (n := 53) (i := 0) C dX0_lower_52 rfl 0 rfl rfl ?_
      refine g_dup (n := 54) C dX0_lower_53 rfl rfl ?_
      refine gf_X0_22 (n := 57) C E (ox_148 hZ) dX0_lower_54 rfl ?_
      refine g_iload_n (n := 58) (i := 1) C dX0_lower_57 rfl 1 rfl rfl ?_
      refine g_idiv (n := 59) C dX0_lower_58 h.1 rfl ?_
      replace h := h.2
      refine gp_X0_22 (n := 62) C E (ox_148 hZ) dX0_lower_59 rfl (fun M9 eM9 => ?_)
      replace h := h M9 eM9
      exact g_vret C hr hQ dX0_lower_62 h
  replace h := h (fun (M : Mem) (x12_1 : Int32) (x12_2 : Int32) (x12_3 : Int32) => GS Z X 12 [(0, .ref (zb Z + 148)), (1, .int x12_1), (2, .int x12_2), (3, .int x12_3)] [] M) (fun (M : Mem) (x38_1 : Int32) => GS Z X 38 [(0, .ref (zb Z + 148)), (1, .int x38_1)] [] M) s12 s38
  unfold B_Chance_lower_i at h
  show GS Z X 0 [(0, .ref (zb Z + 148))] [] M
  refine g_aload_n (n := 1) (i := 0) C dX0_lower_0 rfl 0 rfl rfl ?_
  refine gf_X0_22 (n := 4) C E (ox_148 hZ) dX0_lower_1 rfl ?_
  refine g_istore_n (n := 5) (i := 1) C dX0_lower_4 rfl (Nat.le_of_ble_eq_true rfl) rfl rfl (fun z1 ez1 => ?_)
  replace h := h z1 ez1
  refine g_aload_n (n := 6) (i := 0) C dX0_lower_5 rfl 1 rfl rfl ?_
  refine gf_X0_19 (n := 9) C E (ox_148 hZ) dX0_lower_6 rfl ?_
  refine g_istore_n (n := 10) (i := 2) C dX0_lower_9 rfl (Nat.le_of_ble_eq_true rfl) rfl rfl (fun z2 ez2 => ?_)
  replace h := h z2 ez2
  refine g_iconst (n := 11) (0 : Int32) C dX0_lower_10 (by decide) rfl ?_
  refine g_istore_n (n := 12) (i := 3) C dX0_lower_11 rfl (Nat.le_of_ble_eq_true rfl) rfl rfl (fun z3 ez3 => ?_)
  replace h := h z3 ez3
  exact g_sub [3, 2, 1, 0] rfl h
def B_Chance_weigh_i (p1 : Nat) (p2 : Int32) (p3 : Int32) (post : Mem → Prop) (R8 : Mem → Int32 → Prop) (R73 : Mem → Prop) (R89 : Mem → Int32 → Prop) (R149 : Mem → Int32 → Prop) (M : Mem)  : Prop :=
  ∀ M1 : Mem, M1 = mset M 148 4 (0 : Int32) → ∀ z2 : Int32, z2 = (0 : Int32) → (R8 M1 z2)
def B_Chance_weigh_8 (p1 : Nat) (p2 : Int32) (p3 : Int32) (post : Mem → Prop) (R8 : Mem → Int32 → Prop) (R73 : Mem → Prop) (R89 : Mem → Int32 → Prop) (R149 : Mem → Int32 → Prop) (M : Mem) (x8_4 : Int32) : Prop :=
  ((((7 : Int32) ≤ x8_4) → (R73 M)) ∧ ((¬ (7 : Int32) ≤ x8_4) → ((((M 4 6) ≤ x8_4) → (R73 M)) ∧ ((¬ (M 4 6) ≤ x8_4) → vp_in x8_4 7 ∧ ((((¬ (M (p1 + 1) (x8_4).toNatClampNeg) = 0) → ∀ z3 : Int32, z3 = x8_4 + (1 : Int32) → (R8 M z3)) ∧ (((M (p1 + 1) (x8_4).toNatClampNeg) = 0) → ((((7 : Int32) ≤ (M 148 4)) → ∀ z4 : Int32, z4 = x8_4 + (1 : Int32) → (R8 M z4)) ∧ ((¬ (7 : Int32) ≤ (M 148 4)) → vp_in (M 148 4) 7 ∧ (∀ M5 : Mem, M5 = mset M 149 ((M 148 4)).toNatClampNeg x8_4 → ∀ M6 : Mem, M6 = mset M5 148 4 ((M5 148 4) + (1 : Int32)) → ∀ z7 : Int32, z7 = x8_4 + (1 : Int32) → (R8 M6 z7)))))))))))
def B_Chance_weigh_73 (p1 : Nat) (p2 : Int32) (p3 : Int32) (post : Mem → Prop) (R8 : Mem → Int32 → Prop) (R73 : Mem → Prop) (R89 : Mem → Int32 → Prop) (R149 : Mem → Int32 → Prop) (M : Mem)  : Prop :=
  P_House_copyFrom M 150 p1 (fun (M8 : Mem) => ∀ M9 : Mem, M9 = mset M8 148 5 (0 : Int32) → ∀ z10 : Int32, z10 = (0 : Int32) → (R89 M9 z10))
def B_Chance_weigh_89 (p1 : Nat) (p2 : Int32) (p3 : Int32) (post : Mem → Prop) (R8 : Mem → Int32 → Prop) (R73 : Mem → Prop) (R89 : Mem → Int32 → Prop) (R149 : Mem → Int32 → Prop) (M : Mem) (x89_4 : Int32) : Prop :=
  (((((1 : Int32) <<< ((M 148 4) &&& 31)) ≤ x89_4) → ∀ M11 : Mem, M11 = mset M 148 6 (1 : Int32) → ∀ z12 : Int32, z12 = (0 : Int32) → (R149 M11 z12)) ∧ ((¬ ((1 : Int32) <<< ((M 148 4) &&& 31)) ≤ x89_4) → P_Chance_weightOf M x89_4 p3 (fun (r14 : Int32) (M13 : Mem) => ∀ z15 : Int32, z15 = r14 → (((z15 ≤ 0) → ∀ z16 : Int32, z16 = x89_4 + (1 : Int32) → (R89 M13 z16)) ∧ ((¬ z15 ≤ 0) → P_Chance_isFreeWithout M13 x89_4 p2 (fun (r18 : Int32) (M17 : Mem) => (((r18 = 0) → ∀ z19 : Int32, z19 = x89_4 + (1 : Int32) → (R89 M17 z19)) ∧ ((¬ r18 = 0) → ∀ M20 : Mem, M20 = mset M17 148 5 ((M17 148 5) + z15) → ∀ z21 : Int32, z21 = x89_4 + (1 : Int32) → (R89 M20 z21)))))))))
def B_Chance_weigh_149 (p1 : Nat) (p2 : Int32) (p3 : Int32) (post : Mem → Prop) (R8 : Mem → Int32 → Prop) (R73 : Mem → Prop) (R89 : Mem → Int32 → Prop) (R149 : Mem → Int32 → Prop) (M : Mem) (x149_4 : Int32) : Prop :=
  ((((M 148 4) ≤ x149_4) → P_Chance_lower M (fun (M22 : Mem) => post M22)) ∧ ((¬ (M 148 4) ≤ x149_4) → ∀ M23 : Mem, M23 = mset M 148 6 ((M 148 6) * (10 : Int32)) → ∀ z24 : Int32, z24 = x149_4 + (1 : Int32) → (R149 M23 z24)))
def P_Chance_weigh (M : Mem) (p1 : Nat) (p2 : Int32) (p3 : Int32) (post : Mem → Prop) : Prop :=
  ∀ (R8 : Mem → Int32 → Prop) (R73 : Mem → Prop) (R89 : Mem → Int32 → Prop) (R149 : Mem → Int32 → Prop), (∀ (M : Mem) (x8_4 : Int32), B_Chance_weigh_8 p1 p2 p3 post R8 R73 R89 R149 M x8_4 → R8 M x8_4) → (∀ (M : Mem) , B_Chance_weigh_73 p1 p2 p3 post R8 R73 R89 R149 M  → R73 M ) → (∀ (M : Mem) (x89_4 : Int32), B_Chance_weigh_89 p1 p2 p3 post R8 R73 R89 R149 M x89_4 → R89 M x89_4) → (∀ (M : Mem) (x149_4 : Int32), B_Chance_weigh_149 p1 p2 p3 post R8 R73 R89 R149 M x149_4 → R149 M x149_4) → B_Chance_weigh_i p1 p2 p3 post R8 R73 R89 R149 M
set_option maxHeartbeats 4000000 in
set_option maxRecDepth 100000 in
theorem c_Chance_weigh {Z : ZT} (hZ : IsX Z) (l : Launch) (p1 : Nat) (hp1 : Hh p1) (p2 : Int32) (p3 : Int32) (M : Mem) (post : Mem → Prop) (h : P_Chance_weigh M p1 p2 p3 post) : CtV Z l yX0_weigh cX0_weigh 6 none 6 137 [.ref (zb Z + 148), .ref (zb Z + p1), .int p2, .int p3] M post := by
  refine ctV (own := RX0) rfl (by decide) (Nat.le_of_ble_eq_true rfl) (fun X C E hr hQ => ?_)
  have s8 : ∀ (M : Mem) (x8_4 : Int32), B_Chance_weigh_8 p1 p2 p3 post (fun (M : Mem) (x8_4 : Int32) => GS Z X 8 [(0, .ref (zb Z + 148)), (1, .ref (zb Z + p1)), (2, .int p2), (3, .int p3), (4, .int x8_4)] [] M) (fun (M : Mem)  => GS Z X 73 [(0, .ref (zb Z + 148)), (1, .ref (zb Z + p1)), (2, .int p2), (3, .int p3)] [] M) (fun (M : Mem) (x89_4 : Int32) => GS Z X 89 [(0, .ref (zb Z + 148)), (2, .int p2), (3, .int p3), (4, .int x89_4)] [] M) (fun (M : Mem) (x149_4 : Int32) => GS Z X 149 [(0, .ref (zb Z + 148)), (4, .int x149_4)] [] M) M x8_4 → GS Z X 8 [(0, .ref (zb Z + 148)), (1, .ref (zb Z + p1)), (2, .int p2), (3, .int p3), (4, .int x8_4)] [] M := by
    intro M x8_4 h
    unfold B_Chance_weigh_8 at h
    refine g_iload (n := 10) C dX0_weigh_8 4 rfl rfl ?_
    refine g_bipush (n := 12) (7 : Int32) C dX0_weigh_10 (by decide) rfl ?_
    refine g_icmp_ge (n := 15) (tgt := 73) C dX0_weigh_12 (by decide) rfl (fun c => ?_) (fun c => ?_)
    · replace h := h.1 c
      exact g_sub [0, 1, 2, 3] rfl h
    · replace h := h.2 c
      refine g_iload (n := 17) C dX0_weigh_15 4 rfl rfl ?_
      refine g_aload_n (n := 18) (i := 0) C dX0_weigh_17 rfl 0 rfl rfl ?_
      refine gf_X0_25 (n := 21) C E (ox_148 hZ) dX0_weigh_18 rfl ?_
      refine gf_X0_45 (n := 24) C E (ox_4 hZ) dX0_weigh_21 rfl ?_
      refine g_icmp_ge (n := 27) (tgt := 73) C dX0_weigh_24 (by decide) rfl (fun c => ?_) (fun c => ?_)
      · replace h := h.1 c
        exact g_sub [0, 1, 2, 3] rfl h
      · replace h := h.2 c
        refine g_aload_n (n := 28) (i := 1) C dX0_weigh_27 rfl 1 rfl rfl ?_
        refine gf_X0_50 (n := 31) (p1 + 1) C E (Hh.o hZ hp1) rfl dX0_weigh_28 rfl ?_
        refine g_iload (n := 33) C dX0_weigh_31 4 rfl rfl ?_
        refine g_iald (n := 34) C E (Hh.f1 hZ hp1) h.1 dX0_weigh_33 rfl ?_
        replace h := h.2
        refine g_if_ne (n := 37) (tgt := 67) C dX0_weigh_34 (by decide) rfl (fun c => ?_) (fun c => ?_)
        · replace h := h.1 c
          refine g_iinc (n := 70) (v := (1 : Int32)) C dX0_weigh_67 4 rfl (by decide) (Nat.le_of_ble_eq_true rfl) rfl rfl (fun z3 ez3 => ?_)
          replace h := h z3 ez3
          refine g_goto (tgt := 8) C dX0_weigh_70 (by decide) ?_
          exact g_sub [1, 2, 3, 4, 0] rfl h
        · replace h := h.2 c
          refine g_aload_n (n := 38) (i := 0) C dX0_weigh_37 rfl 0 rfl rfl ?_
          refine gf_X0_15 (n := 41) C E (ox_148 hZ) dX0_weigh_38 rfl ?_
          refine g_bipush (n := 43) (7 : Int32) C dX0_weigh_41 (by decide) rfl ?_
          refine g_icmp_ge (n := 46) (tgt := 67) C dX0_weigh_43 (by decide) rfl (fun c => ?_) (fun c => ?_)
          · replace h := h.1 c
            refine g_iinc (n := 70) (v := (1 : Int32)) C dX0_weigh_67 4 rfl (by decide) (Nat.le_of_ble_eq_true rfl) rfl rfl (fun z4 ez4 => ?_)
            replace h := h z4 ez4
            refine g_goto (tgt := 8) C dX0_weigh_70 (by decide) ?_
            exact g_sub [1, 2, 3, 4, 0] rfl h
          · replace h := h.2 c
            refine g_aload_n (n := 47) (i := 0) C dX0_weigh_46 rfl 0 rfl rfl ?_
            refine gf_X0_9 (n := 50) 149 C E (ox_148 hZ) rfl dX0_weigh_47 rfl ?_
            refine g_aload_n (n := 51) (i := 0) C dX0_weigh_50 rfl 0 rfl rfl ?_
            refine gf_X0_15 (n := 54) C E (ox_148 hZ) dX0_weigh_51 rfl ?_
            refine g_iload (n := 56) C dX0_weigh_54 4 rfl rfl ?_
            refine g_iast (n := 57) C E (ox_149 hZ) h.1 dX0_weigh_56 rfl (fun M5 eM5 => ?_)
            replace h := h.2 M5 eM5
            refine g_aload_n (n := 58) (i := 0) C dX0_weigh_57 rfl 0 rfl rfl ?_
            refine g_dup (n := 59) C dX0_weigh_58 rfl rfl ?_
            refine gf_X0_15 (n := 62) C E (ox_148 hZ) dX0_weigh_59 rfl ?_
            refine g_iconst (n := 63) (1 : Int32) C dX0_weigh_62 (by decide) rfl ?_
            refine g_iadd (n := 64) C dX0_weigh_63 rfl ?_
            refine gp_X0_15 (n := 67) C E (ox_148 hZ) dX0_weigh_64 rfl (fun M6 eM6 => ?_)
            replace h := h M6 eM6
            refine g_iinc (n := 70) (v := (1 : Int32)) C dX0_weigh_67 4 rfl (by decide) (Nat.le_of_ble_eq_true rfl) rfl rfl (fun z7 ez7 => ?_)
            replace h := h z7 ez7
            refine g_goto (tgt := 8) C dX0_weigh_70 (by decide) ?_
            exact g_sub [1, 2, 3, 4, 0] rfl h
  have s73 : ∀ (M : Mem) , B_Chance_weigh_73 p1 p2 p3 post (fun (M : Mem) (x8_4 : Int32) => GS Z X 8 [(0, .ref (zb Z + 148)), (1, .ref (zb Z + p1)), (2, .int p2), (3, .int p3), (4, .int x8_4)] [] M) (fun (M : Mem)  => GS Z X 73 [(0, .ref (zb Z + 148)), (1, .ref (zb Z + p1)), (2, .int p2), (3, .int p3)] [] M) (fun (M : Mem) (x89_4 : Int32) => GS Z X 89 [(0, .ref (zb Z + 148)), (2, .int p2), (3, .int p3), (4, .int x89_4)] [] M) (fun (M : Mem) (x149_4 : Int32) => GS Z X 149 [(0, .ref (zb Z + 148)), (4, .int x149_4)] [] M) M  → GS Z X 73 [(0, .ref (zb Z + 148)), (1, .ref (zb Z + p1)), (2, .int p2), (3, .int p3)] [] M := by
    intro M  h
    unfold B_Chance_weigh_73 at h
    refine g_aload_n (n := 74) (i := 0) C dX0_weigh_73 rfl 0 rfl rfl ?_
    refine gf_X0_34 (n := 77) 150 C E (ox_148 hZ) rfl dX0_weigh_74 rfl ?_
    refine g_aload_n (n := 78) (i := 1) C dX0_weigh_77 rfl 1 rfl rfl ?_
    refine g_callNv (n := 81) (kd := 2) C E (c_House_copyFrom hZ _ 150 (by unfold Hh; decide) p1 hp1 M _ h) yi_X2_copyFrom wn_759 rfl (ox_150 hZ) (by decide) (Nat.le_of_ble_eq_true rfl) dX0_weigh_78 rfl rfl (fun M8 h => ?_)
    refine g_aload_n (n := 82) (i := 0) C dX0_weigh_81 rfl 0 rfl rfl ?_
    refine g_iconst (n := 83) (0 : Int32) C dX0_weigh_82 (by decide) rfl ?_
    refine gp_X0_19 (n := 86) C E (ox_148 hZ) dX0_weigh_83 rfl (fun M9 eM9 => ?_)
    replace h := h M9 eM9
    refine g_iconst (n := 87) (0 : Int32) C dX0_weigh_86 (by decide) rfl ?_
    refine g_istore (n := 89) (i := 4) C dX0_weigh_87 (Nat.le_of_ble_eq_true rfl) rfl rfl (fun z10 ez10 => ?_)
    replace h := h z10 ez10
    exact g_sub [1, 3, 4, 0] rfl h
  have s89 : ∀ (M : Mem) (x89_4 : Int32), B_Chance_weigh_89 p1 p2 p3 post (fun (M : Mem) (x8_4 : Int32) => GS Z X 8 [(0, .ref (zb Z + 148)), (1, .ref (zb Z + p1)), (2, .int p2), (3, .int p3), (4, .int x8_4)] [] M) (fun (M : Mem)  => GS Z X 73 [(0, .ref (zb Z + 148)), (1, .ref (zb Z + p1)), (2, .int p2), (3, .int p3)] [] M) (fun (M : Mem) (x89_4 : Int32) => GS Z X 89 [(0, .ref (zb Z + 148)), (2, .int p2), (3, .int p3), (4, .int x89_4)] [] M) (fun (M : Mem) (x149_4 : Int32) => GS Z X 149 [(0, .ref (zb Z + 148)), (4, .int x149_4)] [] M) M x89_4 → GS Z X 89 [(0, .ref (zb Z + 148)), (2, .int p2), (3, .int p3), (4, .int x89_4)] [] M := by
    intro M x89_4 h
    unfold B_Chance_weigh_89 at h
    refine g_iload (n := 91) C dX0_weigh_89 3 rfl rfl ?_
    refine g_iconst (n := 92) (1 : Int32) C dX0_weigh_91 (by decide) rfl ?_
    refine g_aload_n (n := 93) (i := 0) C dX0_weigh_92 rfl 0 rfl rfl ?_
    refine gf_X0_15 (n := 96) C E (ox_148 hZ) dX0_weigh_93 rfl ?_
    refine g_ishl (n := 97) C dX0_weigh_96 rfl ?_
    refine g_icmp_ge (n := 100) (tgt := 141) C dX0_weigh_97 (by decide) rfl (fun c => ?_) (fun c => ?_)
    · replace h := h.1 c
      refine g_aload_n (n := 142) (i := 0) C dX0_weigh_141 rfl 0 rfl rfl ?_
      refine g_iconst (n := 143) (1 : Int32) C dX0_weigh_142 (by decide) rfl ?_
      refine gp_X0_22 (n := 146) C E (ox_148 hZ) dX0_weigh_143 rfl (fun M11 eM11 => ?_)
      replace h := h M11 eM11
      refine g_iconst (n := 147) (0 : Int32) C dX0_weigh_146 (by decide) rfl ?_
      refine g_istore (n := 149) (i := 4) C dX0_weigh_147 (Nat.le_of_ble_eq_true rfl) rfl rfl (fun z12 ez12 => ?_)
      replace h := h z12 ez12
      exact g_sub [1, 0] rfl h
    · replace h := h.2 c
      refine g_aload_n (n := 101) (i := 0) C dX0_weigh_100 rfl 0 rfl rfl ?_
      refine g_iload (n := 103) C dX0_weigh_101 3 rfl rfl ?_
      refine g_iload_n (n := 104) (i := 3) C dX0_weigh_103 rfl 2 rfl rfl ?_
      refine g_callVi (n := 107) (kd := 0) C E (c_Chance_weightOf hZ _ x89_4 p3 M _ h) yi_X0_weightOf wd_760 rfl (ox_148 hZ) (by decide) (Nat.le_of_ble_eq_true rfl) dX0_weigh_104 rfl rfl (fun r14 M13 h => ?_)
      refine g_istore (n := 109) (i := 5) C dX0_weigh_107 (Nat.le_of_ble_eq_true rfl) rfl rfl (fun z15 ez15 => ?_)
      replace h := h z15 ez15
      refine g_iload (n := 111) C dX0_weigh_109 0 rfl rfl ?_
      refine g_if_le (n := 114) (tgt := 135) C dX0_weigh_111 (by decide) rfl (fun c => ?_) (fun c => ?_)
      · replace h := h.1 c
        refine g_iinc (n := 138) (v := (1 : Int32)) C dX0_weigh_135 4 rfl (by decide) (Nat.le_of_ble_eq_true rfl) rfl rfl (fun z16 ez16 => ?_)
        replace h := h z16 ez16
        refine g_goto (tgt := 89) C dX0_weigh_138 (by decide) ?_
        exact g_sub [2, 3, 4, 0] rfl h
      · replace h := h.2 c
        refine g_aload_n (n := 115) (i := 0) C dX0_weigh_114 rfl 1 rfl rfl ?_
        refine g_iload (n := 117) C dX0_weigh_115 4 rfl rfl ?_
        refine g_iload_n (n := 118) (i := 2) C dX0_weigh_117 rfl 2 rfl rfl ?_
        refine g_callVi (n := 121) (kd := 0) C E (c_Chance_isFreeWithout hZ _ x89_4 p2 M13 _ h) yi_X0_isFreeWithout wd_764 rfl (ox_148 hZ) (by decide) (Nat.le_of_ble_eq_true rfl) dX0_weigh_118 rfl rfl (fun r18 M17 h => ?_)
        refine g_if_eq (n := 124) (tgt := 135) C dX0_weigh_121 (by decide) rfl (fun c => ?_) (fun c => ?_)
        · replace h := h.1 c
          refine g_iinc (n := 138) (v := (1 : Int32)) C dX0_weigh_135 4 rfl (by decide) (Nat.le_of_ble_eq_true rfl) rfl rfl (fun z19 ez19 => ?_)
          replace h := h z19 ez19
          refine g_goto (tgt := 89) C dX0_weigh_138 (by decide) ?_
          exact g_sub [2, 3, 4, 0] rfl h
        · replace h := h.2 c
          refine g_aload_n (n := 125) (i := 0) C dX0_weigh_124 rfl 1 rfl rfl ?_
          refine g_dup (n := 126) C dX0_weigh_125 rfl rfl ?_
          refine gf_X0_19 (n := 129) C E (ox_148 hZ) dX0_weigh_126 rfl ?_
          refine g_iload (n := 131) C dX0_weigh_129 0 rfl rfl ?_
          refine g_iadd (n := 132) C dX0_weigh_131 rfl ?_
          refine gp_X0_19 (n := 135) C E (ox_148 hZ) dX0_weigh_132 rfl (fun M20 eM20 => ?_)
          replace h := h M20 eM20
          refine g_iinc (n := 138) (v := (1 : Int32)) C dX0_weigh_135 4 rfl (by decide) (Nat.le_of_ble_eq_true rfl) rfl rfl (fun z21 ez21 => ?_)
          replace h := h z21 ez21
          refine g_goto (tgt := 89) C dX0_weigh_138 (by decide) ?_
          exact g_sub [2, 3, 4, 0] rfl h
  have s149 : ∀ (M : Mem) (x149_4 : Int32), B_Chance_weigh_149 p1 p2 p3 post (fun (M : Mem) (x8_4 : Int32) => GS Z X 8 [(0, .ref (zb Z + 148)), (1, .ref (zb Z + p1)), (2, .int p2), (3, .int p3), (4, .int x8_4)] [] M) (fun (M : Mem)  => GS Z X 73 [(0, .ref (zb Z + 148)), (1, .ref (zb Z + p1)), (2, .int p2), (3, .int p3)] [] M) (fun (M : Mem) (x89_4 : Int32) => GS Z X 89 [(0, .ref (zb Z + 148)), (2, .int p2), (3, .int p3), (4, .int x89_4)] [] M) (fun (M : Mem) (x149_4 : Int32) => GS Z X 149 [(0, .ref (zb Z + 148)), (4, .int x149_4)] [] M) M x149_4 → GS Z X 149 [(0, .ref (zb Z + 148)), (4, .int x149_4)] [] M := by
    intro M x149_4 h
    unfold B_Chance_weigh_149 at h
    refine g_iload (n := 151) C dX0_weigh_149 1 rfl rfl ?_
    refine g_aload_n (n := 152) (i := 0) C dX0_weigh_151 rfl 0 rfl rfl ?_
    refine gf_X0_15 (n := 155) C E (ox_148 hZ) dX0_weigh_152 rfl ?_
    refine g_icmp_ge (n := 158) (tgt := 175) C dX0_weigh_155 (by decide) rfl (fun c => ?_) (fun c => ?_)
    · replace h := h.1 c
      refine g_aload_n (n := 176) (i := 0) C dX0_weigh_175 rfl 0 rfl rfl ?_
      refine g_callVv (n := 179) (kd := 0) C E (c_Chance_lower hZ _  M _ h) yi_X0_lower wd_770 rfl (ox_148 hZ) (by decide) (Nat.le_of_ble_eq_true rfl) dX0_weigh_176 rfl rfl (fun M22 h => ?_)
      exact g_vret C hr hQ dX0_weigh_179 h
    · replace h := h.2 c
      refine g_aload_n (n := 159) (i := 0) C dX0_weigh_158 rfl 0 rfl rfl ?_
      refine g_dup (n := 160) C dX0_weigh_159 rfl rfl ?_
      refine gf_X0_22 (n := 163) C E (ox_148 hZ) dX0_weigh_160 rfl ?_
      refine g_bipush (n := 165) (10 : Int32) C dX0_weigh_163 (by decide) rfl ?_
      refine g_imul (n := 166) C dX0_weigh_165 rfl ?_
      refine gp_X0_22 (n := 169) C E (ox_148 hZ) dX0_weigh_166 rfl (fun M23 eM23 => ?_)
      replace h := h M23 eM23
      refine g_iinc (n := 172) (v := (1 : Int32)) C dX0_weigh_169 1 rfl (by decide) (Nat.le_of_ble_eq_true rfl) rfl rfl (fun z24 ez24 => ?_)
      replace h := h z24 ez24
      refine g_goto (tgt := 149) C dX0_weigh_172 (by decide) ?_
      exact g_sub [1, 0] rfl h
  replace h := h (fun (M : Mem) (x8_4 : Int32) => GS Z X 8 [(0, .ref (zb Z + 148)), (1, .ref (zb Z + p1)), (2, .int p2), (3, .int p3), (4, .int x8_4)] [] M) (fun (M : Mem)  => GS Z X 73 [(0, .ref (zb Z + 148)), (1, .ref (zb Z + p1)), (2, .int p2), (3, .int p3)] [] M) (fun (M : Mem) (x89_4 : Int32) => GS Z X 89 [(0, .ref (zb Z + 148)), (2, .int p2), (3, .int p3), (4, .int x89_4)] [] M) (fun (M : Mem) (x149_4 : Int32) => GS Z X 149 [(0, .ref (zb Z + 148)), (4, .int x149_4)] [] M) s8 s73 s89 s149
  unfold B_Chance_weigh_i at h
  show GS Z X 0 [(0, .ref (zb Z + 148)), (1, .ref (zb Z + p1)), (2, .int p2), (3, .int p3)] [] M
  refine g_aload_n (n := 1) (i := 0) C dX0_weigh_0 rfl 0 rfl rfl ?_
  refine g_iconst (n := 2) (0 : Int32) C dX0_weigh_1 (by decide) rfl ?_
  refine gp_X0_15 (n := 5) C E (ox_148 hZ) dX0_weigh_2 rfl (fun M1 eM1 => ?_)
  replace h := h M1 eM1
  refine g_iconst (n := 6) (0 : Int32) C dX0_weigh_5 (by decide) rfl ?_
  refine g_istore (n := 8) (i := 4) C dX0_weigh_6 (Nat.le_of_ble_eq_true rfl) rfl rfl (fun z2 ez2 => ?_)
  replace h := h z2 ez2
  exact g_sub [1, 2, 3, 4, 0] rfl h
