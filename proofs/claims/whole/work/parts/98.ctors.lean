/-! words of the constructors -/
theorem we_148 : Cond.instantiable RX3 9 ∈ BIG := big_t 148 (by decide +kernel) rfl
theorem we_150 : Cond.instanceMethod yX3_init ∈ BIG := big_t 150 (by decide +kernel) rfl
theorem we_151 : Cond.code yX3_init cX3_init 2 none ∈ BIG := big_t 151 (by decide +kernel) rfl
theorem we_152 : Cond.methodLink RX3 3 Lib.objectInit ∈ BIG := big_t 152 (by decide +kernel) rfl
theorem we_211 : Cond.methodLink RX1 3 Lib.objectInit ∈ BIG := big_t 211 (by decide +kernel) rfl
theorem we_212 : Cond.classLink RX1 42 RX2 ∈ BIG := big_t 212 (by decide +kernel) rfl
theorem we_214 : Cond.classLink RX1 51 RX3 ∈ BIG := big_t 214 (by decide +kernel) rfl
theorem we_22 : Cond.instanceMethod Lib.objectInit ∈ BIG := big_t 22 (by decide +kernel) rfl
theorem we_23 : Cond.code Lib.objectInit ⟨#[0xb1]⟩ 1 none ∈ BIG := big_t 23 (by decide +kernel) rfl
theorem we_256 : Cond.methodLink RX7 3 Lib.objectInit ∈ BIG := big_t 256 (by decide +kernel) rfl
theorem we_29 : Cond.methodLink RX5 3 Lib.objectInit ∈ BIG := big_t 29 (by decide +kernel) rfl
theorem we_292 : Cond.methodLink RX0 3 Lib.objectInit ∈ BIG := big_t 292 (by decide +kernel) rfl
theorem we_293 : Cond.classLink RX0 29 RX2 ∈ BIG := big_t 293 (by decide +kernel) rfl
theorem we_295 : Cond.classLink RX0 38 RX3 ∈ BIG := big_t 295 (by decide +kernel) rfl
theorem we_41 : Cond.arrayClass .int ∈ BIG := big_t 41 (by decide +kernel) rfl
theorem we_47 : Cond.methodLink RX4 3 Lib.objectInit ∈ BIG := big_t 47 (by decide +kernel) rfl
theorem we_94 : Cond.instantiable RX2 10 ∈ BIG := big_t 94 (by decide +kernel) rfl
theorem we_96 : Cond.instanceMethod yX2_init ∈ BIG := big_t 96 (by decide +kernel) rfl
theorem we_97 : Cond.code yX2_init cX2_init 2 none ∈ BIG := big_t 97 (by decide +kernel) rfl
theorem we_98 : Cond.methodLink RX2 3 Lib.objectInit ∈ BIG := big_t 98 (by decide +kernel) rfl
theorem wn_e213 : Cond.methodLinkNest RX1 44 yX2_init "NextBellboy" ∈ NWL := nw_t 213 (by decide +kernel) rfl
theorem wn_e215 : Cond.methodLinkNest RX1 53 yX3_init "NextBellboy" ∈ NWL := nw_t 215 (by decide +kernel) rfl
theorem wn_e294 : Cond.methodLinkNest RX0 31 yX2_init "NextBellboy" ∈ NWL := nw_t 294 (by decide +kernel) rfl
theorem wn_e296 : Cond.methodLinkNest RX0 40 yX3_init "NextBellboy" ∈ NWL := nw_t 296 (by decide +kernel) rfl
theorem yn_X2_init : YN yX2_init cX2_init 2 1 := ⟨we_96, wd_4, we_97, rfl, by decide, by decide, by decide +kernel⟩
theorem yn_X3_init : YN yX3_init cX3_init 2 1 := ⟨we_150, wd_5, we_151, rfl, by decide, by decide, by decide +kernel⟩
abbrev dfX0 : List Value := [.null, .null, .null, .null, .int 0, .int 0, .int 0]
abbrev dfX1 : List Value := [.null, .null, .null, .null, .null, .null, .int 0, .int 0, .int 0, .int 0, .int 0]
abbrev dfX2 : List Value := [.null, .null, .null, .null, .null, .null, .null, .null, .int 0, .int 0]
abbrev dfX3 : List Value := [.null, .null, .null, .null, .null, .null, .int 0, .int 0, .int 0]
abbrev dfX4 : List Value := [.null, .null, .null, .null, .null, .null, .int 0, .int 0]
abbrev dfX5 : List Value := [.null, .null, .int 0]
abbrev dfX6 : List Value := [.null, .int 0]
abbrev dfX7 : List Value := [.null, .null, .null, .null, .null, .null, .int 0, .int 0, .int 0]
abbrev dfX8 : List Value := [.null, .null, .null, .null, .null, .null, .null, .null, .null, .null, .null]
abbrev dfX9 : List Value := [.null, .int 0, .int 0, .int 0, .null, .null, .null, .null, .int 0, .null, .null, .null, .int 0, .int 0, .int 0, .int 0, .null, .int 0, .null, .null, .null, .null, .null, .null]
def bScript (Z : ZT) (lo : Nat) : List va_E := [.inr (5, [.ref (lo + 1), .ref (lo + 2), .int 0]), .inl (zI Z, (200, .inl (fun _ => 0))), .inl (zI Z, (5, .inl (fun _ => 0)))]
set_option maxHeartbeats 4000000 in
set_option maxRecDepth 100000 in
theorem c_Script_init {Z : ZT} (l : Launch) (lo : Nat) : CtN Z l yX5_init cX5_init 1 1 12 2 205 [] 5 lo dfX5 (EK Z) (PG Z lo (bScript Z lo)) := by
  refine ctN (own := RX5) rfl (by decide) rfl (Nat.le_of_ble_eq_true rfl) (fun X C E hr hin2 hcm hsm hQ _ => ?_)
  show GW _ _ X 0 0 0 [(0, .ref lo)] []
  refine h_aload_n (n := 1) (i := 0) C dX5_init_0 rfl 0 rfl rfl ?_
  refine h_obj (n := 4) C we_29 we_22 we_23 (Nat.le_of_ble_eq_true rfl) (Nat.le_of_ble_eq_true rfl) dX5_init_1 rfl ?_
  refine h_aload_n (n := 5) (i := 0) C dX5_init_4 rfl 0 rfl rfl ?_
  refine h_sipush (n := 8) (200 : Int32) C dX5_init_5 (by decide) rfl ?_
  refine w_newa (n := 10) (N := 200) (d0 := 1) C E.1 we_41 (by decide) (by decide) (Nat.le_of_ble_eq_true rfl) hcm hsm (Nat.le_of_ble_eq_true rfl) (Nat.le_of_ble_eq_true rfl) rfl dX5_init_8 rfl ?_
  refine w_put (n := 13) (kd := 5) (ty := tyX5 0) 0 C E.1 rfl inB5 tyX5 tyX5_ok nmX5 (by decide) wd_30 (Or.inr ⟨rfl, hin2, rfl⟩) (tyX5_ok 0 (by decide)) rfl rfl (Nat.le_of_ble_eq_true rfl) (Nat.le_refl _) dX5_init_10 rfl ?_
  refine h_aload_n (n := 14) (i := 0) C dX5_init_13 rfl 0 rfl rfl ?_
  refine h_iconst (n := 15) (5 : Int32) C dX5_init_14 (by decide) rfl ?_
  refine w_newa (n := 17) (N := 5) (d0 := 2) C E.1 we_41 (by decide) (by decide) (Nat.le_of_ble_eq_true rfl) hcm hsm (Nat.le_of_ble_eq_true rfl) (Nat.le_of_ble_eq_true rfl) rfl dX5_init_15 rfl ?_
  refine w_put (n := 20) (kd := 5) (ty := tyX5 1) 1 C E.1 rfl inB5 tyX5 tyX5_ok nmX5 (by decide) wd_31 (Or.inr ⟨rfl, hin2, rfl⟩) (tyX5_ok 1 (by decide)) rfl rfl (Nat.le_of_ble_eq_true rfl) (Nat.le_refl _) dX5_init_17 rfl ?_
  refine h_aload_n (n := 21) (i := 0) C dX5_init_20 rfl 0 rfl rfl ?_
  refine h_iconst (n := 22) (0 : Int32) C dX5_init_21 (by decide) rfl ?_
  refine w_put (n := 25) (kd := 5) (ty := tyX5 2) 2 C E.1 rfl inB5 tyX5 tyX5_ok nmX5 (by decide) wd_32 (Or.inl rfl) (tyX5_ok 2 (by decide)) rfl rfl (Nat.le_of_ble_eq_true rfl) (Nat.le_refl _) dX5_init_22 rfl ?_
  exact w_vret C hr hQ dX5_init_25 (fun H h => h)
def bPlan (Z : ZT) (lo : Nat) : List va_E := [.inr (4, [.ref (lo + 1), .ref (lo + 2), .ref (lo + 3), .ref (lo + 4), .ref (lo + 5), .ref (lo + 6), .int 0, .int 0]), .inl (zI Z, (7, .inl (fun _ => 0))), .inl (zI Z, (7, .inl (fun _ => 0))), .inl (zI Z, (7, .inl (fun _ => 0))), .inl (zI Z, (7, .inl (fun _ => 0))), .inl (zI Z, (7, .inl (fun _ => 0))), .inl (zI Z, (7, .inl (fun _ => 0)))]
set_option maxHeartbeats 4000000 in
set_option maxRecDepth 100000 in
theorem c_Plan_init {Z : ZT} (l : Launch) (lo : Nat) : CtN Z l yX4_init cX4_init 1 1 12 6 42 [] 4 lo dfX4 (EK Z) (PG Z lo (bPlan Z lo)) := by
  refine ctN (own := RX4) rfl (by decide) rfl (Nat.le_of_ble_eq_true rfl) (fun X C E hr hin2 hcm hsm hQ _ => ?_)
  show GW _ _ X 0 0 0 [(0, .ref lo)] []
  refine h_aload_n (n := 1) (i := 0) C dX4_init_0 rfl 0 rfl rfl ?_
  refine h_obj (n := 4) C we_47 we_22 we_23 (Nat.le_of_ble_eq_true rfl) (Nat.le_of_ble_eq_true rfl) dX4_init_1 rfl ?_
  refine h_aload_n (n := 5) (i := 0) C dX4_init_4 rfl 0 rfl rfl ?_
  refine h_bipush (n := 7) (7 : Int32) C dX4_init_5 (by decide) rfl ?_
  refine w_newa (n := 9) (N := 7) (d0 := 1) C E.1 we_41 (by decide) (by decide) (Nat.le_of_ble_eq_true rfl) hcm hsm (Nat.le_of_ble_eq_true rfl) (Nat.le_of_ble_eq_true rfl) rfl dX4_init_7 rfl ?_
  refine w_put (n := 12) (kd := 4) (ty := tyX4 0) 0 C E.1 rfl inB4 tyX4 tyX4_ok nmX4 (by decide) wd_48 (Or.inr ⟨rfl, hin2, rfl⟩) (tyX4_ok 0 (by decide)) rfl rfl (Nat.le_of_ble_eq_true rfl) (Nat.le_refl _) dX4_init_9 rfl ?_
  refine h_aload_n (n := 13) (i := 0) C dX4_init_12 rfl 0 rfl rfl ?_
  refine h_bipush (n := 15) (7 : Int32) C dX4_init_13 (by decide) rfl ?_
  refine w_newa (n := 17) (N := 7) (d0 := 2) C E.1 we_41 (by decide) (by decide) (Nat.le_of_ble_eq_true rfl) hcm hsm (Nat.le_of_ble_eq_true rfl) (Nat.le_of_ble_eq_true rfl) rfl dX4_init_15 rfl ?_
  refine w_put (n := 20) (kd := 4) (ty := tyX4 1) 1 C E.1 rfl inB4 tyX4 tyX4_ok nmX4 (by decide) wd_53 (Or.inr ⟨rfl, hin2, rfl⟩) (tyX4_ok 1 (by decide)) rfl rfl (Nat.le_of_ble_eq_true rfl) (Nat.le_refl _) dX4_init_17 rfl ?_
  refine h_aload_n (n := 21) (i := 0) C dX4_init_20 rfl 0 rfl rfl ?_
  refine h_bipush (n := 23) (7 : Int32) C dX4_init_21 (by decide) rfl ?_
  refine w_newa (n := 25) (N := 7) (d0 := 3) C E.1 we_41 (by decide) (by decide) (Nat.le_of_ble_eq_true rfl) hcm hsm (Nat.le_of_ble_eq_true rfl) (Nat.le_of_ble_eq_true rfl) rfl dX4_init_23 rfl ?_
  refine w_put (n := 28) (kd := 4) (ty := tyX4 2) 2 C E.1 rfl inB4 tyX4 tyX4_ok nmX4 (by decide) wd_55 (Or.inr ⟨rfl, hin2, rfl⟩) (tyX4_ok 2 (by decide)) rfl rfl (Nat.le_of_ble_eq_true rfl) (Nat.le_refl _) dX4_init_25 rfl ?_
  refine h_aload_n (n := 29) (i := 0) C dX4_init_28 rfl 0 rfl rfl ?_
  refine h_bipush (n := 31) (7 : Int32) C dX4_init_29 (by decide) rfl ?_
  refine w_newa (n := 33) (N := 7) (d0 := 4) C E.1 we_41 (by decide) (by decide) (Nat.le_of_ble_eq_true rfl) hcm hsm (Nat.le_of_ble_eq_true rfl) (Nat.le_of_ble_eq_true rfl) rfl dX4_init_31 rfl ?_
  refine w_put (n := 36) (kd := 4) (ty := tyX4 3) 3 C E.1 rfl inB4 tyX4 tyX4_ok nmX4 (by decide) wd_58 (Or.inr ⟨rfl, hin2, rfl⟩) (tyX4_ok 3 (by decide)) rfl rfl (Nat.le_of_ble_eq_true rfl) (Nat.le_refl _) dX4_init_33 rfl ?_
  refine h_aload_n (n := 37) (i := 0) C dX4_init_36 rfl 0 rfl rfl ?_
  refine h_bipush (n := 39) (7 : Int32) C dX4_init_37 (by decide) rfl ?_
  refine w_newa (n := 41) (N := 7) (d0 := 5) C E.1 we_41 (by decide) (by decide) (Nat.le_of_ble_eq_true rfl) hcm hsm (Nat.le_of_ble_eq_true rfl) (Nat.le_of_ble_eq_true rfl) rfl dX4_init_39 rfl ?_
  refine w_put (n := 44) (kd := 4) (ty := tyX4 4) 4 C E.1 rfl inB4 tyX4 tyX4_ok nmX4 (by decide) wd_62 (Or.inr ⟨rfl, hin2, rfl⟩) (tyX4_ok 4 (by decide)) rfl rfl (Nat.le_of_ble_eq_true rfl) (Nat.le_refl _) dX4_init_41 rfl ?_
  refine h_aload_n (n := 45) (i := 0) C dX4_init_44 rfl 0 rfl rfl ?_
  refine h_bipush (n := 47) (7 : Int32) C dX4_init_45 (by decide) rfl ?_
  refine w_newa (n := 49) (N := 7) (d0 := 6) C E.1 we_41 (by decide) (by decide) (Nat.le_of_ble_eq_true rfl) hcm hsm (Nat.le_of_ble_eq_true rfl) (Nat.le_of_ble_eq_true rfl) rfl dX4_init_47 rfl ?_
  refine w_put (n := 52) (kd := 4) (ty := tyX4 5) 5 C E.1 rfl inB4 tyX4 tyX4_ok nmX4 (by decide) wd_66 (Or.inr ⟨rfl, hin2, rfl⟩) (tyX4_ok 5 (by decide)) rfl rfl (Nat.le_of_ble_eq_true rfl) (Nat.le_refl _) dX4_init_49 rfl ?_
  refine h_aload_n (n := 53) (i := 0) C dX4_init_52 rfl 0 rfl rfl ?_
  refine h_iconst (n := 54) (0 : Int32) C dX4_init_53 (by decide) rfl ?_
  refine w_put (n := 57) (kd := 4) (ty := tyX4 6) 6 C E.1 rfl inB4 tyX4 tyX4_ok nmX4 (by decide) wd_68 (Or.inl rfl) (tyX4_ok 6 (by decide)) rfl rfl (Nat.le_of_ble_eq_true rfl) (Nat.le_refl _) dX4_init_54 rfl ?_
  refine h_aload_n (n := 58) (i := 0) C dX4_init_57 rfl 0 rfl rfl ?_
  refine h_iconst (n := 59) (0 : Int32) C dX4_init_58 (by decide) rfl ?_
  refine w_put (n := 62) (kd := 4) (ty := tyX4 7) 7 C E.1 rfl inB4 tyX4 tyX4_ok nmX4 (by decide) wd_75 (Or.inl rfl) (tyX4_ok 7 (by decide)) rfl rfl (Nat.le_of_ble_eq_true rfl) (Nat.le_refl _) dX4_init_59 rfl ?_
  exact w_vret C hr hQ dX4_init_62 (fun H h => h)
def bHouse (Z : ZT) (lo p : Nat) : List va_E := [.inr (2, [.ref p, .ref (lo + 1), .ref (lo + 2), .ref (lo + 3), .ref (lo + 4), .ref (lo + 5), .ref (lo + 6), .ref (lo + 7), .int (-4), .int 0]), .inl (zI Z, (7, .inl (fun _ => 0))), .inl (zI Z, (7, .inl (fun _ => 0))), .inl (zI Z, (7, .inl (fun _ => 0))), .inl (zI Z, (7, .inl (fun _ => 0))), .inl (zI Z, (7, .inl (fun _ => 0))), .inl (zI Z, (7, .inl (fun _ => 0))), .inl (zI Z, (7, .inl (fun _ => 0)))]
set_option maxHeartbeats 4000000 in
set_option maxRecDepth 100000 in
theorem c_House_init {Z : ZT} (l : Launch) (lo p : Nat) : CtN Z l yX2_init cX2_init 2 1 12 7 49 [.ref p] 2 lo dfX2 (EK Z) (PG Z lo (bHouse Z lo p)) := by
  refine ctN (own := RX2) rfl (by decide) rfl (Nat.le_of_ble_eq_true rfl) (fun X C E hr hin2 hcm hsm hQ _ => ?_)
  show GW _ _ X 0 0 0 [(0, .ref lo), (1, .ref p)] []
  refine h_aload_n (n := 1) (i := 0) C dX2_init_0 rfl 0 rfl rfl ?_
  refine h_obj (n := 4) C we_98 we_22 we_23 (Nat.le_of_ble_eq_true rfl) (Nat.le_of_ble_eq_true rfl) dX2_init_1 rfl ?_
  refine h_aload_n (n := 5) (i := 0) C dX2_init_4 rfl 0 rfl rfl ?_
  refine h_bipush (n := 7) (7 : Int32) C dX2_init_5 (by decide) rfl ?_
  refine w_newa (n := 9) (N := 7) (d0 := 1) C E.1 we_41 (by decide) (by decide) (Nat.le_of_ble_eq_true rfl) hcm hsm (Nat.le_of_ble_eq_true rfl) (Nat.le_of_ble_eq_true rfl) rfl dX2_init_7 rfl ?_
  refine w_put (n := 12) (kd := 2) (ty := tyX2 1) 1 C E.1 rfl inB2 tyX2 tyX2_ok nmX2 (by decide) wd_100 (Or.inr ⟨rfl, hin2, rfl⟩) (tyX2_ok 1 (by decide)) rfl rfl (Nat.le_of_ble_eq_true rfl) (Nat.le_refl _) dX2_init_9 rfl ?_
  refine h_aload_n (n := 13) (i := 0) C dX2_init_12 rfl 0 rfl rfl ?_
  refine h_bipush (n := 15) (7 : Int32) C dX2_init_13 (by decide) rfl ?_
  refine w_newa (n := 17) (N := 7) (d0 := 2) C E.1 we_41 (by decide) (by decide) (Nat.le_of_ble_eq_true rfl) hcm hsm (Nat.le_of_ble_eq_true rfl) (Nat.le_of_ble_eq_true rfl) rfl dX2_init_15 rfl ?_
  refine w_put (n := 20) (kd := 2) (ty := tyX2 2) 2 C E.1 rfl inB2 tyX2 tyX2_ok nmX2 (by decide) wd_105 (Or.inr ⟨rfl, hin2, rfl⟩) (tyX2_ok 2 (by decide)) rfl rfl (Nat.le_of_ble_eq_true rfl) (Nat.le_refl _) dX2_init_17 rfl ?_
  refine h_aload_n (n := 21) (i := 0) C dX2_init_20 rfl 0 rfl rfl ?_
  refine h_bipush (n := 23) (7 : Int32) C dX2_init_21 (by decide) rfl ?_
  refine w_newa (n := 25) (N := 7) (d0 := 3) C E.1 we_41 (by decide) (by decide) (Nat.le_of_ble_eq_true rfl) hcm hsm (Nat.le_of_ble_eq_true rfl) (Nat.le_of_ble_eq_true rfl) rfl dX2_init_23 rfl ?_
  refine w_put (n := 28) (kd := 2) (ty := tyX2 3) 3 C E.1 rfl inB2 tyX2 tyX2_ok nmX2 (by decide) wd_108 (Or.inr ⟨rfl, hin2, rfl⟩) (tyX2_ok 3 (by decide)) rfl rfl (Nat.le_of_ble_eq_true rfl) (Nat.le_refl _) dX2_init_25 rfl ?_
  refine h_aload_n (n := 29) (i := 0) C dX2_init_28 rfl 0 rfl rfl ?_
  refine h_bipush (n := 31) (7 : Int32) C dX2_init_29 (by decide) rfl ?_
  refine w_newa (n := 33) (N := 7) (d0 := 4) C E.1 we_41 (by decide) (by decide) (Nat.le_of_ble_eq_true rfl) hcm hsm (Nat.le_of_ble_eq_true rfl) (Nat.le_of_ble_eq_true rfl) rfl dX2_init_31 rfl ?_
  refine w_put (n := 36) (kd := 2) (ty := tyX2 4) 4 C E.1 rfl inB2 tyX2 tyX2_ok nmX2 (by decide) wd_111 (Or.inr ⟨rfl, hin2, rfl⟩) (tyX2_ok 4 (by decide)) rfl rfl (Nat.le_of_ble_eq_true rfl) (Nat.le_refl _) dX2_init_33 rfl ?_
  refine h_aload_n (n := 37) (i := 0) C dX2_init_36 rfl 0 rfl rfl ?_
  refine h_bipush (n := 39) (7 : Int32) C dX2_init_37 (by decide) rfl ?_
  refine w_newa (n := 41) (N := 7) (d0 := 5) C E.1 we_41 (by decide) (by decide) (Nat.le_of_ble_eq_true rfl) hcm hsm (Nat.le_of_ble_eq_true rfl) (Nat.le_of_ble_eq_true rfl) rfl dX2_init_39 rfl ?_
  refine w_put (n := 44) (kd := 2) (ty := tyX2 5) 5 C E.1 rfl inB2 tyX2 tyX2_ok nmX2 (by decide) wd_114 (Or.inr ⟨rfl, hin2, rfl⟩) (tyX2_ok 5 (by decide)) rfl rfl (Nat.le_of_ble_eq_true rfl) (Nat.le_refl _) dX2_init_41 rfl ?_
  refine h_aload_n (n := 45) (i := 0) C dX2_init_44 rfl 0 rfl rfl ?_
  refine h_bipush (n := 47) (7 : Int32) C dX2_init_45 (by decide) rfl ?_
  refine w_newa (n := 49) (N := 7) (d0 := 6) C E.1 we_41 (by decide) (by decide) (Nat.le_of_ble_eq_true rfl) hcm hsm (Nat.le_of_ble_eq_true rfl) (Nat.le_of_ble_eq_true rfl) rfl dX2_init_47 rfl ?_
  refine w_put (n := 52) (kd := 2) (ty := tyX2 6) 6 C E.1 rfl inB2 tyX2 tyX2_ok nmX2 (by decide) wd_116 (Or.inr ⟨rfl, hin2, rfl⟩) (tyX2_ok 6 (by decide)) rfl rfl (Nat.le_of_ble_eq_true rfl) (Nat.le_refl _) dX2_init_49 rfl ?_
  refine h_aload_n (n := 53) (i := 0) C dX2_init_52 rfl 0 rfl rfl ?_
  refine h_bipush (n := 55) (7 : Int32) C dX2_init_53 (by decide) rfl ?_
  refine w_newa (n := 57) (N := 7) (d0 := 7) C E.1 we_41 (by decide) (by decide) (Nat.le_of_ble_eq_true rfl) hcm hsm (Nat.le_of_ble_eq_true rfl) (Nat.le_of_ble_eq_true rfl) rfl dX2_init_55 rfl ?_
  refine w_put (n := 60) (kd := 2) (ty := tyX2 7) 7 C E.1 rfl inB2 tyX2 tyX2_ok nmX2 (by decide) wd_118 (Or.inr ⟨rfl, hin2, rfl⟩) (tyX2_ok 7 (by decide)) rfl rfl (Nat.le_of_ble_eq_true rfl) (Nat.le_refl _) dX2_init_57 rfl ?_
  refine h_aload_n (n := 61) (i := 0) C dX2_init_60 rfl 0 rfl rfl ?_
  refine h_bipush (n := 63) (-4 : Int32) C dX2_init_61 (by decide) rfl ?_
  refine w_put (n := 66) (kd := 2) (ty := tyX2 8) 8 C E.1 rfl inB2 tyX2 tyX2_ok nmX2 (by decide) wd_120 (Or.inl rfl) (tyX2_ok 8 (by decide)) rfl rfl (Nat.le_of_ble_eq_true rfl) (Nat.le_refl _) dX2_init_63 rfl ?_
  refine h_aload_n (n := 67) (i := 0) C dX2_init_66 rfl 0 rfl rfl ?_
  refine h_iconst (n := 68) (0 : Int32) C dX2_init_67 (by decide) rfl ?_
  refine w_put (n := 71) (kd := 2) (ty := tyX2 9) 9 C E.1 rfl inB2 tyX2 tyX2_ok nmX2 (by decide) wd_123 (Or.inl rfl) (tyX2_ok 9 (by decide)) rfl rfl (Nat.le_of_ble_eq_true rfl) (Nat.le_refl _) dX2_init_68 rfl ?_
  refine h_aload_n (n := 72) (i := 0) C dX2_init_71 rfl 0 rfl rfl ?_
  refine h_aload_n (n := 73) (i := 1) C dX2_init_72 rfl 1 rfl rfl ?_
  refine w_put (n := 76) (kd := 2) (ty := tyX2 0) 0 C E.1 rfl inB2 tyX2 tyX2_ok nmX2 (by decide) wd_99 (Or.inr ⟨rfl, hin2, rfl⟩) (tyX2_ok 0 (by decide)) rfl rfl (Nat.le_of_ble_eq_true rfl) (Nat.le_refl _) dX2_init_73 rfl ?_
  exact w_vret C hr hQ dX2_init_76 (fun H h => h)
def bOutlook (Z : ZT) (lo p : Nat) : List va_E := [.inr (3, [.ref p, .ref (lo + 1), .ref (lo + 2), .ref (lo + 3), .ref (lo + 4), .ref (lo + 5), .int 0, .int (-4), .int 0]), .inl (zI Z, (7, .inl (fun _ => 0))), .inl (zI Z, (7, .inl (fun _ => 0))), .inl (zI Z, (7, .inl (fun _ => 0))), .inl (zI Z, (7, .inl (fun _ => 0))), .inl (zI Z, (7, .inl (fun _ => 0)))]
set_option maxHeartbeats 4000000 in
set_option maxRecDepth 100000 in
theorem c_Outlook_init {Z : ZT} (l : Launch) (lo p : Nat) : CtN Z l yX3_init cX3_init 2 1 12 5 35 [.ref p] 3 lo dfX3 (EK Z) (PG Z lo (bOutlook Z lo p)) := by
  refine ctN (own := RX3) rfl (by decide) rfl (Nat.le_of_ble_eq_true rfl) (fun X C E hr hin2 hcm hsm hQ _ => ?_)
  show GW _ _ X 0 0 0 [(0, .ref lo), (1, .ref p)] []
  refine h_aload_n (n := 1) (i := 0) C dX3_init_0 rfl 0 rfl rfl ?_
  refine h_obj (n := 4) C we_152 we_22 we_23 (Nat.le_of_ble_eq_true rfl) (Nat.le_of_ble_eq_true rfl) dX3_init_1 rfl ?_
  refine h_aload_n (n := 5) (i := 0) C dX3_init_4 rfl 0 rfl rfl ?_
  refine h_bipush (n := 7) (7 : Int32) C dX3_init_5 (by decide) rfl ?_
  refine w_newa (n := 9) (N := 7) (d0 := 1) C E.1 we_41 (by decide) (by decide) (Nat.le_of_ble_eq_true rfl) hcm hsm (Nat.le_of_ble_eq_true rfl) (Nat.le_of_ble_eq_true rfl) rfl dX3_init_7 rfl ?_
  refine w_put (n := 12) (kd := 3) (ty := tyX3 1) 1 C E.1 rfl inB3 tyX3 tyX3_ok nmX3 (by decide) wd_154 (Or.inr ⟨rfl, hin2, rfl⟩) (tyX3_ok 1 (by decide)) rfl rfl (Nat.le_of_ble_eq_true rfl) (Nat.le_refl _) dX3_init_9 rfl ?_
  refine h_aload_n (n := 13) (i := 0) C dX3_init_12 rfl 0 rfl rfl ?_
  refine h_bipush (n := 15) (7 : Int32) C dX3_init_13 (by decide) rfl ?_
  refine w_newa (n := 17) (N := 7) (d0 := 2) C E.1 we_41 (by decide) (by decide) (Nat.le_of_ble_eq_true rfl) hcm hsm (Nat.le_of_ble_eq_true rfl) (Nat.le_of_ble_eq_true rfl) rfl dX3_init_15 rfl ?_
  refine w_put (n := 20) (kd := 3) (ty := tyX3 2) 2 C E.1 rfl inB3 tyX3 tyX3_ok nmX3 (by decide) wd_155 (Or.inr ⟨rfl, hin2, rfl⟩) (tyX3_ok 2 (by decide)) rfl rfl (Nat.le_of_ble_eq_true rfl) (Nat.le_refl _) dX3_init_17 rfl ?_
  refine h_aload_n (n := 21) (i := 0) C dX3_init_20 rfl 0 rfl rfl ?_
  refine h_bipush (n := 23) (7 : Int32) C dX3_init_21 (by decide) rfl ?_
  refine w_newa (n := 25) (N := 7) (d0 := 3) C E.1 we_41 (by decide) (by decide) (Nat.le_of_ble_eq_true rfl) hcm hsm (Nat.le_of_ble_eq_true rfl) (Nat.le_of_ble_eq_true rfl) rfl dX3_init_23 rfl ?_
  refine w_put (n := 28) (kd := 3) (ty := tyX3 3) 3 C E.1 rfl inB3 tyX3 tyX3_ok nmX3 (by decide) wd_156 (Or.inr ⟨rfl, hin2, rfl⟩) (tyX3_ok 3 (by decide)) rfl rfl (Nat.le_of_ble_eq_true rfl) (Nat.le_refl _) dX3_init_25 rfl ?_
  refine h_aload_n (n := 29) (i := 0) C dX3_init_28 rfl 0 rfl rfl ?_
  refine h_bipush (n := 31) (7 : Int32) C dX3_init_29 (by decide) rfl ?_
  refine w_newa (n := 33) (N := 7) (d0 := 4) C E.1 we_41 (by decide) (by decide) (Nat.le_of_ble_eq_true rfl) hcm hsm (Nat.le_of_ble_eq_true rfl) (Nat.le_of_ble_eq_true rfl) rfl dX3_init_31 rfl ?_
  refine w_put (n := 36) (kd := 3) (ty := tyX3 4) 4 C E.1 rfl inB3 tyX3 tyX3_ok nmX3 (by decide) wd_157 (Or.inr ⟨rfl, hin2, rfl⟩) (tyX3_ok 4 (by decide)) rfl rfl (Nat.le_of_ble_eq_true rfl) (Nat.le_refl _) dX3_init_33 rfl ?_
  refine h_aload_n (n := 37) (i := 0) C dX3_init_36 rfl 0 rfl rfl ?_
  refine h_bipush (n := 39) (7 : Int32) C dX3_init_37 (by decide) rfl ?_
  refine w_newa (n := 41) (N := 7) (d0 := 5) C E.1 we_41 (by decide) (by decide) (Nat.le_of_ble_eq_true rfl) hcm hsm (Nat.le_of_ble_eq_true rfl) (Nat.le_of_ble_eq_true rfl) rfl dX3_init_39 rfl ?_
  refine w_put (n := 44) (kd := 3) (ty := tyX3 5) 5 C E.1 rfl inB3 tyX3 tyX3_ok nmX3 (by decide) wd_160 (Or.inr ⟨rfl, hin2, rfl⟩) (tyX3_ok 5 (by decide)) rfl rfl (Nat.le_of_ble_eq_true rfl) (Nat.le_refl _) dX3_init_41 rfl ?_
  refine h_aload_n (n := 45) (i := 0) C dX3_init_44 rfl 0 rfl rfl ?_
  refine h_iconst (n := 46) (0 : Int32) C dX3_init_45 (by decide) rfl ?_
  refine w_put (n := 49) (kd := 3) (ty := tyX3 6) 6 C E.1 rfl inB3 tyX3 tyX3_ok nmX3 (by decide) wd_162 (Or.inl rfl) (tyX3_ok 6 (by decide)) rfl rfl (Nat.le_of_ble_eq_true rfl) (Nat.le_refl _) dX3_init_46 rfl ?_
  refine h_aload_n (n := 50) (i := 0) C dX3_init_49 rfl 0 rfl rfl ?_
  refine h_bipush (n := 52) (-4 : Int32) C dX3_init_50 (by decide) rfl ?_
  refine w_put (n := 55) (kd := 3) (ty := tyX3 7) 7 C E.1 rfl inB3 tyX3 tyX3_ok nmX3 (by decide) wd_163 (Or.inl rfl) (tyX3_ok 7 (by decide)) rfl rfl (Nat.le_of_ble_eq_true rfl) (Nat.le_refl _) dX3_init_52 rfl ?_
  refine h_aload_n (n := 56) (i := 0) C dX3_init_55 rfl 0 rfl rfl ?_
  refine h_iconst (n := 57) (0 : Int32) C dX3_init_56 (by decide) rfl ?_
  refine w_put (n := 60) (kd := 3) (ty := tyX3 8) 8 C E.1 rfl inB3 tyX3 tyX3_ok nmX3 (by decide) wd_164 (Or.inl rfl) (tyX3_ok 8 (by decide)) rfl rfl (Nat.le_of_ble_eq_true rfl) (Nat.le_refl _) dX3_init_57 rfl ?_
  refine h_aload_n (n := 61) (i := 0) C dX3_init_60 rfl 0 rfl rfl ?_
  refine h_aload_n (n := 62) (i := 1) C dX3_init_61 rfl 1 rfl rfl ?_
  refine w_put (n := 65) (kd := 3) (ty := tyX3 0) 0 C E.1 rfl inB3 tyX3 tyX3_ok nmX3 (by decide) wd_153 (Or.inr ⟨rfl, hin2, rfl⟩) (tyX3_ok 0 (by decide)) rfl rfl (Nat.le_of_ble_eq_true rfl) (Nat.le_refl _) dX3_init_62 rfl ?_
  exact w_vret C hr hQ dX3_init_65 (fun H h => h)
def bSightings (Z : ZT) (lo p : Nat) : List va_E := [.inr (7, [.ref p, .ref (lo + 1), .ref (lo + 2), .ref (lo + 3), .ref (lo + 4), .ref (lo + 5), .int 0, .int 0, .int 1]), .inl (zI Z, (7, .inl (fun _ => 0))), .inl (zI Z, (7, .inl (fun _ => 0))), .inl (zI Z, (7, .inl (fun _ => 0))), .inl (zI Z, (7, .inl (fun _ => 0))), .inl (zI Z, (7, .inl (fun _ => 0)))]
set_option maxHeartbeats 4000000 in
set_option maxRecDepth 100000 in
theorem c_Sightings_init {Z : ZT} (l : Launch) (lo p : Nat) : CtN Z l yX7_init cX7_init 2 1 12 5 35 [.ref p] 7 lo dfX7 (EK Z) (PG Z lo (bSightings Z lo p)) := by
  refine ctN (own := RX7) rfl (by decide) rfl (Nat.le_of_ble_eq_true rfl) (fun X C E hr hin2 hcm hsm hQ _ => ?_)
  show GW _ _ X 0 0 0 [(0, .ref lo), (1, .ref p)] []
  refine h_aload_n (n := 1) (i := 0) C dX7_init_0 rfl 0 rfl rfl ?_
  refine h_obj (n := 4) C we_256 we_22 we_23 (Nat.le_of_ble_eq_true rfl) (Nat.le_of_ble_eq_true rfl) dX7_init_1 rfl ?_
  refine h_aload_n (n := 5) (i := 0) C dX7_init_4 rfl 0 rfl rfl ?_
  refine h_bipush (n := 7) (7 : Int32) C dX7_init_5 (by decide) rfl ?_
  refine w_newa (n := 9) (N := 7) (d0 := 1) C E.1 we_41 (by decide) (by decide) (Nat.le_of_ble_eq_true rfl) hcm hsm (Nat.le_of_ble_eq_true rfl) (Nat.le_of_ble_eq_true rfl) rfl dX7_init_7 rfl ?_
  refine w_put (n := 12) (kd := 7) (ty := tyX7 1) 1 C E.1 rfl inB7 tyX7 tyX7_ok nmX7 (by decide) wd_258 (Or.inr ⟨rfl, hin2, rfl⟩) (tyX7_ok 1 (by decide)) rfl rfl (Nat.le_of_ble_eq_true rfl) (Nat.le_refl _) dX7_init_9 rfl ?_
  refine h_aload_n (n := 13) (i := 0) C dX7_init_12 rfl 0 rfl rfl ?_
  refine h_bipush (n := 15) (7 : Int32) C dX7_init_13 (by decide) rfl ?_
  refine w_newa (n := 17) (N := 7) (d0 := 2) C E.1 we_41 (by decide) (by decide) (Nat.le_of_ble_eq_true rfl) hcm hsm (Nat.le_of_ble_eq_true rfl) (Nat.le_of_ble_eq_true rfl) rfl dX7_init_15 rfl ?_
  refine w_put (n := 20) (kd := 7) (ty := tyX7 2) 2 C E.1 rfl inB7 tyX7 tyX7_ok nmX7 (by decide) wd_259 (Or.inr ⟨rfl, hin2, rfl⟩) (tyX7_ok 2 (by decide)) rfl rfl (Nat.le_of_ble_eq_true rfl) (Nat.le_refl _) dX7_init_17 rfl ?_
  refine h_aload_n (n := 21) (i := 0) C dX7_init_20 rfl 0 rfl rfl ?_
  refine h_bipush (n := 23) (7 : Int32) C dX7_init_21 (by decide) rfl ?_
  refine w_newa (n := 25) (N := 7) (d0 := 3) C E.1 we_41 (by decide) (by decide) (Nat.le_of_ble_eq_true rfl) hcm hsm (Nat.le_of_ble_eq_true rfl) (Nat.le_of_ble_eq_true rfl) rfl dX7_init_23 rfl ?_
  refine w_put (n := 28) (kd := 7) (ty := tyX7 3) 3 C E.1 rfl inB7 tyX7 tyX7_ok nmX7 (by decide) wd_260 (Or.inr ⟨rfl, hin2, rfl⟩) (tyX7_ok 3 (by decide)) rfl rfl (Nat.le_of_ble_eq_true rfl) (Nat.le_refl _) dX7_init_25 rfl ?_
  refine h_aload_n (n := 29) (i := 0) C dX7_init_28 rfl 0 rfl rfl ?_
  refine h_bipush (n := 31) (7 : Int32) C dX7_init_29 (by decide) rfl ?_
  refine w_newa (n := 33) (N := 7) (d0 := 4) C E.1 we_41 (by decide) (by decide) (Nat.le_of_ble_eq_true rfl) hcm hsm (Nat.le_of_ble_eq_true rfl) (Nat.le_of_ble_eq_true rfl) rfl dX7_init_31 rfl ?_
  refine w_put (n := 36) (kd := 7) (ty := tyX7 4) 4 C E.1 rfl inB7 tyX7 tyX7_ok nmX7 (by decide) wd_261 (Or.inr ⟨rfl, hin2, rfl⟩) (tyX7_ok 4 (by decide)) rfl rfl (Nat.le_of_ble_eq_true rfl) (Nat.le_refl _) dX7_init_33 rfl ?_
  refine h_aload_n (n := 37) (i := 0) C dX7_init_36 rfl 0 rfl rfl ?_
  refine h_bipush (n := 39) (7 : Int32) C dX7_init_37 (by decide) rfl ?_
  refine w_newa (n := 41) (N := 7) (d0 := 5) C E.1 we_41 (by decide) (by decide) (Nat.le_of_ble_eq_true rfl) hcm hsm (Nat.le_of_ble_eq_true rfl) (Nat.le_of_ble_eq_true rfl) rfl dX7_init_39 rfl ?_
  refine w_put (n := 44) (kd := 7) (ty := tyX7 5) 5 C E.1 rfl inB7 tyX7 tyX7_ok nmX7 (by decide) wd_262 (Or.inr ⟨rfl, hin2, rfl⟩) (tyX7_ok 5 (by decide)) rfl rfl (Nat.le_of_ble_eq_true rfl) (Nat.le_refl _) dX7_init_41 rfl ?_
  refine h_aload_n (n := 45) (i := 0) C dX7_init_44 rfl 0 rfl rfl ?_
  refine h_iconst (n := 46) (0 : Int32) C dX7_init_45 (by decide) rfl ?_
  refine w_put (n := 49) (kd := 7) (ty := tyX7 6) 6 C E.1 rfl inB7 tyX7 tyX7_ok nmX7 (by decide) wd_263 (Or.inl rfl) (tyX7_ok 6 (by decide)) rfl rfl (Nat.le_of_ble_eq_true rfl) (Nat.le_refl _) dX7_init_46 rfl ?_
  refine h_aload_n (n := 50) (i := 0) C dX7_init_49 rfl 0 rfl rfl ?_
  refine h_iconst (n := 51) (0 : Int32) C dX7_init_50 (by decide) rfl ?_
  refine w_put (n := 54) (kd := 7) (ty := tyX7 7) 7 C E.1 rfl inB7 tyX7 tyX7_ok nmX7 (by decide) wd_265 (Or.inl rfl) (tyX7_ok 7 (by decide)) rfl rfl (Nat.le_of_ble_eq_true rfl) (Nat.le_refl _) dX7_init_51 rfl ?_
  refine h_aload_n (n := 55) (i := 0) C dX7_init_54 rfl 0 rfl rfl ?_
  refine h_iconst (n := 56) (1 : Int32) C dX7_init_55 (by decide) rfl ?_
  refine w_put (n := 59) (kd := 7) (ty := tyX7 8) 8 C E.1 rfl inB7 tyX7 tyX7_ok nmX7 (by decide) wd_267 (Or.inl rfl) (tyX7_ok 8 (by decide)) rfl rfl (Nat.le_of_ble_eq_true rfl) (Nat.le_refl _) dX7_init_56 rfl ?_
  refine h_aload_n (n := 60) (i := 0) C dX7_init_59 rfl 0 rfl rfl ?_
  refine h_aload_n (n := 61) (i := 1) C dX7_init_60 rfl 1 rfl rfl ?_
  refine w_put (n := 64) (kd := 7) (ty := tyX7 0) 0 C E.1 rfl inB7 tyX7 tyX7_ok nmX7 (by decide) wd_257 (Or.inr ⟨rfl, hin2, rfl⟩) (tyX7_ok 0 (by decide)) rfl rfl (Nat.le_of_ble_eq_true rfl) (Nat.le_refl _) dX7_init_61 rfl ?_
  exact w_vret C hr hQ dX7_init_64 (fun H h => h)
def bDealing (Z : ZT) (lo p : Nat) : List va_E := .inr (1, [.ref p, .ref (lo + 4), .ref (lo + 12), .ref (lo + 1), .ref (lo + 2), .ref (lo + 3), .int 0, .int 0, .int 0, .int 0, .int 1]) :: ([.inl (zI Z, (7, .inl (fun _ => 0))), .inl (zI Z, (7, .inl (fun _ => 0))), .inl (zI Z, (7, .inl (fun _ => 0)))] ++ bHouse Z (lo + 4) p ++ bOutlook Z (lo + 12) p)
set_option maxHeartbeats 4000000 in
set_option maxRecDepth 100000 in
theorem c_Dealing_init {Z : ZT} (l : Launch) (lo p : Nat) : CtN Z l yX1_init cX1_init 2 2 33 17 124 [.ref p] 1 lo dfX1 (EK Z) (PG Z lo (bDealing Z lo p)) := by
  refine ctN (own := RX1) rfl (by decide) rfl (Nat.le_of_ble_eq_true rfl) (fun X C E hr hin2 hcm hsm hQ _ => ?_)
  show GW _ _ X 0 0 0 [(0, .ref lo), (1, .ref p)] []
  refine h_aload_n (n := 1) (i := 0) C dX1_init_0 rfl 0 rfl rfl ?_
  refine h_obj (n := 4) C we_211 we_22 we_23 (Nat.le_of_ble_eq_true rfl) (Nat.le_of_ble_eq_true rfl) dX1_init_1 rfl ?_
  refine h_aload_n (n := 5) (i := 0) C dX1_init_4 rfl 0 rfl rfl ?_
  refine h_bipush (n := 7) (7 : Int32) C dX1_init_5 (by decide) rfl ?_
  refine w_newa (n := 9) (N := 7) (d0 := 1) C E.1 we_41 (by decide) (by decide) (Nat.le_of_ble_eq_true rfl) hcm hsm (Nat.le_of_ble_eq_true rfl) (Nat.le_of_ble_eq_true rfl) rfl dX1_init_7 rfl ?_
  refine w_put (n := 12) (kd := 1) (ty := tyX1 3) 3 C E.1 rfl inB1 tyX1 tyX1_ok nmX1 (by decide) wd_219 (Or.inr ⟨rfl, hin2, rfl⟩) (tyX1_ok 3 (by decide)) rfl rfl (Nat.le_of_ble_eq_true rfl) (Nat.le_refl _) dX1_init_9 rfl ?_
  refine h_aload_n (n := 13) (i := 0) C dX1_init_12 rfl 0 rfl rfl ?_
  refine h_bipush (n := 15) (7 : Int32) C dX1_init_13 (by decide) rfl ?_
  refine w_newa (n := 17) (N := 7) (d0 := 2) C E.1 we_41 (by decide) (by decide) (Nat.le_of_ble_eq_true rfl) hcm hsm (Nat.le_of_ble_eq_true rfl) (Nat.le_of_ble_eq_true rfl) rfl dX1_init_15 rfl ?_
  refine w_put (n := 20) (kd := 1) (ty := tyX1 4) 4 C E.1 rfl inB1 tyX1 tyX1_ok nmX1 (by decide) wd_220 (Or.inr ⟨rfl, hin2, rfl⟩) (tyX1_ok 4 (by decide)) rfl rfl (Nat.le_of_ble_eq_true rfl) (Nat.le_refl _) dX1_init_17 rfl ?_
  refine h_aload_n (n := 21) (i := 0) C dX1_init_20 rfl 0 rfl rfl ?_
  refine h_bipush (n := 23) (7 : Int32) C dX1_init_21 (by decide) rfl ?_
  refine w_newa (n := 25) (N := 7) (d0 := 3) C E.1 we_41 (by decide) (by decide) (Nat.le_of_ble_eq_true rfl) hcm hsm (Nat.le_of_ble_eq_true rfl) (Nat.le_of_ble_eq_true rfl) rfl dX1_init_23 rfl ?_
  refine w_put (n := 28) (kd := 1) (ty := tyX1 5) 5 C E.1 rfl inB1 tyX1 tyX1_ok nmX1 (by decide) wd_221 (Or.inr ⟨rfl, hin2, rfl⟩) (tyX1_ok 5 (by decide)) rfl rfl (Nat.le_of_ble_eq_true rfl) (Nat.le_refl _) dX1_init_25 rfl ?_
  refine h_aload_n (n := 29) (i := 0) C dX1_init_28 rfl 0 rfl rfl ?_
  refine h_iconst (n := 30) (0 : Int32) C dX1_init_29 (by decide) rfl ?_
  refine w_put (n := 33) (kd := 1) (ty := tyX1 6) 6 C E.1 rfl inB1 tyX1 tyX1_ok nmX1 (by decide) wd_222 (Or.inl rfl) (tyX1_ok 6 (by decide)) rfl rfl (Nat.le_of_ble_eq_true rfl) (Nat.le_refl _) dX1_init_30 rfl ?_
  refine h_aload_n (n := 34) (i := 0) C dX1_init_33 rfl 0 rfl rfl ?_
  refine h_iconst (n := 35) (0 : Int32) C dX1_init_34 (by decide) rfl ?_
  refine w_put (n := 38) (kd := 1) (ty := tyX1 7) 7 C E.1 rfl inB1 tyX1 tyX1_ok nmX1 (by decide) wd_223 (Or.inl rfl) (tyX1_ok 7 (by decide)) rfl rfl (Nat.le_of_ble_eq_true rfl) (Nat.le_refl _) dX1_init_35 rfl ?_
  refine h_aload_n (n := 39) (i := 0) C dX1_init_38 rfl 0 rfl rfl ?_
  refine h_iconst (n := 40) (0 : Int32) C dX1_init_39 (by decide) rfl ?_
  refine w_put (n := 43) (kd := 1) (ty := tyX1 8) 8 C E.1 rfl inB1 tyX1 tyX1_ok nmX1 (by decide) wd_224 (Or.inl rfl) (tyX1_ok 8 (by decide)) rfl rfl (Nat.le_of_ble_eq_true rfl) (Nat.le_refl _) dX1_init_40 rfl ?_
  refine h_aload_n (n := 44) (i := 0) C dX1_init_43 rfl 0 rfl rfl ?_
  refine h_iconst (n := 45) (0 : Int32) C dX1_init_44 (by decide) rfl ?_
  refine w_put (n := 48) (kd := 1) (ty := tyX1 9) 9 C E.1 rfl inB1 tyX1 tyX1_ok nmX1 (by decide) wd_225 (Or.inl rfl) (tyX1_ok 9 (by decide)) rfl rfl (Nat.le_of_ble_eq_true rfl) (Nat.le_refl _) dX1_init_45 rfl ?_
  refine h_aload_n (n := 49) (i := 0) C dX1_init_48 rfl 0 rfl rfl ?_
  refine h_iconst (n := 50) (1 : Int32) C dX1_init_49 (by decide) rfl ?_
  refine w_put (n := 53) (kd := 1) (ty := tyX1 10) 10 C E.1 rfl inB1 tyX1 tyX1_ok nmX1 (by decide) wd_227 (Or.inl rfl) (tyX1_ok 10 (by decide)) rfl rfl (Nat.le_of_ble_eq_true rfl) (Nat.le_refl _) dX1_init_50 rfl ?_
  refine h_aload_n (n := 54) (i := 0) C dX1_init_53 rfl 0 rfl rfl ?_
  refine h_aload_n (n := 55) (i := 1) C dX1_init_54 rfl 1 rfl rfl ?_
  refine w_put (n := 58) (kd := 1) (ty := tyX1 0) 0 C E.1 rfl inB1 tyX1 tyX1_ok nmX1 (by decide) wd_216 (Or.inr ⟨rfl, hin2, rfl⟩) (tyX1_ok 0 (by decide)) rfl rfl (Nat.le_of_ble_eq_true rfl) (Nat.le_refl _) dX1_init_55 rfl ?_
  refine h_aload_n (n := 59) (i := 0) C dX1_init_58 rfl 0 rfl rfl ?_
  refine w_new (n := 62) (kd := 2) (d0 := 4) dfX2 C E.1 rfl inB2 tyX2 tyX2_ok we_212 we_94 wd_4 (fun j hj => by rcases (show j = 0 ∨ j = 1 ∨ j = 2 ∨ j = 3 ∨ j = 4 ∨ j = 5 ∨ j = 6 ∨ j = 7 ∨ j = 8 ∨ j = 9 by omega) with rfl | rfl | rfl | rfl | rfl | rfl | rfl | rfl | rfl | rfl <;> rfl) hcm hsm (Nat.le_of_ble_eq_true rfl) (Nat.le_of_ble_eq_true rfl) rfl dX1_init_59 rfl ?_
  refine h_dup (n := 63) C dX1_init_62 rfl rfl ?_
  refine h_aload_n (n := 64) (i := 1) C dX1_init_63 rfl 1 rfl rfl ?_
  refine w_callN (n := 67) (d0 := 4) (As := [.ref p]) (L1 := bHouse Z (lo + 4) p) C E (c_House_init _ (lo + 4) p) yn_X2_init wn_e213 ⟨(Nat.le_of_ble_eq_true rfl), (Nat.le_of_ble_eq_true rfl)⟩ (Nat.le_of_ble_eq_true rfl) hcm hsm (Nat.le_of_ble_eq_true rfl) (Nat.le_of_ble_eq_true rfl) rfl dX1_init_64 rfl rfl ?_
  refine w_put (n := 70) (kd := 1) (ty := tyX1 1) 1 C E.1 rfl inB1 tyX1 tyX1_ok nmX1 (by decide) wd_217 (Or.inr ⟨rfl, hin2, rfl⟩) (tyX1_ok 1 (by decide)) rfl rfl (Nat.le_of_ble_eq_true rfl) (Nat.le_refl _) dX1_init_67 rfl ?_
  refine h_aload_n (n := 71) (i := 0) C dX1_init_70 rfl 0 rfl rfl ?_
  refine w_new (n := 74) (kd := 3) (d0 := 12) dfX3 C E.1 rfl inB3 tyX3 tyX3_ok we_214 we_148 wd_5 (fun j hj => by rcases (show j = 0 ∨ j = 1 ∨ j = 2 ∨ j = 3 ∨ j = 4 ∨ j = 5 ∨ j = 6 ∨ j = 7 ∨ j = 8 by omega) with rfl | rfl | rfl | rfl | rfl | rfl | rfl | rfl | rfl <;> rfl) hcm hsm (Nat.le_of_ble_eq_true rfl) (Nat.le_of_ble_eq_true rfl) rfl dX1_init_71 rfl ?_
  refine h_dup (n := 75) C dX1_init_74 rfl rfl ?_
  refine h_aload_n (n := 76) (i := 1) C dX1_init_75 rfl 1 rfl rfl ?_
  refine w_callN (n := 79) (d0 := 12) (As := [.ref p]) (L1 := bOutlook Z (lo + 12) p) C E (c_Outlook_init _ (lo + 12) p) yn_X3_init wn_e215 ⟨(Nat.le_of_ble_eq_true rfl), (Nat.le_of_ble_eq_true rfl)⟩ (Nat.le_of_ble_eq_true rfl) hcm hsm (Nat.le_of_ble_eq_true rfl) (Nat.le_of_ble_eq_true rfl) rfl dX1_init_76 rfl rfl ?_
  refine w_put (n := 82) (kd := 1) (ty := tyX1 2) 2 C E.1 rfl inB1 tyX1 tyX1_ok nmX1 (by decide) wd_218 (Or.inr ⟨rfl, hin2, rfl⟩) (tyX1_ok 2 (by decide)) rfl rfl (Nat.le_of_ble_eq_true rfl) (Nat.le_refl _) dX1_init_79 rfl ?_
  exact w_vret C hr hQ dX1_init_82 (fun H h => h)
def bChance (Z : ZT) (lo p : Nat) : List va_E := .inr (0, [.ref p, .ref (lo + 2), .ref (lo + 10), .ref (lo + 1), .int 0, .int 0, .int 1]) :: ([.inl (zI Z, (7, .inl (fun _ => 0)))] ++ bHouse Z (lo + 2) p ++ bOutlook Z (lo + 10) p)
set_option maxHeartbeats 4000000 in
set_option maxRecDepth 100000 in
theorem c_Chance_init {Z : ZT} (l : Launch) (lo p : Nat) : CtN Z l yX0_init cX0_init 2 2 33 15 110 [.ref p] 0 lo dfX0 (EK Z) (PG Z lo (bChance Z lo p)) := by
  refine ctN (own := RX0) rfl (by decide) rfl (Nat.le_of_ble_eq_true rfl) (fun X C E hr hin2 hcm hsm hQ _ => ?_)
  show GW _ _ X 0 0 0 [(0, .ref lo), (1, .ref p)] []
  refine h_aload_n (n := 1) (i := 0) C dX0_init_0 rfl 0 rfl rfl ?_
  refine h_obj (n := 4) C we_292 we_22 we_23 (Nat.le_of_ble_eq_true rfl) (Nat.le_of_ble_eq_true rfl) dX0_init_1 rfl ?_
  refine h_aload_n (n := 5) (i := 0) C dX0_init_4 rfl 0 rfl rfl ?_
  refine h_bipush (n := 7) (7 : Int32) C dX0_init_5 (by decide) rfl ?_
  refine w_newa (n := 9) (N := 7) (d0 := 1) C E.1 we_41 (by decide) (by decide) (Nat.le_of_ble_eq_true rfl) hcm hsm (Nat.le_of_ble_eq_true rfl) (Nat.le_of_ble_eq_true rfl) rfl dX0_init_7 rfl ?_
  refine w_put (n := 12) (kd := 0) (ty := tyX0 3) 3 C E.1 rfl inB0 tyX0 tyX0_ok nmX0 (by decide) wd_300 (Or.inr ⟨rfl, hin2, rfl⟩) (tyX0_ok 3 (by decide)) rfl rfl (Nat.le_of_ble_eq_true rfl) (Nat.le_refl _) dX0_init_9 rfl ?_
  refine h_aload_n (n := 13) (i := 0) C dX0_init_12 rfl 0 rfl rfl ?_
  refine h_iconst (n := 14) (0 : Int32) C dX0_init_13 (by decide) rfl ?_
  refine w_put (n := 17) (kd := 0) (ty := tyX0 4) 4 C E.1 rfl inB0 tyX0 tyX0_ok nmX0 (by decide) wd_301 (Or.inl rfl) (tyX0_ok 4 (by decide)) rfl rfl (Nat.le_of_ble_eq_true rfl) (Nat.le_refl _) dX0_init_14 rfl ?_
  refine h_aload_n (n := 18) (i := 0) C dX0_init_17 rfl 0 rfl rfl ?_
  refine h_iconst (n := 19) (0 : Int32) C dX0_init_18 (by decide) rfl ?_
  refine w_put (n := 22) (kd := 0) (ty := tyX0 5) 5 C E.1 rfl inB0 tyX0 tyX0_ok nmX0 (by decide) wd_302 (Or.inl rfl) (tyX0_ok 5 (by decide)) rfl rfl (Nat.le_of_ble_eq_true rfl) (Nat.le_refl _) dX0_init_19 rfl ?_
  refine h_aload_n (n := 23) (i := 0) C dX0_init_22 rfl 0 rfl rfl ?_
  refine h_iconst (n := 24) (1 : Int32) C dX0_init_23 (by decide) rfl ?_
  refine w_put (n := 27) (kd := 0) (ty := tyX0 6) 6 C E.1 rfl inB0 tyX0 tyX0_ok nmX0 (by decide) wd_304 (Or.inl rfl) (tyX0_ok 6 (by decide)) rfl rfl (Nat.le_of_ble_eq_true rfl) (Nat.le_refl _) dX0_init_24 rfl ?_
  refine h_aload_n (n := 28) (i := 0) C dX0_init_27 rfl 0 rfl rfl ?_
  refine h_aload_n (n := 29) (i := 1) C dX0_init_28 rfl 1 rfl rfl ?_
  refine w_put (n := 32) (kd := 0) (ty := tyX0 0) 0 C E.1 rfl inB0 tyX0 tyX0_ok nmX0 (by decide) wd_297 (Or.inr ⟨rfl, hin2, rfl⟩) (tyX0_ok 0 (by decide)) rfl rfl (Nat.le_of_ble_eq_true rfl) (Nat.le_refl _) dX0_init_29 rfl ?_
  refine h_aload_n (n := 33) (i := 0) C dX0_init_32 rfl 0 rfl rfl ?_
  refine w_new (n := 36) (kd := 2) (d0 := 2) dfX2 C E.1 rfl inB2 tyX2 tyX2_ok we_293 we_94 wd_4 (fun j hj => by rcases (show j = 0 ∨ j = 1 ∨ j = 2 ∨ j = 3 ∨ j = 4 ∨ j = 5 ∨ j = 6 ∨ j = 7 ∨ j = 8 ∨ j = 9 by omega) with rfl | rfl | rfl | rfl | rfl | rfl | rfl | rfl | rfl | rfl <;> rfl) hcm hsm (Nat.le_of_ble_eq_true rfl) (Nat.le_of_ble_eq_true rfl) rfl dX0_init_33 rfl ?_
  refine h_dup (n := 37) C dX0_init_36 rfl rfl ?_
  refine h_aload_n (n := 38) (i := 1) C dX0_init_37 rfl 1 rfl rfl ?_
  refine w_callN (n := 41) (d0 := 2) (As := [.ref p]) (L1 := bHouse Z (lo + 2) p) C E (c_House_init _ (lo + 2) p) yn_X2_init wn_e294 ⟨(Nat.le_of_ble_eq_true rfl), (Nat.le_of_ble_eq_true rfl)⟩ (Nat.le_of_ble_eq_true rfl) hcm hsm (Nat.le_of_ble_eq_true rfl) (Nat.le_of_ble_eq_true rfl) rfl dX0_init_38 rfl rfl ?_
  refine w_put (n := 44) (kd := 0) (ty := tyX0 1) 1 C E.1 rfl inB0 tyX0 tyX0_ok nmX0 (by decide) wd_298 (Or.inr ⟨rfl, hin2, rfl⟩) (tyX0_ok 1 (by decide)) rfl rfl (Nat.le_of_ble_eq_true rfl) (Nat.le_refl _) dX0_init_41 rfl ?_
  refine h_aload_n (n := 45) (i := 0) C dX0_init_44 rfl 0 rfl rfl ?_
  refine w_new (n := 48) (kd := 3) (d0 := 10) dfX3 C E.1 rfl inB3 tyX3 tyX3_ok we_295 we_148 wd_5 (fun j hj => by rcases (show j = 0 ∨ j = 1 ∨ j = 2 ∨ j = 3 ∨ j = 4 ∨ j = 5 ∨ j = 6 ∨ j = 7 ∨ j = 8 by omega) with rfl | rfl | rfl | rfl | rfl | rfl | rfl | rfl | rfl <;> rfl) hcm hsm (Nat.le_of_ble_eq_true rfl) (Nat.le_of_ble_eq_true rfl) rfl dX0_init_45 rfl ?_
  refine h_dup (n := 49) C dX0_init_48 rfl rfl ?_
  refine h_aload_n (n := 50) (i := 1) C dX0_init_49 rfl 1 rfl rfl ?_
  refine w_callN (n := 53) (d0 := 10) (As := [.ref p]) (L1 := bOutlook Z (lo + 10) p) C E (c_Outlook_init _ (lo + 10) p) yn_X3_init wn_e296 ⟨(Nat.le_of_ble_eq_true rfl), (Nat.le_of_ble_eq_true rfl)⟩ (Nat.le_of_ble_eq_true rfl) hcm hsm (Nat.le_of_ble_eq_true rfl) (Nat.le_of_ble_eq_true rfl) rfl dX0_init_50 rfl rfl ?_
  refine w_put (n := 56) (kd := 0) (ty := tyX0 2) 2 C E.1 rfl inB0 tyX0 tyX0_ok nmX0 (by decide) wd_299 (Or.inr ⟨rfl, hin2, rfl⟩) (tyX0_ok 2 (by decide)) rfl rfl (Nat.le_of_ble_eq_true rfl) (Nat.le_refl _) dX0_init_53 rfl ?_
  exact w_vret C hr hQ dX0_init_56 (fun H h => h)
