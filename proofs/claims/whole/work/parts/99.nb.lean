theorem we_147 : Cond.classLink RX8 38 RX3 ∈ BIG := big_t 147 (by decide +kernel) rfl
theorem we_186 : Cond.classLink RX8 45 RX6 ∈ BIG := big_t 186 (by decide +kernel) rfl
theorem we_187 : Cond.instantiable RX6 2 ∈ BIG := big_t 187 (by decide +kernel) rfl
theorem we_206 : Cond.classLink RX8 57 RX1 ∈ BIG := big_t 206 (by decide +kernel) rfl
theorem we_207 : Cond.instantiable RX1 11 ∈ BIG := big_t 207 (by decide +kernel) rfl
theorem we_209 : Cond.instanceMethod yX1_init ∈ BIG := big_t 209 (by decide +kernel) rfl
theorem we_21 : Cond.methodLink RX8 1 Lib.objectInit ∈ BIG := big_t 21 (by decide +kernel) rfl
theorem we_210 : Cond.code yX1_init cX1_init 2 none ∈ BIG := big_t 210 (by decide +kernel) rfl
theorem we_24 : Cond.classLink RX8 7 RX5 ∈ BIG := big_t 24 (by decide +kernel) rfl
theorem we_25 : Cond.instantiable RX5 3 ∈ BIG := big_t 25 (by decide +kernel) rfl
theorem we_251 : Cond.classLink RX8 64 RX7 ∈ BIG := big_t 251 (by decide +kernel) rfl
theorem we_252 : Cond.instantiable RX7 9 ∈ BIG := big_t 252 (by decide +kernel) rfl
theorem we_254 : Cond.instanceMethod yX7_init ∈ BIG := big_t 254 (by decide +kernel) rfl
theorem we_255 : Cond.code yX7_init cX7_init 2 none ∈ BIG := big_t 255 (by decide +kernel) rfl
theorem we_27 : Cond.instanceMethod yX5_init ∈ BIG := big_t 27 (by decide +kernel) rfl
theorem we_28 : Cond.code yX5_init cX5_init 1 none ∈ BIG := big_t 28 (by decide +kernel) rfl
theorem we_287 : Cond.classLink RX8 71 RX0 ∈ BIG := big_t 287 (by decide +kernel) rfl
theorem we_288 : Cond.instantiable RX0 7 ∈ BIG := big_t 288 (by decide +kernel) rfl
theorem we_290 : Cond.instanceMethod yX0_init ∈ BIG := big_t 290 (by decide +kernel) rfl
theorem we_291 : Cond.code yX0_init cX0_init 2 none ∈ BIG := big_t 291 (by decide +kernel) rfl
theorem we_42 : Cond.classLink RX8 16 RX4 ∈ BIG := big_t 42 (by decide +kernel) rfl
theorem we_43 : Cond.instantiable RX4 8 ∈ BIG := big_t 43 (by decide +kernel) rfl
theorem we_45 : Cond.instanceMethod yX4_init ∈ BIG := big_t 45 (by decide +kernel) rfl
theorem we_46 : Cond.code yX4_init cX4_init 1 none ∈ BIG := big_t 46 (by decide +kernel) rfl
theorem we_93 : Cond.classLink RX8 26 RX2 ∈ BIG := big_t 93 (by decide +kernel) rfl
theorem wn_e149 : Cond.methodLinkNest RX8 40 yX3_init "NextBellboy" ∈ NWL := nw_t 149 (by decide +kernel) rfl
theorem wn_e188 : Cond.methodLinkNest RX8 47 yX6_init "NextBellboy" ∈ NWL := nw_t 188 (by decide +kernel) rfl
theorem wn_e208 : Cond.methodLinkNest RX8 59 yX1_init "NextBellboy" ∈ NWL := nw_t 208 (by decide +kernel) rfl
theorem wn_e253 : Cond.methodLinkNest RX8 66 yX7_init "NextBellboy" ∈ NWL := nw_t 253 (by decide +kernel) rfl
theorem wn_e26 : Cond.methodLinkNest RX8 9 yX5_init "NextBellboy" ∈ NWL := nw_t 26 (by decide +kernel) rfl
theorem wn_e289 : Cond.methodLinkNest RX8 73 yX0_init "NextBellboy" ∈ NWL := nw_t 289 (by decide +kernel) rfl
theorem wn_e44 : Cond.methodLinkNest RX8 18 yX4_init "NextBellboy" ∈ NWL := nw_t 44 (by decide +kernel) rfl
theorem wn_e95 : Cond.methodLinkNest RX8 28 yX2_init "NextBellboy" ∈ NWL := nw_t 95 (by decide +kernel) rfl
theorem yn_X5_init : YN yX5_init cX5_init 1 0 := ⟨we_27, wd_2, we_28, rfl, by decide, by decide, by decide +kernel⟩
theorem yn_X4_init : YN yX4_init cX4_init 1 0 := ⟨we_45, wd_3, we_46, rfl, by decide, by decide, by decide +kernel⟩
theorem yn_X1_init : YN yX1_init cX1_init 2 1 := ⟨we_209, wd_8, we_210, rfl, by decide, by decide, by decide +kernel⟩
theorem yn_X7_init : YN yX7_init cX7_init 2 1 := ⟨we_254, wd_9, we_255, rfl, by decide, by decide, by decide +kernel⟩
theorem yn_X0_init : YN yX0_init cX0_init 2 1 := ⟨we_290, wd_10, we_291, rfl, by decide, by decide, by decide +kernel⟩
/-- the first memory -/
def M0 (k : Nat) : Nat → Int32 :=
  if layX k = 2 then (fun i => if i = 8 then (-4) else 0) else if layX k = 3 then (fun i => if i = 7 then (-4) else 0) else if layX k = 1 then (fun i => if i = 10 then 1 else 0) else if layX k = 7 then (fun i => if i = 8 then 1 else 0) else if layX k = 0 then (fun i => if i = 6 then 1 else 0) else if layX k = 2008 then (fun i => nI (42 + 8 * i)) else if layX k = 2002 then (fun i => nI (108 + 8 * i)) else (fun _ => 0)
def gR (lo k : Nat) (j : Nat) : Option Nat := some (lo + (M0 k j).toNatClampNeg)
theorem gR8 (lo : Nat) : ∀ j, j < 8 → gR lo 41 j = some (lo + 40 + (2 + 8 * j)) := fun j hj => by
  show some (lo + (nI (42 + 8 * j)).toNatClampNeg) = _
  rw [nI_clamp (by omega)]
  congr 1
  omega
theorem gR2 (lo : Nat) : ∀ j, j < 2 → gR lo 107 j = some (lo + 106 + (2 + 8 * j)) := fun j hj => by
  show some (lo + (nI (108 + 8 * j)).toNatClampNeg) = _
  rw [nI_clamp (by omega)]
  congr 1
  omega
def bNB (Z : ZT) (lo : Nat) : List va_E := .inr (8, [.ref (lo + 1), .ref (lo + 4), .ref (lo + 11), .ref (lo + 18), .ref (lo + 26), .ref (lo + 34), .ref (lo + 40), .ref (lo + 106), .ref (lo + 124), .ref (lo + 142), .ref (lo + 148)]) :: ([] ++ bScript Z (lo + 1) ++ bPlan Z (lo + 4) ++ bPlan Z (lo + 11) ++ bHouse Z (lo + 18) (lo + 4) ++ bHouse Z (lo + 26) (lo + 4) ++ bOutlook Z (lo + 34) (lo + 4) ++ bShelf8 Z (lo + 40) (lo + 4) (gR lo 41) ++ bShelf2 Z (lo + 106) (lo + 4) (gR lo 107) ++ bDealing Z (lo + 124) (lo + 4) ++ bSightings Z (lo + 142) (lo + 4) ++ bChance Z (lo + 148) (lo + 4))
set_option maxHeartbeats 4000000 in
set_option maxRecDepth 100000 in
theorem nb_world {Z : ZT} (hZ : IsX Z) {H : Heap} (hp : PG Z (zb Z) (bNB Z (zb Z)) H) : Wd Z M0 H := by
  refine Wd_of hp ?_
  unfold cellE
  rw [hZ.1, hZ.2]
  rfl
set_option maxHeartbeats 8000000 in
set_option maxRecDepth 100000 in
theorem nb_straight {Z : ZT} {X : XT} {lo : Nat} (C : CX X cX8_init RX8 2 6 137) (E : EK Z (xs X)) (hin2 : (xt X).name = "<init>") (hcm : (xR X).cells = 163) (hsm : (xR X).slots = 1370) (k : GW (PG Z lo (bNB Z lo)) (fun q => lo ≤ q) X 163 1370 160 [(0, .ref lo)] []) : GW (PG Z lo [.inr (8, dfX8)]) (fun q => lo ≤ q) X 0 0 0 [(0, .ref lo)] [] := by
  refine h_aload_n (n := 1) (i := 0) C dX8_init_0 rfl 0 rfl rfl ?_
  refine h_obj (n := 4) C we_21 we_22 we_23 (Nat.le_of_ble_eq_true rfl) (Nat.le_of_ble_eq_true rfl) dX8_init_1 rfl ?_
  refine h_aload_n (n := 5) (i := 0) C dX8_init_4 rfl 0 rfl rfl ?_
  refine w_new (n := 8) (kd := 5) (d0 := 1) dfX5 C E.1 rfl inB5 tyX5 tyX5_ok we_24 we_25 wd_2 (fun j hj => by rcases (show j = 0 ∨ j = 1 ∨ j = 2 by omega) with rfl | rfl | rfl <;> rfl) hcm hsm (Nat.le_of_ble_eq_true rfl) (Nat.le_of_ble_eq_true rfl) rfl dX8_init_5 rfl ?_
  refine h_dup (n := 9) C dX8_init_8 rfl rfl ?_
  refine w_callN (n := 12) (d0 := 1) (As := []) (L1 := bScript Z (lo + 1)) C E (c_Script_init _ (lo + 1)) yn_X5_init wn_e26 ⟨(Nat.le_of_ble_eq_true rfl), (Nat.le_of_ble_eq_true rfl)⟩ (Nat.le_of_ble_eq_true rfl) hcm hsm (Nat.le_of_ble_eq_true rfl) (Nat.le_of_ble_eq_true rfl) rfl dX8_init_9 rfl rfl ?_
  refine w_put (n := 15) (kd := 8) (ty := tyX8 0) 0 C E.1 rfl inB8 tyX8 tyX8_ok nmX8 (by decide) wd_445 (Or.inr ⟨rfl, hin2, rfl⟩) (tyX8_ok 0 (by decide)) rfl rfl (Nat.le_of_ble_eq_true rfl) (Nat.le_refl _) dX8_init_12 rfl ?_
  refine h_aload_n (n := 16) (i := 0) C dX8_init_15 rfl 0 rfl rfl ?_
  refine w_new (n := 19) (kd := 4) (d0 := 4) dfX4 C E.1 rfl inB4 tyX4 tyX4_ok we_42 we_43 wd_3 (fun j hj => by rcases (show j = 0 ∨ j = 1 ∨ j = 2 ∨ j = 3 ∨ j = 4 ∨ j = 5 ∨ j = 6 ∨ j = 7 by omega) with rfl | rfl | rfl | rfl | rfl | rfl | rfl | rfl <;> rfl) hcm hsm (Nat.le_of_ble_eq_true rfl) (Nat.le_of_ble_eq_true rfl) rfl dX8_init_16 rfl ?_
  refine h_dup (n := 20) C dX8_init_19 rfl rfl ?_
  refine w_callN (n := 23) (d0 := 4) (As := []) (L1 := bPlan Z (lo + 4)) C E (c_Plan_init _ (lo + 4)) yn_X4_init wn_e44 ⟨(Nat.le_of_ble_eq_true rfl), (Nat.le_of_ble_eq_true rfl)⟩ (Nat.le_of_ble_eq_true rfl) hcm hsm (Nat.le_of_ble_eq_true rfl) (Nat.le_of_ble_eq_true rfl) rfl dX8_init_20 rfl rfl ?_
  refine w_put (n := 26) (kd := 8) (ty := tyX8 1) 1 C E.1 rfl inB8 tyX8 tyX8_ok nmX8 (by decide) wd_446 (Or.inr ⟨rfl, hin2, rfl⟩) (tyX8_ok 1 (by decide)) rfl rfl (Nat.le_of_ble_eq_true rfl) (Nat.le_refl _) dX8_init_23 rfl ?_
  refine h_aload_n (n := 27) (i := 0) C dX8_init_26 rfl 0 rfl rfl ?_
  refine w_new (n := 30) (kd := 4) (d0 := 11) dfX4 C E.1 rfl inB4 tyX4 tyX4_ok we_42 we_43 wd_3 (fun j hj => by rcases (show j = 0 ∨ j = 1 ∨ j = 2 ∨ j = 3 ∨ j = 4 ∨ j = 5 ∨ j = 6 ∨ j = 7 by omega) with rfl | rfl | rfl | rfl | rfl | rfl | rfl | rfl <;> rfl) hcm hsm (Nat.le_of_ble_eq_true rfl) (Nat.le_of_ble_eq_true rfl) rfl dX8_init_27 rfl ?_
  refine h_dup (n := 31) C dX8_init_30 rfl rfl ?_
  refine w_callN (n := 34) (d0 := 11) (As := []) (L1 := bPlan Z (lo + 11)) C E (c_Plan_init _ (lo + 11)) yn_X4_init wn_e44 ⟨(Nat.le_of_ble_eq_true rfl), (Nat.le_of_ble_eq_true rfl)⟩ (Nat.le_of_ble_eq_true rfl) hcm hsm (Nat.le_of_ble_eq_true rfl) (Nat.le_of_ble_eq_true rfl) rfl dX8_init_31 rfl rfl ?_
  refine w_put (n := 37) (kd := 8) (ty := tyX8 2) 2 C E.1 rfl inB8 tyX8 tyX8_ok nmX8 (by decide) wd_447 (Or.inr ⟨rfl, hin2, rfl⟩) (tyX8_ok 2 (by decide)) rfl rfl (Nat.le_of_ble_eq_true rfl) (Nat.le_refl _) dX8_init_34 rfl ?_
  refine h_aload_n (n := 38) (i := 0) C dX8_init_37 rfl 0 rfl rfl ?_
  refine w_new (n := 41) (kd := 2) (d0 := 18) dfX2 C E.1 rfl inB2 tyX2 tyX2_ok we_93 we_94 wd_4 (fun j hj => by rcases (show j = 0 ∨ j = 1 ∨ j = 2 ∨ j = 3 ∨ j = 4 ∨ j = 5 ∨ j = 6 ∨ j = 7 ∨ j = 8 ∨ j = 9 by omega) with rfl | rfl | rfl | rfl | rfl | rfl | rfl | rfl | rfl | rfl <;> rfl) hcm hsm (Nat.le_of_ble_eq_true rfl) (Nat.le_of_ble_eq_true rfl) rfl dX8_init_38 rfl ?_
  refine h_dup (n := 42) C dX8_init_41 rfl rfl ?_
  refine h_aload_n (n := 43) (i := 0) C dX8_init_42 rfl 0 rfl rfl ?_
  refine w_get (n := 46) (kd := 8) (v := .ref (lo + 4)) 1 C E.1 rfl inB8 (by decide) wd_446 rfl dX8_init_43 rfl ?_
  refine w_callN (n := 49) (d0 := 18) (As := [.ref (lo + 4)]) (L1 := bHouse Z (lo + 18) (lo + 4)) C E (c_House_init _ (lo + 18) (lo + 4)) yn_X2_init wn_e95 ⟨(Nat.le_of_ble_eq_true rfl), (Nat.le_of_ble_eq_true rfl)⟩ (Nat.le_of_ble_eq_true rfl) hcm hsm (Nat.le_of_ble_eq_true rfl) (Nat.le_of_ble_eq_true rfl) rfl dX8_init_46 rfl rfl ?_
  refine w_put (n := 52) (kd := 8) (ty := tyX8 3) 3 C E.1 rfl inB8 tyX8 tyX8_ok nmX8 (by decide) wd_448 (Or.inr ⟨rfl, hin2, rfl⟩) (tyX8_ok 3 (by decide)) rfl rfl (Nat.le_of_ble_eq_true rfl) (Nat.le_refl _) dX8_init_49 rfl ?_
  refine h_aload_n (n := 53) (i := 0) C dX8_init_52 rfl 0 rfl rfl ?_
  refine w_new (n := 56) (kd := 2) (d0 := 26) dfX2 C E.1 rfl inB2 tyX2 tyX2_ok we_93 we_94 wd_4 (fun j hj => by rcases (show j = 0 ∨ j = 1 ∨ j = 2 ∨ j = 3 ∨ j = 4 ∨ j = 5 ∨ j = 6 ∨ j = 7 ∨ j = 8 ∨ j = 9 by omega) with rfl | rfl | rfl | rfl | rfl | rfl | rfl | rfl | rfl | rfl <;> rfl) hcm hsm (Nat.le_of_ble_eq_true rfl) (Nat.le_of_ble_eq_true rfl) rfl dX8_init_53 rfl ?_
  refine h_dup (n := 57) C dX8_init_56 rfl rfl ?_
  refine h_aload_n (n := 58) (i := 0) C dX8_init_57 rfl 0 rfl rfl ?_
  refine w_get (n := 61) (kd := 8) (v := .ref (lo + 4)) 1 C E.1 rfl inB8 (by decide) wd_446 rfl dX8_init_58 rfl ?_
  refine w_callN (n := 64) (d0 := 26) (As := [.ref (lo + 4)]) (L1 := bHouse Z (lo + 26) (lo + 4)) C E (c_House_init _ (lo + 26) (lo + 4)) yn_X2_init wn_e95 ⟨(Nat.le_of_ble_eq_true rfl), (Nat.le_of_ble_eq_true rfl)⟩ (Nat.le_of_ble_eq_true rfl) hcm hsm (Nat.le_of_ble_eq_true rfl) (Nat.le_of_ble_eq_true rfl) rfl dX8_init_61 rfl rfl ?_
  refine w_put (n := 67) (kd := 8) (ty := tyX8 4) 4 C E.1 rfl inB8 tyX8 tyX8_ok nmX8 (by decide) wd_449 (Or.inr ⟨rfl, hin2, rfl⟩) (tyX8_ok 4 (by decide)) rfl rfl (Nat.le_of_ble_eq_true rfl) (Nat.le_refl _) dX8_init_64 rfl ?_
  refine h_aload_n (n := 68) (i := 0) C dX8_init_67 rfl 0 rfl rfl ?_
  refine w_new (n := 71) (kd := 3) (d0 := 34) dfX3 C E.1 rfl inB3 tyX3 tyX3_ok we_147 we_148 wd_5 (fun j hj => by rcases (show j = 0 ∨ j = 1 ∨ j = 2 ∨ j = 3 ∨ j = 4 ∨ j = 5 ∨ j = 6 ∨ j = 7 ∨ j = 8 by omega) with rfl | rfl | rfl | rfl | rfl | rfl | rfl | rfl | rfl <;> rfl) hcm hsm (Nat.le_of_ble_eq_true rfl) (Nat.le_of_ble_eq_true rfl) rfl dX8_init_68 rfl ?_
  refine h_dup (n := 72) C dX8_init_71 rfl rfl ?_
  refine h_aload_n (n := 73) (i := 0) C dX8_init_72 rfl 0 rfl rfl ?_
  refine w_get (n := 76) (kd := 8) (v := .ref (lo + 4)) 1 C E.1 rfl inB8 (by decide) wd_446 rfl dX8_init_73 rfl ?_
  refine w_callN (n := 79) (d0 := 34) (As := [.ref (lo + 4)]) (L1 := bOutlook Z (lo + 34) (lo + 4)) C E (c_Outlook_init _ (lo + 34) (lo + 4)) yn_X3_init wn_e149 ⟨(Nat.le_of_ble_eq_true rfl), (Nat.le_of_ble_eq_true rfl)⟩ (Nat.le_of_ble_eq_true rfl) hcm hsm (Nat.le_of_ble_eq_true rfl) (Nat.le_of_ble_eq_true rfl) rfl dX8_init_76 rfl rfl ?_
  refine w_put (n := 82) (kd := 8) (ty := tyX8 5) 5 C E.1 rfl inB8 tyX8 tyX8_ok nmX8 (by decide) wd_450 (Or.inr ⟨rfl, hin2, rfl⟩) (tyX8_ok 5 (by decide)) rfl rfl (Nat.le_of_ble_eq_true rfl) (Nat.le_refl _) dX8_init_79 rfl ?_
  refine h_aload_n (n := 83) (i := 0) C dX8_init_82 rfl 0 rfl rfl ?_
  refine w_new (n := 86) (kd := 6) (d0 := 40) dfX6 C E.1 rfl inB6 tyX6 tyX6_ok we_186 we_187 wd_6 (fun j hj => by rcases (show j = 0 ∨ j = 1 by omega) with rfl | rfl <;> rfl) hcm hsm (Nat.le_of_ble_eq_true rfl) (Nat.le_of_ble_eq_true rfl) rfl dX8_init_83 rfl ?_
  refine h_dup (n := 87) C dX8_init_86 rfl rfl ?_
  refine h_aload_n (n := 88) (i := 0) C dX8_init_87 rfl 0 rfl rfl ?_
  refine w_get (n := 91) (kd := 8) (v := .ref (lo + 4)) 1 C E.1 rfl inB8 (by decide) wd_446 rfl dX8_init_88 rfl ?_
  refine h_bipush (n := 93) (8 : Int32) C dX8_init_91 (by decide) rfl ?_
  refine w_callN (n := 96) (d0 := 40) (As := [.ref (lo + 4), .int (8 : Int32)]) (L1 := bShelf8 Z (lo + 40) (lo + 4) (gR lo 41)) C E (c_Shelf8_init _ (lo + 40) (lo + 4) (gR lo 41) (gR8 lo)) yn_X6_init wn_e188 ⟨(Nat.le_of_ble_eq_true rfl), (Nat.le_of_ble_eq_true rfl)⟩ (Nat.le_of_ble_eq_true rfl) hcm hsm (Nat.le_of_ble_eq_true rfl) (Nat.le_of_ble_eq_true rfl) rfl dX8_init_93 rfl rfl ?_
  refine w_put (n := 99) (kd := 8) (ty := tyX8 6) 6 C E.1 rfl inB8 tyX8 tyX8_ok nmX8 (by decide) wd_451 (Or.inr ⟨rfl, hin2, rfl⟩) (tyX8_ok 6 (by decide)) rfl rfl (Nat.le_of_ble_eq_true rfl) (Nat.le_refl _) dX8_init_96 rfl ?_
  refine h_aload_n (n := 100) (i := 0) C dX8_init_99 rfl 0 rfl rfl ?_
  refine w_new (n := 103) (kd := 6) (d0 := 106) dfX6 C E.1 rfl inB6 tyX6 tyX6_ok we_186 we_187 wd_6 (fun j hj => by rcases (show j = 0 ∨ j = 1 by omega) with rfl | rfl <;> rfl) hcm hsm (Nat.le_of_ble_eq_true rfl) (Nat.le_of_ble_eq_true rfl) rfl dX8_init_100 rfl ?_
  refine h_dup (n := 104) C dX8_init_103 rfl rfl ?_
  refine h_aload_n (n := 105) (i := 0) C dX8_init_104 rfl 0 rfl rfl ?_
  refine w_get (n := 108) (kd := 8) (v := .ref (lo + 4)) 1 C E.1 rfl inB8 (by decide) wd_446 rfl dX8_init_105 rfl ?_
  refine h_iconst (n := 109) (2 : Int32) C dX8_init_108 (by decide) rfl ?_
  refine w_callN (n := 112) (d0 := 106) (As := [.ref (lo + 4), .int (2 : Int32)]) (L1 := bShelf2 Z (lo + 106) (lo + 4) (gR lo 107)) C E (c_Shelf2_init _ (lo + 106) (lo + 4) (gR lo 107) (gR2 lo)) yn_X6_init wn_e188 ⟨(Nat.le_of_ble_eq_true rfl), (Nat.le_of_ble_eq_true rfl)⟩ (Nat.le_of_ble_eq_true rfl) hcm hsm (Nat.le_of_ble_eq_true rfl) (Nat.le_of_ble_eq_true rfl) rfl dX8_init_109 rfl rfl ?_
  refine w_put (n := 115) (kd := 8) (ty := tyX8 7) 7 C E.1 rfl inB8 tyX8 tyX8_ok nmX8 (by decide) wd_452 (Or.inr ⟨rfl, hin2, rfl⟩) (tyX8_ok 7 (by decide)) rfl rfl (Nat.le_of_ble_eq_true rfl) (Nat.le_refl _) dX8_init_112 rfl ?_
  refine h_aload_n (n := 116) (i := 0) C dX8_init_115 rfl 0 rfl rfl ?_
  refine w_new (n := 119) (kd := 1) (d0 := 124) dfX1 C E.1 rfl inB1 tyX1 tyX1_ok we_206 we_207 wd_8 (fun j hj => by rcases (show j = 0 ∨ j = 1 ∨ j = 2 ∨ j = 3 ∨ j = 4 ∨ j = 5 ∨ j = 6 ∨ j = 7 ∨ j = 8 ∨ j = 9 ∨ j = 10 by omega) with rfl | rfl | rfl | rfl | rfl | rfl | rfl | rfl | rfl | rfl | rfl <;> rfl) hcm hsm (Nat.le_of_ble_eq_true rfl) (Nat.le_of_ble_eq_true rfl) rfl dX8_init_116 rfl ?_
  refine h_dup (n := 120) C dX8_init_119 rfl rfl ?_
  refine h_aload_n (n := 121) (i := 0) C dX8_init_120 rfl 0 rfl rfl ?_
  refine w_get (n := 124) (kd := 8) (v := .ref (lo + 4)) 1 C E.1 rfl inB8 (by decide) wd_446 rfl dX8_init_121 rfl ?_
  refine w_callN (n := 127) (d0 := 124) (As := [.ref (lo + 4)]) (L1 := bDealing Z (lo + 124) (lo + 4)) C E (c_Dealing_init _ (lo + 124) (lo + 4)) yn_X1_init wn_e208 ⟨(Nat.le_of_ble_eq_true rfl), (Nat.le_of_ble_eq_true rfl)⟩ (Nat.le_of_ble_eq_true rfl) hcm hsm (Nat.le_of_ble_eq_true rfl) (Nat.le_of_ble_eq_true rfl) rfl dX8_init_124 rfl rfl ?_
  refine w_put (n := 130) (kd := 8) (ty := tyX8 8) 8 C E.1 rfl inB8 tyX8 tyX8_ok nmX8 (by decide) wd_453 (Or.inr ⟨rfl, hin2, rfl⟩) (tyX8_ok 8 (by decide)) rfl rfl (Nat.le_of_ble_eq_true rfl) (Nat.le_refl _) dX8_init_127 rfl ?_
  refine h_aload_n (n := 131) (i := 0) C dX8_init_130 rfl 0 rfl rfl ?_
  refine w_new (n := 134) (kd := 7) (d0 := 142) dfX7 C E.1 rfl inB7 tyX7 tyX7_ok we_251 we_252 wd_9 (fun j hj => by rcases (show j = 0 ∨ j = 1 ∨ j = 2 ∨ j = 3 ∨ j = 4 ∨ j = 5 ∨ j = 6 ∨ j = 7 ∨ j = 8 by omega) with rfl | rfl | rfl | rfl | rfl | rfl | rfl | rfl | rfl <;> rfl) hcm hsm (Nat.le_of_ble_eq_true rfl) (Nat.le_of_ble_eq_true rfl) rfl dX8_init_131 rfl ?_
  refine h_dup (n := 135) C dX8_init_134 rfl rfl ?_
  refine h_aload_n (n := 136) (i := 0) C dX8_init_135 rfl 0 rfl rfl ?_
  refine w_get (n := 139) (kd := 8) (v := .ref (lo + 4)) 1 C E.1 rfl inB8 (by decide) wd_446 rfl dX8_init_136 rfl ?_
  refine w_callN (n := 142) (d0 := 142) (As := [.ref (lo + 4)]) (L1 := bSightings Z (lo + 142) (lo + 4)) C E (c_Sightings_init _ (lo + 142) (lo + 4)) yn_X7_init wn_e253 ⟨(Nat.le_of_ble_eq_true rfl), (Nat.le_of_ble_eq_true rfl)⟩ (Nat.le_of_ble_eq_true rfl) hcm hsm (Nat.le_of_ble_eq_true rfl) (Nat.le_of_ble_eq_true rfl) rfl dX8_init_139 rfl rfl ?_
  refine w_put (n := 145) (kd := 8) (ty := tyX8 9) 9 C E.1 rfl inB8 tyX8 tyX8_ok nmX8 (by decide) wd_454 (Or.inr ⟨rfl, hin2, rfl⟩) (tyX8_ok 9 (by decide)) rfl rfl (Nat.le_of_ble_eq_true rfl) (Nat.le_refl _) dX8_init_142 rfl ?_
  refine h_aload_n (n := 146) (i := 0) C dX8_init_145 rfl 0 rfl rfl ?_
  refine w_new (n := 149) (kd := 0) (d0 := 148) dfX0 C E.1 rfl inB0 tyX0 tyX0_ok we_287 we_288 wd_10 (fun j hj => by rcases (show j = 0 ∨ j = 1 ∨ j = 2 ∨ j = 3 ∨ j = 4 ∨ j = 5 ∨ j = 6 by omega) with rfl | rfl | rfl | rfl | rfl | rfl | rfl <;> rfl) hcm hsm (Nat.le_of_ble_eq_true rfl) (Nat.le_of_ble_eq_true rfl) rfl dX8_init_146 rfl ?_
  refine h_dup (n := 150) C dX8_init_149 rfl rfl ?_
  refine h_aload_n (n := 151) (i := 0) C dX8_init_150 rfl 0 rfl rfl ?_
  refine w_get (n := 154) (kd := 8) (v := .ref (lo + 4)) 1 C E.1 rfl inB8 (by decide) wd_446 rfl dX8_init_151 rfl ?_
  refine w_callN (n := 157) (d0 := 148) (As := [.ref (lo + 4)]) (L1 := bChance Z (lo + 148) (lo + 4)) C E (c_Chance_init _ (lo + 148) (lo + 4)) yn_X0_init wn_e289 ⟨(Nat.le_of_ble_eq_true rfl), (Nat.le_of_ble_eq_true rfl)⟩ (Nat.le_of_ble_eq_true rfl) hcm hsm (Nat.le_of_ble_eq_true rfl) (Nat.le_of_ble_eq_true rfl) rfl dX8_init_154 rfl rfl ?_
  refine w_put (n := 160) (kd := 8) (ty := tyX8 10) 10 C E.1 rfl inB8 tyX8 tyX8_ok nmX8 (by decide) wd_455 (Or.inr ⟨rfl, hin2, rfl⟩) (tyX8_ok 10 (by decide)) rfl rfl (Nat.le_of_ble_eq_true rfl) (Nat.le_refl _) dX8_init_157 rfl ?_
  exact k
