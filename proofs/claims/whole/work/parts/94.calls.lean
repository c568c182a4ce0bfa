/-! every call, on both sides -/
def TCX (P : Mem → (Int32 → Mem → Prop) → Prop) (F : ST → Int32 × ST) : Prop := ∀ (T : Nat) (s : ST) (M : Mem) (post : Int32 → Mem → Prop), JX T s → RX s M → (∀ M', RX (F s).2 M' → post (F s).1 M') → P M post
def TCY (P : Mem → (Int32 → Mem → Prop) → Prop) (F : ST → Int32 × ST) : Prop := ∀ (T : Nat) (s : ST) (N : Mem) (post : Int32 → Mem → Prop), JX T s → RM s N → (∀ N', RM (F s).2 N' → post (F s).1 N') → P N post
def TCJ (F : ST → Int32 × ST) : Prop := ∀ (T : Nat) (s : ST), JX T s → T + 24 < 2 ^ 20 → JX (T + 24) (F s).2
theorem TCJ.of {F : ST → Int32 × ST} (h : ∀ s, (F s).2 = s) : TCJ F := fun T s J t => by rw [h s]; exact j_same J t
theorem tx_write (p : Int32) : TCX (fun M post => P_NB_write M p post) (fun s => fWrite s p) := fun T s M post J R k => by
  first
  | exact x_write J.1 J.2 R k
  | exact x_write J.1 R k
  | exact x_write R k
theorem ty_write (p : Int32) : TCY (fun M post => P_MD_write M p post) (fun s => fWrite s p) := fun T s N post J R k => by
  first
  | exact y_write J.1 R k
  | exact y_write R k
theorem tj_write (p : Int32) : TCJ (fun s => fWrite s p) := fun T s J t => j_write J t p
theorem tx_wipe : TCX (fun M post => P_NB_wipe M post) (fun s => fWipe s) := fun T s M post J R k => by
  first
  | exact x_wipe J.1 J.2 R k
  | exact x_wipe J.1 R k
  | exact x_wipe R k
theorem ty_wipe : TCY (fun M post => P_MD_wipe M post) (fun s => fWipe s) := fun T s N post J R k => by
  first
  | exact y_wipe J.1 R k
  | exact y_wipe R k
theorem tj_wipe : TCJ (fun s => fWipe s) := fun T s J t => j_wipe J t
theorem tx_fault : TCX (fun M post => P_NB_fault M post) (fun s => fFault s) := fun T s M post J R k => by
  first
  | exact x_fault J.1 J.2 R k
  | exact x_fault J.1 R k
  | exact x_fault R k
theorem ty_fault : TCY (fun M post => P_MD_fault M post) (fun s => fFault s) := fun T s N post J R k => by
  first
  | exact y_fault J.1 R k
  | exact y_fault R k
theorem tj_fault : TCJ (fun s => fFault s) := TCJ.of (fun s => by
  unfold fFault
  repeat' split
  all_goals rfl)
theorem tx_lay : TCX (fun M post => P_NB_lay M post) (fun s => fLay s) := fun T s M post J R k => by
  first
  | exact x_lay J.1 J.2 R k
  | exact x_lay J.1 R k
  | exact x_lay R k
theorem ty_lay : TCY (fun M post => P_MD_lay M post) (fun s => fLay s) := fun T s N post J R k => by
  first
  | exact y_lay J.1 R k
  | exact y_lay R k
theorem tj_lay : TCJ (fun s => fLay s) := fun T s J t => j_lay J t
theorem tx_guest (p q : Int32) : TCX (fun M post => P_NB_guest M p q post) (fun s => fGuest s p q) := fun T s M post J R k => by
  first
  | exact x_guest J.1 J.2 R k
  | exact x_guest J.1 R k
  | exact x_guest R k
theorem ty_guest (p q : Int32) : TCY (fun M post => P_MD_guest M p q post) (fun s => fGuest s p q) := fun T s N post J R k => by
  first
  | exact y_guest J.1 R k
  | exact y_guest R k
theorem tj_guest (p q : Int32) : TCJ (fun s => fGuest s p q) := TCJ.of (fun s => by
  unfold fGuest
  repeat' split
  all_goals rfl)
theorem tx_state (p q : Int32) : TCX (fun M post => P_NB_state M p q post) (fun s => fState s p q) := fun T s M post J R k => by
  first
  | exact x_state J.1 J.2 R k
  | exact x_state J.1 R k
  | exact x_state R k
theorem ty_state (p q : Int32) : TCY (fun M post => P_MD_state M p q post) (fun s => fState s p q) := fun T s N post J R k => by
  first
  | exact y_state J.1 R k
  | exact y_state R k
theorem tj_state (p q : Int32) : TCJ (fun s => fState s p q) := TCJ.of (fun s => by
  unfold fState
  repeat' split
  all_goals rfl)
theorem tx_pass (p : Int32) : TCX (fun M post => P_NB_pass M p post) (fun s => fPass s p) := fun T s M post J R k => by
  first
  | exact x_pass J.1 J.2 R k
  | exact x_pass J.1 R k
  | exact x_pass R k
theorem ty_pass (p : Int32) : TCY (fun M post => P_MD_pass M p post) (fun s => fPass s p) := fun T s N post J R k => by
  first
  | exact y_pass J.1 R k
  | exact y_pass R k
theorem tj_pass (p : Int32) : TCJ (fun s => fPass s p) := fun T s J t => j_pass J t p
theorem tx_book (p q : Int32) : TCX (fun M post => P_NB_book M p q post) (fun s => fBook s p q) := fun T s M post J R k => by
  first
  | exact x_book J.1 J.2 R k
  | exact x_book J.1 R k
  | exact x_book R k
theorem ty_book (p q : Int32) : TCY (fun M post => P_MD_book M p q post) (fun s => fBook s p q) := fun T s N post J R k => by
  first
  | exact y_book J.1 R k
  | exact y_book R k
theorem tj_book (p q : Int32) : TCJ (fun s => fBook s p q) := fun T s J t => j_book J t p q
theorem tx_call (p : Int32) : TCX (fun M post => P_NB_call M p post) (fun s => fCall s p) := fun T s M post J R k => by
  first
  | exact x_call J.1 J.2 R k
  | exact x_call J.1 R k
  | exact x_call R k
theorem ty_call (p : Int32) : TCY (fun M post => P_MD_call M p post) (fun s => fCall s p) := fun T s N post J R k => by
  first
  | exact y_call J.1 R k
  | exact y_call R k
theorem tj_call (p : Int32) : TCJ (fun s => fCall s p) := fun T s J t => j_call J t p
theorem tx_change (p q : Int32) : TCX (fun M post => P_NB_change M p q post) (fun s => fChange s p q) := fun T s M post J R k => by
  first
  | exact x_change J.1 J.2 R k
  | exact x_change J.1 R k
  | exact x_change R k
theorem ty_change (p q : Int32) : TCY (fun M post => P_MD_change M p q post) (fun s => fChange s p q) := fun T s N post J R k => by
  first
  | exact y_change J.1 R k
  | exact y_change R k
theorem tj_change (p q : Int32) : TCJ (fun s => fChange s p q) := fun T s J t => j_change J t p q
theorem tx_undo : TCX (fun M post => P_NB_undo M post) (fun s => fUndo s) := fun T s M post J R k => by
  first
  | exact x_undo J.1 J.2 R k
  | exact x_undo J.1 R k
  | exact x_undo R k
theorem ty_undo : TCY (fun M post => P_MD_undo M post) (fun s => fUndo s) := fun T s N post J R k => by
  first
  | exact y_undo J.1 R k
  | exact y_undo R k
theorem tj_undo : TCJ (fun s => fUndo s) := fun T s J t => j_undo J t
theorem tx_freed (p : Int32) : TCX (fun M post => P_NB_freed M p post) (fun s => fFreed s p) := fun T s M post J R k => by
  first
  | exact x_freed J.1 J.2 R k
  | exact x_freed J.1 R k
  | exact x_freed R k
theorem ty_freed (p : Int32) : TCY (fun M post => P_MD_freed M p post) (fun s => fFreed s p) := fun T s N post J R k => by
  first
  | exact y_freed J.1 R k
  | exact y_freed R k
theorem tj_freed (p : Int32) : TCJ (fun s => fFreed s p) := TCJ.of (fun s => by
  unfold fFreed
  repeat' split
  all_goals rfl)
theorem tx_task (p : Int32) : TCX (fun M post => P_NB_task M p post) (fun s => fTask s p) := fun T s M post J R k => by
  first
  | exact x_task J.1 J.2 R k
  | exact x_task J.1 R k
  | exact x_task R k
theorem ty_task (p : Int32) : TCY (fun M post => P_MD_task M p post) (fun s => fTask s p) := fun T s N post J R k => by
  first
  | exact y_task J.1 R k
  | exact y_task R k
theorem tj_task (p : Int32) : TCJ (fun s => fTask s p) := TCJ.of (fun s => by
  unfold fTask
  repeat' split
  all_goals rfl)
theorem tx_early (p q : Int32) : TCX (fun M post => P_NB_early M p q post) (fun s => fEarly s p q) := fun T s M post J R k => by
  first
  | exact x_early J.1 J.2 R k
  | exact x_early J.1 R k
  | exact x_early R k
theorem ty_early (p q : Int32) : TCY (fun M post => P_MD_early M p q post) (fun s => fEarly s p q) := fun T s N post J R k => by
  first
  | exact y_early J.1 R k
  | exact y_early R k
theorem tj_early (p q : Int32) : TCJ (fun s => fEarly s p q) := TCJ.of (fun s => by
  unfold fEarly
  repeat' split
  all_goals rfl)
theorem tx_done : TCX (fun M post => P_NB_done M post) (fun s => fDone s) := fun T s M post J R k => by
  first
  | exact x_done J.1 J.2 R k
  | exact x_done J.1 R k
  | exact x_done R k
theorem ty_done : TCY (fun M post => P_MD_done M post) (fun s => fDone s) := fun T s N post J R k => by
  first
  | exact y_done J.1 R k
  | exact y_done R k
theorem tj_done : TCJ (fun s => fDone s) := TCJ.of (fun s => by
  unfold fDone
  repeat' split
  all_goals rfl)
theorem tx_deal (p : Int32) : TCX (fun M post => P_NB_deal M p post) (fun s => fDeal s p) := fun T s M post J R k => by
  first
  | exact x_deal J.1 J.2 R k
  | exact x_deal J.1 R k
  | exact x_deal R k
theorem ty_deal (p : Int32) : TCY (fun M post => P_MD_deal M p post) (fun s => fDeal s p) := fun T s N post J R k => by
  first
  | exact y_deal J.1 R k
  | exact y_deal R k
theorem tj_deal (p : Int32) : TCJ (fun s => fDeal s p) := TCJ.of (fun s => by
  unfold fDeal
  repeat' split
  all_goals rfl)
theorem tx_off (q : Int32) : TCX (fun M post => P_NB_off M q post) (fun s => fOff s q) := fun T s M post J R k => by
  first
  | exact x_off J.1 J.2 R k
  | exact x_off J.1 R k
  | exact x_off R k
theorem ty_off (q : Int32) : TCY (fun M post => P_MD_off M q post) (fun s => fOff s q) := fun T s N post J R k => by
  first
  | exact y_off J.1 R k
  | exact y_off R k
theorem tj_off (q : Int32) : TCJ (fun s => fOff s q) := TCJ.of (fun s => by
  unfold fOff
  repeat' split
  all_goals rfl)
theorem tx_see (p q : Int32) : TCX (fun M post => P_NB_see M p q post) (fun s => fSee s p q) := fun T s M post J R k => by
  first
  | exact x_see J.1 J.2 R k
  | exact x_see J.1 R k
  | exact x_see R k
theorem ty_see (p q : Int32) : TCY (fun M post => P_MD_see M p q post) (fun s => fSee s p q) := fun T s N post J R k => by
  first
  | exact y_see J.1 R k
  | exact y_see R k
theorem tj_see (p q : Int32) : TCJ (fun s => fSee s p q) := fun T s J t => j_see J t p q
theorem tx_forget : TCX (fun M post => P_NB_forget M post) (fun s => fForget s) := fun T s M post J R k => by
  first
  | exact x_forget J.1 J.2 R k
  | exact x_forget J.1 R k
  | exact x_forget R k
theorem ty_forget : TCY (fun M post => P_MD_forget M post) (fun s => fForget s) := fun T s N post J R k => by
  first
  | exact y_forget J.1 R k
  | exact y_forget R k
theorem tj_forget : TCJ (fun s => fForget s) := fun T s J t => j_forget J t
theorem tx_orders (p : Int32) : TCX (fun M post => P_NB_orders M p post) (fun s => fOrd s p) := fun T s M post J R k => by
  first
  | exact x_orders J.1 J.2 R k
  | exact x_orders J.1 R k
  | exact x_orders R k
theorem ty_orders (p : Int32) : TCY (fun M post => P_MD_orders M p post) (fun s => fOrd s p) := fun T s N post J R k => by
  first
  | exact y_orders J.1 R k
  | exact y_orders R k
theorem tj_orders (p : Int32) : TCJ (fun s => fOrd s p) := TCJ.of (fun s => by
  unfold fOrd
  repeat' split
  all_goals rfl)
theorem tx_absent (p q w : Int32) : TCX (fun M post => P_NB_absent M p q w post) (fun s => fAbs s p q w) := fun T s M post J R k => by
  first
  | exact x_absent J.1 J.2 R k
  | exact x_absent J.1 R k
  | exact x_absent R k
theorem ty_absent (p q w : Int32) : TCY (fun M post => P_MD_absent M p q w post) (fun s => fAbs s p q w) := fun T s N post J R k => by
  first
  | exact y_absent J.1 R k
  | exact y_absent R k
theorem tj_absent (p q w : Int32) : TCJ (fun s => fAbs s p q w) := TCJ.of (fun s => by
  unfold fAbs
  repeat' split
  all_goals rfl)
theorem tx_season (p q w : Int32) : TCX (fun M post => P_NB_season M p q w post) (fun s => fSeason s p q w) := fun T s M post J R k => by
  first
  | exact x_season J.1 J.2 R k
  | exact x_season J.1 R k
  | exact x_season R k
theorem ty_season (p q w : Int32) : TCY (fun M post => P_MD_season M p q w post) (fun s => fSeason s p q w) := fun T s N post J R k => by
  first
  | exact y_season J.1 R k
  | exact y_season R k
theorem tj_season (p q w : Int32) : TCJ (fun s => fSeason s p q w) := TCJ.of (fun s => by
  unfold fSeason
  repeat' split
  all_goals rfl)
theorem tx_keep : TCX (fun M post => P_NB_keep M post) (fun s => fKeep s) := fun T s M post J R k => by
  first
  | exact x_keep J.1 J.2 R k
  | exact x_keep J.1 R k
  | exact x_keep R k
theorem ty_keep : TCY (fun M post => P_MD_keep M post) (fun s => fKeep s) := fun T s N post J R k => by
  first
  | exact y_keep J.1 R k
  | exact y_keep R k
theorem tj_keep : TCJ (fun s => fKeep s) := fun T s J t => j_keep J t
theorem tx_back : TCX (fun M post => P_NB_back M post) (fun s => fBack s) := fun T s M post J R k => by
  first
  | exact x_back J.1 J.2 R k
  | exact x_back J.1 R k
  | exact x_back R k
theorem ty_back : TCY (fun M post => P_MD_back M post) (fun s => fBack s) := fun T s N post J R k => by
  first
  | exact y_back J.1 R k
  | exact y_back R k
theorem tj_back : TCJ (fun s => fBack s) := fun T s J t => j_back J t
theorem tx_count (p : Int32) : TCX (fun M post => P_NB_count M p post) (fun s => fCount s p) := fun T s M post J R k => by
  first
  | exact x_count J.1 J.2 R k
  | exact x_count J.1 R k
  | exact x_count R k
theorem ty_count (p : Int32) : TCY (fun M post => P_MD_count M p post) (fun s => fCount s p) := fun T s N post J R k => by
  first
  | exact y_count J.1 R k
  | exact y_count R k
theorem tj_count (p : Int32) : TCJ (fun s => fCount s p) := TCJ.of (fun s => by
  unfold fCount
  repeat' split
  all_goals rfl)
