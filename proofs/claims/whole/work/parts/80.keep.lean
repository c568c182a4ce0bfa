/-! what is always so, kept by every call -/
def JH (T : Nat) (P : PT) (h : HT) : Prop := HI T P h ∧ NS P h
def JX (T : Nat) (s : ST) : Prop := IX T s ∧ IN s
theorem jx_mk {T : Nat} {P : PT} {h : HT} {u k : List HT} {x : List Nat} {e : List (Nat × Nat)} (pw : PW P) (p1 : 1 ≤ pN P) (a : JH T P h) (b : ∀ h', h' ∈ u → JH T P h') (c : ∀ h', h' ∈ k → JH T P h') (u8 : u.length ≤ 8) (k2 : k.length ≤ 2) (x2 : x.length ≤ 200) (xc : ∀ c, c ∈ x → c < 127) (e7 : e.length ≤ 7) (ec : ∀ q, q ∈ e → q.1 < pN P ∧ q.2 ≤ 200) (t20 : T < 2 ^ 20) : JX T (mST P h u k x e) :=
  ⟨⟨pw, p1, a.1, fun h' hh => (b h' hh).1, fun h' hh => (c h' hh).1, u8, k2, x2, xc, e7, ec, t20⟩, a.2, fun h' hh => (b h' hh).2, fun h' hh => (c h' hh).2⟩
theorem JH.up {T T' : Nat} {P : PT} {h : HT} (a : JH T P h) (l : T ≤ T') : JH T' P h := ⟨⟨a.1.1, Nat.le_trans a.1.2 l⟩, a.2⟩
section
variable {T : Nat} {s : ST}
theorem JX.h (J : JX T s) : JH T (xP s) (xH s) := ⟨J.1.2.2.1, J.2.1⟩
theorem JX.u (J : JX T s) : ∀ h', h' ∈ xU s → JH T (xP s) h' := fun h' hh => ⟨J.1.2.2.2.1 h' hh, J.2.2.1 h' hh⟩
theorem JX.k (J : JX T s) : ∀ h', h' ∈ xK s → JH T (xP s) h' := fun h' hh => ⟨J.1.2.2.2.2.1 h' hh, J.2.2.2 h' hh⟩
theorem JX.up {T' : Nat} (J : JX T s) (l : T ≤ T') (t : T' < 2 ^ 20) : JX T' s := by
  obtain ⟨⟨i1, i2, i3, i4, i5, i6, i7, i8, i9, i10, i11, i12⟩, n⟩ := J
  exact ⟨⟨i1, i2, ⟨i3.1, Nat.le_trans i3.2 l⟩, fun h hh => ⟨(i4 h hh).1, Nat.le_trans (i4 h hh).2 l⟩, fun h hh => ⟨(i5 h hh).1, Nat.le_trans (i5 h hh).2 l⟩, i6, i7, i8, i9, i10, i11, t⟩, n⟩
/-- the same but for one thing -/
theorem JX.mk (J : JX T s) (t : T + 24 < 2 ^ 20) {h : HT} {u k : List HT} {x : List Nat} {e : List (Nat × Nat)} (a : JH (T + 24) (xP s) h) (b : ∀ h', h' ∈ u → JH (T + 24) (xP s) h') (c : ∀ h', h' ∈ k → JH (T + 24) (xP s) h') (u8 : u.length ≤ 8) (k2 : k.length ≤ 2) (x2 : x.length ≤ 200) (xc : ∀ c, c ∈ x → c < 127) (e7 : e.length ≤ 7) (ec : ∀ q, q ∈ e → q.1 < pN (xP s) ∧ q.2 ≤ 200) : JX (T + 24) (mST (xP s) h u k x e) :=
  jx_mk J.1.1 J.1.2.1 a b c u8 k2 x2 xc e7 ec t
theorem JX.act (J : JX T s) (t : T + 24 < 2 ^ 20) {h : HT} (a : JH (T + 24) (xP s) h) : JX (T + 24) (act s h) := by
  obtain ⟨⟨i1, i2, i3, i4, i5, i6, i7, i8, i9, i10, i11, i12⟩, n⟩ := id J
  refine J.mk t a (fun h' hh => ?_) (fun h' hh => (J.k h' hh).up (by omega)) ?_ i7 i8 i9 i10 i11
  · unfold put at hh
    rcases List.mem_append.mp hh with z | z
    · split at z
      · exact (J.u h' (List.mem_of_mem_drop z)).up (by omega)
      · exact (J.u h' z).up (by omega)
    · rw [List.mem_singleton.mp z]; exact J.h.up (by omega)
  · unfold put
    rw [List.length_append, List.length_singleton]
    split
    · rw [List.length_drop]; omega
    · omega
theorem j_same (J : JX T s) (t : T + 24 < 2 ^ 20) : JX (T + 24) s := J.up (by omega) t
theorem j_write (J : JX T s) (t : T + 24 < 2 ^ 20) (p : Int32) : JX (T + 24) (fWrite s p).2 := by
  obtain ⟨⟨i1, i2, i3, i4, i5, i6, i7, i8, i9, i10, i11, i12⟩, n⟩ := id J
  unfold fWrite
  rcases rg_cases 32 126 (by decide) p with ⟨e, c⟩ | ⟨c, e, c1, c2', rfl⟩
  · rw [e]; exact j_same J t
  · rw [e]
    simp only
    split
    · exact j_same J t
    · refine J.mk t (J.h.up (by omega)) (fun h' hh => (J.u h' hh).up (by omega)) (fun h' hh => (J.k h' hh).up (by omega)) i6 i7 ?_ (fun y hy => ?_) i10 i11
      · rw [List.length_append, List.length_singleton]; omega
      · rcases List.mem_append.mp hy with z | z
        · exact i9 y z
        · rw [List.mem_singleton.mp z]; omega
theorem j_wipe (J : JX T s) (t : T + 24 < 2 ^ 20) : JX (T + 24) (fWipe s).2 := by
  obtain ⟨⟨i1, i2, i3, i4, i5, i6, i7, i8, i9, i10, i11, i12⟩, n⟩ := id J
  exact J.mk t (J.h.up (by omega)) (fun h' hh => (J.u h' hh).up (by omega)) (fun h' hh => (J.k h' hh).up (by omega)) i6 i7 (Nat.zero_le _) (fun y hy => absurd hy List.not_mem_nil) i10 i11
theorem j_pass (J : JX T s) (t : T + 24 < 2 ^ 20) (p : Int32) : JX (T + 24) (fPass s p).2 := by
  unfold fPass
  rcases rg_cases 1 24 (by decide) p with ⟨e, c⟩ | ⟨c, e, c1, c2', rfl⟩
  · rw [e]; exact j_same J t
  · rw [e]
    refine J.act t ⟨⟨gv_itp J.1.2.2.1.1 J.1.1 c, ?_⟩, ns_itp J.2.1 c⟩
    rw [hT_itp]
    have := J.1.2.2.1.2
    omega
theorem j_book (J : JX T s) (t : T + 24 < 2 ^ 20) (p q : Int32) : JX (T + 24) (fBook s p q).2 := by
  unfold fBook
  cases gi (pN (xP s)) p with
  | none => exact j_same J t
  | some g =>
    simp only
    rcases rg_cases 0 40 (by decide) q with ⟨e, c⟩ | ⟨c, e, c1, c2', rfl⟩
    · rw [e]; exact j_same J t
    · rw [e]
      simp only
      split
      · rename_i z
        exact J.act t ⟨⟨gv_sU J.1.2.2.1.1 z.2 c2', by have := J.1.2.2.1.2; show hT (xH s) ≤ T + 24; omega⟩, J.2.1⟩
      · exact j_same J t
theorem gi_lt {n g : Nat} {p : Int32} (h : gi n p = some g) : g < n := by
  unfold gi at h
  split at h
  · cases h; omega
  · cases h
theorem j_call (J : JX T s) (t : T + 24 < 2 ^ 20) (p : Int32) : JX (T + 24) (fCall s p).2 := by
  unfold fCall
  cases e : gi (pN (xP s)) p with
  | none => exact j_same J t
  | some g =>
    simp only
    split
    · rename_i z
      exact J.act t ⟨⟨gv_off J.1.2.2.1.1 (gi_lt e) z, by have := J.1.2.2.1.2; show hT (xH s) ≤ T + 24; omega⟩, ns_off J.2.1 z⟩
    · exact j_same J t
theorem j_change (J : JX T s) (t : T + 24 < 2 ^ 20) (p q : Int32) : JX (T + 24) (fChange s p q).2 := by
  unfold fChange
  cases e : gi (pN (xP s)) p with
  | none => exact j_same J t
  | some g =>
    cases e2 : gi (pN (xP s)) q with
    | none => exact j_same J t
    | some j =>
      simp only
      split
      · exact j_same J t
      · split
        · exact J.act t ⟨⟨gv_swp J.1.2.2.1.1 (gi_lt e) (gi_lt e2), by have := J.1.2.2.1.2; show hT (xH s) ≤ T + 24; omega⟩, J.2.1⟩
        · exact j_same J t
theorem j_undo (J : JX T s) (t : T + 24 < 2 ^ 20) : JX (T + 24) (fUndo s).2 := by
  obtain ⟨⟨i1, i2, i3, i4, i5, i6, i7, i8, i9, i10, i11, i12⟩, n⟩ := id J
  unfold fUndo
  cases e : (xU s).getLast? with
  | none => exact j_same J t
  | some h =>
    refine J.mk t ((J.u h (List.mem_of_getLast? e)).up (by omega)) (fun h' hh => (J.u h' (List.dropLast_subset _ hh)).up (by omega)) (fun h' hh => (J.k h' hh).up (by omega)) ?_ i7 i8 i9 i10 i11
    rw [List.length_dropLast]; omega
theorem j_see (J : JX T s) (t : T + 24 < 2 ^ 20) (p q : Int32) : JX (T + 24) (fSee s p q).2 := by
  obtain ⟨⟨i1, i2, i3, i4, i5, i6, i7, i8, i9, i10, i11, i12⟩, n⟩ := id J
  unfold fSee
  cases e : gi (pN (xP s)) p with
  | none => exact j_same J t
  | some g =>
    simp only
    rcases rg_cases 0 200 (by decide) q with ⟨e', c⟩ | ⟨c, e', c1, c2', rfl⟩
    · rw [e']; exact j_same J t
    · rw [e']
      simp only
      split
      · exact j_same J t
      · refine J.mk t (J.h.up (by omega)) (fun h' hh => (J.u h' hh).up (by omega)) (fun h' hh => (J.k h' hh).up (by omega)) i6 i7 i8 i9 ?_ (fun y hy => ?_)
        · rw [List.length_append, List.length_singleton]; omega
        · rcases List.mem_append.mp hy with z | z
          · exact i11 y z
          · rw [List.mem_singleton.mp z]; exact ⟨gi_lt e, c2'⟩
theorem j_forget (J : JX T s) (t : T + 24 < 2 ^ 20) : JX (T + 24) (fForget s).2 := by
  obtain ⟨⟨i1, i2, i3, i4, i5, i6, i7, i8, i9, i10, i11, i12⟩, n⟩ := id J
  exact J.mk t (J.h.up (by omega)) (fun h' hh => (J.u h' hh).up (by omega)) (fun h' hh => (J.k h' hh).up (by omega)) i6 i7 i8 i9 (Nat.zero_le _) (fun y hy => absurd hy List.not_mem_nil)
theorem j_keep (J : JX T s) (t : T + 24 < 2 ^ 20) : JX (T + 24) (fKeep s).2 := by
  obtain ⟨⟨i1, i2, i3, i4, i5, i6, i7, i8, i9, i10, i11, i12⟩, n⟩ := id J
  unfold fKeep
  split
  · exact j_same J t
  · refine J.mk t (J.h.up (by omega)) (fun h' hh => (J.u h' hh).up (by omega)) (fun h' hh => ?_) i6 ?_ i8 i9 i10 i11
    · rcases List.mem_append.mp hh with z | z
      · exact (J.k h' z).up (by omega)
      · rw [List.mem_singleton.mp z]; exact J.h.up (by omega)
    · rw [List.length_append, List.length_singleton]; omega
theorem j_back (J : JX T s) (t : T + 24 < 2 ^ 20) : JX (T + 24) (fBack s).2 := by
  obtain ⟨⟨i1, i2, i3, i4, i5, i6, i7, i8, i9, i10, i11, i12⟩, n⟩ := id J
  unfold fBack
  cases e : (xK s).getLast? with
  | none => exact j_same J t
  | some h =>
    refine J.mk t ((J.k h (List.mem_of_getLast? e)).up (by omega)) (fun h' hh => absurd hh List.not_mem_nil) (fun h' hh => (J.k h' (List.dropLast_subset _ hh)).up (by omega)) (Nat.zero_le _) ?_ i8 i9 i10 i11
    rw [List.length_dropLast]; omega
theorem j_lay (J : JX T s) (t : T + 24 < 2 ^ 20) : JX (T + 24) (fLay s).2 := by
  obtain ⟨⟨i1, i2, i3, i4, i5, i6, i7, i8, i9, i10, i11, i12⟩, n⟩ := id J
  unfold fLay
  cases e : prs (xX s) 201 0 ([], []) with
  | inl i => exact j_same J t
  | inr tt =>
    simp only
    have o := prs_ok 201 0 ([], []) tt ⟨Nat.zero_le _, Nat.zero_le _, fun l h => absurd h List.not_mem_nil, fun l h => absurd h List.not_mem_nil⟩ e
    split
    · exact j_same J t
    · rename_i c
      exact jx_mk (pw_T o) (by show 1 ≤ tt.1.length; omega) ⟨⟨gv_T o, Nat.zero_le _⟩, fun g _ _ c' _ => by show 0 / 2 ^ g % 2 = 0; rw [Nat.zero_div]⟩ (fun h' hh => absurd hh List.not_mem_nil) (fun h' hh => absurd hh List.not_mem_nil) (Nat.zero_le _) (Nat.zero_le _) i8 i9 (Nat.zero_le _) (fun y hy => absurd hy List.not_mem_nil) t
end
