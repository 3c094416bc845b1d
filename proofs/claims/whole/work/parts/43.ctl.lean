/-! CONSTRUCTORS: words -/
def ari (cI : ClassId) (a k : Nat) (f : FI) : va_W := [(a, .inl (cI, k, .inl f))]
def adL (l : List Nat) : Nat → Nat := fun k => l.getD k 0
abbrev Z0 : FI := fun _ => 0
abbrev ZM : FI := fun _ => -1
abbrev ZL : FJ := fun _ => 0
abbrev sZ : Sg := (0, 0, Z0, Z0, Z0, Z0, Z0, Z0, Z0, Z0)
/-- what a constructor asks -/
def PcC (D : va_G) (cl : List vw_C) (tys : List (ClassId × FieldType)) (al : List Value) (w : va_W) (sz : Nat) : Array Value → State → Prop := va_Pc al (fun U => U.heap.size = sz ∧ va_P D cl w U.heap ∧ va_K D cl tys U ∧ va_D (fun _ => True) w)
theorem PcC_fb {D : va_G} {cl : List vw_C} {tys : List (ClassId × FieldType)} {al : List Value} {w : va_W} {sz : Nat} : FrameBlind (PcC D cl tys al w sz) := fun a U g mk q => ⟨q.1, q.2.1, q.2.2.1, va_K.moved (u := U) (U := U.calling g mk a) (Vm.Alike.refl U.vm) q.2.2.2.1, q.2.2.2.2⟩
theorem PcC_pre {s : State} {H : Heap} {D : va_G} {cl : List vw_C} {tys : List (ClassId × FieldType)} {al : List Value} {w : va_W} {A : Nat → Prop} (hP : va_P D cl w H) (hK : va_K D cl tys s) (hD : va_D A w) : ∀ U : State, U.heap = H → s.WarmedH U.vm → PcC D cl tys al w H.size al.toArray U := fun U hU hW => ⟨rfl, by rw [hU], by rw [hU]; exact hP, va_K.moved hW.alike hK, hD.weaken (fun _ _ _ _ => trivial)⟩
/-- the same, and the class of the rows of sheets -/
def PcO (D : va_G) (cl : List vw_C) (tys : List (ClassId × FieldType)) (al : List Value) (w : va_W) (sz : Nat) : Array Value → State → Prop := va_Pc al (fun U => U.heap.size = sz ∧ va_P D cl w U.heap ∧ va_K D cl tys U ∧ va_D (fun _ => True) w ∧ va_AO "KnivesLaid$Sheet" U)
theorem PcO_fb {D : va_G} {cl : List vw_C} {tys : List (ClassId × FieldType)} {al : List Value} {w : va_W} {sz : Nat} : FrameBlind (PcO D cl tys al w sz) := fun a U g mk q => ⟨q.1, q.2.1, q.2.2.1, va_K.moved (u := U) (U := U.calling g mk a) (Vm.Alike.refl U.vm) q.2.2.2.1, q.2.2.2.2.1, va_AO.moved (u := U) (U := U.calling g mk a) (Vm.Alike.refl U.vm) q.2.2.2.2.2⟩
theorem PcO_pre {s : State} {H : Heap} {D : va_G} {cl : List vw_C} {tys : List (ClassId × FieldType)} {al : List Value} {w : va_W} {A : Nat → Prop} (hP : va_P D cl w H) (hK : va_K D cl tys s) (hD : va_D A w) (hO : va_AO "KnivesLaid$Sheet" s) : ∀ U : State, U.heap = H → s.WarmedH U.vm → PcO D cl tys al w H.size al.toArray U := fun U hU hW => ⟨rfl, by rw [hU], by rw [hU]; exact hP, va_K.moved hW.alike hK, hD.weaken (fun _ _ _ _ => trivial), va_AO.moved hW.alike hO⟩
theorem va_uI {D : va_G} {cl : List vw_C} {cI cL cS cA : ClassId} {s : State} (h : va_K D cl (tyG cI cL cS ++ [(cA, .int)]) s) : cI = cA := by
  have h1 := va_nm_int (h.2 0 _ rfl).2
  have h2 := va_nm_int (h.2 3 _ rfl).2
  exact Option.some.inj (h1.symm.trans h2)
theorem va_uL {D : va_G} {cl : List vw_C} {cI cL cS cA : ClassId} {s : State} (h : va_K D cl (tyG cI cL cS ++ [(cA, .long)]) s) : cL = cA := by
  have h1 := va_nm_long (h.2 1 _ rfl).2
  have h2 := va_nm_long (h.2 3 _ rfl).2
  exact Option.some.inj (h1.symm.trans h2)
theorem va_uS {D : va_G} {cl : List vw_C} {cI cL cS cA : ClassId} {s : State} (h : va_K D cl (tyG cI cL cS ++ [(cA, .object "KnivesLaid$Sheet")]) s) : cS = cA := by
  have h1 := va_nmO (h.2 2 _ rfl).2 rfl
  have h2 := va_nmO (h.2 3 _ rfl).2 rfl
  exact Option.some.inj (h1.symm.trans h2)
theorem enc_zero : ∀ j, j < 72 → upd Z0 (ix 0) 0 j = enc 0 0 Z0 Z0 Z0 Z0 Z0 Z0 Z0 Z0 j := by decide
theorem sh4 (a b c d : Nat) : ∀ j, j < 4 → va_up (va_up (va_up (va_up (fun _ => none) (ix 0) (some a)) (ix 1) (some b)) (ix 2) (some c)) (ix 3) (some d) j = some (adL [a, b, c, d] j) := fun j hj => match j, hj with
  | 0, _ => rfl | 1, _ => rfl | 2, _ => rfl | 3, _ => rfl | (k + 4), h => absurd h (by omega)
theorem arrQ_eq {cA : ClassId} {n : Nat} {f g : Nat → Option Nat} (h : ∀ j, j < n → f j = g j) : vp_cell cA (n, .inr (.inr (.inr (.inr f)))) = vp_cell cA (n, .inr (.inr (.inr (.inr g)))) := by
  rw [vp_cell_q, vp_cell_q]
  unfold arrV
  congr 1
  apply Array.ext
  · simp
  · intro i h1 h2
    simp only [Array.getElem_ofFn]
    rw [h i (by simpa using h1)]
theorem okS_Z : okS sZ ZM := by
  have z2 : vp_in (0 : Int32) 2 := vp_in_iff.mpr (by decide)
  have z6 : vp_in (0 : Int32) 6 := vp_in_iff.mpr (by decide)
  have z10 : vp_in (0 : Int32) 10 := vp_in_iff.mpr (by decide)
  have ze : (-99 ≤ (0 : Int32).toInt ∧ (0 : Int32).toInt ≤ 99) ∧ (0 ≤ (0 : Int32).toInt ∧ (0 : Int32).toInt ≤ 9999) ∧ (0 ≤ (0 : Int32).toInt ∧ (0 : Int32).toInt ≤ 9999) := by decide
  exact ⟨⟨vp_in_iff.mpr (by decide), fun g _ => z10, fun g _ => z6, fun p _ => ⟨z2, z2, z10⟩, fun g k h => absurd h (Nat.not_lt_zero g), fun p _ => rfl⟩, fun g _ => ze⟩
theorem okH_Z : okH Z0 Z0 := fun s _ => ⟨(vp_in_iff.mpr (by decide) : vp_in (0 : Int32) 41), Or.inl rfl⟩
