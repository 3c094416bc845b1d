/-! courses -/
def sHeld (v lo hi : Int32) : Int32 := if v < lo then lo else if hi < v then hi else v
def fEa (gu : Int32) (kn fo sp ki pl ea : FI) : FI := fun g => sHeld (ea g + sMore gu kn fo sp ki pl g) (-99) 99
noncomputable def fTo (gu : Int32) (sp ki pl ea to : FI) : FI := fun g => sHeld (to g + (sSet (sTells sp ki pl ea) (ix gu) >>> (nI g &&& 31) &&& 1)) 0 9999
noncomputable def fQu (gu : Int32) (ki pl ea qu : FI) : FI := fun g => sHeld (qu g + (if sSet (sSores ki ea) (ix gu) >>> (nI g &&& 31) &&& 1 = 1 then pop32 (sNear gu pl g &&& sSet (sSores ki ea) (ix gu)) else 0)) 0 9999
def cEa (gu : Int32) (kn fo sp ki pl ea : FI) : FI := fa_fill (fEa gu kn fo sp ki pl ea) ea (ix gu)
noncomputable def cTo (gu : Int32) (sp ki pl ea to : FI) : FI := fa_fill (fTo gu sp ki pl ea to) to (ix gu)
noncomputable def cQu (gu : Int32) (ki pl ea qu : FI) : FI := fa_fill (fQu gu ki pl ea qu) qu (ix gu)
abbrev Sg : Type := Int32 × Int32 × FI × FI × FI × FI × FI × FI × FI × FI
abbrev sCo (σ : Sg) : Int32 := σ.1
abbrev sGu (σ : Sg) : Int32 := σ.2.1
abbrev sKn (σ : Sg) : FI := σ.2.2.1
abbrev sFo (σ : Sg) : FI := σ.2.2.2.1
abbrev sSp (σ : Sg) : FI := σ.2.2.2.2.1
abbrev sKi (σ : Sg) : FI := σ.2.2.2.2.2.1
abbrev sPl (σ : Sg) : FI := σ.2.2.2.2.2.2.1
abbrev sEa (σ : Sg) : FI := σ.2.2.2.2.2.2.2.1
abbrev sTo (σ : Sg) : FI := σ.2.2.2.2.2.2.2.2.1
abbrev sQu (σ : Sg) : FI := σ.2.2.2.2.2.2.2.2.2
abbrev uCo (σ : Sg) (x : Int32) : Sg := (x, sGu σ, sKn σ, sFo σ, sSp σ, sKi σ, sPl σ, sEa σ, sTo σ, sQu σ)
abbrev uGu (σ : Sg) (x : Int32) : Sg := (sCo σ, x, sKn σ, sFo σ, sSp σ, sKi σ, sPl σ, sEa σ, sTo σ, sQu σ)
abbrev uKn (σ : Sg) (x : FI) : Sg := (sCo σ, sGu σ, x, sFo σ, sSp σ, sKi σ, sPl σ, sEa σ, sTo σ, sQu σ)
abbrev uFo (σ : Sg) (x : FI) : Sg := (sCo σ, sGu σ, sKn σ, x, sSp σ, sKi σ, sPl σ, sEa σ, sTo σ, sQu σ)
abbrev uSp (σ : Sg) (x : FI) : Sg := (sCo σ, sGu σ, sKn σ, sFo σ, x, sKi σ, sPl σ, sEa σ, sTo σ, sQu σ)
abbrev uKi (σ : Sg) (x : FI) : Sg := (sCo σ, sGu σ, sKn σ, sFo σ, sSp σ, x, sPl σ, sEa σ, sTo σ, sQu σ)
abbrev uPl (σ : Sg) (x : FI) : Sg := (sCo σ, sGu σ, sKn σ, sFo σ, sSp σ, sKi σ, x, sEa σ, sTo σ, sQu σ)
abbrev uEa (σ : Sg) (x : FI) : Sg := (sCo σ, sGu σ, sKn σ, sFo σ, sSp σ, sKi σ, sPl σ, x, sTo σ, sQu σ)
abbrev uTo (σ : Sg) (x : FI) : Sg := (sCo σ, sGu σ, sKn σ, sFo σ, sSp σ, sKi σ, sPl σ, sEa σ, x, sQu σ)
abbrev uQu (σ : Sg) (x : FI) : Sg := (sCo σ, sGu σ, sKn σ, sFo σ, sSp σ, sKi σ, sPl σ, sEa σ, sTo σ, x)
noncomputable def sCourse (σ : Sg) : Sg := (sCo σ + 1, sGu σ, sKn σ, sFo σ, sSp σ, sKi σ, sPl σ, cEa (sGu σ) (sKn σ) (sFo σ) (sSp σ) (sKi σ) (sPl σ) (sEa σ), cTo (sGu σ) (sSp σ) (sKi σ) (sPl σ) (sEa σ) (sTo σ), cQu (sGu σ) (sKi σ) (sPl σ) (cEa (sGu σ) (sKn σ) (sFo σ) (sSp σ) (sKi σ) (sPl σ) (sEa σ)) (sQu σ))
noncomputable def sPass : Nat → Sg → Sg
  | 0, σ => σ
  | n + 1, σ => sCourse (sPass n σ)
def okS (σ : Sg) (wh : FI) : Prop := okT (sGu σ) (sKn σ) (sFo σ) (sSp σ) wh (sKi σ) (sPl σ) ∧ okE (sEa σ) (sTo σ) (sQu σ)
theorem held_in {v lo hi : Int32} (h : lo.toInt ≤ hi.toInt) : lo.toInt ≤ (sHeld v lo hi).toInt ∧ (sHeld v lo hi).toInt ≤ hi.toInt := by
  unfold sHeld
  by_cases h1 : v < lo
  · rw [if_pos h1]; omega
  · rw [if_neg h1]
    by_cases h2 : hi < v
    · rw [if_pos h2]; omega
    · rw [if_neg h2]
      rw [fa_lt] at h1 h2
      omega
theorem held_mm (v : Int32) : (if -99 < (if v < 99 then v else 99) then (if v < 99 then v else 99) else -99) = sHeld v (-99) 99 := by
  have e1 : (99 : Int32).toInt = 99 := by decide
  have e2 : (-99 : Int32).toInt = -99 := by decide
  unfold sHeld
  simp only [fa_lt]
  by_cases h1 : v.toInt < 99
  · simp only [e1, h1, if_true, e2]
    by_cases h2 : -99 < v.toInt
    · rw [if_pos h2, if_neg (by omega), if_neg (by omega)]
    · rw [if_neg h2]
      by_cases h3 : v.toInt < -99
      · rw [if_pos h3]
      · rw [if_neg h3, if_neg (by omega)]
        rw [fa_eq, e2]; omega
  · simp only [e1, h1, if_false, e2]
    rw [if_pos (by decide), if_neg (by omega)]
    by_cases h3 : 99 < v.toInt
    · rw [if_pos h3]
    · rw [if_neg h3, fa_eq, e1]; omega
theorem held_mn {v : Int32} (h : 0 ≤ v.toInt) : (if v < 9999 then v else 9999) = sHeld v 0 9999 := by
  have e1 : (9999 : Int32).toInt = 9999 := by decide
  have e2 : (0 : Int32).toInt = 0 := by decide
  unfold sHeld
  simp only [fa_lt, e1, e2]
  rw [if_neg (by omega : ¬ v.toInt < 0)]
  by_cases h1 : v.toInt < 9999
  · rw [if_pos h1, if_neg (by omega)]
  · rw [if_neg h1]
    by_cases h3 : 9999 < v.toInt
    · rw [if_pos h3]
    · rw [if_neg h3, fa_eq, e1]; omega
theorem held_id {v : Int32} (h : 0 ≤ v.toInt) (h2 : v.toInt ≤ 9999) : sHeld (v + 0) 0 9999 = v := by
  have e1 : (9999 : Int32).toInt = 9999 := by decide
  have e2 : (0 : Int32).toInt = 0 := by decide
  rw [show v + 0 = v from Int32.add_zero v]
  unfold sHeld
  simp only [fa_lt, e1, e2]
  rw [if_neg (by omega), if_neg (by omega)]
theorem bit_in (x y : Int32) : 0 ≤ ((x >>> (y &&& 31)) &&& 1).toInt ∧ ((x >>> (y &&& 31)) &&& 1).toInt ≤ 1 := by
  obtain ⟨j, hj, e⟩ := pk_andE (x >>> (y &&& 31)) (m := 1) 1 (by decide)
  rw [e, nI_toInt (by omega)]
  omega
theorem and_small {x y : Int32} (hx : 0 ≤ x.toInt ∧ x.toInt < 256) : ∃ n, n < 256 ∧ x &&& y = nI n := by
  obtain ⟨a, ha, rfl⟩ : ∃ a : Nat, a < 256 ∧ x = nI a := vp_in_of (vp_in_iff.mpr (by omega)) (by decide)
  refine ⟨(nI a &&& y).toBitVec.toNat, ?_, ?_⟩
  · have h1 : (nI a &&& y).toBitVec = (nI a).toBitVec &&& y.toBitVec := rfl
    rw [h1, BitVec.toNat_and, pk_tn (by omega)]
    exact Nat.lt_of_le_of_lt Nat.and_le_left ha
  · apply Int32.toBitVec_inj.mp
    apply BitVec.eq_of_toNat_eq
    have h1 : (nI a &&& y).toBitVec = (nI a).toBitVec &&& y.toBitVec := rfl
    have h2 : (nI a &&& y).toBitVec.toNat < 256 := by rw [h1, BitVec.toNat_and, pk_tn (by omega)]; exact Nat.lt_of_le_of_lt Nat.and_le_left ha
    rw [pk_tn (by omega)]
theorem pop_in : ∀ n, n < 256 → 0 ≤ (pop32 (nI n)).toInt ∧ (pop32 (nI n)).toInt ≤ 8 := by decide +kernel
theorem bit_small : ∀ a, a < 8 → 0 ≤ (sBit (nI a)).toInt ∧ (sBit (nI a)).toInt < 256 := by decide +kernel
theorem or_small : ∀ a, a < 8 → ∀ b, b < 8 → 0 ≤ (sBit (nI a) ||| sBit (nI b)).toInt ∧ (sBit (nI a) ||| sBit (nI b)).toInt < 256 := by decide +kernel
theorem or_small1 : ∀ a, a < 8 → (0 ≤ (sBit (nI a) ||| sBit (-1)).toInt ∧ (sBit (nI a) ||| sBit (-1)).toInt < 256) ∧ (0 ≤ (sBit (-1) ||| sBit (nI a)).toInt ∧ (sBit (-1) ||| sBit (nI a)).toInt < 256) := by decide +kernel
theorem near_in {gu : Int32} (hg : vp_in gu 9) (pl : FI) (g : Nat) : 0 ≤ (sNear gu pl g).toInt ∧ (sNear gu pl g).toInt < 256 := by
  have h8 := (gu_of hg).2
  unfold sNear sL sR
  rcases who_cases pl (sBef (pl g)) (ix gu) with h1 | ⟨a, ha, h1, -⟩ <;> rcases who_cases pl (sBeh (pl g)) (ix gu) with h2 | ⟨b, hb, h2, -⟩ <;> rw [h1, h2]
  · decide +kernel
  · exact (or_small1 b (by omega)).2
  · exact (or_small1 a (by omega)).1
  · exact or_small a (by omega) b (by omega)
theorem held99 (v : Int32) : -99 ≤ (sHeld v (-99) 99).toInt ∧ (sHeld v (-99) 99).toInt ≤ 99 := by
  have h := held_in (v := v) (lo := -99) (hi := 99) (by decide)
  have a1 : (-99 : Int32).toInt = -99 := by decide
  have a2 : (99 : Int32).toInt = 99 := by decide
  omega
theorem held9999 (v : Int32) : 0 ≤ (sHeld v 0 9999).toInt ∧ (sHeld v 0 9999).toInt ≤ 9999 := by
  have h := held_in (v := v) (lo := 0) (hi := 9999) (by decide)
  have a1 : (0 : Int32).toInt = 0 := by decide
  have a2 : (9999 : Int32).toInt = 9999 := by decide
  omega
theorem cEa_in {gu : Int32} {kn fo sp ki pl ea : FI} {g : Nat} (h : -99 ≤ (ea g).toInt ∧ (ea g).toInt ≤ 99) : -99 ≤ (cEa gu kn fo sp ki pl ea g).toInt ∧ (cEa gu kn fo sp ki pl ea g).toInt ≤ 99 := by
  unfold cEa
  by_cases hi : g < ix gu
  · rw [fa_fill_in hi]; unfold fEa; exact held99 _
  · rw [fa_fill_out (by omega)]; exact h
theorem cTo_in {gu : Int32} {sp ki pl ea to : FI} {g : Nat} (h : 0 ≤ (to g).toInt ∧ (to g).toInt ≤ 9999) : 0 ≤ (cTo gu sp ki pl ea to g).toInt ∧ (cTo gu sp ki pl ea to g).toInt ≤ 9999 := by
  unfold cTo
  by_cases hi : g < ix gu
  · rw [fa_fill_in hi]; unfold fTo; exact held9999 _
  · rw [fa_fill_out (by omega)]; exact h
theorem cQu_in {gu : Int32} {ki pl ea qu : FI} {g : Nat} (h : 0 ≤ (qu g).toInt ∧ (qu g).toInt ≤ 9999) : 0 ≤ (cQu gu ki pl ea qu g).toInt ∧ (cQu gu ki pl ea qu g).toInt ≤ 9999 := by
  unfold cQu
  by_cases hi : g < ix gu
  · rw [fa_fill_in hi]; unfold fQu; exact held9999 _
  · rw [fa_fill_out (by omega)]; exact h
theorem okE_course {σ : Sg} {wh : FI} (h : okS σ wh) : okS (sCourse σ) wh :=
  ⟨h.1, fun g hg => ⟨cEa_in (h.2 g hg).1, cTo_in (h.2 g hg).2.1, cQu_in (h.2 g hg).2.2⟩⟩
theorem okS_pass {σ : Sg} {wh : FI} (h : okS σ wh) : ∀ n, okS (sPass n σ) wh
  | 0 => h
  | n + 1 => okE_course (okS_pass h n)
theorem pass_st (σ : Sg) : ∀ n, sGu (sPass n σ) = sGu σ ∧ sKn (sPass n σ) = sKn σ ∧ sFo (sPass n σ) = sFo σ ∧ sSp (sPass n σ) = sSp σ ∧ sKi (sPass n σ) = sKi σ ∧ sPl (sPass n σ) = sPl σ
  | 0 => ⟨rfl, rfl, rfl, rfl, rfl, rfl⟩
  | n + 1 => pass_st σ n
theorem lt_upd {f F : FI} {i : Nat} {v : Int32} (h : ∀ g, g < i → f g = F g) (e : v = F i) : ∀ g, g < i + 1 → upd f i v g = F g := by
  intro g hg
  by_cases hgi : g = i
  · subst hgi; rw [pk_us, e]
  · rw [pk_un hgi]; exact h g (by omega)
theorem step_ea {gu : Int32} {kn fo sp ki pl ea mo : FI} {i j : Nat} (e : j = i) (hm : mo i = sMore gu kn fo sp ki pl i) : upd (fa_fill (fEa gu kn fo sp ki pl ea) ea i) j (if (-99) < (if (fa_fill (fEa gu kn fo sp ki pl ea) ea i j + mo j) < 99 then (fa_fill (fEa gu kn fo sp ki pl ea) ea i j + mo j) else 99) then (if (fa_fill (fEa gu kn fo sp ki pl ea) ea i j + mo j) < 99 then (fa_fill (fEa gu kn fo sp ki pl ea) ea i j + mo j) else 99) else (-99)) = fa_fill (fEa gu kn fo sp ki pl ea) ea (i + 1) := by
  subst e
  rw [fa_fill_out (Nat.le_refl j), hm, held_mm]
  exact fa_fill_succ (fEa gu kn fo sp ki pl ea) ea j
theorem to_bit {to : FI} {ea qu : FI} (oe : okE ea to qu) {i : Nat} (hi : i < 8) (x y : Int32) : 0 ≤ (to i + (x >>> (y &&& 31) &&& 1)).toInt := by
  have h := (oe i hi).2.1
  have hb := bit_in x y
  rw [fb_addI (by omega) (by omega)]
  omega
theorem step_to {gu : Int32} {sp ki pl ea to qu : FI} (oe : okE ea to qu) {i j : Nat} (e : j = i) (hi : i < 8) : upd (fa_fill (fTo gu sp ki pl ea to) to i) j (if (fa_fill (fTo gu sp ki pl ea to) to i j + ((sSet (sTells sp ki pl ea) (ix gu) >>> (nI i &&& 31)) &&& 1)) < 9999 then (fa_fill (fTo gu sp ki pl ea to) to i j + ((sSet (sTells sp ki pl ea) (ix gu) >>> (nI i &&& 31)) &&& 1)) else 9999) = fa_fill (fTo gu sp ki pl ea to) to (i + 1) := by
  subst e
  rw [fa_fill_out (Nat.le_refl j), held_mn (to_bit oe hi _ _)]
  exact fa_fill_succ (fTo gu sp ki pl ea to) to j
theorem step_qu {gu : Int32} {ki pl ea ea0 to qu ne : FI} (hg : vp_in gu 9) (oe : okE ea0 to qu) {i j : Nat} (e : j = i) (hi : i < 8) (hn : ne i = sNear gu pl i) (hc : ((sSet (sSores ki ea) (ix gu) >>> (nI i &&& 31)) &&& 1) = 1) : upd (fa_fill (fQu gu ki pl ea qu) qu i) j (if (fa_fill (fQu gu ki pl ea qu) qu i j + pop32 (ne j &&& sSet (sSores ki ea) (ix gu))) < 9999 then (fa_fill (fQu gu ki pl ea qu) qu i j + pop32 (ne j &&& sSet (sSores ki ea) (ix gu))) else 9999) = fa_fill (fQu gu ki pl ea qu) qu (i + 1) := by
  subst e
  have hq := (oe j hi).2.2
  obtain ⟨k, hk, ek⟩ := and_small (y := sSet (sSores ki ea) (ix gu)) (near_in hg pl j)
  have hp := pop_in k hk
  have hz : 0 ≤ (qu j + pop32 (sNear gu pl j &&& sSet (sSores ki ea) (ix gu))).toInt := by
    rw [ek, fb_addI (by omega) (by omega)]; omega
  rw [fa_fill_out (Nat.le_refl j), hn, held_mn hz]
  rw [← fa_fill_succ (fQu gu ki pl ea qu) qu j]
  unfold fQu
  rw [if_pos hc]
theorem keep_qu {gu : Int32} {ki pl ea ea0 to qu : FI} (oe : okE ea0 to qu) {i : Nat} (hi : i < 8) (hc : ¬ ((sSet (sSores ki ea) (ix gu) >>> (nI i &&& 31)) &&& 1) = 1) : fa_fill (fQu gu ki pl ea qu) qu (i + 1) = fa_fill (fQu gu ki pl ea qu) qu i := by
  have hq := (oe i hi).2.2
  have h1 : fQu gu ki pl ea qu i = qu i := by
    unfold fQu
    rw [if_neg hc, held_id hq.1 hq.2]
  funext k
  unfold fa_fill
  by_cases hk : k < i
  · rw [if_pos hk, if_pos (by omega)]
  · by_cases hk2 : k = i
    · subst hk2; rw [if_pos (by omega), if_neg hk, h1]
    · rw [if_neg (by omega), if_neg hk]
theorem pass_more {σ : Sg} {mo : FI} (h : ∀ g, g < ix (sGu σ) → mo g = sMore (sGu σ) (sKn σ) (sFo σ) (sSp σ) (sKi σ) (sPl σ) g) (n : Nat) : ∀ g, g < ix (sGu (sPass n σ)) → mo g = sMore (sGu (sPass n σ)) (sKn (sPass n σ)) (sFo (sPass n σ)) (sSp (sPass n σ)) (sKi (sPass n σ)) (sPl (sPass n σ)) g := by
  obtain ⟨e1, e2, e3, e4, e5, e6⟩ := pass_st σ n
  rw [e1, e2, e3, e4, e5, e6]
  exact h
theorem pass_near {σ : Sg} {ne : FI} (h : ∀ g, g < ix (sGu σ) → ne g = sNear (sGu σ) (sPl σ) g) (n : Nat) : ∀ g, g < ix (sGu (sPass n σ)) → ne g = sNear (sGu (sPass n σ)) (sPl (sPass n σ)) g := by
  obtain ⟨e1, e2, e3, e4, e5, e6⟩ := pass_st σ n
  rw [e1, e6]
  exact h
def tbw2 (cI : ClassId) (b b2 : Nat → Nat) (co gu : Int32) (kn fo sp wh ki pl ea to qu mo ne : FI) (co2 gu2 : Int32) (kn2 fo2 sp2 wh2 ki2 pl2 ea2 to2 qu2 mo2 ne2 : FI) : va_W := tbw cI b co gu kn fo sp wh ki pl ea to qu mo ne ++ tbw cI b2 co2 gu2 kn2 fo2 sp2 wh2 ki2 pl2 ea2 to2 qu2 mo2 ne2
theorem arr_eq {cA : ClassId} {n : Nat} {f g : FI} (h : ∀ j, j < n → f j = g j) : vp_cell cA (n, .inl f) = vp_cell cA (n, .inl g) := by
  show arrV cA n (fun j => .int (f j)) = arrV cA n (fun j => .int (g j))
  unfold arrV
  congr 1
  apply Array.ext
  · simp
  · intro i h1 h2
    simp only [Array.getElem_ofFn]
    rw [h i (by simpa using h1)]
theorem arrL_eq {cA : ClassId} {n : Nat} {f g : FJ} (h : ∀ j, j < n → f j = g j) : vp_cell cA (n, .inr (.inl f)) = vp_cell cA (n, .inr (.inl g)) := by
  show arrV cA n (fun j => .long (f j)) = arrV cA n (fun j => .long (g j))
  unfold arrV
  congr 1
  apply Array.ext
  · simp
  · intro i h1 h2
    simp only [Array.getElem_ofFn]
    rw [h i (by simpa using h1)]
theorem va_P_set {D : va_G} {cl : List vw_C} {ws : va_W} {H : Heap} {q0 a : Nat} {cA : ClassId} {x y : vp_A} (hP : va_P D cl (ws.set q0 (a, .inl (cA, x))) H) (e : vp_cell cA x = vp_cell cA y) : va_P D cl (ws.set q0 (a, .inl (cA, y))) H := by
  intro k q hq
  rw [List.getElem?_set] at hq
  split at hq
  · rename_i hk
    split at hq
    · rename_i hl
      injection hq with hq
      subst hq
      have := hP k (a, .inl (cA, x)) (by rw [List.getElem?_set, if_pos hk, if_pos hl])
      show H[a]? = some (vp_cell cA y)
      rw [← e]
      exact this
    · cases hq
  · rename_i hk
    exact hP k q (by rw [List.getElem?_set, if_neg hk]; exact hq)
section
variable {p : Program} {l : Launch} {e : Env} {R : Room} {s : State} {m : MethodId} {args : Array Value} {below : List Frame} {meth : Method} {c : Code} {H : Heap} {locs : List Loc} {cells slots : Nat} {Q : State → Prop}
variable {pc : Nat} {ls : Array Slot} {rest : List Value} {D : va_G} {cl : List vw_C} {A : Nat → Prop} {H0 : Heap} {tys : List (ClassId × FieldType)} {ws : va_W}
theorem va_copyA {cc : ByteArray} (hexec : p.tables.exec = Jvm.exec) (hb : c.code = cc) (hml : c.maxLocals = ls.size) {own : String} {index : Nat} (hown : s.vm.findClass own = some m.cls) (hlink : (Cond.methodLink own index arraycopyName).before args s = true) (hnat : (Cond.native arraycopyName).before args s = true) (hstat : (Cond.static arraycopyName).before args s = true) (hini : (Cond.initialized "java/lang/System").before args s = true)
    (hK : va_K D cl tys s) (hP : va_P D cl ws H) (hD : va_D A ws) (hS : va_S A H0 H locs) (q0 q1 t0 t1 : Nat) {a0 a : Nat} {c0 c1 : ClassId} {N : Nat} {f g : Nat → Int32} (ha0 : ws[q0]? = some (a0, .inl (c0, N, .inl f))) (ha1 : ws[q1]? = some (a, .inl (c1, N, .inl g))) (ht0 : tys[t0]? = some (c0, .int)) (ht1 : tys[t1]? = some (c1, .int))
    {n : Int32} (h3 : ¬ n < 0) (hn : n.toNatClampNeg = N) (hframes : 1 ≤ R.frames) (hlocals : (rest.map fun v => v.category).sum + (nativeFrameWords "java/lang/System" "arraycopy" 5 + 11) ≤ R.locals) (hdg : decode cc pc = .ok (.invokestatic index, 3))
    (kk : ∀ (H1 : Heap) (locs1 : List Loc), va_P D cl (ws.set q1 (a, .inl (c1, N, .inl f))) H1 → va_S A H0 H1 locs1 → W p l e R s m args below meth c H1 locs1 cells slots Q (F0 m (pc + 3) ls rest)) : W p l e R s m args below meth c H locs cells slots Q (F0 m pc ls (.int n :: .int 0 :: .ref a :: .int 0 :: .ref a0 :: rest)) := by
  have z0 : (0 : Int32).toNatClampNeg = 0 := by decide
  refine va_copyi hexec hb hml hown hlink hnat hstat hini hK hP hD hS q0 q1 t0 t1 ha0 ha1 ht0 ht1 rfl (by decide) (by decide) h3 (by rw [z0, hn]; omega) (by rw [z0, hn]; omega) (fun i hi => rfl) hframes hlocals hdg (fun H1 locs1 hP1 _ hS1 => ?_)
  refine kk H1 locs1 (va_P_set hP1 (arr_eq (fun j hj => ?_))) hS1
  rw [z0, hn]
  rw [pk_cpy_in (by omega) (by omega)]
  congr 1
  omega
end
