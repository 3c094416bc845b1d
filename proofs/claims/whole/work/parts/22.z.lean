noncomputable def lysF (nu : FJ) (ea : FI) : Nat → FI × Int32
  | 0 => (ea, 0)
  | i + 1 => iF (¬ nu i < -99 ∧ ¬ 99 < nu i) (upd (lysF nu ea i).1 i (nu i).toInt32, (lysF nu ea i).2 + 1) (lysF nu ea i)
noncomputable def sLays (bits size : FI) (num : Nat → FJ) (σ : Sg) (fd : FI) (s : Int32) : Int32 × Sg × FI :=
  iF (vp_in s 4) (iF (bits (ix s) = 0) (-1000000006, σ, bump fd (-1000000006)) ((lysF (num (ix s)) (sEa σ) (min (ix (size (ix s))) (ix (sGu σ)))).2, uEa σ (lysF (num (ix s)) (sEa σ) (min (ix (size (ix s))) (ix (sGu σ)))).1, fd)) (-1000000001, σ, bump fd (-1000000001))
theorem lys_t {nu : FJ} {ea e : FI} {z : Int32} {i : Nat} (h : (e, z) = lysF nu ea i) (c : ¬ nu i < -99 ∧ ¬ 99 < nu i) : (upd e i (nu i).toInt32, z + 1) = lysF nu ea (i + 1) := by
  have e1 : (lysF nu ea i).1 = e := by rw [← h]
  have e2 : (lysF nu ea i).2 = z := by rw [← h]
  refine Eq.symm ((iF_t c).trans ?_)
  rw [e1, e2]
theorem lys_f {nu : FJ} {ea e : FI} {z : Int32} {i : Nat} (h : (e, z) = lysF nu ea i) (c : ¬ (¬ nu i < -99 ∧ ¬ 99 < nu i)) : (e, z) = lysF nu ea (i + 1) := h.trans (iF_f c).symm
theorem sz_of {z : Int32} (h : vp_in z 41) : z = nI (ix z) ∧ ix z ≤ 40 := ⟨(nI_ix (by decide) h).symm, by have := ix_lt (by decide) h; omega⟩
theorem l99 {v : Int64} (h : ¬ v < -99 ∧ ¬ 99 < v) : -99 ≤ v.toInt32.toInt ∧ v.toInt32.toInt ≤ 99 := by
  rw [fa_lt64, fa_lt64] at h
  have a1 : (-99 : Int64).toInt = -99 := by decide
  have a2 : (99 : Int64).toInt = 99 := by decide
  have e : v.toInt32.toInt = v.toInt := by
    rw [Int64.toInt_toInt32]
    exact Int.bmod_eq_of_le (by omega) (by omega)
  omega
abbrev cRun (z f n : Int32) : Prop := ¬ f < 0 ∧ ¬ n < 0 ∧ ¬ z < n ∧ ¬ (z - n) < f
theorem run_in {z f n : Int32} (hz : vp_in z 41) (h : cRun z f n) : ix f + ix n ≤ ix z ∧ ix z ≤ 40 ∧ vp_in n 41 ∧ vp_in f 41 := by
  obtain ⟨j, hj, rfl⟩ := vp_in_of hz (by decide)
  obtain ⟨h1, h2, h3, h4⟩ := h
  have z0 : (0 : Int32).toInt = 0 := by decide
  rw [fa_lt, z0] at h1 h2
  rw [fa_lt, nI_toInt (by omega)] at h3
  obtain ⟨a, ha, rfl⟩ := vp_in_of (show vp_in n 41 from vp_in_iff.mpr (by omega)) (by decide)
  rw [nI_toInt (by omega)] at h3
  have e : (nI j - nI a).toInt = (j : Int) - a := pk_sub_toInt (by omega) (by omega)
  rw [fa_lt, e] at h4
  obtain ⟨c, hc, rfl⟩ := vp_in_of (show vp_in f 41 from vp_in_iff.mpr (by omega)) (by decide)
  rw [nI_toInt (by omega)] at h4
  rw [ix_nI (by omega), ix_nI (by omega), ix_nI (by omega)]
  exact ⟨by omega, by omega, vp_in_nI ha (by decide), vp_in_nI hc (by decide)⟩
noncomputable def sCopy (bits size : FI) (num : Nat → FJ) (fd : FI) (s f t o n : Int32) : Int32 × (Nat → FJ) × FI :=
  iF (vp_in s 4 ∧ vp_in t 4) (iF (bits (ix s) = 0 ∨ bits (ix t) = 0) (-1000000006, num, bump fd (-1000000006)) (iF (bits (ix s) = bits (ix t)) (iF (cRun (size (ix s)) f n ∧ cRun (size (ix t)) o n) (n, va_up num (ix t) (va_cpy (num (ix s)) (num (ix t)) (ix f) (ix o) (ix n)), fd) (-1000000001, num, bump fd (-1000000001))) (-1000000003, num, bump fd (-1000000003)))) (-1000000001, num, bump fd (-1000000001))
section
variable {p : Program} {l : Launch} {e : Env} {R : Room} {s : State} {m : MethodId} {args : Array Value} {below : List Frame} {meth : Method} {c : Code} {H : Heap} {locs : List Loc} {cells slots : Nat} {Q : State → Prop}
variable {pc : Nat} {ls : Array Slot} {rest : List Value} {D : va_G} {cl : List vw_C} {A : Nat → Prop} {H0 : Heap} {tys : List (ClassId × FieldType)} {ws : va_W}
theorem va_copyL {cc : ByteArray} (hexec : p.tables.exec = Jvm.exec) (hb : c.code = cc) (hml : c.maxLocals = ls.size) {own : String} {index : Nat} (hown : s.vm.findClass own = some m.cls) (hlink : (Cond.methodLink own index arraycopyName).before args s = true) (hnat : (Cond.native arraycopyName).before args s = true) (hstat : (Cond.static arraycopyName).before args s = true) (hini : (Cond.initialized "java/lang/System").before args s = true)
    (hK : va_K D cl tys s) (hP : va_P D cl ws H) (hD : va_D A ws) (hS : va_S A H0 H locs) (q0 q1 t0 t1 : Nat) {a0 a : Nat} {c0 c1 : ClassId} {n0 n1 : Nat} {f g : Nat → Int64} (ha0 : ws[q0]? = some (a0, .inl (c0, n0, .inr (.inl f)))) (ha1 : ws[q1]? = some (a, .inl (c1, n1, .inr (.inl g)))) (ht0 : tys[t0]? = some (c0, .long)) (ht1 : tys[t1]? = some (c1, .long))
    {sp dp n : Int32} (h1 : ¬ sp < 0) (h2 : ¬ dp < 0) (h3 : ¬ n < 0) (h4 : ix sp + ix n ≤ n0) (h5 : ix dp + ix n ≤ n1) (hframes : 1 ≤ R.frames) (hlocals : (rest.map fun v => v.category).sum + (nativeFrameWords "java/lang/System" "arraycopy" 5 + 11) ≤ R.locals) (hdg : decode cc pc = .ok (.invokestatic index, 3))
    (kk : ∀ (H1 : Heap) (locs1 : List Loc), va_P D cl (ws.set q1 (a, .inl (c1, n1, .inr (.inl (va_cpy f g (ix sp) (ix dp) (ix n)))))) H1 → va_S A H0 H1 locs1 → W p l e R s m args below meth c H1 locs1 cells slots Q (F0 m (pc + 3) ls rest)) : W p l e R s m args below meth c H locs cells slots Q (F0 m pc ls (.int n :: .int dp :: .ref a :: .int sp :: .ref a0 :: rest)) :=
  va_copyl hexec hb hml hown hlink hnat hstat hini hK hP hD hS q0 q1 t0 t1 ha0 ha1 ht0 ht1 rfl h1 h2 h3 h4 h5 (fun i hi => rfl) hframes hlocals hdg (fun H1 locs1 hP1 _ hS1 => kk H1 locs1 hP1 hS1)
end
noncomputable def sFob (bits : FI) (σ : Sg) (s g : Int32) : Int32 := iF (vp_in s 4) (iF (bits (ix s) = 0) (-1000000006) (iF (sOne σ g) 0 (-1000000001))) (-1000000001)
theorem lys_end {nu : FJ} {e : FI} {z : Int32} {i N : Nat} {σ : Sg} {fd : FI} (h : (e, z) = lysF nu (sEa σ) i) (hN : N = i) : ((lysF nu (sEa σ) N).2, uEa σ (lysF nu (sEa σ) N).1, fd) = (z, uEa σ e, fd) := by
  subst hN
  rw [← h]
theorem fob_0 {bits : FI} {σ : Sg} {s g : Int32} (h : sFob bits σ s g = 0) : vp_in s 4 ∧ ¬ bits (ix s) = 0 ∧ sOne σ g := by
  unfold sFob at h
  by_cases h1 : vp_in s 4
  · rw [iF_t h1] at h
    by_cases h2 : bits (ix s) = 0
    · rw [iF_t h2] at h; exact absurd h (by decide)
    · rw [iF_f h2] at h
      by_cases h3 : sOne σ g
      · exact ⟨h1, h2, h3⟩
      · rw [iF_f h3] at h; exact absurd h (by decide)
  · rw [iF_f h1] at h; exact absurd h (by decide)
theorem fob_in {bits : FI} {σ : Sg} {s g : Int32} (h : ¬ sFob bits σ s g = 0) : vp_in ((-1000000001) - sFob bits σ s g) 7 := by
  unfold sFob at h ⊢
  by_cases h1 : vp_in s 4
  · rw [iF_t h1] at h ⊢
    by_cases h2 : bits (ix s) = 0
    · rw [iF_t h2]; exact vp_in_iff.mpr (by decide)
    · rw [iF_f h2] at h ⊢
      by_cases h3 : sOne σ g
      · rw [iF_t h3] at h; exact absurd rfl h
      · rw [iF_f h3]; exact vp_in_iff.mpr (by decide)
  · rw [iF_f h1]; exact vp_in_iff.mpr (by decide)
theorem nar_small {b x : Int32} (h : -99 ≤ x.toInt ∧ x.toInt ≤ 99) : sNar b x.toInt64 = x.toInt64 := by
  have e : x.toInt64.toInt32 = x := Int32.toInt32_toInt64 x
  unfold sNar
  rw [e, fb_byte (by omega) (by omega), fb_short (by omega) (by omega)]
  by_cases h1 : b = 8
  · rw [if_pos h1]
  · rw [if_neg h1]
    by_cases h2 : b = 16
    · rw [if_pos h2]
    · rw [if_neg h2]
noncomputable abbrev fBook (σ : Sg) (g : Int32) : FJ := fun i => (sEa (sPass i σ) (ix g)).toInt64
noncomputable def sBook (bits size : FI) (num : Nat → FJ) (σ : Sg) (fd : FI) (s g : Int32) : Int32 × (Nat → FJ) × FI :=
  iF (sFob bits σ s g = 0) (size (ix s), va_up num (ix s) (fa_fill (fBook σ g) (num (ix s)) (ix (size (ix s)))), fd) (sFob bits σ s g, num, bump fd (sFob bits σ s g))
theorem book_step {num : Nat → FJ} {σ : Sg} {g b : Int32} {j i i' : Nat} (e : i' = i) (h : -99 ≤ (sEa (sPass i σ) (ix g)).toInt ∧ (sEa (sPass i σ) (ix g)).toInt ≤ 99) : va_up (va_up num j (fa_fill (fBook σ g) (num j) i)) j (vp_updL (va_up num j (fa_fill (fBook σ g) (num j) i) j) i' (sNar b (sEa (sPass i σ) (ix g)).toInt64)) = va_up num j (fa_fill (fBook σ g) (num j) (i + 1)) := by
  subst e
  rw [bx_uu, va_up_self, nar_small h]
  congr 1
  exact fillL_succ
abbrev tRead (σ : Sg) (g : Int32) (c : Nat) : Sg := uSp (uKi σ (upd (sKi σ) (ix g) (nI (c / 10)))) (upd (sSp σ) (ix (sPl σ (ix g))) (nI (c % 10)))
abbrev pGoes (nu : FJ) (z : Nat) (σ : Sg) (g : Int32) : Prop := ∀ i, i < z → nu i = (sEa (sPass i σ) (ix g)).toInt64
noncomputable def cntF (P : Nat → Prop) : Nat → Int32
  | 0 => 0
  | n + 1 => iF (P n) (cntF P n + 1) (cntF P n)
abbrev pRead (num : Nat → FJ) (size : FI) (σ : Sg) (s g : Int32) (c : Nat) : Prop := pGoes (num (ix s)) (ix (size (ix s))) (tRead σ g c) g
noncomputable def sRead (bits size : FI) (num : Nat → FJ) (σ : Sg) (fd : FI) (s g : Int32) : Int32 × FI :=
  iF (sFob bits σ s g = 0) (cntF (pRead num size σ s g) 60, fd) (sFob bits σ s g, bump fd (sFob bits σ s g))
theorem ok_read {σ : Sg} {w : FI} (h : okS σ w) (g : Int32) {c : Nat} (hc : c < 60) : okS (tRead σ g c) w := ok_sp (ok_ki h (vp_in_nI (by omega) (by decide))) (vp_in_nI (by omega) (by decide))
theorem cnt_t {P : Nat → Prop} {n : Nat} {z : Int32} (h : z = cntF P n) (c : P n) : z + 1 = cntF P (n + 1) := by rw [h]; exact (iF_t c).symm
theorem cnt_f {P : Nat → Prop} {n : Nat} {z : Int32} (h : z = cntF P n) (c : ¬ P n) : z = cntF P (n + 1) := by rw [h]; exact (iF_f c).symm
