/-! the state and what it means: both the class and the reference are tied to these words -/
theorem in_at (i : Nat) (u big : List Cond) (h : (big.drop i).take u.length = u) : ∀ w ∈ u, w ∈ big := by
  intro w hw
  rw [← h] at hw
  exact List.mem_of_mem_drop (List.mem_of_mem_take hw)
theorem va_DT {A : Nat → Prop} {ws ws' : va_W} (h : va_D A ws) (e : ws'.map Prod.fst = ws.map Prod.fst) : va_D (fun _ => True) ws' := (va_D_adr h e).weaken (fun _ _ _ _ => trivial)
theorem bI_fit (P : Prop) : fits .boolean (.int (bI P)) = true := by
  by_cases h : P
  · rw [bI_t h]; rfl
  · rw [bI_f h]; rfl
abbrev tyG (cI cL cS : ClassId) : List (ClassId × FieldType) := [(cI, .int), (cL, .long), (cS, .object "KnivesLaid$Sheet")]
def sAbove (k : Int32) : Int32 := if k = 1 then 0 else if k = 2 then 0 else if k = 3 then 0 else if k = 4 then 1 else if k = 5 then 2 else -1
def sUp : Nat → Int32 → Int32 → Prop
  | 0, _, _ => False
  | n + 1, k, o => ¬ k < 0 ∧ (k = o ∨ sUp n (sAbove k) o)
def sFeel (kd k f s n : Int32) : Int32 :=
  if kd = 1 then ((if k = 0 then 2 else -3) + (if f = 1 then -4 else 0)) - s
  else if kd = 2 then ((if k = 0 then 2 else -3) + (if f = 1 then -4 else 0)) + n
  else if kd = 3 then (if k = 0 then (if f = 0 then (if s = 0 then 1 else -2 * n) else -2 * n) else -2 * n)
  else if kd = 4 then (if n = 2 then 2 * (((if k = 0 then 2 else -3) + (if f = 1 then -4 else 0)) - s) else ((if k = 0 then 2 else -3) + (if f = 1 then -4 else 0)) - s)
  else if kd = 5 then (if f = 1 then -9 else ((if k = 0 then 2 else -3) + (if f = 1 then -4 else 0)) + n)
  else (if k = 0 then 2 else -3) + (if f = 1 then -4 else 0)
def sCat (kd k f : Int32) : Int32 :=
  if kd = 1 then 0 else if kd = 4 then 0
  else if kd = 2 then (if k = 1 then -1 else 0) + (if f = 0 then 1 else 0)
  else if kd = 3 then (if f = 1 then -3 else 0)
  else if kd = 5 then 2 * ((if k = 1 then -1 else 0) + (if f = 0 then 1 else 0))
  else (if k = 1 then -1 else 0)
def sTel (kd s e : Int32) : Prop := (kd = 1 ∧ ¬ s ≤ 0) ∨ (kd = 4 ∧ ¬ s ≤ 0 ∧ e < 0) ∨ (kd = 5 ∧ ¬ e < 5) ∨ (¬ kd = 1 ∧ ¬ kd = 3 ∧ ¬ kd = 4 ∧ ¬ kd = 5 ∧ ¬ e < 20)
def sSore (kd : Int32) : Int32 := if kd = 1 then -50 else if kd = 4 then -50 else if kd = 2 then -15 else if kd = 3 then -10 else if kd = 5 then -5 else -20
noncomputable def sSet (P : Nat → Prop) : Nat → Int32
  | 0 => 0
  | n + 1 => sSet P n ||| iF (P n) (1 <<< (nI n &&& 31)) 0
def sSum (f : FI) : Nat → Int32
  | 0 => 0
  | n + 1 => sSum f n + f n
def sWhoN (pl : FI) (p : Int32) : Nat → Int32
  | 0 => -1
  | n + 1 => if pl n = p then nI n else sWhoN pl p n
def sBef (p : Int32) : Int32 := if p = 0 then 9 else p - 1
def sBeh (p : Int32) : Int32 := if p = 9 then 0 else p + 1
def sBit (x : Int32) : Int32 := if x = -1 then 0 else 1 <<< (x &&& 31)
def sL (gu : Int32) (pl : FI) (g : Nat) : Int32 := sWhoN pl (sBef (pl g)) (ix gu)
def sR (gu : Int32) (pl : FI) (g : Nat) : Int32 := sWhoN pl (sBeh (pl g)) (ix gu)
def sNear (gu : Int32) (pl : FI) (g : Nat) : Int32 := sBit (sL gu pl g) ||| sBit (sR gu pl g)
def sMany (gu : Int32) (pl : FI) (g : Nat) : Int32 := (if sL gu pl g = -1 then 0 else 1) + (if sR gu pl g = -1 then 0 else 1)
def sFeels (gu : Int32) (kn fo sp ki pl : FI) (g : Nat) : Int32 := sFeel (ki g) (kn (ix (pl g))) (fo (ix (pl g))) (sp (ix (pl g))) (sMany gu pl g)
def sCau (gu : Int32) (kn fo ki pl : FI) (g : Nat) (q : Int32) : Int32 := if sWhoN pl q (ix gu) = -1 then 0 else sCat (ki g) (kn (ix q)) (fo (ix q))
def sCatch (gu : Int32) (kn fo ki pl : FI) (g : Nat) : Int32 := sCau gu kn fo ki pl g (sBef (pl g)) + sCau gu kn fo ki pl g (sBeh (pl g))
def sMore (gu : Int32) (kn fo sp ki pl : FI) (g : Nat) : Int32 := sFeels gu kn fo sp ki pl g + sCatch gu kn fo ki pl g
def sTells (sp ki pl ea : FI) (g : Nat) : Prop := sTel (ki g) (sp (ix (pl g))) (ea g)
def sSores (ki ea : FI) (g : Nat) : Prop := ea g < sSore (ki g)
def pop32 (x : Int32) : Int32 :=
  let a := x - ((x.toUInt32 >>> ((1 : Int32).toUInt32 &&& Int32.toUInt32 31)).toInt32 &&& 1431655765)
  let b := (a &&& 858993459) + ((a.toUInt32 >>> ((2 : Int32).toUInt32 &&& Int32.toUInt32 31)).toInt32 &&& 858993459)
  let c := (b + (b.toUInt32 >>> ((4 : Int32).toUInt32 &&& Int32.toUInt32 31)).toInt32) &&& 252645135
  let d := c + (c.toUInt32 >>> ((8 : Int32).toUInt32 &&& Int32.toUInt32 31)).toInt32
  let f := d + (d.toUInt32 >>> ((16 : Int32).toUInt32 &&& Int32.toUInt32 31)).toInt32
  f &&& 63
/-- what holds of a table, its ease apart -/
def okT (gu : Int32) (kn fo sp wh ki pl : FI) : Prop :=
  vp_in gu 9 ∧ (∀ g, g < 8 → vp_in (pl g) 10) ∧ (∀ g, g < 8 → vp_in (ki g) 6) ∧ (∀ p, p < 10 → vp_in (kn p) 2 ∧ vp_in (fo p) 2 ∧ vp_in (sp p) 10) ∧ (∀ g h, g < ix gu → h < ix gu → pl g = pl h → g = h) ∧ (∀ p, p < 10 → wh p = sWhoN pl (nI p) (ix gu))
/-- what holds of the guests' numbers -/
def okE (ea to qu : FI) : Prop := ∀ g, g < 8 → (-99 ≤ (ea g).toInt ∧ (ea g).toInt ≤ 99) ∧ (0 ≤ (to g).toInt ∧ (to g).toInt ≤ 9999) ∧ (0 ≤ (qu g).toInt ∧ (qu g).toInt ≤ 9999)
theorem okT.gu {gu : Int32} {kn fo sp wh ki pl : FI} (h : okT gu kn fo sp wh ki pl) : vp_in gu 9 := h.1
theorem okT.pl {gu : Int32} {kn fo sp wh ki pl : FI} (h : okT gu kn fo sp wh ki pl) {x : Int32} (hx : vp_in x 8) : vp_in (pl (ix x)) 10 := h.2.1 _ (ix_lt (by decide) hx)
theorem okT.ki {gu : Int32} {kn fo sp wh ki pl : FI} (h : okT gu kn fo sp wh ki pl) {x : Int32} (hx : vp_in x 8) : vp_in (ki (ix x)) 6 := h.2.2.1 _ (ix_lt (by decide) hx)
theorem okT.wh {gu : Int32} {kn fo sp wh ki pl : FI} (h : okT gu kn fo sp wh ki pl) {x : Int32} (hx : vp_in x 10) : wh (ix x) = sWhoN pl x (ix gu) := by
  have := h.2.2.2.2.2 (ix x) (ix_lt (by decide) hx)
  rw [nI_ix (by decide) hx] at this
  exact this
theorem in_bef {x : Int32} (h : vp_in x 10) : vp_in (sBef x) 10 := by
  obtain ⟨j, hj, rfl⟩ := vp_in_of h (by decide)
  have : ∀ j, j < 10 → 0 ≤ (sBef (nI j)).toInt ∧ (sBef (nI j)).toInt < 10 := by decide
  exact vp_in_iff.mpr (this j hj)
theorem in_beh {x : Int32} (h : vp_in x 10) : vp_in (sBeh x) 10 := by
  obtain ⟨j, hj, rfl⟩ := vp_in_of h (by decide)
  have : ∀ j, j < 10 → 0 ≤ (sBeh (nI j)).toInt ∧ (sBeh (nI j)).toInt < 10 := by decide
  exact vp_in_iff.mpr (this j hj)
theorem in_8 {x gu : Int32} (hg : vp_in gu 9) (h : vp_in x (ix gu)) : vp_in x 8 := in_le h (by have := ix_lt (by decide) hg; omega)
theorem gu_of {gu : Int32} (hg : vp_in gu 9) : gu = nI (ix gu) ∧ ix gu ≤ 8 := ⟨(nI_ix (by decide) hg).symm, by have := ix_lt (by decide) hg; omega⟩
theorem has_t {x gu : Int32} (hg : vp_in gu 9) (h0 : ¬ x < 0) (h1 : ¬ gu ≤ x) : vp_in x (ix gu) := by
  obtain ⟨e, hb⟩ := gu_of hg
  rw [e] at h1
  exact in_of (by omega) h0 h1
theorem has_f {x gu : Int32} (hg : vp_in gu 9) (h : x < 0 ∨ gu ≤ x) : ¬ vp_in x (ix gu) := by
  obtain ⟨e, hb⟩ := gu_of hg
  intro hv
  have := (in_iff (by omega)).mp hv
  rcases h with h | h
  · exact this.1 h
  · rw [e] at h; exact this.2 h
theorem cmp_le {x y : Int32} {a b : Nat} (hx : x = nI a) (hy : y = nI b) (ha : a < 2 ^ 31) (hb : b < 2 ^ 31) : x ≤ y ↔ a ≤ b := by subst hx; subst hy; exact nI_leI ha hb
theorem cmp_lt {x y : Int32} {a b : Nat} (hx : x = nI a) (hy : y = nI b) (ha : a < 2 ^ 31) (hb : b < 2 ^ 31) : x < y ↔ a < b := by subst hx; subst hy; exact nI_ltI ha hb
theorem cmp_eq {x y : Int32} {a b : Nat} (hx : x = nI a) (hy : y = nI b) (ha : a < 2 ^ 31) (hb : b < 2 ^ 31) : x = y ↔ a = b := by subst hx; subst hy; exact nI_eq ha hb
/-- one array alone -/
def ar (cI : ClassId) (a k : Nat) (f : FI) : va_W := [(a, .inl (cI, k, .inl f))]
/-- a table's cells -/
def tbw (cI : ClassId) (b : Nat → Nat) (co gu : Int32) (kn fo sp wh ki pl ea to qu mo ne : FI) : va_W :=
  [(b 0, .inr (1, [.int co, .ref (b 1), .ref (b 2), .ref (b 3), .ref (b 4), .int gu, .ref (b 5), .ref (b 6), .ref (b 7), .ref (b 8), .ref (b 9), .ref (b 10), .ref (b 11)])),
   (b 1, .inl (cI, 10, .inl kn)), (b 2, .inl (cI, 10, .inl fo)), (b 3, .inl (cI, 10, .inl sp)), (b 4, .inl (cI, 10, .inl wh)), (b 5, .inl (cI, 8, .inl ki)), (b 6, .inl (cI, 8, .inl pl)), (b 7, .inl (cI, 8, .inl ea)), (b 8, .inl (cI, 8, .inl to)), (b 9, .inl (cI, 8, .inl qu)), (b 10, .inl (cI, 8, .inl mo)), (b 11, .inl (cI, 8, .inl ne))]
/-- the addresses of n cells are apart -/
def dj0 (b : Nat → Nat) (n : Nat) : va_W := (List.range n).map (fun k => (b k, .inr (0, [])))
theorem sSet_t {P : Nat → Prop} {n j : Nat} (e : j = n) (h : P j) : sSet P (n + 1) = sSet P n ||| 1 <<< (nI n &&& 31) := by
  subst e
  show sSet P j ||| iF (P j) (1 <<< (nI j &&& 31)) 0 = _
  rw [iF_t h]
theorem i_or0 (x : Int32) : x ||| 0 = x := by
  apply Int32.toBitVec_inj.mp
  simp
theorem sSet_f {P : Nat → Prop} {n j : Nat} (e : j = n) (h : ¬ P j) : sSet P (n + 1) = sSet P n := by
  subst e
  show sSet P j ||| iF (P j) (1 <<< (nI j &&& 31)) 0 = _
  rw [iF_f h, i_or0]
theorem who_cases (pl : FI) (p : Int32) : ∀ n, sWhoN pl p n = -1 ∨ ∃ g, g < n ∧ sWhoN pl p n = nI g ∧ pl g = p
  | 0 => Or.inl rfl
  | n + 1 => by
    by_cases h : pl n = p
    · exact Or.inr ⟨n, Nat.lt_succ_self n, by simp [sWhoN, h], h⟩
    · rcases who_cases pl p n with q | ⟨g, hg, q, hp⟩
      · exact Or.inl (by simp [sWhoN, h, q])
      · exact Or.inr ⟨g, by omega, by simp [sWhoN, h, q], hp⟩
theorem befbeh : ∀ j, j < 10 → sBef (nI j) ≠ sBeh (nI j) := by decide
theorem pop_two : ∀ a, a < 8 → ∀ b, b < 8 → a ≠ b → pop32 (sBit (nI a) ||| sBit (nI b)) = 2 := by decide +kernel
theorem pop_one : ∀ a, a < 8 → pop32 (sBit (nI a) ||| sBit (-1)) = 1 ∧ pop32 (sBit (-1) ||| sBit (nI a)) = 1 ∧ nI a ≠ -1 := by decide +kernel
theorem pop_near {gu : Int32} {kn fo sp wh ki pl : FI} (ok : okT gu kn fo sp wh ki pl) {x : Int32} (hx : vp_in x 8) : pop32 (sNear gu pl (ix x)) = sMany gu pl (ix x) := by
  have hp := ok.pl hx
  have h8 := (gu_of ok.gu).2
  unfold sNear sMany sL sR
  rcases who_cases pl (sBef (pl (ix x))) (ix gu) with h1 | ⟨a, ha, h1, ea⟩ <;> rcases who_cases pl (sBeh (pl (ix x))) (ix gu) with h2 | ⟨b, hb, h2, eb⟩ <;> rw [h1, h2]
  · decide +kernel
  · have := pop_one b (by omega)
    rw [if_pos rfl, if_neg this.2.2, this.2.1]; rfl
  · have := pop_one a (by omega)
    rw [if_pos rfl, if_neg this.2.2, this.1]; rfl
  · have n1 := (pop_one a (by omega)).2.2
    have n2 := (pop_one b (by omega)).2.2
    rw [if_neg n1, if_neg n2]
    refine (pop_two a (by omega) b (by omega) ?_).trans rfl
    intro e
    subst e
    obtain ⟨j, hj, ej⟩ := vp_in_of hp (by decide)
    rw [ej] at ea eb
    exact befbeh j hj (ea.symm.trans eb)
