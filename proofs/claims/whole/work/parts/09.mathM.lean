/-! the reference's row of 72 numbers, and its cells -/
def enc (co gu : Int32) (kn fo sp ki pl ea to qu : FI) : FI := fun k =>
  if k = 0 then co else if k = 1 then gu
  else if k < 32 then (if (k - 2) % 3 = 0 then kn ((k - 2) / 3) else if (k - 2) % 3 = 1 then fo ((k - 2) / 3) else sp ((k - 2) / 3))
  else if (k - 32) % 5 = 0 then ki ((k - 32) / 5) else if (k - 32) % 5 = 1 then pl ((k - 32) / 5) else if (k - 32) % 5 = 2 then ea ((k - 32) / 5) else if (k - 32) % 5 = 3 then to ((k - 32) / 5) else qu ((k - 32) / 5)
abbrev encS (σ : Sg) : FI := enc (sCo σ) (sGu σ) (sKn σ) (sFo σ) (sSp σ) (sKi σ) (sPl σ) (sEa σ) (sTo σ) (sQu σ)
abbrev whC (gu : Int32) (pl : FI) : FI := fun p => sWhoN pl (nI p) (ix gu)
theorem okT.cC {gu : Int32} {kn fo sp wh ki pl : FI} (h : okT gu kn fo sp wh ki pl) : okT gu kn fo sp (whC gu pl) ki pl := ⟨h.1, h.2.1, h.2.2.1, h.2.2.2.1, h.2.2.2.2.1, fun _ _ => rfl⟩
section
variable (co gu : Int32) (kn fo sp ki pl ea to qu : FI)
theorem enc_p {p w : Nat} (hp : p < 10) (hw : w < 3) : enc co gu kn fo sp ki pl ea to qu (2 + 3 * p + w) = if w = 0 then kn p else if w = 1 then fo p else sp p := by
  unfold enc
  have h1 : (2 + 3 * p + w - 2) % 3 = w := by omega
  have h2 : (2 + 3 * p + w - 2) / 3 = p := by omega
  rw [if_neg (by omega), if_neg (by omega), if_pos (by omega), h1, h2]
theorem enc_g {g w : Nat} (hw : w < 5) : enc co gu kn fo sp ki pl ea to qu (32 + 5 * g + w) = if w = 0 then ki g else if w = 1 then pl g else if w = 2 then ea g else if w = 3 then to g else qu g := by
  unfold enc
  have h1 : (32 + 5 * g + w - 32) % 5 = w := by omega
  have h2 : (32 + 5 * g + w - 32) / 5 = g := by omega
  rw [if_neg (by omega), if_neg (by omega), if_neg (by omega), h1, h2]
theorem enc_case (k : Nat) : k = 0 ∨ k = 1 ∨ (∃ p w, p < 10 ∧ w < 3 ∧ k = 2 + 3 * p + w) ∨ ∃ g w, w < 5 ∧ k = 32 + 5 * g + w := by
  by_cases h0 : k = 0
  · exact Or.inl h0
  by_cases h1 : k = 1
  · exact Or.inr (Or.inl h1)
  by_cases h2 : k < 32
  · exact Or.inr (Or.inr (Or.inl ⟨(k - 2) / 3, (k - 2) % 3, by omega, by omega, by omega⟩))
  · exact Or.inr (Or.inr (Or.inr ⟨(k - 32) / 5, (k - 32) % 5, by omega, by omega⟩))
theorem enc_uco (v : Int32) : upd (enc co gu kn fo sp ki pl ea to qu) 0 v = enc v gu kn fo sp ki pl ea to qu := by
  funext k
  by_cases h : k = 0
  · subst h; rw [pk_us]; rfl
  · rw [pk_un h]; unfold enc; rw [if_neg h, if_neg h]
theorem enc_ugu (v : Int32) : upd (enc co gu kn fo sp ki pl ea to qu) 1 v = enc co v kn fo sp ki pl ea to qu := by
  funext k
  by_cases h : k = 1
  · subst h; rw [pk_us]; rfl
  · rw [pk_un h]; unfold enc; by_cases h0 : k = 0
    · rw [if_pos h0, if_pos h0]
    · rw [if_neg h0, if_neg h0, if_neg h, if_neg h]
theorem enc_up {p w : Nat} (hp : p < 10) (hw : w < 3) (v : Int32) : upd (enc co gu kn fo sp ki pl ea to qu) (2 + 3 * p + w) v = enc co gu (if w = 0 then upd kn p v else kn) (if w = 1 then upd fo p v else fo) (if w = 2 then upd sp p v else sp) ki pl ea to qu := by
  funext k
  rcases enc_case k with rfl | rfl | ⟨p', w', hp', hw', rfl⟩ | ⟨g', w', hw', rfl⟩
  · rw [pk_un (by omega)]; rfl
  · rw [pk_un (by omega)]; rfl
  · rw [enc_p _ _ _ _ _ _ _ _ _ _ hp' hw']
    by_cases h : p' = p ∧ w' = w
    · obtain ⟨rfl, rfl⟩ := h
      rw [pk_us]
      rcases (show w' = 0 ∨ w' = 1 ∨ w' = 2 by omega) with rfl | rfl | rfl <;> simp [pk_us]
    · rw [pk_un (by omega), enc_p _ _ _ _ _ _ _ _ _ _ hp' hw']
      rcases (show w' = 0 ∨ w' = 1 ∨ w' = 2 by omega) with rfl | rfl | rfl
      · by_cases hw0 : w = 0
        · subst hw0; simp; rw [pk_un (by omega)]
        · simp [hw0]
      · by_cases hw0 : w = 1
        · subst hw0; simp; rw [pk_un (by omega)]
        · simp [hw0]
      · by_cases hw0 : w = 2
        · subst hw0; simp; rw [pk_un (by omega)]
        · simp [hw0]
  · rw [pk_un (by omega), enc_g _ _ _ _ _ _ _ _ _ _ hw', enc_g _ _ _ _ _ _ _ _ _ _ hw']
theorem enc_ug {g w : Nat} (hw : w < 5) (v : Int32) : upd (enc co gu kn fo sp ki pl ea to qu) (32 + 5 * g + w) v = enc co gu kn fo sp (if w = 0 then upd ki g v else ki) (if w = 1 then upd pl g v else pl) (if w = 2 then upd ea g v else ea) (if w = 3 then upd to g v else to) (if w = 4 then upd qu g v else qu) := by
  funext k
  rcases enc_case k with rfl | rfl | ⟨p', w', hp', hw', rfl⟩ | ⟨g', w', hw', rfl⟩
  · rw [pk_un (by omega)]; rfl
  · rw [pk_un (by omega)]; rfl
  · rw [pk_un (by omega), enc_p _ _ _ _ _ _ _ _ _ _ hp' hw', enc_p _ _ _ _ _ _ _ _ _ _ hp' hw']
  · rw [enc_g _ _ _ _ _ _ _ _ _ _ hw']
    by_cases h : g' = g ∧ w' = w
    · obtain ⟨rfl, rfl⟩ := h
      rw [pk_us]
      rcases (show w' = 0 ∨ w' = 1 ∨ w' = 2 ∨ w' = 3 ∨ w' = 4 by omega) with rfl | rfl | rfl | rfl | rfl <;> simp [pk_us]
    · rw [pk_un (by omega), enc_g _ _ _ _ _ _ _ _ _ _ hw']
      rcases (show w' = 0 ∨ w' = 1 ∨ w' = 2 ∨ w' = 3 ∨ w' = 4 by omega) with rfl | rfl | rfl | rfl | rfl
      · by_cases hw0 : w = 0
        · subst hw0; simp; rw [pk_un (by omega)]
        · simp [hw0]
      · by_cases hw0 : w = 1
        · subst hw0; simp; rw [pk_un (by omega)]
        · simp [hw0]
      · by_cases hw0 : w = 2
        · subst hw0; simp; rw [pk_un (by omega)]
        · simp [hw0]
      · by_cases hw0 : w = 3
        · subst hw0; simp; rw [pk_un (by omega)]
        · simp [hw0]
      · by_cases hw0 : w = 4
        · subst hw0; simp; rw [pk_un (by omega)]
        · simp [hw0]
end
theorem ixg {x0 x1 : Int32} (h0 : vp_in x0 8) (h1 : vp_in x1 5) : ix (32 + 5 * x0 + x1) = 32 + 5 * ix x0 + ix x1 ∧ vp_in (32 + 5 * x0 + x1) 72 := by
  obtain ⟨a, ha, rfl⟩ := vp_in_of h0 (by decide)
  obtain ⟨b, hb, rfl⟩ := vp_in_of h1 (by decide)
  have e : (32 : Int32) + 5 * nI a + nI b = nI (32 + 5 * a + b) := by
    rw [show (32 : Int32) = nI 32 from rfl, show (5 : Int32) = nI 5 from rfl, pk_mul, nI_add, nI_add]
  rw [e, ix_nI (by omega), ix_nI (by omega), ix_nI (by omega)]
  exact ⟨rfl, vp_in_nI (by omega) (by omega)⟩
theorem ixp {x0 x1 : Int32} (h0 : vp_in x0 10) (h1 : vp_in x1 3) : ix (2 + 3 * x0 + x1) = 2 + 3 * ix x0 + ix x1 ∧ vp_in (2 + 3 * x0 + x1) 72 := by
  obtain ⟨a, ha, rfl⟩ := vp_in_of h0 (by decide)
  obtain ⟨b, hb, rfl⟩ := vp_in_of h1 (by decide)
  have e : (2 : Int32) + 3 * nI a + nI b = nI (2 + 3 * a + b) := by
    rw [show (2 : Int32) = nI 2 from rfl, show (3 : Int32) = nI 3 from rfl, pk_mul, nI_add, nI_add]
  rw [e, ix_nI (by omega), ix_nI (by omega), ix_nI (by omega)]
  exact ⟨rfl, vp_in_nI (by omega) (by omega)⟩
theorem rem_bef {x : Int32} (h : vp_in x 10) : ((x + 10) + (-1)) - ((x + 10) + (-1)) / 10 * 10 = sBef x := by
  obtain ⟨j, hj, rfl⟩ := vp_in_of h (by decide)
  have : ∀ j, j < 10 → ((nI j + 10) + (-1)) - ((nI j + 10) + (-1)) / 10 * 10 = sBef (nI j) := by decide +kernel
  exact this j hj
theorem rem_beh {x : Int32} (h : vp_in x 10) : ((x + 10) + 1) - ((x + 10) + 1) / 10 * 10 = sBeh x := by
  obtain ⟨j, hj, rfl⟩ := vp_in_of h (by decide)
  have : ∀ j, j < 10 → ((nI j + 10) + 1) - ((nI j + 10) + 1) / 10 * 10 = sBeh (nI j) := by decide +kernel
  exact this j hj
/-- the reference's cells -/
def mdw (cI cL : ClassId) (b : Nat → Nat) (row fd mo tr b1 tp : FI) (tm so bg te : Int32) (wd : Int64) (va gd : Int32) (bo sz : FI) (sh le : FJ) (im bf : FI) (ik : Int32) : va_W :=
  [(b 0, .inr (4, [.ref (b 1), .ref (b 2), .ref (b 3), .ref (b 4), .ref (b 5), .ref (b 6), .int tm, .int so, .int bg, .int te, .long wd, .int va, .int gd, .ref (b 7), .ref (b 8), .ref (b 9), .ref (b 10), .ref (b 11), .ref (b 12), .int ik])),
   (b 1, .inl (cI, 72, .inl row)), (b 2, .inl (cI, 7, .inl fd)), (b 3, .inl (cI, 8, .inl mo)), (b 4, .inl (cI, 72, .inl tr)), (b 5, .inl (cI, 72, .inl b1)), (b 6, .inl (cI, 120, .inl tp)), (b 7, .inl (cI, 4, .inl bo)), (b 8, .inl (cI, 4, .inl sz)), (b 9, .inl (cL, 160, .inr (.inl sh))), (b 10, .inl (cL, 40, .inr (.inl le))), (b 11, .inl (cI, 72, .inl im)), (b 12, .inl (cI, 72, .inl bf))]
section
variable {p : Program} {l : Launch} {e : Env} {R : Room} {s : State} {m : MethodId} {args : Array Value} {below : List Frame} {meth : Method} {c : Code} {H : Heap} {locs : List Loc} {cells slots : Nat} {Q : State → Prop} {pc : Nat} {ls : Array Slot} {rest : List Value}
theorem lv_to {x y : Int32} (h : x = y) (k : W p l e R s m args below meth c H locs cells slots Q (F0 m pc ls (.int y :: rest))) : W p l e R s m args below meth c H locs cells slots Q (F0 m pc ls (.int x :: rest)) := by rw [h]; exact k
end
theorem Met_F {l : Launch} {y : MethodName} {ws : List Cond} {rm : Room} {Pc : Array Value → State → Prop} {free : Addr → Prop} {F F' : Int32} (h : Met l y ws rm Pc (vp_Si (fun r => r = F)) 0 0 free) (e : F = F') : Met l y ws rm Pc (vp_Si (fun r => r = F')) 0 0 free := by rw [← e]; exact h
theorem in_iff9 {x : Int32} {n : Nat} (hn : n + 1 < 2 ^ 31) : (¬ x < 0 ∧ ¬ nI n < x) ↔ vp_in x (n + 1) := by
  rw [vp_in_iff, fa_lt, fa_lt, nI_toInt (by omega), show (0 : Int32).toInt = 0 from by decide]
  omega
theorem isOne_iff {x gu : Int32} (hg : vp_in gu 9) : (¬ x < 0 ∧ ¬ (gu - 1) < x) ↔ vp_in x (ix gu) := by
  obtain ⟨j, hj, rfl⟩ := vp_in_of hg (by decide)
  rw [ix_nI (by omega), vp_in_iff, fa_lt, fa_lt, show (0 : Int32).toInt = 0 from by decide]
  rw [fb_subI (by rw [nI_toInt (by omega)]; simp; omega) (by rw [nI_toInt (by omega)]; simp; omega), nI_toInt (by omega), show (1 : Int32).toInt = 1 from by decide]
  omega
theorem bits_all : ∀ n, n < 256 → n ≠ 0 → ((nI n &&& (nI n - 1)).toInt.toNat < n ∧ 0 ≤ (nI n &&& (nI n - 1)).toInt ∧ pop32 (nI n) = 1 + pop32 (nI n &&& (nI n - 1))) := by decide +kernel
theorem bits_step {y : Int32} {n : Nat} (h1 : y.toInt = n) (h2 : n < 256) (hc : ¬ y = 0) : (y &&& (y - 1)).toInt.toNat < n ∧ 0 ≤ (y &&& (y - 1)).toInt ∧ pop32 y = 1 + pop32 (y &&& (y - 1)) := by
  obtain ⟨j, hj, rfl⟩ := vp_in_of (show vp_in y 256 from vp_in_iff.mpr (by omega)) (by decide)
  rw [nI_toInt (by omega)] at h1
  have e : j = n := by omega
  subst e
  exact bits_all j h2 (fun h => hc (by rw [h]; rfl))
theorem bit_neg_all : ∀ g, g < 8 → (0 ≤ nI g) ∧ ¬ nI g = -1 := by decide +kernel
theorem who_in {gu : Int32} (hg : vp_in gu 9) {pl : FI} {p : Int32} (h : 0 ≤ sWhoN pl p (ix gu)) : vp_in (sWhoN pl p (ix gu)) 8 := by
  have h8 := (gu_of hg).2
  rcases who_cases pl p (ix gu) with q | ⟨g, hg, q, -⟩
  · rw [q] at h; exact absurd h (by decide)
  · rw [q]; exact vp_in_nI (by omega) (by decide)
theorem bit_negW {gu : Int32} (hg : vp_in gu 9) {pl : FI} {p : Int32} : (if 0 ≤ sWhoN pl p (ix gu) then (1 <<< (sWhoN pl p (ix gu) &&& 31)) else 0) = sBit (sWhoN pl p (ix gu)) := by
  have h8 := (gu_of hg).2
  unfold sBit
  rcases who_cases pl p (ix gu) with q | ⟨g, hg, q, -⟩
  · rw [q]; decide
  · rw [q, if_pos (bit_neg_all g (by omega)).1, if_neg (bit_neg_all g (by omega)).2]
theorem one_negW {gu : Int32} (hg : vp_in gu 9) {pl : FI} {p : Int32} : (if 0 ≤ sWhoN pl p (ix gu) then (1 : Int32) else 0) = if sWhoN pl p (ix gu) = -1 then 0 else 1 := by
  have h8 := (gu_of hg).2
  rcases who_cases pl p (ix gu) with q | ⟨g, hg, q, -⟩
  · rw [q]; decide
  · rw [q, if_pos (bit_neg_all g (by omega)).1, if_neg (bit_neg_all g (by omega)).2]
theorem side_eq {gu : Int32} (hg : vp_in gu 9) {kn fo pl : FI} {p kd : Int32} : (if 0 ≤ sWhoN pl p (ix gu) then sCat kd (kn (ix (pl (ix (sWhoN pl p (ix gu)))))) (fo (ix (pl (ix (sWhoN pl p (ix gu)))))) else 0) = if sWhoN pl p (ix gu) = -1 then 0 else sCat kd (kn (ix p)) (fo (ix p)) := by
  have h8 := (gu_of hg).2
  rcases who_cases pl p (ix gu) with q | ⟨g, hg, q, hp⟩
  · rw [q]; rfl
  · rw [q, if_pos (bit_neg_all g (by omega)).1, if_neg (bit_neg_all g (by omega)).2, ix_nI (by omega), hp]
theorem sum0 {k f s : Int32} (hk : vp_in k 2) (hf : vp_in f 2) (hs : vp_in s 10) : (k + f) + s = 0 ↔ (k = 0 ∧ f = 0 ∧ s = 0) := by
  obtain ⟨a, ha, rfl⟩ := vp_in_of hk (by decide)
  obtain ⟨b, hb, rfl⟩ := vp_in_of hf (by decide)
  obtain ⟨c, hc, rfl⟩ := vp_in_of hs (by decide)
  rw [nI_add, nI_add, show (0 : Int32) = nI 0 from rfl, nI_eq (by omega) (by omega), nI_eq (by omega) (by omega), nI_eq (by omega) (by omega), nI_eq (by omega) (by omega)]
  omega
theorem set_step (P : Nat → Prop) (i : Nat) : (sSet P i ||| (if bI (P i) = 0 then (0 : Int32) else (1 <<< (nI i &&& 31) : Int32))) = sSet P (i + 1) := by
  by_cases h : P i
  · rw [sSet_t rfl h, bI_t h, if_neg (by decide)]
  · rw [sSet_f rfl h, bI_f h, if_pos rfl, i_or0]
def bump (fd : FI) (f : Int32) : FI := upd fd (ix ((-1000000001) - f)) (fd (ix ((-1000000001) - f)) + 1)
theorem enc_w0 {co gu : Int32} {kn fo sp ki pl ea to qu : FI} {x0 v : Int32} (h0 : vp_in x0 8) : upd (enc co gu kn fo sp ki pl ea to qu) (ix (32 + 5 * x0 + 0)) v = enc co gu kn fo sp (upd ki (ix x0) v) pl ea to qu := by
  rw [(ixg h0 (x1 := 0) (vp_in_iff.mpr (by decide))).1]
  exact enc_ug co gu kn fo sp ki pl ea to qu (g := ix x0) (w := 0) (by decide) v
theorem enc_w1 {co gu : Int32} {kn fo sp ki pl ea to qu : FI} {x0 v : Int32} (h0 : vp_in x0 8) : upd (enc co gu kn fo sp ki pl ea to qu) (ix (32 + 5 * x0 + 1)) v = enc co gu kn fo sp ki (upd pl (ix x0) v) ea to qu := by
  rw [(ixg h0 (x1 := 1) (vp_in_iff.mpr (by decide))).1]
  exact enc_ug co gu kn fo sp ki pl ea to qu (g := ix x0) (w := 1) (by decide) v
theorem enc_w2 {co gu : Int32} {kn fo sp ki pl ea to qu : FI} {x0 v : Int32} (h0 : vp_in x0 8) : upd (enc co gu kn fo sp ki pl ea to qu) (ix (32 + 5 * x0 + 2)) v = enc co gu kn fo sp ki pl (upd ea (ix x0) v) to qu := by
  rw [(ixg h0 (x1 := 2) (vp_in_iff.mpr (by decide))).1]
  exact enc_ug co gu kn fo sp ki pl ea to qu (g := ix x0) (w := 2) (by decide) v
theorem enc_w3 {co gu : Int32} {kn fo sp ki pl ea to qu : FI} {x0 v : Int32} (h0 : vp_in x0 8) : upd (enc co gu kn fo sp ki pl ea to qu) (ix (32 + 5 * x0 + 3)) v = enc co gu kn fo sp ki pl ea (upd to (ix x0) v) qu := by
  rw [(ixg h0 (x1 := 3) (vp_in_iff.mpr (by decide))).1]
  exact enc_ug co gu kn fo sp ki pl ea to qu (g := ix x0) (w := 3) (by decide) v
theorem enc_w4 {co gu : Int32} {kn fo sp ki pl ea to qu : FI} {x0 v : Int32} (h0 : vp_in x0 8) : upd (enc co gu kn fo sp ki pl ea to qu) (ix (32 + 5 * x0 + 4)) v = enc co gu kn fo sp ki pl ea to (upd qu (ix x0) v) := by
  rw [(ixg h0 (x1 := 4) (vp_in_iff.mpr (by decide))).1]
  exact enc_ug co gu kn fo sp ki pl ea to qu (g := ix x0) (w := 4) (by decide) v
theorem enc_q0 {co gu : Int32} {kn fo sp ki pl ea to qu : FI} {x0 v : Int32} (h0 : vp_in x0 10) : upd (enc co gu kn fo sp ki pl ea to qu) (ix (2 + 3 * x0 + 0)) v = enc co gu (upd kn (ix x0) v) fo sp ki pl ea to qu := by
  rw [(ixp h0 (x1 := 0) (vp_in_iff.mpr (by decide))).1]
  exact enc_up co gu kn fo sp ki pl ea to qu (p := ix x0) (w := 0) (ix_lt (by decide) h0) (by decide) v
theorem enc_q1 {co gu : Int32} {kn fo sp ki pl ea to qu : FI} {x0 v : Int32} (h0 : vp_in x0 10) : upd (enc co gu kn fo sp ki pl ea to qu) (ix (2 + 3 * x0 + 1)) v = enc co gu kn (upd fo (ix x0) v) sp ki pl ea to qu := by
  rw [(ixp h0 (x1 := 1) (vp_in_iff.mpr (by decide))).1]
  exact enc_up co gu kn fo sp ki pl ea to qu (p := ix x0) (w := 1) (ix_lt (by decide) h0) (by decide) v
theorem enc_q2 {co gu : Int32} {kn fo sp ki pl ea to qu : FI} {x0 v : Int32} (h0 : vp_in x0 10) : upd (enc co gu kn fo sp ki pl ea to qu) (ix (2 + 3 * x0 + 2)) v = enc co gu kn fo (upd sp (ix x0) v) ki pl ea to qu := by
  rw [(ixp h0 (x1 := 2) (vp_in_iff.mpr (by decide))).1]
  exact enc_up co gu kn fo sp ki pl ea to qu (p := ix x0) (w := 2) (ix_lt (by decide) h0) (by decide) v
theorem step_eaM {gu : Int32} {kn fo sp ki pl ea mo : FI} {i j : Nat} (e : j = i) (hm : mo i = sMore gu kn fo sp ki pl i) : upd (fa_fill (fEa gu kn fo sp ki pl ea) ea i) j (sHeld (fa_fill (fEa gu kn fo sp ki pl ea) ea i j + mo j) (-99) 99) = fa_fill (fEa gu kn fo sp ki pl ea) ea (i + 1) := by
  subst e
  rw [fa_fill_out (Nat.le_refl j), hm]
  exact fa_fill_succ (fEa gu kn fo sp ki pl ea) ea j
theorem step_toM {gu : Int32} {sp ki pl ea to : FI} {i j : Nat} (e : j = i) : upd (fa_fill (fTo gu sp ki pl ea to) to i) j (sHeld (fa_fill (fTo gu sp ki pl ea to) to i j + ((sSet (sTells sp ki pl ea) (ix gu) >>> (nI i &&& 31)) &&& 1)) 0 9999) = fa_fill (fTo gu sp ki pl ea to) to (i + 1) := by
  subst e
  rw [fa_fill_out (Nat.le_refl j)]
  exact fa_fill_succ (fTo gu sp ki pl ea to) to j
theorem step_quM {gu : Int32} {ki pl ea qu : FI} {i j : Nat} {v : Int32} (e : j = i) (hv : v = if ((sSet (sSores ki ea) (ix gu) >>> (nI i &&& 31)) &&& 1) = 1 then pop32 (sNear gu pl j &&& sSet (sSores ki ea) (ix gu)) else 0) : upd (fa_fill (fQu gu ki pl ea qu) qu i) j (sHeld (fa_fill (fQu gu ki pl ea qu) qu i j + v) 0 9999) = fa_fill (fQu gu ki pl ea qu) qu (i + 1) := by
  subst e
  rw [fa_fill_out (Nat.le_refl j), ← fa_fill_succ (fQu gu ki pl ea qu) qu j, hv]
  rfl
theorem and_in {x y : Int32} (hx : 0 ≤ x.toInt ∧ x.toInt < 256) : 0 ≤ (x &&& y).toInt ∧ (x &&& y).toInt < 256 := by
  obtain ⟨n, hn, e⟩ := and_small (y := y) hx
  rw [e, nI_toInt (by omega)]
  omega
theorem va_P_rep {D : va_G} {cl : List vw_C} {ws : va_W} {H : Heap} {q0 a : Nat} {cA : ClassId} {x y : vp_A} (hP : va_P D cl ws H) (h : ws[q0]? = some (a, .inl (cA, x))) (e : vp_cell cA x = vp_cell cA y) : va_P D cl (ws.set q0 (a, .inl (cA, y))) H := by
  refine va_P_set (x := x) ?_ e
  have : ws.set q0 (a, .inl (cA, x)) = ws := by
    obtain ⟨hl, hg⟩ := List.getElem?_eq_some_iff.mp h
    rw [← hg]
    exact List.set_getElem_self hl
  rw [this]
  exact hP
theorem feel3 {kd k f s n : Int32} (h : kd = 3) (hn : ¬ (k = 0 ∧ f = 0 ∧ s = 0)) : sFeel kd k f s n = -2 * n := by
  subst h
  unfold sFeel
  rw [if_neg (by decide), if_neg (by decide), if_pos rfl]
  by_cases hk : k = 0
  · rw [if_pos hk]
    by_cases hf : f = 0
    · rw [if_pos hf, if_neg (fun hs => hn ⟨hk, hf, hs⟩)]
    · rw [if_neg hf]
  · rw [if_neg hk]
