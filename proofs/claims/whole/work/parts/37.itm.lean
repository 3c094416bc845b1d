/-! THE TEXT: items -/
noncomputable def tAf (B : FI) (L c i : Nat) : Nat := iF (isW B L c i) (eN B L c) c
abbrev sJust (σ : Sg) (p k f s : Int32) : Sg := (sCo σ, sGu σ, upd (sKn σ) (ix p) k, upd (sFo σ) (ix p) f, upd (sSp σ) (ix p) s, sKi σ, sPl σ, sEa σ, sTo σ, sQu σ)
noncomputable def tGst (B : FI) (L : Nat) (σ : Sg) (k : Int32) (c : Nat) : Int32 × Sg × Nat :=
  iF (isN B L c 10 ∧ sWho σ (nI (nV B L c)) = -1) (1, sWelcome σ k (nI (nV B L c)), eN B L c) (0, σ, c)
noncomputable def tSpn (B : FI) (L : Nat) (σ : Sg) (p k f : Int32) (c : Nat) : Int32 × Sg × Nat :=
  iF (isW B L c 10) (iF (isN B L (eN B L c) 10) (1, sJust σ p k f (nI (nV B L (eN B L c))), eN B L (eN B L c)) (0, σ, eN B L c)) (1, sJust σ p k f 0, c)
noncomputable def tLay (B : FI) (L : Nat) (σ : Sg) (c : Nat) : Int32 × Sg × Nat :=
  iF (isN B L c 10) (tSpn B L σ (nI (nV B L c)) (bI (isW B L (eN B L c) 8)) (bI (isW B L (tAf B L (eN B L c) 8) 9)) (tAf B L (tAf B L (eN B L c) 8) 9)) (0, σ, c)
noncomputable def tChg (B : FI) (L : Nat) (σ : Sg) (c : Nat) : Int32 × Sg × Nat :=
  iF (isN B L c (sGu σ)) (iF (isN B L (eN B L c) (sGu σ) ∧ ¬ nI (nV B L (eN B L c)) = nI (nV B L c)) (1, sExch σ (nI (nV B L c)) (nI (nV B L (eN B L c))), eN B L (eN B L c)) (0, σ, eN B L c)) (0, σ, c)
noncomputable def tKf (B : FI) (L c : Nat) : Nat → Nat → Int32
  | 0, _ => -1
  | n + 1, k => iF (isW B L c k) (nI k) (tKf B L c n (k + 1))
noncomputable def tKd (B : FI) (L c : Nat) : Int32 := tKf B L c 6 0
noncomputable def tItem (B : FI) (L : Nat) (σ : Sg) (c : Nat) : Int32 × Sg × Nat :=
  iF (isW B L c 6) (tLay B L σ (eN B L c)) (iF (isW B L c 7) (tChg B L σ (eN B L c)) (iF (tKd B L c < 0) (0, σ, c) (iF (8 ≤ sGu σ) (0, σ, c) (tGst B L σ (tKd B L c) (eN B L c)))))
noncomputable def tTell (B : FI) (L : Nat) : Nat → Int32 → Sg → Nat → Int32 × Sg
  | 0, _, σ, _ => (0, σ)
  | n + 1, k, σ, c => iF ((tItem B L σ c).1 = 0) (-1 - nI (sT B L (tItem B L σ c).2.2), (tItem B L σ c).2.1)
      (iF (tK B L (tItem B L σ c).2.2 = 0) (k, (tItem B L σ c).2.1) (iF (tK B L (tItem B L σ c).2.2 = 3) (tTell B L n (k + 1) (tItem B L σ c).2.1 (eN B L (tItem B L σ c).2.2)) (-1 - nI (sT B L (tItem B L σ c).2.2), (tItem B L σ c).2.1)))
noncomputable def sDinner (B : FI) (L : Nat) (σ : Sg) : Int32 × Sg := ((tTell B L 120 1 σ 0).1, iF ((tTell B L 120 1 σ 0).1 < 0) σ (tTell B L 120 1 σ 0).2)
theorem tell_0 {B : FI} {L n : Nat} {k : Int32} {σ : Sg} {c : Nat} (hn : 0 < n) (h : (tItem B L σ c).1 = 0) : tTell B L n k σ c = (-1 - nI (sT B L (tItem B L σ c).2.2), (tItem B L σ c).2.1) := by
  obtain ⟨m, rfl⟩ : ∃ m, n = m + 1 := ⟨n - 1, by omega⟩
  rw [tTell, iF_t h]
theorem tell_e {B : FI} {L n : Nat} {k : Int32} {σ : Sg} {c : Nat} (hn : 0 < n) (h : ¬ (tItem B L σ c).1 = 0) (h2 : tK B L (tItem B L σ c).2.2 = 0) : tTell B L n k σ c = (k, (tItem B L σ c).2.1) := by
  obtain ⟨m, rfl⟩ : ∃ m, n = m + 1 := ⟨n - 1, by omega⟩
  rw [tTell, iF_f h, iF_t h2]
theorem tell_s {B : FI} {L n : Nat} {k : Int32} {σ : Sg} {c : Nat} (hn : 0 < n) (h : ¬ (tItem B L σ c).1 = 0) (h2 : tK B L (tItem B L σ c).2.2 = 3) : tTell B L n k σ c = tTell B L (n - 1) (k + 1) (tItem B L σ c).2.1 (eN B L (tItem B L σ c).2.2) := by
  obtain ⟨m, rfl⟩ : ∃ m, n = m + 1 := ⟨n - 1, by omega⟩
  rw [tTell, iF_f h, iF_f (by rw [h2]; decide), iF_t h2]; rfl
theorem tell_o {B : FI} {L n : Nat} {k : Int32} {σ : Sg} {c : Nat} (hn : 0 < n) (h : ¬ (tItem B L σ c).1 = 0) (h1 : ¬ tK B L (tItem B L σ c).2.2 = 0) (h2 : ¬ tK B L (tItem B L σ c).2.2 = 3) : tTell B L n k σ c = (-1 - nI (sT B L (tItem B L σ c).2.2), (tItem B L σ c).2.1) := by
  obtain ⟨m, rfl⟩ : ∃ m, n = m + 1 := ⟨n - 1, by omega⟩
  rw [tTell, iF_f h, iF_f h1, iF_f h2]
/-! what a number and a word say -/
theorem isN_in {B : FI} {L c : Nat} {b : Int32} {n : Nat} (h : isN B L c b) (hb : vp_in b (n + 1)) (hn : n < 1000) : vp_in (nI (nV B L c)) (ix b) ∧ vp_in (nI (nV B L c)) n := by
  obtain ⟨j, hj, rfl⟩ := vp_in_of hb (by omega)
  have h2 := h.2
  rw [nI_ltI (by have := nV_le B L c; omega) (by omega)] at h2
  rw [ix_nI (by omega)]
  exact ⟨vp_in_nI h2 (by omega), vp_in_nI (by omega) (by omega)⟩
theorem isN_10 {B : FI} {L c : Nat} (h : isN B L c 10) : vp_in (nI (nV B L c)) 10 := (isN_in (n := 10) h (vp_in_iff.mpr (by decide)) (by decide)).2
theorem isN_gu {B : FI} {L c : Nat} {σ : Sg} {w : FI} (o : okS σ w) (h : isN B L c (sGu σ)) : sOne σ (nI (nV B L c)) ∧ vp_in (nI (nV B L c)) 8 := isN_in (n := 8) h o.1.gu (by decide)
theorem isW_gt {B : FI} {L c i : Nat} (h : isW B L c i) : c < eN B L c := eN_gt (by rw [h.1]; decide)
theorem tAf_ge (B : FI) (L c i : Nat) : c ≤ tAf B L c i := by
  unfold tAf
  by_cases h : isW B L c i
  · rw [iF_t h]; exact eN_ge B L c
  · rw [iF_f h]; exact Nat.le_refl c
theorem tAf_t {B : FI} {L c i : Nat} (h : isW B L c i) : tAf B L c i = eN B L c := iF_t h
theorem tAf_f {B : FI} {L c i : Nat} (h : ¬ isW B L c i) : tAf B L c i = c := iF_f h
theorem iF_ge {P : Prop} {a b : Int32 × Sg × Nat} {c : Nat} (h1 : c ≤ a.2.2) (h2 : c ≤ b.2.2) : c ≤ (iF P a b).2.2 := by
  by_cases h : P
  · rw [iF_t h]; exact h1
  · rw [iF_f h]; exact h2
theorem tGst_ge (B : FI) (L : Nat) (σ : Sg) (k : Int32) (c : Nat) : c ≤ (tGst B L σ k c).2.2 := iF_ge (eN_ge B L c) (Nat.le_refl c)
theorem tSpn_ge (B : FI) (L : Nat) (σ : Sg) (p k f : Int32) (c : Nat) : c ≤ (tSpn B L σ p k f c).2.2 := iF_ge (iF_ge (Nat.le_trans (eN_ge B L c) (eN_ge B L _)) (eN_ge B L c)) (Nat.le_refl c)
theorem tLay_ge (B : FI) (L : Nat) (σ : Sg) (c : Nat) : c ≤ (tLay B L σ c).2.2 := iF_ge (Nat.le_trans (Nat.le_trans (eN_ge B L c) (Nat.le_trans (tAf_ge B L _ 8) (tAf_ge B L _ 9))) (tSpn_ge B L σ _ _ _ _)) (Nat.le_refl c)
theorem tChg_ge (B : FI) (L : Nat) (σ : Sg) (c : Nat) : c ≤ (tChg B L σ c).2.2 := iF_ge (iF_ge (Nat.le_trans (eN_ge B L c) (eN_ge B L _)) (eN_ge B L c)) (Nat.le_refl c)
theorem tKf_or (B : FI) (L c : Nat) : ∀ n k, (tKf B L c n k = -1 ∧ ∀ j, k ≤ j → j < k + n → ¬ isW B L c j) ∨ ∃ j, k ≤ j ∧ j < k + n ∧ isW B L c j ∧ tKf B L c n k = nI j
  | 0, k => Or.inl ⟨rfl, fun j h1 h2 => by omega⟩
  | n + 1, k => by
    by_cases h : isW B L c k
    · exact Or.inr ⟨k, Nat.le_refl k, by omega, h, by rw [tKf, iF_t h]⟩
    · rw [tKf, iF_f h]
      rcases tKf_or B L c n (k + 1) with ⟨e, h2⟩ | ⟨j, h1, h2, h3, e⟩
      · refine Or.inl ⟨e, fun j hj1 hj2 => ?_⟩
        by_cases q : j = k
        · rw [q]; exact h
        · exact h2 j (by omega) (by omega)
      · exact Or.inr ⟨j, by omega, by omega, h3, e⟩
theorem tKd_or (B : FI) (L c : Nat) : (tKd B L c = -1 ∧ ∀ j, j < 6 → ¬ isW B L c j) ∨ ∃ j, j < 6 ∧ isW B L c j ∧ tKd B L c = nI j := by
  rcases tKf_or B L c 6 0 with ⟨e, h⟩ | ⟨j, -, h2, h3, e⟩
  · exact Or.inl ⟨e, fun j hj => h j (Nat.zero_le j) (by omega)⟩
  · exact Or.inr ⟨j, by omega, h3, e⟩
theorem tKd_in {B : FI} {L c : Nat} (h : ¬ tKd B L c < 0) : ∃ j, j < 6 ∧ isW B L c j ∧ tKd B L c = nI j := by
  rcases tKd_or B L c with ⟨e, -⟩ | q
  · rw [e] at h; exact absurd (by decide) h
  · exact q
theorem tKd_6 {B : FI} {L c : Nat} (h : ¬ tKd B L c < 0) : vp_in (tKd B L c) 6 := by
  obtain ⟨j, hj, -, e⟩ := tKd_in h
  rw [e]; exact vp_in_nI hj (by decide)
theorem tKd_w {B : FI} {L c i : Nat} (hi : i < 11) (h6 : 6 ≤ i) (h : isW B L c i) : tKd B L c < 0 := Classical.byContradiction fun q => by
  obtain ⟨j, hj, hw, -⟩ := tKd_in q
  exact isW_ne hi (by omega) h (by omega) hw
theorem tItem_gt (B : FI) (L : Nat) (σ : Sg) (c : Nat) : (tItem B L σ c).1 = 0 ∨ c < (tItem B L σ c).2.2 := by
  unfold tItem
  by_cases h1 : isW B L c 6
  · rw [iF_t h1]; exact Or.inr (Nat.lt_of_lt_of_le (isW_gt h1) (tLay_ge B L σ _))
  rw [iF_f h1]
  by_cases h2 : isW B L c 7
  · rw [iF_t h2]; exact Or.inr (Nat.lt_of_lt_of_le (isW_gt h2) (tChg_ge B L σ _))
  rw [iF_f h2]
  by_cases h3 : tKd B L c < 0
  · rw [iF_t h3]; exact Or.inl rfl
  rw [iF_f h3]
  by_cases h4 : 8 ≤ sGu σ
  · rw [iF_t h4]; exact Or.inl rfl
  rw [iF_f h4]
  obtain ⟨j, -, hw, -⟩ := tKd_in h3
  exact Or.inr (Nat.lt_of_lt_of_le (isW_gt hw) (tGst_ge B L σ _ _))
/-! what holds stays so -/
theorem ok_just {σ : Sg} {w : FI} (o : okS σ w) {p k f s : Int32} (hk : vp_in k 2) (hf : vp_in f 2) (hs : vp_in s 10) : okS (sJust σ p k f s) w := ok_sp (ok_fo (ok_kn o hk) hf) hs
theorem bI_in2 (P : Prop) : vp_in (bI P) 2 := by
  rcases bI01 P with e | e <;> rw [e] <;> exact vp_in_iff.mpr (by decide)
theorem iF_ok {P : Prop} {a b : Int32 × Sg × Nat} (h1 : P → ∃ w, okS a.2.1 w) (h2 : ¬ P → ∃ w, okS b.2.1 w) : ∃ w, okS (iF P a b).2.1 w := by
  by_cases h : P
  · rw [iF_t h]; exact h1 h
  · rw [iF_f h]; exact h2 h
theorem tItem_ok {B : FI} {L : Nat} {σ : Sg} {w : FI} (c : Nat) (o : okS σ w) : ∃ w', okS (tItem B L σ c).2.1 w' := by
  refine iF_ok (fun _ => iF_ok (fun h => iF_ok (fun _ => iF_ok (fun h3 => ⟨w, ok_just o (bI_in2 _) (bI_in2 _) (isN_10 h3)⟩) (fun _ => ⟨w, o⟩)) (fun _ => ⟨w, ok_just o (bI_in2 _) (bI_in2 _) (vp_in_iff.mpr (by decide))⟩)) (fun _ => ⟨w, o⟩)) (fun _ => iF_ok (fun _ => iF_ok (fun h => iF_ok (fun h2 => ⟨_, ok_exch o (isN_gu o h).1 (isN_gu o h2.1).1 (fun e => h2.2 e.symm)⟩) (fun _ => ⟨w, o⟩)) (fun _ => ⟨w, o⟩)) (fun _ => iF_ok (fun _ => ⟨w, o⟩) (fun h3 => iF_ok (fun _ => ⟨w, o⟩) (fun h4 => iF_ok (fun h5 => ⟨_, ok_wel o (gu8_in o.1.gu (Int32.not_le.mp h4)) (tKd_6 h3) (isN_10 h5.1) h5.2⟩) (fun _ => ⟨w, o⟩)))))
/-- an item, as the class has told it -/
def TI (x : Int32 × Sg × Nat) (B : FI) (L : Nat) (r : Int32) (σ : Sg) (w : FI) (tk sb en nm : Int32) : Prop := r = x.1 ∧ σ = x.2.1 ∧ Tok B L x.2.2 tk sb en nm ∧ okS σ w ∧ (r = 0 ∨ r = 1)
theorem TI_t {P : Prop} {x y : Int32 × Sg × Nat} {B : FI} {L : Nat} {r : Int32} {σ : Sg} {w : FI} {tk sb en nm : Int32} (h : P) (q : TI x B L r σ w tk sb en nm) : TI (iF P x y) B L r σ w tk sb en nm := by rw [iF_t h]; exact q
theorem TI_f {P : Prop} {x y : Int32 × Sg × Nat} {B : FI} {L : Nat} {r : Int32} {σ : Sg} {w : FI} {tk sb en nm : Int32} (h : ¬ P) (q : TI y B L r σ w tk sb en nm) : TI (iF P x y) B L r σ w tk sb en nm := by rw [iF_f h]; exact q
theorem nar01 {r : Int32} (h : r = 0 ∨ r = 1) : narrow .boolean (.int r) = .int r := by rcases h with e | e <;> rw [e] <;> rfl
theorem Tok_len {B : FI} {L c : Nat} {tk sb en nm : Int32} (h : Tok B L c tk sb en nm) {n : Nat} (hn : n ≤ 8) : en - sb = nI n ↔ eN B L c = sT B L c + n := by
  have := h.st
  rw [h.2.1, h.2.2.1]
  exact tk_len this.2.2.1 (by omega) hn
theorem Tok_at {B : FI} {L c : Nat} {tk sb en nm : Int32} (h : Tok B L c tk sb en nm) {i j : Nat} (hi : wL i ≤ 8) (he : eN B L c = sT B L c + wL i) (hj : j < wL i) : vp_in (sb + nI j) 120 ∧ ix (sb + nI j) = sT B L c + j := by
  have := h.st
  rw [h.2.1, nI_add, ix_nI (by omega)]
  exact ⟨vp_in_nI (by omega) (by decide), rfl⟩
theorem bI_n1 {P : Prop} (h : bI P = 1) : P := Classical.byContradiction fun hp => by rw [bI_f hp] at h; exact absurd h (by decide)
theorem bI_01 {P : Prop} (h : ¬ bI P = 1) : ¬ P := fun hp => h (bI_t hp)
