/-! THE TEXT: the literals -/
def poS (i : Nat) : Nat := [71, 61, 63, 65, 67, 69, 30, 39, 88, 94, 96].getD i 0
def txS (i : Nat) : String := ["guest", "bishop", "lady", "envoy", "cardinal", "bride", "lay", "change", "heart", "cross", "spoon"].getD i ""
def SX (ad av : Nat → Nat) (fm : Option Nat) (A : Nat → Prop) (U : State) (H : Heap) : Prop :=
  vk_S 11 lenS bytS ad av A U H ∧ va_Z "java/lang/String" "COMPACT_STRINGS" "Z" (.int 1) A U H ∧ va_Z "jdk/internal/util/Preconditions" "SIOOBE_FORMATTER" "Ljava/util/function/BiFunction;" (va_rf fm) A U H ∧ ∀ i : Nat, i < 11 → vk_R RX0 (poS i) (txS i) (ad i) U
theorem SX.warm {ad av : Nat → Nat} {fm : Option Nat} {A : Nat → Prop} {s U : State} {H : Heap} (hW : s.WarmedH U.vm) (h : SX ad av fm A s H) : SX ad av fm A U H :=
  ⟨vk_S.moved hW.alike h.1, va_Z.moved hW.alike h.2.1, va_Z.moved hW.alike h.2.2.1, fun i hi => vk_R.warm hW (h.2.2.2 i hi)⟩
theorem SX.same {ad av : Nat → Nat} {fm : Option Nat} {A : Nat → Prop} {s U : State} {H : Heap} (hv : U.vm = s.vm) (h : SX ad av fm A s H) : SX ad av fm A U H :=
  ⟨vk_S.moved (by rw [hv]; exact Vm.Alike.refl _) h.1, va_Z.moved (by rw [hv]; exact Vm.Alike.refl _) h.2.1, va_Z.moved (by rw [hv]; exact Vm.Alike.refl _) h.2.2.1, fun i hi => vk_R.same hv (h.2.2.2 i hi)⟩
theorem SX.kept {ad av : Nat → Nat} {fm : Option Nat} {A : Nat → Prop} {U : State} {H H1 : Heap} (h : SX ad av fm A U H) (hq : ∀ a : Nat, a < H.size → ¬ A a → H1[a]? = H[a]?) : SX ad av fm A U H1 := ⟨h.1.kept hq, h.2.1.kept hq, h.2.2.1.kept hq, h.2.2.2⟩
theorem SX.narrow {ad av : Nat → Nat} {fm : Option Nat} {A B : Nat → Prop} {U : State} {H : Heap} (h : SX ad av fm A U H) (hAB : ∀ q, B q → A q) : SX ad av fm B U H := ⟨h.1.narrow hAB, h.2.1.narrow hAB, h.2.2.1.narrow hAB, h.2.2.2⟩
/-- what a method asks that reads literals -/
def PcJ (ad av : Nat → Nat) (fm : Option Nat) (al : List Value) : Array Value → State → Prop := va_Pc al (fun U => SX ad av fm (fun _ => False) U U.heap)
theorem PcJ_fb {ad av : Nat → Nat} {fm : Option Nat} {al : List Value} : FrameBlind (PcJ ad av fm al) := fun a U g mk q => ⟨q.1, SX.same (s := U) (U := U.calling g mk a) rfl q.2⟩
theorem PcJ_pre {s : State} {H : Heap} {ad av : Nat → Nat} {fm : Option Nat} {al : List Value} {A : Nat → Prop} {locs : List Loc} (hZ : SX ad av fm A s s.heap) (hS : va_S A s.heap H locs) : ∀ U : State, U.heap = H → s.WarmedH U.vm → PcJ ad av fm al al.toArray U := fun U hU hW => ⟨rfl, by show SX ad av fm (fun _ => False) U U.heap; rw [hU]; exact SX.warm hW ((hZ.kept hS.2.1).narrow (fun _ h => h.elim))⟩
/-- the same beside a world -/
def PcQ (ad av : Nat → Nat) (fm : Option Nat) (A : Nat → Prop) (D : va_G) (cl : List vw_C) (tys : List (ClassId × FieldType)) (al : List Value) (w : va_W) : Array Value → State → Prop := va_Pc al (fun U => va_P D cl w U.heap ∧ va_K D cl tys U ∧ SX ad av fm A U U.heap)
theorem PcQ_fb {ad av : Nat → Nat} {fm : Option Nat} {A : Nat → Prop} {D : va_G} {cl : List vw_C} {tys : List (ClassId × FieldType)} {al : List Value} {w : va_W} : FrameBlind (PcQ ad av fm A D cl tys al w) := fun a U g mk q => ⟨q.1, q.2.1, va_K.moved (u := U) (U := U.calling g mk a) (Vm.Alike.refl U.vm) q.2.2.1, SX.same (s := U) (U := U.calling g mk a) rfl q.2.2.2⟩
theorem PcQ_pre {s : State} {H : Heap} {ad av : Nat → Nat} {fm : Option Nat} {A B : Nat → Prop} {D : va_G} {cl : List vw_C} {tys : List (ClassId × FieldType)} {al : List Value} {w : va_W} {locs : List Loc} (hP : va_P D cl w H) (hK : va_K D cl tys s) (hZ : SX ad av fm A s s.heap) (hS : va_S A s.heap H locs) (hAB : ∀ q, B q → A q) : ∀ U : State, U.heap = H → s.WarmedH U.vm → PcQ ad av fm B D cl tys al w al.toArray U := fun U hU hW => ⟨rfl, by rw [hU]; exact hP, va_K.moved hW.alike hK, by rw [hU]; exact SX.warm hW ((hZ.kept hS.2.1).narrow hAB)⟩
/-- a method that answers nothing and writes nothing -/
def vp_Sn : Array Value → State → Outcome → State → Prop := fun _ st o t => o = .returned none ∧ t.heap = st.heap
/-- one that answers a reference and writes nothing -/
def vp_Sr (q : Nat) : Array Value → State → Outcome → State → Prop := fun _ st o t => o = .returned (some (.ref q)) ∧ t.heap = st.heap
section
variable {p : Program} {l : Launch} {e : Env} {R : Room} {s : State} {m : MethodId} {args : Array Value} {below : List Frame} {meth : Method} {c : Code} {H : Heap} {locs : List Loc} {cells slots : Nat} {Q : State → Prop}
variable {pc : Nat} {ls : Array Slot} {rest st0 : List Value} {a : Array Value}
theorem callEn (hr : CallRun p l e R s m args below meth c H locs cells slots 0 0 (F0 m pc ls st0) rest (vp_Sn a) (fun _ => False)) (k : W p l e R s m args below meth c H locs cells slots Q (F0 m (pc + 3) ls rest)) : W p l e R s m args below meth c H locs cells slots Q (F0 m pc ls st0) := by
  intro T hT X
  obtain ⟨v, st₀, t, T', L, h0, X', hL, e1, ⟨hv, hh⟩, st⟩ := hr T hT X
  cases hv
  obtain ⟨t2, a1, b1⟩ := k T' (by rw [e1, hh, h0]) (Stand.forget X' (fun q h => (hL q h).elim))
  exact ⟨t2, st t2 a1, b1⟩
theorem callEr {q0 : Nat} (hr : CallRun p l e R s m args below meth c H locs cells slots 0 0 (F0 m pc ls st0) rest (vp_Sr q0 a) (fun _ => False)) (k : W p l e R s m args below meth c H locs cells slots Q (F0 m (pc + 3) ls (.ref q0 :: rest))) : W p l e R s m args below meth c H locs cells slots Q (F0 m pc ls st0) := by
  intro T hT X
  obtain ⟨v, st₀, t, T', L, h0, X', hL, e1, ⟨hv, hh⟩, st⟩ := hr T hT X
  cases hv
  obtain ⟨t2, a1, b1⟩ := k T' (by rw [e1, hh, h0]) (Stand.forget X' (fun q h => (hL q h).elim))
  exact ⟨t2, st t2 a1, b1⟩
end
theorem wL_shr : ∀ i, i < 11 → nI (wL i) >>> ((0 : Int32) &&& 31) = nI (wL i) := by decide
theorem wB_c : ∀ i, i < 11 → ∀ j, j < wL i → ((wB i j &&& 255).toUInt32 % 65536).toInt32 = wB i j := by decide
theorem wB_nar : ∀ i, i < 11 → ∀ j, j < wL i → narrow .char (.int (wB i j)) = .int (wB i j) := by decide
theorem wB_cx {i : Nat} (hi : i < 11) {x : Int32} (h : vp_in x (wL i)) : ((wB i (ix x) &&& 255).toUInt32 % 65536).toInt32 = wB i (ix x) := wB_c i hi _ (ix_lt (by have := wL_8 i hi; omega) h)
theorem wB_nx {i : Nat} (hi : i < 11) {x : Int32} (h : vp_in x (wL i)) : narrow .char (.int (wB i (ix x))) = .int (wB i (ix x)) := wB_nar i hi _ (ix_lt (by have := wL_8 i hi; omega) h)
theorem in_nlt {x : Int32} {n : Nat} (hn : n < 2 ^ 31) (h : vp_in x n) : ¬ x < 0 ∧ x < nI n := by
  obtain ⟨j, hj, rfl⟩ := vp_in_of h hn
  exact ⟨nI_pos (by omega), nI_lt hj hn⟩
/-! the token that stands -/
def Tok (B : FI) (L c : Nat) (tk sb en nm : Int32) : Prop := tk = tK B L c ∧ sb = nI (sT B L c) ∧ en = nI (eN B L c) ∧ (tK B L c = 2 → nm = nI (nV B L c)) ∧ c ≤ L ∧ L ≤ 120
theorem Tok.st {B : FI} {L c : Nat} {tk sb en nm : Int32} (h : Tok B L c tk sb en nm) : sT B L c ≤ L ∧ eN B L c ≤ L ∧ sT B L c ≤ eN B L c ∧ L ≤ 120 := ⟨sT_le B h.2.2.2.2.1, eN_le B h.2.2.2.2.1, eNs_ge B L _, h.2.2.2.2.2⟩
theorem tk_len {a b n : Nat} (hab : a ≤ b) (hb : b ≤ 120) (hn : n ≤ 8) : nI b - nI a = nI n ↔ b = a + n := by
  have e : nI b - nI a = nI (b - a) := by
    rw [show b = (b - a) + a by omega, ← nI_add, Int32.add_sub_cancel, Nat.add_sub_cancel]
  rw [e, nI_eq (by omega) (by omega)]
  omega
theorem ln_of {ln : Int32} (h : vp_in ln 121) : ln = nI (ix ln) ∧ ix ln ≤ 120 := ⟨(nI_ix (by decide) h).symm, by have := ix_lt (by decide) h; omega⟩
theorem tok_end {B : FI} {L c i : Nat} {nm : Int32} (hc : c ≤ L) (hL : L ≤ 120) (hs : sT B L c = sT B L i) (h : L ≤ i) : Tok B L c 0 (nI i) (nI i) nm := by
  have e : sT B L i = i := sT_n (fun q => by omega)
  rw [e] at hs
  have h2 := tKs_end (B := B) h
  refine ⟨?_, by rw [hs], ?_, ?_, hc, hL⟩
  · unfold tK; rw [hs, h2.1]
  · unfold eN; rw [hs, h2.2]
  · unfold tK; rw [hs, h2.1]; exact fun q => absurd q (by decide)
theorem tok_w {B : FI} {L c i : Nat} {nm : Int32} (hc : c ≤ L) (hL : L ≤ 120) (hs : sT B L c = sT B L i) (hn : ¬ B i = 32) (h : i < L) (hw : isLt (B i)) : Tok B L c 1 (nI i) (nI (wE B L (ix (nI i)))) nm := by
  have e : sT B L i = i := sT_n (fun q => hn q.2)
  rw [e] at hs
  have h2 := tKs_w h hw
  rw [ix_nI (by omega)]
  refine ⟨?_, by rw [hs], ?_, ?_, hc, hL⟩
  · unfold tK; rw [hs, h2.1]
  · unfold eN; rw [hs, h2.2]
  · unfold tK; rw [hs, h2.1]; exact fun q => absurd q (by decide)
theorem tok_d {B : FI} {L c i : Nat} (hc : c ≤ L) (hL : L ≤ 120) (hs : sT B L c = sT B L i) (hn : ¬ B i = 32) (h : i < L) (hw : ¬ isLt (B i)) (hd : isDg (B i)) : Tok B L c 2 (nI i) (nI (dE B L (ix (nI i)))) (nI (nVs B (dE B L (ix (nI i)) - ix (nI i)) (ix (nI i)) 0)) := by
  have e : sT B L i = i := sT_n (fun q => hn q.2)
  rw [e] at hs
  have h2 := tKs_d h hw hd
  rw [ix_nI (by omega)]
  refine ⟨?_, by rw [hs], ?_, ?_, hc, hL⟩
  · unfold tK; rw [hs, h2.1]
  · unfold eN; rw [hs, h2.2]
  · intro _; unfold nV; rw [hs]
theorem tok_s {B : FI} {L c i : Nat} {nm t : Int32} (hc : c ≤ L) (hL : L ≤ 120) (hs : sT B L c = sT B L i) (hn : ¬ B i = 32) (h : i < L) (hw : ¬ isLt (B i)) (hd : ¬ isDg (B i)) (ht : t = iF (B i = 59) 3 4) : Tok B L c t (nI i) (nI i + 1) nm := by
  have e : sT B L i = i := sT_n (fun q => hn q.2)
  rw [e] at hs
  have h2 := tKs_s h hw hd
  refine ⟨?_, by rw [hs], ?_, ?_, hc, hL⟩
  · unfold tK; rw [hs, h2.1, ht]
  · unfold eN; rw [hs, h2.2]; exact nI_add i 1
  · unfold tK; rw [hs, h2.1]
    by_cases q : B i = 59
    · rw [iF_t q]; exact fun z => absurd z (by decide)
    · rw [iF_f q]; exact fun z => absurd z (by decide)
theorem if_iF {α : Type} (P : Prop) [h : Decidable P] (a b : α) : (if P then a else b) = iF P a b := by
  by_cases q : P
  · rw [if_pos q, iF_t q]
  · rw [if_neg q, iF_f q]
