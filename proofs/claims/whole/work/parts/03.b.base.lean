/-! own base: words for contracts, calls, joins, loops -/
abbrev FI : Type := Nat → Int32
abbrev FJ : Type := Nat → Int64
abbrev ix (x : Int32) : Nat := x.toNatClampNeg
def Aof (w : va_W) : Nat → Prop := fun q => q ∈ w.map Prod.fst
noncomputable def bI (P : Prop) : Int32 := @ite Int32 P (Classical.propDecidable P) 1 0
noncomputable def iF {α : Type} (P : Prop) (a b : α) : α := @ite α P (Classical.propDecidable P) a b
theorem bI_t {P : Prop} (h : P) : bI P = 1 := by unfold bI; exact if_pos h
theorem bI_f {P : Prop} (h : ¬ P) : bI P = 0 := by unfold bI; exact if_neg h
theorem iF_t {α : Type} {P : Prop} {a b : α} (h : P) : iF P a b = a := by unfold iF; exact if_pos h
theorem iF_f {α : Type} {P : Prop} {a b : α} (h : ¬ P) : iF P a b = b := by unfold iF; exact if_neg h
theorem bI_0 {P : Prop} (h : bI P = 0) : ¬ P := fun hp => by rw [bI_t hp] at h; exact absurd h (by decide)
theorem bI_n {P : Prop} (h : ¬ bI P = 0) : P := Classical.byContradiction fun hp => h (bI_f hp)
theorem bI_nar (P : Prop) : narrow .boolean (.int (bI P)) = .int (bI P) := by
  by_cases h : P
  · rw [bI_t h]; rfl
  · rw [bI_f h]; rfl
theorem bI_iff {P Q : Prop} (h : P ↔ Q) : bI P = bI Q := by rw [propext h]
def PcP (av : List Value) : Array Value → State → Prop := va_Pc av (fun _ => True)
theorem PcP_fb {av : List Value} : FrameBlind (PcP av) := fun _ _ _ _ q => ⟨q.1, trivial⟩
def PcR (D : va_G) (cl : List vw_C) (tys : List (ClassId × FieldType)) (av : List Value) (w : va_W) : Array Value → State → Prop := va_Pc av (fun U => va_P D cl w U.heap ∧ va_K D cl tys U)
theorem PcR_fb {D : va_G} {cl : List vw_C} {tys : List (ClassId × FieldType)} {av : List Value} {w : va_W} : FrameBlind (PcR D cl tys av w) := fun a U g mk q => ⟨q.1, q.2.1, va_K.moved (u := U) (U := U.calling g mk a) (Vm.Alike.refl U.vm) q.2.2⟩
theorem PcR_pre {s : State} {H : Heap} {D : va_G} {cl : List vw_C} {tys : List (ClassId × FieldType)} {av : List Value} {w : va_W} (hP : va_P D cl w H) (hK : va_K D cl tys s) : ∀ U : State, U.heap = H → s.WarmedH U.vm → PcR D cl tys av w av.toArray U := fun U hU hW => ⟨rfl, by rw [hU]; exact hP, va_K.moved hW.alike hK⟩
theorem va_D_adr {A : Nat → Prop} {ws ws' : va_W} (h : va_D A ws) (e : ws'.map Prod.fst = ws.map Prod.fst) : va_D A ws' := by
  have key : ∀ (k : Nat) (q : Nat × va_E), ws'[k]? = some q → ∃ q' : Nat × va_E, ws[k]? = some q' ∧ q'.1 = q.1 := by
    intro k q hq
    have h1 : (ws'.map Prod.fst)[k]? = some q.1 := by rw [List.getElem?_map, hq]; rfl
    rw [e, List.getElem?_map] at h1
    cases h2 : ws[k]? with
    | none => rw [h2] at h1; cases h1
    | some q' => rw [h2] at h1; exact ⟨q', rfl, by injection h1⟩
  refine ⟨fun i j p q hi hj he => ?_, fun k q hq => ?_⟩
  · obtain ⟨p', hp', ep⟩ := key i p hi
    obtain ⟨q', hq', eq⟩ := key j q hj
    exact h.1 i j p' q' hp' hq' (by rw [ep, eq, he])
  · obtain ⟨q', hq', eq⟩ := key k q hq
    rw [← eq]
    exact h.2 k q' hq'
theorem va_D_self {A : Nat → Prop} {ws : va_W} (h : va_D A ws) : va_D (Aof ws) ws := ⟨h.1, fun k q hq => List.mem_map.mpr ⟨q, List.mem_of_getElem? hq, rfl⟩⟩
theorem Aof_in {A : Nat → Prop} {ws : va_W} (h : va_D A ws) : ∀ q, Aof ws q → A q := fun q hq => by
  obtain ⟨x, hx, rfl⟩ := List.mem_map.mp hq
  obtain ⟨k, hk⟩ := List.getElem?_of_mem hx
  exact h.2 k x hk
theorem va_seg {D : va_G} {cl : List vw_C} {ws wc : va_W} {H : Heap} (hP : va_P D cl ws H) (i n : Nat) (h : (ws.drop i).take n = wc) : va_P D cl wc H := by
  intro k q hq
  rw [← h, List.getElem?_take] at hq
  split at hq
  · rw [List.getElem?_drop] at hq
    exact hP _ q hq
  · cases hq
theorem va_segD {A : Nat → Prop} {ws wc : va_W} (hD : va_D A ws) (i n : Nat) (h : (ws.drop i).take n = wc) : va_D A wc := by
  have key : ∀ (k : Nat) (q : Nat × va_E), wc[k]? = some q → ws[i + k]? = some q := by
    intro k q hq
    rw [← h, List.getElem?_take] at hq
    split at hq
    · rw [List.getElem?_drop] at hq
      exact hq
    · cases hq
  exact ⟨fun a b p q ha hb he => by have := hD.1 _ _ p q (key a p ha) (key b q hb) he; omega, fun k q hq => hD.2 _ q (key k q hq)⟩
theorem va_back {D : va_G} {cl : List vw_C} {A0 : Nat → Prop} {ws wc w1 : va_W} {H H1 : Heap} (hP : va_P D cl ws H) (hD : va_D A0 ws) (i n : Nat) (hc : (ws.drop i).take n = wc) (hk : ∀ q : Nat, q < H.size → ¬ Aof wc q → H1[q]? = H[q]?) (hP1 : va_P D cl w1 H1) : va_P D cl (ws.take i ++ (w1 ++ ws.drop (i + n))) H1 := by
  have out : ∀ (j : Nat) (q : Nat × va_E), ws[j]? = some q → (j < i ∨ i + n ≤ j) → va_at D cl q H1 := by
    intro j q hq hj
    have h0 := hP j q hq
    refine h0.kept (hk q.1 h0.lt ?_)
    intro hA
    obtain ⟨x, hx, ex⟩ := List.mem_map.mp hA
    obtain ⟨k, hk2⟩ := List.getElem?_of_mem hx
    rw [← hc, List.getElem?_take] at hk2
    split at hk2
    · rename_i hkn
      rw [List.getElem?_drop] at hk2
      have := hD.1 _ _ q x hq hk2 ex.symm
      omega
    · cases hk2
  intro k q hq
  have hm := List.mem_of_getElem? hq
  rcases List.mem_append.mp hm with h | h
  · obtain ⟨j, hj⟩ := List.getElem?_of_mem h
    rw [List.getElem?_take] at hj
    split at hj
    · rename_i hji
      exact out j q hj (Or.inl hji)
    · cases hj
  · rcases List.mem_append.mp h with h | h
    · obtain ⟨j, hj⟩ := List.getElem?_of_mem h
      exact hP1 j q hj
    · obtain ⟨j, hj⟩ := List.getElem?_of_mem h
      rw [List.getElem?_drop] at hj
      exact out _ q hj (Or.inr (by omega))
section
variable {p : Program} {l : Launch} {e : Env} {R : Room} {s : State} {m : MethodId} {args : Array Value} {below : List Frame} {meth : Method} {c : Code} {H : Heap} {locs : List Loc} {cells slots : Nat} {Q : State → Prop}
variable {pc : Nat} {ls : Array Slot} {rest st0 : List Value} {a : Array Value} {D : va_G} {cl : List vw_C} {A0 : Nat → Prop} {H0 : Heap}
/-- a join: what holds behind it is shown once -/
theorem jn {α : Type} {g : JFrame} (φ : α → Prop) (g' : α → JFrame) (h : (∀ v, φ v → W p l e R s m args below meth c H locs cells slots Q (g' v)) → W p l e R s m args below meth c H locs cells slots Q g) (k : ∀ v, φ v → W p l e R s m args below meth c H locs cells slots Q (g' v)) : W p l e R s m args below meth c H locs cells slots Q g := h k
/-- a join behind which heap and locals may have changed -/
theorem jnH {α : Type} {g : JFrame} (φ : α → Heap → List Loc → Array Slot → Prop) (g' : α → Array Slot → JFrame) (h : (∀ v H locs ls, φ v H locs ls → W p l e R s m args below meth c H locs cells slots Q (g' v ls)) → W p l e R s m args below meth c H locs cells slots Q g) (k : ∀ v H locs ls, φ v H locs ls → W p l e R s m args below meth c H locs cells slots Q (g' v ls)) : W p l e R s m args below meth c H locs cells slots Q g := h k
/-- a loop that writes nothing -/
theorem lpR {α : Type} {st : List Value} (I : Nat → α → Array Slot → Prop) (n0 : Nat) (u0 : α) (h0 : I n0 u0 ls)
    (step : ∀ n, (∀ k, k < n → ∀ u ls, I k u ls → W p l e R s m args below meth c H locs cells slots Q (F0 m pc ls st)) → ∀ u ls, I n u ls → W p l e R s m args below meth c H locs cells slots Q (F0 m pc ls st)) : W p l e R s m args below meth c H locs cells slots Q (F0 m pc ls st) := by
  have h : ∀ n, ∀ k, k < n → ∀ u ls, I k u ls → W p l e R s m args below meth c H locs cells slots Q (F0 m pc ls st) := by
    intro n
    induction n with
    | zero => intro k hk; exact absurd hk (Nat.not_lt_zero k)
    | succ n ih => intro k hk; exact step k (fun j hj => ih j (by omega))
  exact h (n0 + 1) n0 (Nat.lt_succ_self n0) u0 ls h0
/-- a loop -/
theorem lpW {α : Type} {st : List Value} (I : Nat → α → Heap → List Loc → Array Slot → Prop) (n0 : Nat) (u0 : α) (h0 : I n0 u0 H locs ls)
    (step : ∀ n, (∀ k, k < n → ∀ u H locs ls, I k u H locs ls → W p l e R s m args below meth c H locs cells slots Q (F0 m pc ls st)) → ∀ u H locs ls, I n u H locs ls → W p l e R s m args below meth c H locs cells slots Q (F0 m pc ls st)) : W p l e R s m args below meth c H locs cells slots Q (F0 m pc ls st) := by
  have h : ∀ n, ∀ k, k < n → ∀ u H locs ls, I k u H locs ls → W p l e R s m args below meth c H locs cells slots Q (F0 m pc ls st) := by
    intro n
    induction n with
    | zero => intro k hk; exact absurd hk (Nat.not_lt_zero k)
    | succ n ih => intro k hk; exact step k (fun j hj => ih j (by omega))
  exact h (n0 + 1) n0 (Nat.lt_succ_self n0) u0 H locs ls h0
/-- calls that write nothing, their answer known -/
theorem callE {F : Int32} (hr : CallRun p l e R s m args below meth c H locs cells slots 0 0 (F0 m pc ls st0) rest (vp_Si (fun r => r = F) a) (fun _ => False)) (k : W p l e R s m args below meth c H locs cells slots Q (F0 m (pc + 3) ls (.int F :: rest))) : W p l e R s m args below meth c H locs cells slots Q (F0 m pc ls st0) := vp_callSi hr (fun r h => by subst h; exact k)
theorem callEl {F : Int64} (hr : CallRun p l e R s m args below meth c H locs cells slots 0 0 (F0 m pc ls st0) rest (vp_Sl (fun r => r = F) a) (fun _ => False)) (k : W p l e R s m args below meth c H locs cells slots Q (F0 m (pc + 3) ls (.long F :: rest))) : W p l e R s m args below meth c H locs cells slots Q (F0 m pc ls st0) := vp_callSl hr (fun r h => by subst h; exact k)
/-- calls that write cells of a part of the world -/
theorem callMi {S : Type} {post : Int32 → S → Prop} {w' : S → va_W} {wc ws : va_W} (hr : va_Run p l e R s m args below meth c H locs cells slots 0 0 (F0 m pc ls st0) rest (va_Qi post (fun u t => va_P D cl (w' u) t.heap) (Aof wc) a) (Aof wc)) (hP : va_P D cl ws H) (hD : va_D A0 ws) (hS : va_S A0 H0 H locs) (i n : Nat) (hc : (ws.drop i).take n = wc)
    (kk : ∀ (r : Int32) (u : S) (H1 : Heap) (locs1 : List Loc), post r u → va_P D cl (ws.take i ++ (w' u ++ ws.drop (i + n))) H1 → va_S A0 H0 H1 locs1 → W p l e R s m args below meth c H1 locs1 cells slots Q (F0 m (pc + 3) ls (.int r :: rest))) : W p l e R s m args below meth c H locs cells slots Q (F0 m pc ls st0) := by
  have hA := Aof_in (va_segD hD i n hc)
  refine va_calli hr hS (fun q _ h => hA q h) hA (fun r u t H1 locs1 ht _ hp hB _ hk hS1 => ?_)
  rw [ht] at hB
  exact kk r u H1 locs1 hp (va_back hP hD i n hc hk hB) hS1
theorem callMl {S : Type} {post : Int64 → S → Prop} {w' : S → va_W} {wc ws : va_W} (hr : va_Run p l e R s m args below meth c H locs cells slots 0 0 (F0 m pc ls st0) rest (va_Ql post (fun u t => va_P D cl (w' u) t.heap) (Aof wc) a) (Aof wc)) (hP : va_P D cl ws H) (hD : va_D A0 ws) (hS : va_S A0 H0 H locs) (i n : Nat) (hc : (ws.drop i).take n = wc)
    (kk : ∀ (r : Int64) (u : S) (H1 : Heap) (locs1 : List Loc), post r u → va_P D cl (ws.take i ++ (w' u ++ ws.drop (i + n))) H1 → va_S A0 H0 H1 locs1 → W p l e R s m args below meth c H1 locs1 cells slots Q (F0 m (pc + 3) ls (.long r :: rest))) : W p l e R s m args below meth c H locs cells slots Q (F0 m pc ls st0) := by
  have hA := Aof_in (va_segD hD i n hc)
  refine va_calll hr hS (fun q _ h => hA q h) hA (fun r u t H1 locs1 ht _ hp hB _ hk hS1 => ?_)
  rw [ht] at hB
  exact kk r u H1 locs1 hp (va_back hP hD i n hc hk hB) hS1
theorem callMv {S : Type} {post : S → Prop} {w' : S → va_W} {wc ws : va_W} (hr : va_Run p l e R s m args below meth c H locs cells slots 0 0 (F0 m pc ls st0) rest (va_Qv post (fun u t => va_P D cl (w' u) t.heap) (Aof wc) a) (Aof wc)) (hP : va_P D cl ws H) (hD : va_D A0 ws) (hS : va_S A0 H0 H locs) (i n : Nat) (hc : (ws.drop i).take n = wc)
    (kk : ∀ (u : S) (H1 : Heap) (locs1 : List Loc), post u → va_P D cl (ws.take i ++ (w' u ++ ws.drop (i + n))) H1 → va_S A0 H0 H1 locs1 → W p l e R s m args below meth c H1 locs1 cells slots Q (F0 m (pc + 3) ls rest)) : W p l e R s m args below meth c H locs cells slots Q (F0 m pc ls st0) := by
  have hA := Aof_in (va_segD hD i n hc)
  refine va_callv hr hS (fun q _ h => hA q h) hA (fun u t H1 locs1 ht _ hp hB _ hk hS1 => ?_)
  rw [ht] at hB
  exact kk u H1 locs1 hp (va_back hP hD i n hc hk hB) hS1
end
/-! numbers -/
theorem in_of {x : Int32} {n : Nat} (hn : n < 2 ^ 31) (h0 : ¬ x < 0) (h1 : ¬ nI n ≤ x) : vp_in x n := by
  rcases pk_ix x hn with h | h | ⟨j, hj, rfl⟩
  · exact absurd h h0
  · exact absurd h h1
  · exact vp_in_nI hj hn
theorem in_iff {x : Int32} {n : Nat} (hn : n < 2 ^ 31) : vp_in x n ↔ (¬ x < 0 ∧ ¬ nI n ≤ x) := by
  refine ⟨fun h => ?_, fun h => in_of hn h.1 h.2⟩
  obtain ⟨j, hj, rfl⟩ := vp_in_of h hn
  exact ⟨nI_pos (by omega), nI_ge hj hn⟩
theorem in_le {x : Int32} {n k : Nat} (h : vp_in x n) (hk : n ≤ k) : vp_in x k := by
  rw [vp_in_iff] at h ⊢
  omega
theorem ix_lt {x : Int32} {n : Nat} (hn : n < 2 ^ 31) (h : vp_in x n) : ix x < n := by
  obtain ⟨j, hj, rfl⟩ := vp_in_of h hn
  rw [ix, nI_clamp (by omega)]
  exact hj
theorem nI_ix {x : Int32} {n : Nat} (hn : n < 2 ^ 31) (h : vp_in x n) : nI (ix x) = x := by
  obtain ⟨j, hj, rfl⟩ := vp_in_of h hn
  rw [ix, nI_clamp (by omega)]
theorem ix_nI {j : Nat} (h : j < 2 ^ 31) : ix (nI j) = j := nI_clamp h
