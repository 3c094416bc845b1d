/-! what the public calls answer and do; of a table, of the findings -/
abbrev sN (σ : Sg) : Nat := ix (sGu σ)
abbrev sOne (σ : Sg) (g : Int32) : Prop := vp_in g (ix (sGu σ))
noncomputable abbrev sSoreS (σ : Sg) : Int32 := sSet (sSores (sKi σ) (sEa σ)) (ix (sGu σ))
noncomputable abbrev sTellS (σ : Sg) : Int32 := sSet (sTells (sSp σ) (sKi σ) (sPl σ) (sEa σ)) (ix (sGu σ))
abbrev sWho (σ : Sg) (p : Int32) : Int32 := sWhoN (sPl σ) p (ix (sGu σ))
abbrev cLay (p w v : Int32) : Prop := vp_in p 10 ∧ (¬ w < 0 ∧ ¬ 2 < w) ∧ (¬ v < 0 ∧ ¬ (if w = 2 then 9 else 1 : Int32) < v)
noncomputable def sLay (σ : Sg) (fd : FI) (p w v : Int32) : Int32 × Sg × FI :=
  iF (cLay p w v) (if w = 0 then (sKn σ (ix p), uKn σ (upd (sKn σ) (ix p) v), fd) else if w = 1 then (sFo σ (ix p), uFo σ (upd (sFo σ) (ix p) v), fd) else (sSp σ (ix p), uSp σ (upd (sSp σ) (ix p) v), fd)) (-1000000001, σ, bump fd (-1000000001))
noncomputable def sPlace (σ : Sg) (fd : FI) (p w : Int32) : Int32 × FI :=
  iF (vp_in p 10) (if w = 0 then (sKn σ (ix p), fd) else if w = 1 then (sFo σ (ix p), fd) else if w = 2 then (sSp σ (ix p), fd) else if w = 3 then (sWho σ p, fd) else (-1000000001, bump fd (-1000000001))) (-1000000001, bump fd (-1000000001))
noncomputable def sNow (σ : Sg) (fd : FI) (w : Int32) : Int32 × FI :=
  if w = 0 then (sCo σ, fd) else if w = 1 then (if sSoreS σ = 0 then 1 else 0, fd) else if w = 2 then (sTellS σ, fd) else if w = 3 then (sSoreS σ, fd) else if w = 4 then (10000 + sSum (sEa σ) (ix (sGu σ)), fd) else if w = 5 then (sSum (sTo σ) (ix (sGu σ)), fd) else (-1000000001, bump fd (-1000000001))
abbrev sWelcome (σ : Sg) (k p : Int32) : Sg := (sCo σ, sGu σ + 1, sKn σ, sFo σ, sSp σ, upd (sKi σ) (ix (sGu σ)) k, upd (sPl σ) (ix (sGu σ)) p, upd (sEa σ) (ix (sGu σ)) 0, upd (sTo σ) (ix (sGu σ)) 0, upd (sQu σ) (ix (sGu σ)) 0)
noncomputable def sGuest (σ : Sg) (fd : FI) (k p : Int32) : Int32 × Sg × FI :=
  iF (vp_in k 6 ∧ vp_in p 10) (iF (sGu σ = 8) (-1000000002, σ, bump fd (-1000000002)) (iF (sWho σ p = -1) (sGu σ, sWelcome σ k p, fd) (-1000000005, σ, bump fd (-1000000005)))) (-1000000001, σ, bump fd (-1000000001))
noncomputable def sOf (σ : Sg) (fd : FI) (g w : Int32) : Int32 × FI :=
  iF (sOne σ g) (if w = 0 then (sKi σ (ix g), fd) else if w = 1 then (sPl σ (ix g), fd) else if w = 2 then (100 + sEa σ (ix g), fd) else if w = 3 then (sTo σ (ix g), fd) else if w = 4 then (sQu σ (ix g), fd)
    else if w = 5 then (100 + sFeels (sGu σ) (sKn σ) (sFo σ) (sSp σ) (sKi σ) (sPl σ) (ix g), fd) else if w = 6 then (100 + sCatch (sGu σ) (sKn σ) (sFo σ) (sKi σ) (sPl σ) (ix g), fd) else if w = 7 then (100 + sSore (sKi σ (ix g)), fd) else if w = 8 then (sNear (sGu σ) (sPl σ) (ix g), fd) else (-1000000001, bump fd (-1000000001))) (-1000000001, bump fd (-1000000001))
abbrev cPart (w v : Int32) : Prop := (w = 2 ∧ ¬ v < -99 ∧ ¬ 99 < v) ∨ (¬ w = 2 ∧ (¬ w < 3 ∧ ¬ 4 < w) ∧ ¬ v < 0 ∧ ¬ 9999 < v)
noncomputable def sSetv (σ : Sg) (fd : FI) (g w v : Int32) : Int32 × Sg × FI :=
  iF (sOne σ g ∧ cPart w v) (if w = 2 then (sEa σ (ix g), uEa σ (upd (sEa σ) (ix g) v), fd) else if w = 3 then (sTo σ (ix g), uTo σ (upd (sTo σ) (ix g) v), fd) else (sQu σ (ix g), uQu σ (upd (sQu σ) (ix g) v), fd)) (-1000000001, σ, bump fd (-1000000001))
noncomputable def sSeat (σ : Sg) (fd : FI) (g p : Int32) : Int32 × Sg × FI :=
  iF (sOne σ g ∧ vp_in p 10) (iF (sWho σ p = -1 ∨ sWho σ p = g) (sPl σ (ix g), uPl σ (upd (sPl σ) (ix g) p), fd) (-1000000005, σ, bump fd (-1000000005))) (-1000000001, σ, bump fd (-1000000001))
abbrev sExch (σ : Sg) (g o : Int32) : Sg := uPl σ (upd (upd (sPl σ) (ix g) (sPl σ (ix o))) (ix o) (sPl σ (ix g)))
noncomputable def sSwap (σ : Sg) (fd : FI) (g o : Int32) : Int32 × Sg × FI :=
  iF (sOne σ g ∧ sOne σ o ∧ ¬ g = o) (1, sExch σ g o, fd) (-1000000001, σ, bump fd (-1000000001))
noncomputable def sTurn (σ : Sg) (fd : FI) (g k : Int32) : Int32 × Sg × FI :=
  iF (sOne σ g ∧ vp_in k 6) (sKi σ (ix g), uKi σ (upd (sKi σ) (ix g) k), fd) (-1000000001, σ, bump fd (-1000000001))
noncomputable def sAs (σ : Sg) (fd : FI) (g k : Int32) : Int32 × FI :=
  iF (sOne σ g ∧ vp_in k 6) (iF (sUp 6 (sKi σ (ix g)) k) (100 + sEa σ (ix g), fd) (-1000000003, bump fd (-1000000003))) (-1000000001, bump fd (-1000000001))
noncomputable def sCourses (σ : Sg) (fd : FI) (n : Int32) : Int32 × Sg × FI :=
  iF (¬ n < 1 ∧ ¬ 60 < n) (iF (99999 < sCo σ + n) (-1000000005, σ, bump fd (-1000000005)) (sSoreS (sPass (ix n) σ), sPass (ix n) σ, fd)) (-1000000001, σ, bump fd (-1000000001))
noncomputable def sOn (σ : Sg) (fd : FI) (g n w : Int32) : Int32 × FI :=
  iF (sOne σ g ∧ (¬ n < 0 ∧ ¬ 100 < n) ∧ (¬ w < 0 ∧ ¬ 2 < w)) (if w = 0 then (sEa (sPass (ix n) σ) (ix g), fd) else if w = 1 then (sTo (sPass (ix n) σ) (ix g), fd) else (sQu (sPass (ix n) σ) (ix g), fd)) (-1000000001, bump fd (-1000000001))
noncomputable def sMood (σ : Sg) (fd : FI) (n : Int32) : Int32 × FI :=
  iF (¬ n < 0 ∧ ¬ 100 < n) (sSum (sEa (sPass (ix n) σ)) (ix (sGu σ)), fd) (-1000000001, bump fd (-1000000001))
/-- the class's cells -/
def kcw (cI cL cS : ClassId) (b : Nat → Nat → Nat) (s1 : Sg) (w1 m1 n1 : FI) (s2 : Sg) (w2 m2 n2 : FI) (s3 : Sg) (w3 m3 n3 : FI) (ik : Int32) (bt : FI) (ln tk sb en nm : Int32) (bits size : FI) (num : Nat → FJ) (fnd : FI) : va_W :=
  [(b 0 0, .inr (3, [.ref (b 1 0), .ref (b 2 0), .ref (b 3 0), .int ik, .ref (b 4 0), .ref (b 6 0), .ref (b 9 0)])),
   (b 1 0, .inr (1, [.int (sCo s1), .ref (b 1 1), .ref (b 1 2), .ref (b 1 3), .ref (b 1 4), .int (sGu s1), .ref (b 1 5), .ref (b 1 6), .ref (b 1 7), .ref (b 1 8), .ref (b 1 9), .ref (b 1 10), .ref (b 1 11)])),
   (b 1 1, .inl (cI, 10, .inl (sKn s1))),
   (b 1 2, .inl (cI, 10, .inl (sFo s1))),
   (b 1 3, .inl (cI, 10, .inl (sSp s1))),
   (b 1 4, .inl (cI, 10, .inl w1)),
   (b 1 5, .inl (cI, 8, .inl (sKi s1))),
   (b 1 6, .inl (cI, 8, .inl (sPl s1))),
   (b 1 7, .inl (cI, 8, .inl (sEa s1))),
   (b 1 8, .inl (cI, 8, .inl (sTo s1))),
   (b 1 9, .inl (cI, 8, .inl (sQu s1))),
   (b 1 10, .inl (cI, 8, .inl m1)),
   (b 1 11, .inl (cI, 8, .inl n1)),
   (b 2 0, .inr (1, [.int (sCo s2), .ref (b 2 1), .ref (b 2 2), .ref (b 2 3), .ref (b 2 4), .int (sGu s2), .ref (b 2 5), .ref (b 2 6), .ref (b 2 7), .ref (b 2 8), .ref (b 2 9), .ref (b 2 10), .ref (b 2 11)])),
   (b 2 1, .inl (cI, 10, .inl (sKn s2))),
   (b 2 2, .inl (cI, 10, .inl (sFo s2))),
   (b 2 3, .inl (cI, 10, .inl (sSp s2))),
   (b 2 4, .inl (cI, 10, .inl w2)),
   (b 2 5, .inl (cI, 8, .inl (sKi s2))),
   (b 2 6, .inl (cI, 8, .inl (sPl s2))),
   (b 2 7, .inl (cI, 8, .inl (sEa s2))),
   (b 2 8, .inl (cI, 8, .inl (sTo s2))),
   (b 2 9, .inl (cI, 8, .inl (sQu s2))),
   (b 2 10, .inl (cI, 8, .inl m2)),
   (b 2 11, .inl (cI, 8, .inl n2)),
   (b 3 0, .inr (1, [.int (sCo s3), .ref (b 3 1), .ref (b 3 2), .ref (b 3 3), .ref (b 3 4), .int (sGu s3), .ref (b 3 5), .ref (b 3 6), .ref (b 3 7), .ref (b 3 8), .ref (b 3 9), .ref (b 3 10), .ref (b 3 11)])),
   (b 3 1, .inl (cI, 10, .inl (sKn s3))),
   (b 3 2, .inl (cI, 10, .inl (sFo s3))),
   (b 3 3, .inl (cI, 10, .inl (sSp s3))),
   (b 3 4, .inl (cI, 10, .inl w3)),
   (b 3 5, .inl (cI, 8, .inl (sKi s3))),
   (b 3 6, .inl (cI, 8, .inl (sPl s3))),
   (b 3 7, .inl (cI, 8, .inl (sEa s3))),
   (b 3 8, .inl (cI, 8, .inl (sTo s3))),
   (b 3 9, .inl (cI, 8, .inl (sQu s3))),
   (b 3 10, .inl (cI, 8, .inl m3)),
   (b 3 11, .inl (cI, 8, .inl n3)),
   (b 4 0, .inr (2, [.ref (b 4 1), .int ln, .int tk, .int sb, .int en, .int nm])),
   (b 4 1, .inl (cI, 120, .inl bt)),
   (b 6 0, .inl (cS, 4, .inr (.inr (.inr (.inr (fun s => some (b 7 s))))))),
   (b 7 0, .inr (0, [.int (bits 0), .int (size 0), .ref (b 8 0)])),
   (b 8 0, .inl (cL, 40, .inr (.inl (num 0)))),
   (b 7 1, .inr (0, [.int (bits 1), .int (size 1), .ref (b 8 1)])),
   (b 8 1, .inl (cL, 40, .inr (.inl (num 1)))),
   (b 7 2, .inr (0, [.int (bits 2), .int (size 2), .ref (b 8 2)])),
   (b 8 2, .inl (cL, 40, .inr (.inl (num 2)))),
   (b 7 3, .inr (0, [.int (bits 3), .int (size 3), .ref (b 8 3)])),
   (b 8 3, .inl (cL, 40, .inr (.inl (num 3)))),
   (b 9 0, .inl (cI, 7, .inl fnd))]
/-- its addresses -/
def djk (b : Nat → Nat → Nat) : va_W := [(b 0 0, .inr (0, [])), (b 1 0, .inr (0, [])), (b 1 1, .inr (0, [])), (b 1 2, .inr (0, [])), (b 1 3, .inr (0, [])), (b 1 4, .inr (0, [])), (b 1 5, .inr (0, [])), (b 1 6, .inr (0, [])), (b 1 7, .inr (0, [])), (b 1 8, .inr (0, [])), (b 1 9, .inr (0, [])), (b 1 10, .inr (0, [])), (b 1 11, .inr (0, [])), (b 2 0, .inr (0, [])), (b 2 1, .inr (0, [])), (b 2 2, .inr (0, [])), (b 2 3, .inr (0, [])), (b 2 4, .inr (0, [])), (b 2 5, .inr (0, [])), (b 2 6, .inr (0, [])), (b 2 7, .inr (0, [])), (b 2 8, .inr (0, [])), (b 2 9, .inr (0, [])), (b 2 10, .inr (0, [])), (b 2 11, .inr (0, [])), (b 3 0, .inr (0, [])), (b 3 1, .inr (0, [])), (b 3 2, .inr (0, [])), (b 3 3, .inr (0, [])), (b 3 4, .inr (0, [])), (b 3 5, .inr (0, [])), (b 3 6, .inr (0, [])), (b 3 7, .inr (0, [])), (b 3 8, .inr (0, [])), (b 3 9, .inr (0, [])), (b 3 10, .inr (0, [])), (b 3 11, .inr (0, [])), (b 4 0, .inr (0, [])), (b 4 1, .inr (0, [])), (b 6 0, .inr (0, [])), (b 7 0, .inr (0, [])), (b 8 0, .inr (0, [])), (b 7 1, .inr (0, [])), (b 8 1, .inr (0, [])), (b 7 2, .inr (0, [])), (b 8 2, .inr (0, [])), (b 7 3, .inr (0, [])), (b 8 3, .inr (0, [])), (b 9 0, .inr (0, []))]

theorem va_back2 {D : va_G} {cl : List vw_C} {A0 : Nat → Prop} {ws wt wo w1 : va_W} {H H1 : Heap} (hP : va_P D cl ws H) (hD : va_D A0 ws) (i n j k : Nat) (hc : (ws.drop i).take n = wt) (ho : (ws.drop j).take k = wo) (hk : ∀ q : Nat, q < H.size → ¬ Aof (wt ++ wo) q → H1[q]? = H[q]?) (hP1 : va_P D cl w1 H1) (hPo : va_P D cl wo H1) : va_P D cl (ws.take i ++ (w1 ++ ws.drop (i + n))) H1 := by
  have out : ∀ (z : Nat) (q : Nat × va_E), ws[z]? = some q → (z < i ∨ i + n ≤ z) → va_at D cl q H1 := by
    intro z q hq hz
    have h0 := hP z q hq
    by_cases hin : Aof (wt ++ wo) q.1
    · obtain ⟨x, hx, ex⟩ := List.mem_map.mp hin
      rcases List.mem_append.mp hx with hx | hx
      · obtain ⟨y, hy⟩ := List.getElem?_of_mem hx
        rw [← hc, List.getElem?_take] at hy
        split at hy
        · rename_i hyn
          rw [List.getElem?_drop] at hy
          have := hD.1 _ _ q x hq hy ex.symm
          omega
        · cases hy
      · obtain ⟨y, hy⟩ := List.getElem?_of_mem hx
        have hy0 := hy
        rw [← ho, List.getElem?_take] at hy
        split at hy
        · rw [List.getElem?_drop] at hy
          have e1 := hD.1 _ _ q x hq hy ex.symm
          have e2 : x = q := by rw [← e1] at hy; rw [hq] at hy; injection hy with hy; exact hy.symm
          rw [← e2]
          exact hPo y x hy0
        · cases hy
    · exact h0.kept (hk q.1 h0.lt hin)
  intro z q hq
  have hm := List.mem_of_getElem? hq
  rcases List.mem_append.mp hm with h | h
  · obtain ⟨y, hy⟩ := List.getElem?_of_mem h
    rw [List.getElem?_take] at hy
    split at hy
    · rename_i hyi
      exact out y q hy (Or.inl hyi)
    · cases hy
  · rcases List.mem_append.mp h with h | h
    · obtain ⟨y, hy⟩ := List.getElem?_of_mem h
      exact hP1 y q hy
    · obtain ⟨y, hy⟩ := List.getElem?_of_mem h
      rw [List.getElem?_drop] at hy
      exact out _ q hy (Or.inr (by omega))
section
variable {p : Program} {l : Launch} {e : Env} {R : Room} {s : State} {m : MethodId} {args : Array Value} {below : List Frame} {meth : Method} {c : Code} {H : Heap} {locs : List Loc} {cells slots : Nat} {Q : State → Prop}
variable {pc : Nat} {ls : Array Slot} {rest st0 : List Value} {a : Array Value} {D : va_G} {cl : List vw_C} {A0 : Nat → Prop} {H0 : Heap}
/-- a call that writes the cells of one part of the world and reads another's -/
theorem callBec {wt wo w1 w2 ws : va_W} (hr : va_Run p l e R s m args below meth c H locs cells slots 0 0 (F0 m pc ls st0) rest (va_Qv (fun (_ : Unit) => True) (fun _ t => va_P D cl w2 t.heap) (Aof (wt ++ wo)) a) (Aof (wt ++ wo))) (hP : va_P D cl ws H) (hD : va_D A0 ws) (hS : va_S A0 H0 H locs) (i n j k : Nat) (hc : (ws.drop i).take n = wt) (ho : (ws.drop j).take k = wo) (hw : w2 = w1 ++ wo)
    (kk : ∀ (H1 : Heap) (locs1 : List Loc), va_P D cl (ws.take i ++ (w1 ++ ws.drop (i + n))) H1 → va_S A0 H0 H1 locs1 → W p l e R s m args below meth c H1 locs1 cells slots Q (F0 m (pc + 3) ls rest)) : W p l e R s m args below meth c H locs cells slots Q (F0 m pc ls st0) := by
  have hA1 := Aof_in (va_segD hD i n hc)
  have hA2 := Aof_in (va_segD hD j k ho)
  have hA : ∀ q, Aof (wt ++ wo) q → A0 q := fun q h => by
    have h : q ∈ (wt ++ wo).map Prod.fst := h
    rw [List.map_append] at h
    rcases List.mem_append.mp h with h | h
    · exact hA1 q h
    · exact hA2 q h
  refine va_callv hr hS (fun q _ h => hA q h) hA (fun u t H1 locs1 ht _ hp hB _ hk hS1 => ?_)
  rw [ht, hw] at hB
  have h1 : va_P D cl w1 H1 := fun z q hq => hB z q (by rw [List.getElem?_append_left (List.getElem?_eq_some_iff.mp hq).1]; exact hq)
  have h2 : va_P D cl wo H1 := fun z q hq => hB (w1.length + z) q (by rw [List.getElem?_append_right (by omega)]; rw [show w1.length + z - w1.length = z by omega]; exact hq)
  exact kk H1 locs1 (va_back2 hP hD i n j k hc ho hk h1 h2) hS1
end
