section
variable {p : Program} {l : Launch} {e : Env} {R : Room} {s : State} {m : MethodId} {args : Array Value} {below : List Frame} {meth : Method} {c : Code} {H : Heap} {locs : List Loc} {cells slots : Nat} {Q : State → Prop} {pc : Nat} {ls : Array Slot} {rest : List Value}
theorem lv_toL {x y : Int64} (h : x = y) (k : W p l e R s m args below meth c H locs cells slots Q (F0 m pc ls (.long y :: rest))) : W p l e R s m args below meth c H locs cells slots Q (F0 m pc ls (.long x :: rest)) := by rw [h]; exact k
end
theorem flat_rd {num : Nat → FJ} {s i : Int32} (hs : vp_in s 4) (hi : vp_in i 40) : flat4 num (ix (40 * s + i)) = num (ix s) (ix i) := by
  rw [(ix40 hs hi).1]; exact flat_at (ix_lt (by decide) hi)
theorem flat_wr {num : Nat → FJ} {s i : Int32} {v : Int64} (hs : vp_in s 4) (hi : vp_in i 40) : vp_updL (flat4 num) (ix (40 * s + i)) v = flat4 (va_up num (ix s) (vp_updL (num (ix s)) (ix i) v)) := by
  rw [(ix40 hs hi).1]; exact flat_up (ix_lt (by decide) hi)
theorem flat_step {num : Nat → FJ} {F : FJ} {s : Int32} {i : Nat} (hs : vp_in s 4) (hi : i < 40) : vp_updL (flat4 (va_up num (ix s) (fa_fill F (num (ix s)) i))) (ix (40 * s + nI i)) (F i) = flat4 (va_up num (ix s) (fa_fill F (num (ix s)) (i + 1))) := by
  rw [flat_wr hs (vp_in_nI hi (by decide)), bx_uu, va_up_self, ix_nI (by omega), fillL_succ]
theorem flat_end {num : Nat → FJ} {F g : FJ} {s : Nat} : flat4 (va_up num s (fa_fill F g 40)) = flat4 (va_up num s F) := by
  funext k
  unfold flat4
  by_cases h : k / 40 = s
  · rw [h, va_up_self, va_up_self]; exact fa_fill_in (by omega)
  · rw [va_up_ne _ _ h, va_up_ne _ _ h]
noncomputable def sBad (bits : FI) (s : Int32) : Int32 := iF (vp_in s 4) (iF (bits (ix s) = 0) (-1000000006) 0) (-1000000001)
