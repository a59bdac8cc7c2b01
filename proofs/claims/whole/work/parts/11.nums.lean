/-! ===== numbers ===== -/
theorem lcmp_eq {x y : Int} (hx : w64 x = x) (hy : w64 y = y) : o_lcmp x y = if x < y then -1 else if x = y then 0 else 1 := by
  have e1 : (Int64.ofInt x).toInt = x := hx
  have e2 : (Int64.ofInt y).toInt = y := hy
  have hlt : Int64.ofInt x < Int64.ofInt y ↔ x < y := by rw [Int64.lt_iff_toInt_lt, e1, e2]
  have heq : Int64.ofInt x = Int64.ofInt y ↔ x = y := ⟨fun h => by have := congrArg Int64.toInt h; rw [e1, e2] at this; exact this, fun h => by rw [h]⟩
  have hgt : Int64.ofInt y < Int64.ofInt x ↔ y < x := by rw [Int64.lt_iff_toInt_lt, e1, e2]
  unfold o_lcmp lg_cmp
  by_cases h1 : x < y
  · rw [if_neg (fun z => by have := hgt.mp z; omega), if_neg (fun z => by have := heq.mp z; omega), if_pos h1]
    rfl
  · by_cases h2 : x = y
    · rw [if_neg (fun z => by have := hgt.mp z; omega), if_pos (heq.mpr h2), if_neg h1, if_pos h2]
      rfl
    · rw [if_pos (hgt.mpr (by omega)), if_neg h1, if_neg h2]
      rfl
theorem lcmp_lt {x y : Int} (hx : w64 x = x) (hy : w64 y = y) : o_lcmp x y < 0 ↔ x < y := by rw [lcmp_eq hx hy]; split <;> (try split) <;> omega
theorem lcmp_gt {x y : Int} (hx : w64 x = x) (hy : w64 y = y) : 0 < o_lcmp x y ↔ y < x := by rw [lcmp_eq hx hy]; split <;> (try split) <;> omega
theorem lcmp_le {x y : Int} (hx : w64 x = x) (hy : w64 y = y) : o_lcmp x y ≤ 0 ↔ x ≤ y := by rw [lcmp_eq hx hy]; split <;> (try split) <;> omega
theorem lcmp_ge {x y : Int} (hx : w64 x = x) (hy : w64 y = y) : 0 ≤ o_lcmp x y ↔ y ≤ x := by rw [lcmp_eq hx hy]; split <;> (try split) <;> omega
theorem lcmp_z {x y : Int} (hx : w64 x = x) (hy : w64 y = y) : o_lcmp x y = 0 ↔ x = y := by rw [lcmp_eq hx hy]; split <;> (try split) <;> omega
/-- arguments in their order -/
theorem okA_0 {v : Vl} {L : List Vl} (h : okL (v :: L)) : okV v := okL_hd h
theorem okA_1 {v w : Vl} {L : List Vl} (h : okL (v :: w :: L)) : okV w := okL_hd (okL_tl h)
theorem okA_2 {v w u : Vl} {L : List Vl} (h : okL (v :: w :: u :: L)) : okV u := okL_hd (okL_tl (okL_tl h))
theorem okA_3 {v w u x : Vl} {L : List Vl} (h : okL (v :: w :: u :: x :: L)) : okV x := okL_hd (okL_tl (okL_tl (okL_tl h)))
