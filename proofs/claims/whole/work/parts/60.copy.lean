/-! ===== copies, the library's methods ===== -/
section COPY
variable {Γ : Gm} {d : Nat} {M : Mth} {P : Int → Mem → Prop} {pc q : Nat} {L st : List Vl} {m : Mem}
theorem okM_cpm {m : Mem} (h : okM m) {a b n N N' : Nat} (ha : K a = (1, N)) (hb : K b = (1, N')) : okM (cpm m a 0 b 0 n) := by
  intro c j
  unfold cpm
  split
  · rename_i q
    have h1 := h a (0 + (j - 0))
    rw [isJ_arr ha (by decide) (by decide)] at h1
    exact ⟨fun _ => h1.1 rfl, h1.2⟩
  · exact h c j
theorem i32_n {n : Nat} (h : n < 2147483648) : (Int32.ofInt (n : Int)).toNatClampNeg = n ∧ ¬ Int32.ofInt (n : Int) < 0 := by
  have e := w32_of (z := (n : Int)) (by omega) (by omega)
  refine ⟨by rw [i32_nat e]; omega, fun z => ?_⟩
  have := Int32.lt_iff_toInt_lt.mp z
  rw [show (Int32.ofInt (n : Int)).toInt = (n : Int) from e] at this
  have h0 : (0 : Int32).toInt = 0 := by decide
  omega
theorem copyI {a b n N N' idx : Nat} (hdg : decode (Mc M) pc = .ok (.invokestatic idx, 3)) (hlk : Cond.methodLink (Mo M) idx arraycopyName ∈ tb) (ha : K a = (1, N)) (hb : K b = (1, N')) (h4 : n ≤ N) (h5 : n ≤ N') (hn9 : n < 2147483648) (hd : 1 ≤ d) (hsum : Nat.ble (catS st) 8 = true) (hq : pc + 3 = q) (kk : Em Γ d M P q L st (cpm m a 0 b 0 n)) : Em Γ d M P pc L (iv n :: iv 0 :: rv b :: iv 0 :: rv a :: st) m := by
  subst hq
  intro hL hst hm p e s mi args below meth c H locs ls C hS hW hl
  have he := wl_at Γ gF m (K_lt ha (by decide))
  rw [cellE_arr Γ gF.2 m ha (by decide)] at he
  have he2 := wl_at Γ gF m (K_lt hb (by decide))
  rw [cellE_arr Γ gF.2 m hb (by decide)] at he2
  rw [List.map_cons, List.map_cons, List.map_cons, List.map_cons, List.map_cons, conc_cell Γ ha (by decide), conc_cell Γ hb (by decide), conc_iv, conc_iv]
  have T := C.2.2.2.2.2.2.2.1
  have e0 : Int32.ofInt 0 = 0 := by decide
  have hn0 := i32_n hn9
  rw [e0]
  have z0 : (0 : Int32).toNatClampNeg = 0 := by decide
  refine va_copyi (ls := ls) C.1 C.2.1 (C.2.2.2.2.1.trans hl.1.symm) (own := Mo M) C.2.2.2.2.2.1 (T _ hlk) (T _ ac_nat) (T _ ac_stat) (T _ kzJ10) C.2.2.2.2.2.2.2.2.1 hW.2 (wl_D Γ gF m) hS a b (1 - 1) (1 - 1) he he2 (tys_at Γ (c := 1) (by decide)) (tys_at Γ (c := 1) (by decide)) rfl (by decide) (by decide) hn0.2 (by rw [hn0.1, z0]; omega) (by rw [hn0.1, z0]; omega) (fun _ _ => rfl) hd ?_ hdg (fun H1 locs1 hP1 hD1 hS1 => ?_)
  · have h8 := Nat.le_of_ble_eq_true hsum
    rw [catS_eq (Γ := Γ) st]
    show _ + (nativeFrameWords "java/lang/System" "arraycopy" 5 + 11) ≤ 64 * d
    have : nativeFrameWords "java/lang/System" "arraycopy" 5 = 7 := by decide
    omega
  · rw [hn0.1, z0] at hP1
    refine kk hL (okL_tl (okL_tl (okL_tl (okL_tl (okL_tl hst))))) (okM_cpm hm ha hb) p e s mi args below meth c H1 locs1 ls C hS1 ?_ hl
    refine WoS.up Γ hW hP1 (S' := gF.2) ?_ (fun c hc => ⟨?_, rfl⟩)
    · rw [cellE_arr Γ gF.2 _ hb (by decide)]
      congr 3
      unfold cont
      rw [if_pos (by decide)]
      congr 1
      funext j
      unfold va_cpy cpm
      by_cases h9 : j < 0 + n
      · rw [if_pos ⟨rfl, Nat.zero_le _, h9⟩, if_pos ⟨Nat.zero_le _, h9⟩]
      · rw [if_neg (fun z => h9 z.2.2), if_neg (fun z => h9 z.2)]
    · funext j
      unfold cpm
      rw [if_neg (fun z => hc z.1)]
end COPY
theorem cpm_in {m : Mem} {a b n j : Nat} (h : j < n) : cpm m a 0 b 0 n b j = m a j := by unfold cpm; rw [if_pos ⟨rfl, by omega, by omega⟩, show 0 + (j - 0) = j by omega]
theorem cpm_o {m : Mem} {a b n c j : Nat} (h : c ≠ b) : cpm m a 0 b 0 n c j = m c j := by unfold cpm; rw [if_neg (fun z => h z.1)]
def sA (b : Nat) (a _k : Nat) : Bool := a == b
theorem sA_f {b a k : Nat} (h : a ≠ b) : sA b a k = false := by unfold sA; simp [h]
theorem sA_n {b a k : Nat} (h : sA b a k = false) : a ≠ b := by unfold sA at h; simpa using h
/-! ===== Math, Integer, Arrays ===== -/
set_option maxRecDepth 4000 in
theorem p_J9_abs_0f7a4 {Γ : Gm} {d : Nat} {m : Mem} (a : Int) : Ci Γ (d + 0) MJ9_abs_0f7a4 [iv a] m (fun r m' => r = (if a < 0 then w32 (-a) else a) ∧ m' = m) := by
  refine Ci.of moJ9_abs_0f7a4 rfl rfl (fun hA hM => ?_)
  show Em Γ (d + 0) MJ9_abs_0f7a4 _ 0 [iv a] [] m
  refine Ev.iload_n (q := 1) dJ9_abs_0f7a4_0 rfl rfl ?_
  refine Ev.if_ge (tgt := 9) (q := 4) dJ9_abs_0f7a4_1 (by decide) rfl (fun h1 => ?_) (fun h1 => ?_)
  · skip
    refine Ev.iload_n (q := 10) dJ9_abs_0f7a4_9 rfl rfl ?_
    refine rI dJ9_abs_0f7a4_10 rfl ?_
    exact ⟨by split <;> first | rfl | omega, rfl⟩
  · skip
    refine Ev.iload_n (q := 5) dJ9_abs_0f7a4_4 rfl rfl ?_
    refine Ev.ineg (q := 6) dJ9_abs_0f7a4_5 rfl ?_
    refine Ev.goto (q := 10) dJ9_abs_0f7a4_6 (by decide) ?_
    refine rI dJ9_abs_0f7a4_10 rfl ?_
    exact ⟨by split <;> first | rfl | omega, rfl⟩
set_option maxRecDepth 4000 in
theorem p_J9_abs_067f4 {Γ : Gm} {d : Nat} {m : Mem} (a : Int) : Ci Γ (d + 0) MJ9_abs_067f4 [jv a] m (fun r m' => r = (if a < 0 then w64 (-a) else a) ∧ m' = m) := by
  refine Ci.of moJ9_abs_067f4 rfl rfl (fun hA hM => ?_)
  show Em Γ (d + 0) MJ9_abs_067f4 _ 0 [jv a, uv] [] m
  refine Ev.lload_n (q := 1) dJ9_abs_067f4_0 rfl rfl ?_
  refine Ev.lconst (q := 2) dJ9_abs_067f4_1 kj_0 rfl ?_
  refine Ev.lcmp (q := 3) dJ9_abs_067f4_2 rfl ?_
  refine Ev.if_ge (tgt := 11) (q := 6) dJ9_abs_067f4_3 (by decide) rfl (fun h1 => ?_) (fun h1 => ?_)
  · skip
    refine Ev.lload_n (q := 12) dJ9_abs_067f4_11 rfl rfl ?_
    refine rJ dJ9_abs_067f4_12 rfl ?_
    refine ⟨?_, rfl⟩
    have z0 : w64 0 = 0 := by decide
    have z1 := lcmp_ge (okV_j (okA_0 hA)) z0
    split <;> first | rfl | omega
  · skip
    refine Ev.lload_n (q := 7) dJ9_abs_067f4_6 rfl rfl ?_
    refine Ev.lneg (q := 8) dJ9_abs_067f4_7 rfl ?_
    refine Ev.goto (q := 12) dJ9_abs_067f4_8 (by decide) ?_
    refine rJ dJ9_abs_067f4_12 rfl ?_
    refine ⟨?_, rfl⟩
    have z0 : w64 0 = 0 := by decide
    have z1 := lcmp_ge (okV_j (okA_0 hA)) z0
    split <;> first | rfl | omega
set_option maxRecDepth 4000 in
theorem p_J9_max_7cf53 {Γ : Gm} {d : Nat} {m : Mem} (a b : Int) : Ci Γ (d + 0) MJ9_max_7cf53 [iv a, iv b] m (fun r m' => r = (if a < b then b else a) ∧ m' = m) := by
  refine Ci.of moJ9_max_7cf53 rfl rfl (fun hA hM => ?_)
  show Em Γ (d + 0) MJ9_max_7cf53 _ 0 [iv a, iv b] [] m
  refine Ev.iload_n (q := 1) dJ9_max_7cf53_0 rfl rfl ?_
  refine Ev.iload_n (q := 2) dJ9_max_7cf53_1 rfl rfl ?_
  refine Ev.icmp_lt (tgt := 9) (q := 5) dJ9_max_7cf53_2 (by decide) rfl (fun h1 => ?_) (fun h1 => ?_)
  · skip
    refine Ev.iload_n (q := 10) dJ9_max_7cf53_9 rfl rfl ?_
    refine rI dJ9_max_7cf53_10 rfl ?_
    exact ⟨by split <;> first | rfl | omega, rfl⟩
  · skip
    refine Ev.iload_n (q := 6) dJ9_max_7cf53_5 rfl rfl ?_
    refine Ev.goto (q := 10) dJ9_max_7cf53_6 (by decide) ?_
    refine rI dJ9_max_7cf53_10 rfl ?_
    exact ⟨by split <;> first | rfl | omega, rfl⟩
set_option maxRecDepth 4000 in
theorem p_J9_max_f86c9 {Γ : Gm} {d : Nat} {m : Mem} (a b : Int) : Ci Γ (d + 0) MJ9_max_f86c9 [jv a, jv b] m (fun r m' => r = (if a < b then b else a) ∧ m' = m) := by
  refine Ci.of moJ9_max_f86c9 rfl rfl (fun hA hM => ?_)
  show Em Γ (d + 0) MJ9_max_f86c9 _ 0 [jv a, uv, jv b, uv] [] m
  refine Ev.lload_n (q := 1) dJ9_max_f86c9_0 rfl rfl ?_
  refine Ev.lload_n (q := 2) dJ9_max_f86c9_1 rfl rfl ?_
  refine Ev.lcmp (q := 3) dJ9_max_f86c9_2 rfl ?_
  refine Ev.if_lt (tgt := 10) (q := 6) dJ9_max_f86c9_3 (by decide) rfl (fun h1 => ?_) (fun h1 => ?_)
  · skip
    refine Ev.lload_n (q := 11) dJ9_max_f86c9_10 rfl rfl ?_
    refine rJ dJ9_max_f86c9_11 rfl ?_
    refine ⟨?_, rfl⟩
    have z1 := lcmp_lt (okV_j (okA_0 hA)) (okV_j (okA_1 hA))
    have z2 := lcmp_gt (okV_j (okA_0 hA)) (okV_j (okA_1 hA))
    split <;> first | rfl | omega
  · skip
    refine Ev.lload_n (q := 7) dJ9_max_f86c9_6 rfl rfl ?_
    refine Ev.goto (q := 11) dJ9_max_f86c9_7 (by decide) ?_
    refine rJ dJ9_max_f86c9_11 rfl ?_
    refine ⟨?_, rfl⟩
    have z1 := lcmp_lt (okV_j (okA_0 hA)) (okV_j (okA_1 hA))
    have z2 := lcmp_gt (okV_j (okA_0 hA)) (okV_j (okA_1 hA))
    split <;> first | rfl | omega
set_option maxRecDepth 4000 in
theorem p_J9_min_7cf53 {Γ : Gm} {d : Nat} {m : Mem} (a b : Int) : Ci Γ (d + 0) MJ9_min_7cf53 [iv a, iv b] m (fun r m' => r = (if a > b then b else a) ∧ m' = m) := by
  refine Ci.of moJ9_min_7cf53 rfl rfl (fun hA hM => ?_)
  show Em Γ (d + 0) MJ9_min_7cf53 _ 0 [iv a, iv b] [] m
  refine Ev.iload_n (q := 1) dJ9_min_7cf53_0 rfl rfl ?_
  refine Ev.iload_n (q := 2) dJ9_min_7cf53_1 rfl rfl ?_
  refine Ev.icmp_gt (tgt := 9) (q := 5) dJ9_min_7cf53_2 (by decide) rfl (fun h1 => ?_) (fun h1 => ?_)
  · skip
    refine Ev.iload_n (q := 10) dJ9_min_7cf53_9 rfl rfl ?_
    refine rI dJ9_min_7cf53_10 rfl ?_
    exact ⟨by split <;> first | rfl | omega, rfl⟩
  · skip
    refine Ev.iload_n (q := 6) dJ9_min_7cf53_5 rfl rfl ?_
    refine Ev.goto (q := 10) dJ9_min_7cf53_6 (by decide) ?_
    refine rI dJ9_min_7cf53_10 rfl ?_
    exact ⟨by split <;> first | rfl | omega, rfl⟩
set_option maxRecDepth 4000 in
theorem p_J9_min_f86c9 {Γ : Gm} {d : Nat} {m : Mem} (a b : Int) : Ci Γ (d + 0) MJ9_min_f86c9 [jv a, jv b] m (fun r m' => r = (if a > b then b else a) ∧ m' = m) := by
  refine Ci.of moJ9_min_f86c9 rfl rfl (fun hA hM => ?_)
  show Em Γ (d + 0) MJ9_min_f86c9 _ 0 [jv a, uv, jv b, uv] [] m
  refine Ev.lload_n (q := 1) dJ9_min_f86c9_0 rfl rfl ?_
  refine Ev.lload_n (q := 2) dJ9_min_f86c9_1 rfl rfl ?_
  refine Ev.lcmp (q := 3) dJ9_min_f86c9_2 rfl ?_
  refine Ev.if_gt (tgt := 10) (q := 6) dJ9_min_f86c9_3 (by decide) rfl (fun h1 => ?_) (fun h1 => ?_)
  · skip
    refine Ev.lload_n (q := 11) dJ9_min_f86c9_10 rfl rfl ?_
    refine rJ dJ9_min_f86c9_11 rfl ?_
    refine ⟨?_, rfl⟩
    have z1 := lcmp_lt (okV_j (okA_0 hA)) (okV_j (okA_1 hA))
    have z2 := lcmp_gt (okV_j (okA_0 hA)) (okV_j (okA_1 hA))
    split <;> first | rfl | omega
  · skip
    refine Ev.lload_n (q := 7) dJ9_min_f86c9_6 rfl rfl ?_
    refine Ev.goto (q := 11) dJ9_min_f86c9_7 (by decide) ?_
    refine rJ dJ9_min_f86c9_11 rfl ?_
    refine ⟨?_, rfl⟩
    have z1 := lcmp_lt (okV_j (okA_0 hA)) (okV_j (okA_1 hA))
    have z2 := lcmp_gt (okV_j (okA_0 hA)) (okV_j (okA_1 hA))
    split <;> first | rfl | omega
set_option maxRecDepth 4000 in
theorem p_J6_bitCount_0f7a4 {Γ : Gm} {d : Nat} {m : Mem} (s : Nat) (hs : s < 4096) : Ci Γ (d + 0) MJ6_bitCount_0f7a4 [iv s] m (fun r m' => r = (pop s : Int) ∧ m' = m) := by
  refine Ci.of moJ6_bitCount_0f7a4 rfl rfl (fun hA hM => ?_)
  show Em Γ (d + 0) MJ6_bitCount_0f7a4 _ 0 [iv s] [] m
  refine Ev.iload_n (q := 1) dJ6_bitCount_0f7a4_0 rfl rfl ?_
  refine Ev.iload_n (q := 2) dJ6_bitCount_0f7a4_1 rfl rfl ?_
  refine Ev.iconst (q := 3) dJ6_bitCount_0f7a4_2 ki_1 rfl ?_
  refine Ev.iushr (q := 4) dJ6_bitCount_0f7a4_3 rfl ?_
  refine Ev.ldc_w (q := 7) dJ6_bitCount_0f7a4_4 kcJ6_265 kcvJ6_265 rfl ?_
  refine Ev.iand (q := 8) dJ6_bitCount_0f7a4_7 rfl ?_
  refine Ev.isub (q := 9) dJ6_bitCount_0f7a4_8 rfl ?_
  refine istore_n_0 (q := 10) dJ6_bitCount_0f7a4_9 rfl rfl ?_
  refine Ev.iload_n (q := 11) dJ6_bitCount_0f7a4_10 rfl rfl ?_
  refine Ev.ldc_w (q := 14) dJ6_bitCount_0f7a4_11 kcJ6_266 kcvJ6_266 rfl ?_
  refine Ev.iand (q := 15) dJ6_bitCount_0f7a4_14 rfl ?_
  refine Ev.iload_n (q := 16) dJ6_bitCount_0f7a4_15 rfl rfl ?_
  refine Ev.iconst (q := 17) dJ6_bitCount_0f7a4_16 ki_2 rfl ?_
  refine Ev.iushr (q := 18) dJ6_bitCount_0f7a4_17 rfl ?_
  refine Ev.ldc_w (q := 21) dJ6_bitCount_0f7a4_18 kcJ6_266 kcvJ6_266 rfl ?_
  refine Ev.iand (q := 22) dJ6_bitCount_0f7a4_21 rfl ?_
  refine Ev.iadd (q := 23) dJ6_bitCount_0f7a4_22 rfl ?_
  refine istore_n_0 (q := 24) dJ6_bitCount_0f7a4_23 rfl rfl ?_
  refine Ev.iload_n (q := 25) dJ6_bitCount_0f7a4_24 rfl rfl ?_
  refine Ev.iload_n (q := 26) dJ6_bitCount_0f7a4_25 rfl rfl ?_
  refine Ev.iconst (q := 27) dJ6_bitCount_0f7a4_26 ki_4 rfl ?_
  refine Ev.iushr (q := 28) dJ6_bitCount_0f7a4_27 rfl ?_
  refine Ev.iadd (q := 29) dJ6_bitCount_0f7a4_28 rfl ?_
  refine Ev.ldc_w (q := 32) dJ6_bitCount_0f7a4_29 kcJ6_267 kcvJ6_267 rfl ?_
  refine Ev.iand (q := 33) dJ6_bitCount_0f7a4_32 rfl ?_
  refine istore_n_0 (q := 34) dJ6_bitCount_0f7a4_33 rfl rfl ?_
  refine Ev.iload_n (q := 35) dJ6_bitCount_0f7a4_34 rfl rfl ?_
  refine Ev.iload_n (q := 36) dJ6_bitCount_0f7a4_35 rfl rfl ?_
  refine Ev.bipush (q := 38) dJ6_bitCount_0f7a4_36 kb_8 rfl ?_
  refine Ev.iushr (q := 39) dJ6_bitCount_0f7a4_38 rfl ?_
  refine Ev.iadd (q := 40) dJ6_bitCount_0f7a4_39 rfl ?_
  refine istore_n_0 (q := 41) dJ6_bitCount_0f7a4_40 rfl rfl ?_
  refine Ev.iload_n (q := 42) dJ6_bitCount_0f7a4_41 rfl rfl ?_
  refine Ev.iload_n (q := 43) dJ6_bitCount_0f7a4_42 rfl rfl ?_
  refine Ev.bipush (q := 45) dJ6_bitCount_0f7a4_43 kb_16 rfl ?_
  refine Ev.iushr (q := 46) dJ6_bitCount_0f7a4_45 rfl ?_
  refine Ev.iadd (q := 47) dJ6_bitCount_0f7a4_46 rfl ?_
  refine istore_n_0 (q := 48) dJ6_bitCount_0f7a4_47 rfl rfl ?_
  refine Ev.iload_n (q := 49) dJ6_bitCount_0f7a4_48 rfl rfl ?_
  refine Ev.bipush (q := 51) dJ6_bitCount_0f7a4_49 kb_63 rfl ?_
  refine Ev.iand (q := 52) dJ6_bitCount_0f7a4_51 rfl ?_
  refine rI dJ6_bitCount_0f7a4_52 rfl ?_
  exact ⟨bitC_n s hs, rfl⟩
theorem fmod_n : ∀ k : Nat, k < 21 → o_irem ((k : Int) - 10) 11 = (k : Int) - 10 ∧ (0 ≤ o_ixor ((k : Int) - 10) 11 ↔ 10 ≤ k) := by decide +kernel
set_option maxRecDepth 4000 in
theorem p_J9_floorMod_7cf53 {Γ : Gm} {d : Nat} {m : Mem} (x : Int) (hx : -10 ≤ x ∧ x ≤ 10) : Ci Γ (d + 0) MJ9_floorMod_7cf53 [iv x, iv 11] m (fun r m' => r = x % 11 ∧ m' = m) := by
  refine Ci.of moJ9_floorMod_7cf53 rfl rfl (fun hA hM => ?_)
  show Em Γ (d + 0) MJ9_floorMod_7cf53 _ 0 [iv x, iv 11, uv] [] m
  obtain ⟨k, rfl⟩ : ∃ k : Nat, x = (k : Int) - 10 := ⟨(x + 10).toNat, by omega⟩
  obtain ⟨e1, e2⟩ := fmod_n k (by omega)
  refine Ev.iload_n (q := 1) dJ9_floorMod_7cf53_0 rfl rfl ?_
  refine Ev.iload_n (q := 2) dJ9_floorMod_7cf53_1 rfl rfl ?_
  refine Ev.irem (q := 3) dJ9_floorMod_7cf53_2 (by decide) rfl ?_
  refine istore_n_2 (q := 4) dJ9_floorMod_7cf53_3 rfl rfl rfl ?_
  refine Ev.iload_n (q := 5) dJ9_floorMod_7cf53_4 rfl rfl ?_
  refine Ev.iload_n (q := 6) dJ9_floorMod_7cf53_5 rfl rfl ?_
  refine Ev.ixor (q := 7) dJ9_floorMod_7cf53_6 rfl ?_
  refine Ev.if_ge (tgt := 18) (q := 10) dJ9_floorMod_7cf53_7 (by decide) rfl (fun h1 => ?_) (fun h1 => ?_)
  · skip
    refine Ev.iload_n (q := 19) dJ9_floorMod_7cf53_18 rfl rfl ?_
    refine rI dJ9_floorMod_7cf53_19 rfl ?_
    refine ⟨?_, rfl⟩
    rw [e1] at *
    first
      | omega
      | (rw [w32_of (by omega) (by omega)]; omega)
  · skip
    refine Ev.iload_n (q := 11) dJ9_floorMod_7cf53_10 rfl rfl ?_
    refine Ev.if_eq (tgt := 18) (q := 14) dJ9_floorMod_7cf53_11 (by decide) rfl (fun h2 => ?_) (fun h2 => ?_)
    · skip
      refine Ev.iload_n (q := 19) dJ9_floorMod_7cf53_18 rfl rfl ?_
      refine rI dJ9_floorMod_7cf53_19 rfl ?_
      refine ⟨?_, rfl⟩
      rw [e1] at *
      first
        | omega
        | (rw [w32_of (by omega) (by omega)]; omega)
    · skip
      refine Ev.iload_n (q := 15) dJ9_floorMod_7cf53_14 rfl rfl ?_
      refine Ev.iload_n (q := 16) dJ9_floorMod_7cf53_15 rfl rfl ?_
      refine Ev.iadd (q := 17) dJ9_floorMod_7cf53_16 rfl ?_
      refine rI dJ9_floorMod_7cf53_17 rfl ?_
      refine ⟨?_, rfl⟩
      rw [e1] at *
      first
        | omega
        | (rw [w32_of (by omega) (by omega)]; omega)
set_option maxRecDepth 4000 in
theorem l_J7_fill_53178 {Γ : Gm} {d : Nat} {m0 : Mem} (a N : Nat) (x : Int) (hK : K a = (1, N)) (hN : N < 2147483648) : ∀ (n k : Nat) (m : Mem), k + n = N → (∀ j, j < k → m a j = x) → Fr (sA a) m0 m → Em Γ (d + 0) MJ7_fill_53178 (fun r m' => (∀ j, j < N → m' a j = x) ∧ Fr (sA a) m0 m') 5 [rv a, iv x, iv k, iv (N : Int)] [] m := by
  intro n
  induction n with
  | zero =>
    intro k m hk hv hF
    obtain rfl : k = N := by omega
    refine Ev.iload_n (q := 6) dJ7_fill_53178_5 rfl rfl ?_
    refine Ev.iload_n (q := 7) dJ7_fill_53178_6 rfl rfl ?_
    refine Ev.icmp_ge (tgt := 20) (q := 10) dJ7_fill_53178_7 (by decide) rfl (fun h1 => ?_) (fun h1 => ?_)
    · skip
      refine rV dJ7_fill_53178_20 rfl ?_
      exact ⟨fun j hj => hv j (by omega), hF⟩
    · skip
      omega
  | succ n ih =>
    intro k m hk hv hF
    refine Ev.iload_n (q := 6) dJ7_fill_53178_5 rfl rfl ?_
    refine Ev.iload_n (q := 7) dJ7_fill_53178_6 rfl rfl ?_
    refine Ev.icmp_ge (tgt := 20) (q := 10) dJ7_fill_53178_7 (by decide) rfl (fun h1 => ?_) (fun h1 => ?_)
    · skip
      omega
    · skip
      refine Ev.aload_n (q := 11) dJ7_fill_53178_10 rfl rfl ?_
      refine Ev.iload_n (q := 12) dJ7_fill_53178_11 rfl rfl ?_
      refine Ev.iload_n (q := 13) dJ7_fill_53178_12 rfl rfl ?_
      refine sI (q := 14) (k := k) dJ7_fill_53178_13 hK (by first | rfl | omega | (simp (disch := omega) only [w32_of]; omega)) (by omega) rfl ?_
      refine iinc_2 (q := 17) dJ7_fill_53178_14 rfl rfl rfl ?_
      refine Ev.goto (q := 5) dJ7_fill_53178_17 (by decide) ?_
      rw [w32_of (by omega) (by omega)]
      refine ih (k + 1) _ (by omega) (fun j hj => ?_) (hF.up (by simp [sA]))
      by_cases e : j = k
      · subst e; rw [up_eq]
      · rw [up_k _ _ e]; exact hv j (by omega)
set_option maxRecDepth 4000 in
theorem p_J7_fill_53178 {Γ : Gm} {d : Nat} {m : Mem} (a N : Nat) (x : Int)  (hK : K a = (1, N)) (hN : N < 2147483648) : Ci Γ (d + 0) MJ7_fill_53178 [rv a, iv x] m (fun r m' => (∀ j, j < N → m' a j = x) ∧ Fr (sA a) m m') := by
  refine Ci.of moJ7_fill_53178 rfl rfl (fun hA hM => ?_)
  show Em Γ (d + 0) MJ7_fill_53178 _ 0 [rv a, iv x, uv, uv] [] m
  refine Ev.iconst (q := 1) dJ7_fill_53178_0 ki_0 rfl ?_
  refine istore_n_2 (q := 2) dJ7_fill_53178_1 rfl rfl rfl ?_
  refine Ev.aload_n (q := 3) dJ7_fill_53178_2 rfl rfl ?_
  refine aLen (q := 4) dJ7_fill_53178_3 hK (by decide) hN rfl ?_
  refine istore_n_3 (q := 5) dJ7_fill_53178_4 rfl rfl rfl ?_
  exact l_J7_fill_53178 a N x hK hN N 0 m (by omega) (fun j hj => by omega) (Fr.rf _ _)
set_option maxRecDepth 4000 in
theorem l_J7_fill_d0a16 {Γ : Gm} {d : Nat} {m0 : Mem} (a N : Nat) (x : Int) (hK : K a = (4, N)) (hN : N < 2147483648) : ∀ (n k : Nat) (m : Mem), k + n = N → (∀ j, j < k → m a j = x) → Fr (sA a) m0 m → Em Γ (d + 0) MJ7_fill_d0a16 (fun r m' => (∀ j, j < N → m' a j = x) ∧ Fr (sA a) m0 m') 6 [rv a, jv x, uv, iv k, iv (N : Int)] [] m := by
  intro n
  induction n with
  | zero =>
    intro k m hk hv hF
    obtain rfl : k = N := by omega
    refine Ev.iload_n (q := 7) dJ7_fill_d0a16_6 rfl rfl ?_
    refine Ev.iload (q := 9) dJ7_fill_d0a16_7 rfl rfl ?_
    refine Ev.icmp_ge (tgt := 22) (q := 12) dJ7_fill_d0a16_9 (by decide) rfl (fun h1 => ?_) (fun h1 => ?_)
    · skip
      refine rV dJ7_fill_d0a16_22 rfl ?_
      exact ⟨fun j hj => hv j (by omega), hF⟩
    · skip
      omega
  | succ n ih =>
    intro k m hk hv hF
    refine Ev.iload_n (q := 7) dJ7_fill_d0a16_6 rfl rfl ?_
    refine Ev.iload (q := 9) dJ7_fill_d0a16_7 rfl rfl ?_
    refine Ev.icmp_ge (tgt := 22) (q := 12) dJ7_fill_d0a16_9 (by decide) rfl (fun h1 => ?_) (fun h1 => ?_)
    · skip
      omega
    · skip
      refine Ev.aload_n (q := 13) dJ7_fill_d0a16_12 rfl rfl ?_
      refine Ev.iload_n (q := 14) dJ7_fill_d0a16_13 rfl rfl ?_
      refine Ev.lload_n (q := 15) dJ7_fill_d0a16_14 rfl rfl ?_
      refine sJ (q := 16) (k := k) dJ7_fill_d0a16_15 hK (by first | rfl | omega | (simp (disch := omega) only [w32_of]; omega)) (by omega) rfl ?_
      refine iinc_3 (q := 19) dJ7_fill_d0a16_16 rfl rfl rfl ?_
      refine Ev.goto (q := 6) dJ7_fill_d0a16_19 (by decide) ?_
      rw [w32_of (by omega) (by omega)]
      refine ih (k + 1) _ (by omega) (fun j hj => ?_) (hF.up (by simp [sA]))
      by_cases e : j = k
      · subst e; rw [up_eq]
      · rw [up_k _ _ e]; exact hv j (by omega)
set_option maxRecDepth 4000 in
theorem p_J7_fill_d0a16 {Γ : Gm} {d : Nat} {m : Mem} (a N : Nat) (x : Int)  (hK : K a = (4, N)) (hN : N < 2147483648) : Ci Γ (d + 0) MJ7_fill_d0a16 [rv a, jv x] m (fun r m' => (∀ j, j < N → m' a j = x) ∧ Fr (sA a) m m') := by
  refine Ci.of moJ7_fill_d0a16 rfl rfl (fun hA hM => ?_)
  show Em Γ (d + 0) MJ7_fill_d0a16 _ 0 [rv a, jv x, uv, uv, uv] [] m
  refine Ev.iconst (q := 1) dJ7_fill_d0a16_0 ki_0 rfl ?_
  refine istore_n_3 (q := 2) dJ7_fill_d0a16_1 rfl rfl rfl ?_
  refine Ev.aload_n (q := 3) dJ7_fill_d0a16_2 rfl rfl ?_
  refine aLen (q := 4) dJ7_fill_d0a16_3 hK (by decide) hN rfl ?_
  refine istore_4 (q := 6) dJ7_fill_d0a16_4 rfl rfl rfl ?_
  exact l_J7_fill_d0a16 a N x hK hN N 0 m (by omega) (fun j hj => by omega) (Fr.rf _ _)
