/-! ===== the class: laws are reckoned ===== -/
def wIx (law i : Nat) : Nat := if law = 0 then (if i = 0 then 3 else i - 1) else (if i = 0 then 0 else i - 3)
/-- the class's code for the reference's -/
def codC (law : Nat) (c : Int) : Int := if c < 1000 then c else if c < 3000 then -1 - (wIx law (c - 1000).toNat : Int) else -11 - (c - 3000)
theorem wIx_lt : ∀ law, law < 2 → ∀ i, i < 6 → alw law i = true → wIx law i < 4 := by decide
def jnV (c a b : Int) : Int := let v := if c = 3000 then a + b else if c = 3001 then a - b else a * b
  if v > 1000000 then 1000000 else if v < -1000000 then -1000000 else v
set_option maxRecDepth 4000 in
theorem p_X2_clamp {Γ : Gm} {d : Nat} {m : Mem} (v lo hi : Int) (hlh : lo ≤ hi) : Ci Γ (d + 1) MX2_clamp [jv v, jv lo, jv hi] m (fun r m' => r = (if v > hi then hi else if v < lo then lo else v) ∧ m' = m) := by
  refine Ci.of moX2_clamp rfl rfl (fun hA hM => ?_)
  show Em Γ (d + 1) MX2_clamp _ 0 [jv v, uv, jv lo, uv, jv hi, uv] [] m
  refine Ev.lload_n (q := 1) dX2_clamp_0 rfl rfl ?_
  refine Ev.lload (q := 3) dX2_clamp_1 rfl rfl ?_
  refine Ev.lload_n (q := 4) dX2_clamp_3 rfl rfl ?_
  refine cS2j (q := 7) (d' := d + 0) dX2_clamp_4 mlX2_68 moJ9_min_f86c9 msJ9_min_f86c9 rfl rfl (Nat.le_refl _) rfl rfl rfl (p_J9_min_f86c9 hi v) (fun r1 m1 e1 => ?_)
  obtain ⟨rfl, e1⟩ := e1
  obtain rfl := e1.symm
  refine cS2j (q := 10) (d' := d + 0) dX2_clamp_7 mlX2_74 moJ9_max_f86c9 msJ9_max_f86c9 rfl rfl (Nat.le_refl _) rfl rfl rfl (p_J9_max_f86c9 lo _) (fun r2 m2 e2 => ?_)
  obtain ⟨rfl, e2⟩ := e2
  obtain rfl := e2.symm
  refine rJ dX2_clamp_10 rfl ?_
  refine ⟨?_, rfl⟩
  repeat (first | rfl | omega | split)
set_option maxRecDepth 4000 in
theorem p_X2_joined_3000 {Γ : Gm} {d : Nat} {m : Mem} (a b : Int) (ha : -1000000 ≤ a ∧ a ≤ 1000000) (hb : -1000000 ≤ b ∧ b ≤ 1000000) : Ci Γ (d + 2) MX2_joined [iv (-11), jv b, jv a] m (fun r m' => r = jnV 3000 a b ∧ m' = m) := by
  refine Ci.of moX2_joined rfl rfl (fun hA hM => ?_)
  show Em Γ (d + 2) MX2_joined _ 0 [iv (-11), jv b, uv, jv a, uv] [] m
  have hm := mul_bd ha hb
  refine Ev.iload_n (q := 1) dX2_joined_0 rfl rfl ?_
  refine Ev.look (q := 28) (off := 27) dX2_joined_1 (by decide) (by decide) rfl ?_
  refine Ev.lload_n (q := 29) dX2_joined_28 rfl rfl ?_
  refine Ev.lload_n (q := 30) dX2_joined_29 rfl rfl ?_
  refine Ev.ladd (q := 31) dX2_joined_30 rfl ?_
  refine Ev.ldc2 (q := 34) dX2_joined_31 klX2_64 klvX2_64 rfl ?_
  refine Ev.ldc2 (q := 37) dX2_joined_34 klX2_66 klvX2_66 rfl ?_
  rw [w64_of (by omega) (by omega)]
  refine cS3j (q := 40) (d' := d + 1) dX2_joined_37 mlX2_60 moX2_clamp msX2_clamp rfl rfl (Nat.le_refl _) rfl rfl rfl (p_X2_clamp _ _ _ (by decide)) (fun r1 m1 e1 => ?_)
  obtain ⟨rfl, e1⟩ := e1
  obtain rfl := e1.symm
  refine Ev.l2i (q := 41) dX2_joined_40 rfl ?_
  refine rI dX2_joined_41 rfl ?_
  have hj : -1000000 ≤ jnV 3000 a b ∧ jnV 3000 a b ≤ 1000000 := by
    show -1000000 ≤ (if a + b > 1000000 then (1000000 : Int) else if a + b < -1000000 then -1000000 else a + b) ∧ (if a + b > 1000000 then (1000000 : Int) else if a + b < -1000000 then -1000000 else a + b) ≤ 1000000
    repeat (first | omega | split)
  refine ⟨?_, rfl⟩
  show w32 (jnV 3000 a b) = jnV 3000 a b
  exact w32_of (by omega) (by omega)
set_option maxRecDepth 4000 in
theorem p_X2_joined_3001 {Γ : Gm} {d : Nat} {m : Mem} (a b : Int) (ha : -1000000 ≤ a ∧ a ≤ 1000000) (hb : -1000000 ≤ b ∧ b ≤ 1000000) : Ci Γ (d + 2) MX2_joined [iv (-12), jv b, jv a] m (fun r m' => r = jnV 3001 a b ∧ m' = m) := by
  refine Ci.of moX2_joined rfl rfl (fun hA hM => ?_)
  show Em Γ (d + 2) MX2_joined _ 0 [iv (-12), jv b, uv, jv a, uv] [] m
  have hm := mul_bd ha hb
  refine Ev.iload_n (q := 1) dX2_joined_0 rfl rfl ?_
  refine Ev.look (q := 42) (off := 41) dX2_joined_1 (by decide) (by decide) rfl ?_
  refine Ev.lload_n (q := 43) dX2_joined_42 rfl rfl ?_
  refine Ev.lload_n (q := 44) dX2_joined_43 rfl rfl ?_
  refine Ev.lsub (q := 45) dX2_joined_44 rfl ?_
  refine Ev.ldc2 (q := 48) dX2_joined_45 klX2_64 klvX2_64 rfl ?_
  refine Ev.ldc2 (q := 51) dX2_joined_48 klX2_66 klvX2_66 rfl ?_
  rw [w64_of (by omega) (by omega)]
  refine cS3j (q := 54) (d' := d + 1) dX2_joined_51 mlX2_60 moX2_clamp msX2_clamp rfl rfl (Nat.le_refl _) rfl rfl rfl (p_X2_clamp _ _ _ (by decide)) (fun r1 m1 e1 => ?_)
  obtain ⟨rfl, e1⟩ := e1
  obtain rfl := e1.symm
  refine Ev.l2i (q := 55) dX2_joined_54 rfl ?_
  refine rI dX2_joined_55 rfl ?_
  have hj : -1000000 ≤ jnV 3001 a b ∧ jnV 3001 a b ≤ 1000000 := by
    show -1000000 ≤ (if a - b > 1000000 then (1000000 : Int) else if a - b < -1000000 then -1000000 else a - b) ∧ (if a - b > 1000000 then (1000000 : Int) else if a - b < -1000000 then -1000000 else a - b) ≤ 1000000
    repeat (first | omega | split)
  refine ⟨?_, rfl⟩
  show w32 (jnV 3001 a b) = jnV 3001 a b
  exact w32_of (by omega) (by omega)
set_option maxRecDepth 4000 in
theorem p_X2_joined_3002 {Γ : Gm} {d : Nat} {m : Mem} (a b : Int) (ha : -1000000 ≤ a ∧ a ≤ 1000000) (hb : -1000000 ≤ b ∧ b ≤ 1000000) : Ci Γ (d + 2) MX2_joined [iv (-13), jv b, jv a] m (fun r m' => r = jnV 3002 a b ∧ m' = m) := by
  refine Ci.of moX2_joined rfl rfl (fun hA hM => ?_)
  show Em Γ (d + 2) MX2_joined _ 0 [iv (-13), jv b, uv, jv a, uv] [] m
  have hm := mul_bd ha hb
  refine Ev.iload_n (q := 1) dX2_joined_0 rfl rfl ?_
  refine Ev.look (q := 56) (off := 55) dX2_joined_1 (by decide) (by decide) rfl ?_
  refine Ev.lload_n (q := 57) dX2_joined_56 rfl rfl ?_
  refine Ev.lload_n (q := 58) dX2_joined_57 rfl rfl ?_
  refine Ev.lmul (q := 59) dX2_joined_58 rfl ?_
  refine Ev.ldc2 (q := 62) dX2_joined_59 klX2_64 klvX2_64 rfl ?_
  refine Ev.ldc2 (q := 65) dX2_joined_62 klX2_66 klvX2_66 rfl ?_
  rw [w64_of (by omega) (by omega)]
  refine cS3j (q := 68) (d' := d + 1) dX2_joined_65 mlX2_60 moX2_clamp msX2_clamp rfl rfl (Nat.le_refl _) rfl rfl rfl (p_X2_clamp _ _ _ (by decide)) (fun r1 m1 e1 => ?_)
  obtain ⟨rfl, e1⟩ := e1
  obtain rfl := e1.symm
  refine Ev.l2i (q := 69) dX2_joined_68 rfl ?_
  refine rI dX2_joined_69 rfl ?_
  have hj : -1000000 ≤ jnV 3002 a b ∧ jnV 3002 a b ≤ 1000000 := by
    show -1000000 ≤ (if a * b > 1000000 then (1000000 : Int) else if a * b < -1000000 then -1000000 else a * b) ∧ (if a * b > 1000000 then (1000000 : Int) else if a * b < -1000000 then -1000000 else a * b) ≤ 1000000
    repeat (first | omega | split)
  refine ⟨?_, rfl⟩
  show w32 (jnV 3002 a b) = jnV 3002 a b
  exact w32_of (by omega) (by omega)
set_option maxRecDepth 4000 in
theorem p_X2_wordOf {Γ : Gm} {d : Nat} {m : Mem} (c i : Nat) (x : Int) (hc : c ∈ lawC) (hx : x = -1 - (i : Int)) (hi : i < 4) : Ci Γ (d + 0) MX2_wordOf [rv c, iv x] m (fun r m' => r = m (c + 1) i ∧ m' = m) := by
  refine Ci.of moX2_wordOf rfl rfl (fun hA hM => ?_)
  show Em Γ (d + 0) MX2_wordOf _ 0 [rv c, iv x, uv] [] m
  obtain ⟨lwK, lwr2, lwr3, lwr5, lwK1, lwK2, lwK3, lwN⟩ := lawK c hc
  refine Ev.iconst (q := 1) dX2_wordOf_0 ki_m1 rfl ?_
  refine Ev.iload_n (q := 2) dX2_wordOf_1 rfl rfl ?_
  refine Ev.isub (q := 3) dX2_wordOf_2 rfl ?_
  rw [w32_of (by omega) (by omega), show -1 - x = (i : Int) by omega]
  refine istore_n_2 (q := 4) dX2_wordOf_3 rfl rfl rfl ?_
  refine Ev.iload_n (q := 5) dX2_wordOf_4 rfl rfl ?_
  refine Ev.if_lt (tgt := 26) (q := 8) dX2_wordOf_5 (by decide) rfl (fun h1 => ?_) (fun h1 => ?_)
  · skip
    omega
  · skip
    refine Ev.iload_n (q := 9) dX2_wordOf_8 rfl rfl ?_
    refine Ev.aload_n (q := 10) dX2_wordOf_9 rfl rfl ?_
    refine gR (q := 13) dX2_wordOf_10 gfX2_19 lwK lwr2 rfl rfl ?_
    refine aLen (q := 14) dX2_wordOf_13 lwK1 (by decide) (by decide) rfl ?_
    refine Ev.icmp_ge (tgt := 26) (q := 17) dX2_wordOf_14 (by decide) rfl (fun h2 => ?_) (fun h2 => ?_)
    · skip
      omega
    · skip
      refine Ev.aload_n (q := 18) dX2_wordOf_17 rfl rfl ?_
      refine gR (q := 21) dX2_wordOf_18 gfX2_19 lwK lwr2 rfl rfl ?_
      refine Ev.iload_n (q := 22) dX2_wordOf_21 rfl rfl ?_
      refine aI (q := 23) (k := i) dX2_wordOf_22 lwK1 (by first | rfl | omega | (simp (disch := omega) only [w32_of]; omega)) (by omega) rfl ?_
      refine Ev.goto (q := 27) dX2_wordOf_23 (by decide) ?_
      refine rI dX2_wordOf_27 rfl ?_
      exact ⟨rfl, rfl⟩
theorem joinedC {Γ : Gm} {d : Nat} {m : Mem} (law : Nat) (c a b : Int) (hc : 3000 ≤ c ∧ c ≤ 3002) (ha : -1000000 ≤ a ∧ a ≤ 1000000) (hb : -1000000 ≤ b ∧ b ≤ 1000000) : Ci Γ (d + 2) MX2_joined [iv (codC law c), jv b, jv a] m (fun r m' => r = jnV c a b ∧ m' = m) := by
  rcases (show c = 3000 ∨ c = 3001 ∨ c = 3002 by omega) with rfl | rfl | rfl
  · exact p_X2_joined_3000 a b ha hb
  · exact p_X2_joined_3001 a b ha hb
  · exact p_X2_joined_3002 a b ha hb
set_option maxRecDepth 4000 in
theorem lc_seconds {Γ : Gm} {d : Nat} {m0 : Mem} (c law n : Nat) (cs : List Int) (cf w : Nat → Int) (hc : c ∈ lawC) (hlaw : law < 2) (hcl : cs.length = n) (hcode : ∀ k, k < n → cs.getD k 0 = codC law (cf k)) (hok : okLaw (alw law) cf n) (hw : ∀ i, i < 6 → alw law i = true → -1000000 ≤ w i ∧ w i ≤ 1000000) (hlen : ∀ k, k ≤ n → (evn w cf k).length ≤ 32) (hwd : ∀ i, i < 6 → alw law i = true → m0 (c + 1) (wIx law i) = w i) : ∀ (q k : Nat) (M : Mem) (v2 : Vl), k + q = n → LwR M c cs (evn w cf k) → Fr (sEm c) m0 M → Em Γ (d + 3) MX2_seconds (fun r m' => r = lawV w cf n ∧ LwR m' c cs [] ∧ Fr (sEm c) m0 m') 7 [rv c, iv k, v2] [] M := by
  obtain ⟨lwK, lwr2, lwr3, lwr5, lwK1, lwK2, lwK3, lwN⟩ := lawK c hc
  have hn9 := hok.1
  intro q
  induction q with
  | zero =>
    intro k M v2 hk h hF
    refine Ev.iload_n (q := 8) dX2_seconds_7 rfl rfl ?_
    refine Ev.aload_n (q := 9) dX2_seconds_8 rfl rfl ?_
    refine gI (q := 12) dX2_seconds_9 gfX2_26 lwK rfl rfl ?_
    rw [h.1.1, hcl]
    refine Ev.icmp_ge (tgt := 76) (q := 15) dX2_seconds_12 (by decide) rfl (fun h1 => ?_) (fun h1 => ?_)
    · skip
      obtain rfl : k = n := by omega
      have hl1 := hok.2.2 w
      obtain ⟨v, hv⟩ : ∃ v, evn w cf k = [v] := by
        match hq : evn w cf k, hl1 with
        | [v], _ => exact ⟨v, rfl⟩
      rw [hv] at h
      have hvb := evn_bd (al := alw law) hw k (fun j hj => ⟨(hok.2.1 j hj).1, (hok.2.1 j hj).2.1⟩) v (by rw [hv]; exact List.mem_singleton.mpr rfl)
      refine Ev.aload_n (q := 77) dX2_seconds_76 rfl rfl ?_
      refine cV0i (q := 80) (d' := d + 2) dX2_seconds_77 mlX2_46 moX2_pop mvX2_pop lwK rfl rfl rfl (Nat.le_refl _) rfl rfl rfl (p_X2_pop c cs [] v hc h (by decide)) (fun r2 m2 e2 => ?_)
      obtain ⟨M9, rfl⟩ : ∃ M9, M9 = m2 := ⟨_, rfl⟩
      obtain ⟨rfl, y1, y2⟩ := e2
      refine Ev.i2l (q := 81) dX2_seconds_80 rfl ?_
      refine Ev.lconst (q := 82) dX2_seconds_81 kj_0 rfl ?_
      refine Ev.ldc2 (q := 85) dX2_seconds_82 klX2_58 klvX2_58 rfl ?_
      refine cS3j (q := 88) (d' := d + 2) dX2_seconds_85 mlX2_60 moX2_clamp msX2_clamp rfl rfl (Nat.le_refl _) rfl rfl rfl (p_X2_clamp _ _ _ (by decide)) (fun r3 m3 e3 => ?_)
      obtain ⟨rfl, e3⟩ := e3
      obtain rfl := e3.symm
      refine Ev.l2i (q := 89) dX2_seconds_88 rfl ?_
      refine rI dX2_seconds_89 rfl ?_
      refine ⟨?_, y1, hF.tr y2⟩
      unfold lawV
      rw [hv]
      show w32 _ = cl999 _
      unfold cl999
      rw [w32_of (by repeat (first | omega | split)) (by repeat (first | omega | split))]
      show (if _ > (999 : Int) then (999 : Int) else if _ < (0 : Int) then 0 else _) = (if [_].getLastD 0 < 0 then 0 else if [_].getLastD 0 > 999 then 999 else [_].getLastD 0)
      simp only [List.getLastD_cons, List.getLastD_nil]
      repeat (first | rfl | omega | split)
    · skip
      omega
  | succ q ih =>
    intro k M v2 hk h hF
    refine Ev.iload_n (q := 8) dX2_seconds_7 rfl rfl ?_
    refine Ev.aload_n (q := 9) dX2_seconds_8 rfl rfl ?_
    refine gI (q := 12) dX2_seconds_9 gfX2_26 lwK rfl rfl ?_
    rw [h.1.1, hcl]
    refine Ev.icmp_ge (tgt := 76) (q := 15) dX2_seconds_12 (by decide) rfl (fun h1 => ?_) (fun h1 => ?_)
    · skip
      omega
    · skip
      have hck := hok.2.1 k (by omega)
      have hev : evn w cf (k + 1) = evs w (evn w cf k) (cf k) := rfl
      have hl9 := hlen (k + 1) (by omega)
      rw [hev, evs_len] at hl9
      refine Ev.aload_n (q := 16) dX2_seconds_15 rfl rfl ?_
      refine gR (q := 19) dX2_seconds_16 gfX2_23 lwK lwr3 rfl rfl ?_
      refine Ev.iload_n (q := 20) dX2_seconds_19 rfl rfl ?_
      refine aI (q := 21) (k := k) dX2_seconds_20 lwK2 (by first | rfl | omega | (simp (disch := omega) only [w32_of]; omega)) (by omega) rfl ?_
      rw [h.1.2 k (by omega), hcode k (by omega)]
      refine istore_n_2 (q := 22) dX2_seconds_21 rfl rfl rfl ?_
      refine Ev.iload_n (q := 23) dX2_seconds_22 rfl rfl ?_
      refine Ev.if_lt (tgt := 34) (q := 26) dX2_seconds_23 (by decide) rfl (fun h2 => ?_) (fun h2 => ?_)
      · skip
        have hnn : ¬ cf k < 1000 := fun z => by
          unfold codC at h2
          rw [if_pos z] at h2
          omega
        refine Ev.iload_n (q := 35) dX2_seconds_34 rfl rfl ?_
        refine Ev.bipush (q := 37) dX2_seconds_35 kb_m11 rfl ?_
        refine Ev.icmp_gt (tgt := 61) (q := 40) dX2_seconds_37 (by decide) rfl (fun h3 => ?_) (fun h3 => ?_)
        · skip
          have hwo : cf k < 3000 := by
            apply Classical.byContradiction
            intro z
            unfold codC at h3
            rw [if_neg hnn, if_neg z] at h3
            omega
          obtain ⟨ha1, ha2⟩ : cf k < 1006 ∧ alw law (cf k - 1000).toNat = true := by rcases hck.2.1 hwo with q | q; (omega); exact q
          have hix := wIx_lt law hlaw (cf k - 1000).toNat (by omega) ha2
          have hcc : codC law (cf k) = -1 - (wIx law (cf k - 1000).toNat : Int) := by unfold codC; rw [if_neg hnn, if_pos hwo]
          refine Ev.aload_n (q := 62) dX2_seconds_61 rfl rfl ?_
          refine Ev.aload_n (q := 63) dX2_seconds_62 rfl rfl ?_
          refine Ev.iload_n (q := 64) dX2_seconds_63 rfl rfl ?_
          refine cV1i (q := 67) (d' := d + 2) dX2_seconds_64 mlX2_54 moX2_wordOf mvX2_wordOf lwK rfl rfl rfl (Nat.le_refl _) rfl rfl rfl (p_X2_wordOf c (wIx law (cf k - 1000).toNat) _ hc hcc hix) (fun r4 m4 e4 => ?_)
          obtain ⟨rfl, e4⟩ := e4
          obtain rfl := e4.symm
          rw [hF (c + 1) _ (sEm_f (by omega)), hwd _ (by omega) ha2]
          refine cV1v (q := 70) (d' := d + 2) dX2_seconds_67 mlX2_43 moX2_push mvX2_push lwK rfl rfl rfl (Nat.le_refl _) rfl rfl rfl (p_X2_push c cs (evn w cf k) _ hc h (by rw [if_pos (by omega)] at hl9; omega)) (fun r5 m5 e5 => ?_)
          obtain ⟨M9, rfl⟩ : ∃ M9, M9 = m5 := ⟨_, rfl⟩
          obtain ⟨y1, y2⟩ := e5
          refine iinc_1 (q := 73) dX2_seconds_70 rfl rfl rfl ?_
          refine Ev.goto (q := 7) dX2_seconds_73 (by decide) ?_
          rw [w32_of (by omega) (by omega)]
          refine ih (k + 1) _ _ (by omega) ?_ (hF.tr y2)
          rw [hev]
          unfold evs
          rw [if_pos hwo, if_neg hnn]
          exact y1
        · skip
          have hop : 3000 ≤ cf k := by
            apply Classical.byContradiction
            intro z
            unfold codC at h3
            rw [if_neg hnn, if_pos (by omega)] at h3
            have := wIx_lt law hlaw (cf k - 1000).toNat (by rcases hck.2.1 (by omega) with q | q <;> omega) (by rcases hck.2.1 (by omega) with q | q; (omega); exact q.2)
            omega
          obtain ⟨hop2, hl2⟩ := hck.2.2 hop
          have hl2 := hl2 w
          obtain ⟨b, a, t, hst⟩ : ∃ b a t, evn w cf k = b :: a :: t := by
            match hq : evn w cf k, hl2 with
            | b :: a :: t, _ => exact ⟨b, a, t, rfl⟩
          rw [hst] at h
          have hbd := evn_bd (al := alw law) hw k (fun j hj => ⟨(hok.2.1 j (by omega)).1, (hok.2.1 j (by omega)).2.1⟩)
          rw [hst] at hbd
          have hbb := hbd b List.mem_cons_self
          have hba := hbd a (List.mem_cons_of_mem _ List.mem_cons_self)
          have hlt : t.length < 31 := by have := hlen k (by omega); rw [hst, List.length_cons, List.length_cons] at this; omega
          refine Ev.aload_n (q := 41) dX2_seconds_40 rfl rfl ?_
          refine Ev.iload_n (q := 42) dX2_seconds_41 rfl rfl ?_
          refine Ev.aload_n (q := 43) dX2_seconds_42 rfl rfl ?_
          refine cV0i (q := 46) (d' := d + 2) dX2_seconds_43 mlX2_46 moX2_pop mvX2_pop lwK rfl rfl rfl (Nat.le_refl _) rfl rfl rfl (p_X2_pop c cs (a :: t) b hc h (by rw [List.length_cons]; omega)) (fun r6 m6 e6 => ?_)
          obtain ⟨M9, rfl⟩ : ∃ M9, M9 = m6 := ⟨_, rfl⟩
          obtain ⟨y0, y1, y2⟩ := e6
          subst y0
          refine Ev.i2l (q := 47) dX2_seconds_46 rfl ?_
          refine Ev.aload_n (q := 48) dX2_seconds_47 rfl rfl ?_
          refine cV0i (q := 51) (d' := d + 2) dX2_seconds_48 mlX2_46 moX2_pop mvX2_pop lwK rfl rfl rfl (Nat.le_refl _) rfl rfl rfl (p_X2_pop c cs t a hc y1 (by omega)) (fun r7 m7 e7 => ?_)
          obtain ⟨M8, rfl⟩ : ∃ M8, M8 = m7 := ⟨_, rfl⟩
          obtain ⟨z0, z1, z2⟩ := e7
          subst z0
          refine Ev.i2l (q := 52) dX2_seconds_51 rfl ?_
          refine cS3i (q := 55) (d' := d + 2) dX2_seconds_52 mlX2_50 moX2_joined msX2_joined rfl rfl (Nat.le_refl _) rfl rfl rfl (joinedC law (cf k) _ _ ⟨hop, hop2⟩ hba hbb) (fun r8 m8 e8 => ?_)
          obtain ⟨rfl, e8⟩ := e8
          obtain rfl := e8.symm
          refine cV1v (q := 58) (d' := d + 2) dX2_seconds_55 mlX2_43 moX2_push mvX2_push lwK rfl rfl rfl (Nat.le_refl _) rfl rfl rfl (p_X2_push c cs t _ hc z1 (by omega)) (fun r9 m9 e9 => ?_)
          obtain ⟨M7, rfl⟩ : ∃ M7, M7 = m9 := ⟨_, rfl⟩
          obtain ⟨x1, x2⟩ := e9
          refine Ev.goto (q := 70) dX2_seconds_58 (by decide) ?_
          refine iinc_1 (q := 73) dX2_seconds_70 rfl rfl rfl ?_
          refine Ev.goto (q := 7) dX2_seconds_73 (by decide) ?_
          rw [w32_of (by omega) (by omega)]
          refine ih (k + 1) _ _ (by omega) ?_ (hF.tr (y2.tr (z2.tr x2)))
          rw [hev, hst]
          unfold evs
          rw [if_neg (show ¬ cf k < 3000 by omega)]
          exact x1
      · skip
        have hnum : cf k < 1000 := by
          unfold codC at h2
          split at h2
          · assumption
          · split at h2 <;> omega
        have hcc : codC law (cf k) = cf k := by unfold codC; rw [if_pos hnum]
        rw [hcc]
        refine Ev.aload_n (q := 27) dX2_seconds_26 rfl rfl ?_
        refine Ev.iload_n (q := 28) dX2_seconds_27 rfl rfl ?_
        refine cV1v (q := 31) (d' := d + 2) dX2_seconds_28 mlX2_43 moX2_push mvX2_push lwK rfl rfl rfl (Nat.le_refl _) rfl rfl rfl (p_X2_push c cs (evn w cf k) (cf k) hc h (by rw [if_pos (by omega)] at hl9; omega)) (fun r10 m10 e10 => ?_)
        obtain ⟨M9, rfl⟩ : ∃ M9, M9 = m10 := ⟨_, rfl⟩
        obtain ⟨y1, y2⟩ := e10
        refine Ev.goto (q := 70) dX2_seconds_31 (by decide) ?_
        refine iinc_1 (q := 73) dX2_seconds_70 rfl rfl rfl ?_
        refine Ev.goto (q := 7) dX2_seconds_73 (by decide) ?_
        rw [w32_of (by omega) (by omega)]
        refine ih (k + 1) _ _ (by omega) ?_ (hF.tr y2)
        rw [hev]
        unfold evs
        rw [if_pos (show cf k < 3000 by omega), if_pos hnum]
        exact y1
set_option maxRecDepth 4000 in
theorem p_X2_seconds {Γ : Gm} {d : Nat} {m : Mem}  (c law n : Nat) (cs : List Int) (cf w : Nat → Int) (hc : c ∈ lawC) (hlaw : law < 2) (hcl : cs.length = n) (hcode : ∀ k, k < n → cs.getD k 0 = codC law (cf k)) (hok : okLaw (alw law) cf n) (hw : ∀ i, i < 6 → alw law i = true → -1000000 ≤ w i ∧ w i ≤ 1000000) (hlen : ∀ k, k ≤ n → (evn w cf k).length ≤ 32) (hwd : ∀ i, i < 6 → alw law i = true → m (c + 1) (wIx law i) = w i) (s : List Int) (h : LwR m c cs s) : Ci Γ (d + 3) MX2_seconds [rv c] m (fun r m' => r = lawV w cf n ∧ LwR m' c cs [] ∧ Fr (sEm c) m m') := by
  refine Ci.of moX2_seconds rfl rfl (fun hA hM => ?_)
  show Em Γ (d + 3) MX2_seconds _ 0 [rv c, uv, uv] [] m
  obtain ⟨lwK, lwr2, lwr3, lwr5, lwK1, lwK2, lwK3, lwN⟩ := lawK c hc
  refine Ev.aload_n (q := 1) dX2_seconds_0 rfl rfl ?_
  refine Ev.iconst (q := 2) dX2_seconds_1 ki_0 rfl ?_
  refine pI (q := 5) dX2_seconds_2 gfX2_32 lwK rfl rfl ?_
  refine Ev.iconst (q := 6) dX2_seconds_5 ki_0 rfl ?_
  refine istore_n_1 (q := 7) dX2_seconds_6 rfl rfl rfl ?_
  refine lc_seconds (m0 := m) c law n cs cf w hc hlaw hcl hcode hok hw hlen hwd n 0 _ uv (by omega) ⟨⟨by rw [up_k _ _ (by decide)]; exact h.1.1, fun i hi => by rw [up_o _ _ (by omega)]; exact h.1.2 i hi⟩, by rw [up_eq]; rfl, fun i hi => absurd hi (Nat.not_lt_zero _)⟩ ((Fr.rf _ _).up (sEm_t (by omega)))
