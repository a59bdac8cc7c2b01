/-! ===== the class: trays, images ===== -/
theorem imgK : ∀ i, i < 2 → rf 62 i = 173 + 19 * i ∧ (173 + 19 * i) ∈ houC ∧ rf 63 i = 184 + 19 * i ∧ (184 + 19 * i) ∈ nowC := by decide +kernel
theorem cut_f : ∀ f : Nat, f < 12 → cutV f 0 = f ∧ cutV f 1 = f ∧ cutV f 2 = f ∧ cutV f 3 = f := by decide +kernel
theorem cut_fl {f : Nat} (hf : f < 12) {s : Int} (hs : 0 ≤ s ∧ s ≤ 3) : cutV f s = f := by
  have h := cut_f f hf
  rcases (show s = 0 ∨ s = 1 ∨ s = 2 ∨ s = 3 by omega) with rfl | rfl | rfl | rfl
  · exact h.1
  · exact h.2.1
  · exact h.2.2.1
  · exact h.2.2.2
theorem lsN_full {sp : Int} {st : Nat → Nat → Int} {srt : Int} {b many k n : Nat} {t : Tr} {w : Nat → Int} (h : ¬ n < many) : lsN sp st srt b many k t n w = (n, w) := by
  cases k with
  | zero => rfl
  | succ k => unfold lsN; rw [if_neg h]
theorem lsN_none {sp : Int} {st : Nat → Nat → Int} {srt : Int} {b many k n : Nat} {t : Tr} {w : Nat → Int} (h : tgo sp st t = none) : lsN sp st srt b many k t n w = (n, w) := by
  cases k with
  | zero => rfl
  | succ k =>
    unfold lsN
    rw [h]
    split <;> rfl
theorem lsN_one {sp : Int} {st : Nat → Nat → Int} {srt : Int} {b many k n : Nat} {t t' : Tr} {w : Nat → Int} (h : tgo sp st t = some t') (hn : n + 1 = many) : lsN sp st srt b many (k + 1) t n w = (n + 1, upg w (b + n) t'.1) := by
  conv => lhs; unfold lsN; rw [if_pos (show n < many by omega), h]
  dsimp only
  rw [if_pos hn]
theorem lsN_two {sp : Int} {st : Nat → Nat → Int} {srt : Int} {b many k n : Nat} {t t' : Tr} {w : Nat → Int} (h : tgo sp st t = some t') (hn : n + 1 < many) : lsN sp st srt b many (k + 1) t n w = lsN sp st srt b many k t' (n + 2) (upg (upg w (b + n) t'.1) (b + (n + 1)) (cutV t'.2.2.2.2 srt)) := by
  conv => lhs; unfold lsN; rw [if_pos (show n < many by omega), h]
  dsimp only
  rw [if_neg (show ¬ n + 1 = many by omega)]
theorem lsN_came {sp : Int} {st : Nat → Nat → Int} {srt : Int} {b many k n : Nat} (t : Tr) (c : Int) {w : Nat → Int} : lsN sp st srt b many k t n w = lsN sp st srt b many k (t.1, t.2.1, t.2.2.1, t.2.2.2.1, c) n w := by cases k <;> rfl
theorem pop_none {F : Nat} {t t' : Tr} {sp : Int} {st : Nat → Nat → Int} (h : tOk2 F t) (hp : pop t.2.2.1 = 0) (hg : tgo sp st t = some t') : False := by have := tgo_pop h hg; omega
def sLs (c a _k : Nat) : Bool := a == 65 || a == c + 1
theorem sLs_f {c a k : Nat} (h1 : a ≠ 65) (h2 : a ≠ c + 1) : sLs c a k = false := by unfold sLs; simp [h1, h2]
theorem sLs_t {c k : Nat} : sLs c (c + 1) k = true := by unfold sLs; simp
theorem Fr.ls {c : Nat} {m m' : Mem} (h : Fr (sA 65) m m') : Fr (sLs c) m m' := h.mono (fun a k q => by unfold sLs at q; unfold sA; simp at q ⊢; exact q.1)
set_option maxRecDepth 4000 in
theorem p_X11_numbers {Γ : Gm} {d : Nat} {m : Mem} (t s k : Int) : Ci Γ (d + 2) MX11_numbers [rv 0, iv t, iv s, iv k] m (fun r m' => (okNum t s k → r = 0 ∧ m' (165 + 2 * t.toNat) 0 = k ∧ m' (165 + 2 * t.toNat) 1 = s ∧ (∀ j, j < 40 → m' (165 + 2 * t.toNat + 1) j = 0) ∧ Fr (sTy (165 + 2 * t.toNat)) m m') ∧ (¬ okNum t s k → r = (if (0 ≤ t ∧ t ≤ 3) ∧ (0 ≤ s ∧ s ≤ 3) then -3 else -2) ∧ m' = m)) := by
  refine Ci.of moX11_numbers rfl rfl (fun hA hM => ?_)
  show Em Γ (d + 2) MX11_numbers _ 0 [rv 0, iv t, iv s, iv k] [] m
  refine Ev.aload_n (q := 1) dX11_numbers_0 rfl rfl ?_
  refine Ev.iload_n (q := 2) dX11_numbers_1 rfl rfl ?_
  refine cV1i (q := 5) (d' := d + 1) dX11_numbers_2 mlX11_241 moX11_isTray mvX11_isTray k0 rfl rfl rfl (Nat.le_refl _) rfl rfl rfl (p_X11_isTray t) (fun r1 m1 e1 => ?_)
  obtain ⟨rfl, e1⟩ := e1
  obtain rfl := e1.symm
  refine Ev.if_eq (tgt := 17) (q := 8) dX11_numbers_5 (by decide) rfl (fun h2 => ?_) (fun h2 => ?_)
  · skip
    have hTT : ¬ (0 ≤ t ∧ t ≤ 3) := by split at h2 <;> omega
    refine Ev.bipush (q := 19) dX11_numbers_17 kb_m2 rfl ?_
    refine rI dX11_numbers_19 rfl ?_
    exact ⟨fun z => absurd z (by unfold okNum; omega), fun _ => ⟨by rw [if_neg (by omega)], rfl⟩⟩
  · skip
    have hTT : 0 ≤ t ∧ t ≤ 3 := by split at h2 <;> omega
    obtain ⟨tn, rfl⟩ : ∃ tn : Nat, t = tn := ⟨t.toNat, by omega⟩
    obtain ⟨taK, tar, taK2, taN⟩ := traK (165 + 2 * tn) (traN tn (by omega)).2
    refine Ev.iload_n (q := 9) dX11_numbers_8 rfl rfl ?_
    refine Ev.if_lt (tgt := 17) (q := 12) dX11_numbers_9 (by decide) rfl (fun h3 => ?_) (fun h3 => ?_)
    · skip
      refine Ev.bipush (q := 19) dX11_numbers_17 kb_m2 rfl ?_
      refine rI dX11_numbers_19 rfl ?_
      exact ⟨fun z => absurd z (by unfold okNum; omega), fun _ => ⟨by rw [if_neg (by omega)], rfl⟩⟩
    · skip
      refine Ev.iload_n (q := 13) dX11_numbers_12 rfl rfl ?_
      refine Ev.iconst (q := 14) dX11_numbers_13 ki_4 rfl ?_
      refine Ev.icmp_lt (tgt := 20) (q := 17) dX11_numbers_14 (by decide) rfl (fun h4 => ?_) (fun h4 => ?_)
      · skip
        refine Ev.iload_n (q := 21) dX11_numbers_20 rfl rfl ?_
        refine Ev.if_lt (tgt := 30) (q := 24) dX11_numbers_21 (by decide) rfl (fun h5 => ?_) (fun h5 => ?_)
        · skip
          refine Ev.bipush (q := 32) dX11_numbers_30 kb_m3 rfl ?_
          refine rI dX11_numbers_32 rfl ?_
          exact ⟨fun z => absurd z (by unfold okNum; omega), fun _ => ⟨by rw [if_pos (by omega)], rfl⟩⟩
        · skip
          refine Ev.iload_n (q := 25) dX11_numbers_24 rfl rfl ?_
          refine Ev.bipush (q := 27) dX11_numbers_25 kb_40 rfl ?_
          refine Ev.icmp_le (tgt := 33) (q := 30) dX11_numbers_27 (by decide) rfl (fun h6 => ?_) (fun h6 => ?_)
          · skip
            refine Ev.aload_n (q := 34) dX11_numbers_33 rfl rfl ?_
            refine gR (q := 37) dX11_numbers_34 gfX11_53 k0 r0_9 rfl rfl ?_
            refine Ev.iload_n (q := 38) dX11_numbers_37 rfl rfl ?_
            refine aR (q := 39) (k := tn) dX11_numbers_38 k61 (by decide) (by first | rfl | omega | (simp (disch := omega) only [w32_of]; omega)) (by omega) (traN tn (by omega)).1 rfl ?_
            refine Ev.iload_n (q := 40) dX11_numbers_39 rfl rfl ?_
            refine Ev.iload_n (q := 41) dX11_numbers_40 rfl rfl ?_
            refine cV2v (q := 44) (d' := d + 1) dX11_numbers_41 mlX11_375 moX9_become mvX9_become taK rfl rfl rfl (Nat.le_refl _) rfl rfl rfl (p_X9_become (165 + 2 * tn) s k (traN tn (by omega)).2) (fun r7 m7 e7 => ?_)
            obtain ⟨y0, y1, y2, y3⟩ := e7
            refine Ev.iconst (q := 45) dX11_numbers_44 ki_0 rfl ?_
            refine rI dX11_numbers_45 rfl ?_
            exact ⟨fun _ => ⟨rfl, y0, y1, y2, y3⟩, fun z => absurd (by unfold okNum; omega) z⟩
          · skip
            refine Ev.bipush (q := 32) dX11_numbers_30 kb_m3 rfl ?_
            refine rI dX11_numbers_32 rfl ?_
            exact ⟨fun z => absurd z (by unfold okNum; omega), fun _ => ⟨by rw [if_pos (by omega)], rfl⟩⟩
      · skip
        refine Ev.bipush (q := 19) dX11_numbers_17 kb_m2 rfl ?_
        refine rI dX11_numbers_19 rfl ?_
        exact ⟨fun z => absurd z (by unfold okNum; omega), fun _ => ⟨by rw [if_neg (by omega)], rfl⟩⟩
set_option maxRecDepth 4000 in
theorem p_X11_write {Γ : Gm} {d : Nat} {m : Mem} (sort : Nat → Int) (many : Nat → Nat) (num : Nat → Nat → Int) (t i v : Int) (hT : ∀ i, i < 4 → TraR m (165 + 2 * i) (sort i) (many i) (num i)) (hsr : ∀ i, i < 4 → sort i = -1 ∨ (0 ≤ sort i ∧ sort i ≤ 3)) : Ci Γ (d + 2) MX11_write [rv 0, iv t, iv i, jv v] m (fun r m' => (((0 ≤ t ∧ t ≤ 3) ∧ ¬ sort t.toNat = -1 ∧ (0 ≤ i ∧ i < many t.toNat)) → r = cutV v (sort t.toNat) ∧ m' = up m (165 + 2 * t.toNat + 1) i.toNat (cutV v (sort t.toNat))) ∧ (¬ ((0 ≤ t ∧ t ≤ 3) ∧ ¬ sort t.toNat = -1 ∧ (0 ≤ i ∧ i < many t.toNat)) → r = (if ¬ (0 ≤ t ∧ t ≤ 3) then -2 else if sort t.toNat = -1 then -6 else -7) ∧ m' = m)) := by
  refine Ci.of moX11_write rfl rfl (fun hA hM => ?_)
  show Em Γ (d + 2) MX11_write _ 0 [rv 0, iv t, iv i, jv v, uv] [] m
  refine Ev.aload_n (q := 1) dX11_write_0 rfl rfl ?_
  refine Ev.iload_n (q := 2) dX11_write_1 rfl rfl ?_
  refine cV1i (q := 5) (d' := d + 1) dX11_write_2 mlX11_241 moX11_isTray mvX11_isTray k0 rfl rfl rfl (Nat.le_refl _) rfl rfl rfl (p_X11_isTray t) (fun r1 m1 e1 => ?_)
  obtain ⟨rfl, e1⟩ := e1
  obtain rfl := e1.symm
  refine Ev.if_ne (tgt := 12) (q := 8) dX11_write_5 (by decide) rfl (fun h2 => ?_) (fun h2 => ?_)
  · skip
    have hTT : 0 ≤ t ∧ t ≤ 3 := by split at h2 <;> omega
    obtain ⟨tn, rfl⟩ : ∃ tn : Nat, t = tn := ⟨t.toNat, by omega⟩
    obtain ⟨taK, tar, taK2, taN⟩ := traK (165 + 2 * tn) (traN tn (by omega)).2
    obtain ⟨tm1, tm2⟩ := hT tn (by omega)
    refine Ev.aload_n (q := 13) dX11_write_12 rfl rfl ?_
    refine gR (q := 16) dX11_write_13 gfX11_53 k0 r0_9 rfl rfl ?_
    refine Ev.iload_n (q := 17) dX11_write_16 rfl rfl ?_
    refine aR (q := 18) (k := tn) dX11_write_17 k61 (by decide) (by first | rfl | omega | (simp (disch := omega) only [w32_of]; omega)) (by omega) (traN tn (by omega)).1 rfl ?_
    refine cV0i (q := 21) (d' := d + 1) dX11_write_18 mlX11_244 moX9_isMissing mvX9_isMissing taK rfl rfl rfl (Nat.le_refl _) rfl rfl rfl (p_X9_isMissing (165 + 2 * tn) (traN tn (by omega)).2) (fun r3 m3 e3 => ?_)
    obtain ⟨rfl, e3⟩ := e3
    obtain rfl := e3.symm
    refine Ev.if_eq (tgt := 28) (q := 24) dX11_write_21 (by decide) rfl (fun h4 => ?_) (fun h4 => ?_)
    · skip
      have hms : ¬ sort tn = -1 := fun z => by rw [if_pos (tm1 z)] at h4; exact absurd h4 (by decide)
      obtain ⟨u0, u1, u2, u3, u4⟩ := tm2 hms
      refine Ev.aload_n (q := 29) dX11_write_28 rfl rfl ?_
      refine gR (q := 32) dX11_write_29 gfX11_53 k0 r0_9 rfl rfl ?_
      refine Ev.iload_n (q := 33) dX11_write_32 rfl rfl ?_
      refine aR (q := 34) (k := tn) dX11_write_33 k61 (by decide) (by first | rfl | omega | (simp (disch := omega) only [w32_of]; omega)) (by omega) (traN tn (by omega)).1 rfl ?_
      refine Ev.iload_n (q := 35) dX11_write_34 rfl rfl ?_
      refine cV1i (q := 38) (d' := d + 1) dX11_write_35 mlX11_380 moX9_has mvX9_has taK rfl rfl rfl (Nat.le_refl _) rfl rfl rfl (p_X9_has (165 + 2 * tn) i (traN tn (by omega)).2) (fun r5 m5 e5 => ?_)
      obtain ⟨rfl, e5⟩ := e5
      obtain rfl := e5.symm
      rw [u0]
      refine Ev.if_ne (tgt := 45) (q := 41) dX11_write_38 (by decide) rfl (fun h6 => ?_) (fun h6 => ?_)
      · skip
        have hii : 0 ≤ i ∧ i < (many tn : Int) := by split at h6 <;> omega
        obtain ⟨iN, rfl⟩ : ∃ iN : Nat, i = iN := ⟨i.toNat, by omega⟩
        refine Ev.aload_n (q := 46) dX11_write_45 rfl rfl ?_
        refine gR (q := 49) dX11_write_46 gfX11_53 k0 r0_9 rfl rfl ?_
        refine Ev.iload_n (q := 50) dX11_write_49 rfl rfl ?_
        refine aR (q := 51) (k := tn) dX11_write_50 k61 (by decide) (by first | rfl | omega | (simp (disch := omega) only [w32_of]; omega)) (by omega) (traN tn (by omega)).1 rfl ?_
        refine Ev.iload_n (q := 52) dX11_write_51 rfl rfl ?_
        refine Ev.lload_n (q := 53) dX11_write_52 rfl rfl ?_
        refine cV2j (q := 56) (d' := d + 1) dX11_write_53 mlX11_385 moX9_put mvX9_put taK rfl rfl rfl (Nat.le_refl _) rfl rfl rfl (p_X9_put (165 + 2 * tn) iN v (traN tn (by omega)).2 (by rw [u0]; omega) (by omega) (by rw [u1]; exact u2)) (fun r7 m7 e7 => ?_)
        obtain ⟨y1, y2⟩ := e7
        rw [u1] at y1 y2
        subst y1
        subst y2
        refine rJ dX11_write_56 rfl ?_
        exact ⟨fun _ => ⟨rfl, rfl⟩, fun z => absurd ⟨hTT, hms, hii⟩ z⟩
      · skip
        refine Ev.ldc2 (q := 44) dX11_write_41 klX11_383 klvX11_383 rfl ?_
        refine rJ dX11_write_44 rfl ?_
        exact ⟨fun z => absurd z.2.2 (by rw [Int.toNat_natCast]; split at h6 <;> omega), fun _ => ⟨by rw [if_neg (fun z => z hTT), Int.toNat_natCast, if_neg hms], rfl⟩⟩
    · skip
      have hms : sort tn = -1 := Classical.byContradiction fun z => by rw [if_neg (by rw [(tm2 z).1]; omega)] at h4; exact absurd rfl h4
      refine Ev.ldc2 (q := 27) dX11_write_24 klX11_378 klvX11_378 rfl ?_
      refine rJ dX11_write_27 rfl ?_
      exact ⟨fun z => absurd hms z.2.1, fun _ => ⟨by rw [if_neg (fun z => z hTT), Int.toNat_natCast, if_pos hms], rfl⟩⟩
  · skip
    have hTT : ¬ (0 ≤ t ∧ t ≤ 3) := by split at h2 <;> omega
    refine Ev.ldc2 (q := 11) dX11_write_8 klX11_306 klvX11_306 rfl ?_
    refine rJ dX11_write_11 rfl ?_
    exact ⟨fun z => absurd z.1 hTT, fun _ => ⟨by rw [if_pos hTT], rfl⟩⟩
set_option maxRecDepth 4000 in
theorem lc_lists {Γ : Gm} {d : Nat} {m0 : Mem} (g : Row) (c t0 l b many : Nat) (srt : Int) (T : Nat × (Nat → Int)) (hc : c ∈ traC) (hI : HI g) (hl : (l : Int) < g 2) (hH : HouR g m0 33) (hsrt : 0 ≤ srt ∧ srt ≤ 3) (hmany : many ≤ 40) : ∀ (q k n : Nat) (M : Mem) (w : Nat → Int) (h : Nat) (tt : Int) (s : Nat) (u : Bool) (cm : Int), k + q = 12 → n ≤ many → CT M 65 l (h, tt, s, u, cm) → tOk2 (g 1).toNat (h, tt, s, u, cm) → pop s ≤ q → Fr (sLs c) m0 M → M c 0 = many → M c 1 = srt → (∀ i, i < many → M (c + 1) i = w (b + i)) → T = lsN (g (22 + l)) (stopV g l) srt b many (q + 1) (h, tt, s, u, cm) n w → Em Γ (d + 3) MX11_lists (fun r m' => r = (T.1 : Int) ∧ (∀ i, i < many → m' (c + 1) i = T.2 (b + i)) ∧ Fr (sLs c) m0 m') 57 [rv 0, iv t0, iv l, rv c, iv n, iv k] [] M := by
  have hF12 := hI.1
  have hP8 := hI.2.2.1
  have hL3 := hI.2.1
  obtain ⟨taK, tar, taK2, taN⟩ := traK c hc
  intro q
  induction q with
  | zero =>
    intro k n M w h tt s u cm hk hn hC hok hpp hF z0 z1 hw hT
    have hHM : HouR g M 33 := hH.keep (fun a h1 h2 => hF.row a (fun _ => sLs_f (by omega) (by omega)))
    refine Ev.iload (q := 59) dX11_lists_57 rfl rfl ?_
    refine Ev.bipush (q := 61) dX11_lists_59 kb_12 rfl ?_
    refine Ev.icmp_ge (tgt := 134) (q := 64) dX11_lists_61 (by decide) rfl (fun h1 => ?_) (fun h1 => ?_)
    · skip
      refine Ev.iload (q := 136) dX11_lists_134 rfl rfl ?_
      refine rI dX11_lists_136 rfl ?_
      have hg0 : tgo (g (22 + l)) (stopV g l) (h, tt, s, u, cm) = none := by
        cases hg : tgo (g (22 + l)) (stopV g l) (h, tt, s, u, cm) with
        | none => rfl
        | some t' => exact (pop_none hok (by dsimp only at hpp ⊢; omega) hg).elim
      rw [lsN_none hg0] at hT
      exact ⟨by rw [hT], fun i hi => by rw [hT]; exact hw i hi, hF⟩
    · skip
      omega
  | succ q ih =>
    intro k n M w h tt s u cm hk hn hC hok hpp hF z0 z1 hw hT
    have hHM : HouR g M 33 := hH.keep (fun a h1 h2 => hF.row a (fun _ => sLs_f (by omega) (by omega)))

    refine Ev.iload (q := 59) dX11_lists_57 rfl rfl ?_
    refine Ev.bipush (q := 61) dX11_lists_59 kb_12 rfl ?_
    refine Ev.icmp_ge (tgt := 134) (q := 64) dX11_lists_61 (by decide) rfl (fun h1 => ?_) (fun h1 => ?_)
    · skip
      omega
    · skip
      refine Ev.aload_n (q := 65) dX11_lists_64 rfl rfl ?_
      refine gR (q := 68) dX11_lists_65 gfX11_73 k0 r0_13 rfl rfl ?_
      refine cV0i (q := 71) (d' := d + 2) dX11_lists_68 mlX11_271 moX10_rideOn mvX10_rideOn k65 rfl rfl rfl (Nat.le_refl _) rfl rfl rfl (p_X10_rideOn g 65 l h tt s u cm (by decide) hI hl hHM hC hok) (fun r2 m2 e2 => ?_)
      obtain ⟨M9, rfl⟩ : ∃ M9, M9 = m2 := ⟨_, rfl⟩
      obtain ⟨eN, eS⟩ := e2
      refine Ev.if_eq (tgt := 134) (q := 74) dX11_lists_71 (by decide) rfl (fun h3 => ?_) (fun h3 => ?_)
      · skip
        have hg : tgo (g (22 + l)) (stopV g l) (h, tt, s, u, cm) = none := by
          cases hg : tgo (g (22 + l)) (stopV g l) (h, tt, s, u, cm) with
          | none => rfl
          | some t' => have := (eS t' hg).1; omega
        obtain ⟨-, rfl⟩ := eN hg
        refine Ev.iload (q := 136) dX11_lists_134 rfl rfl ?_
        refine rI dX11_lists_136 rfl ?_
        rw [lsN_none hg] at hT
        exact ⟨by rw [hT], fun i hi => by rw [hT]; exact hw i hi, hF⟩
      · skip
        obtain ⟨t', hg⟩ : ∃ t', tgo (g (22 + l)) (stopV g l) (h, tt, s, u, cm) = some t' := by
          cases hg : tgo (g (22 + l)) (stopV g l) (h, tt, s, u, cm) with
          | none => have := (eN hg).1; omega
          | some t' => exact ⟨t', rfl⟩
        obtain ⟨-, hT', hF'⟩ := eS t' hg
        have hok' := tgo_ok2 hok hg
        have hF9 : Fr (sLs c) m0 M9 := hF.tr hF'.ls
        have z90 : M9 c 0 = many := by rw [hF'.rowA (by omega)]; exact z0
        have z91 : M9 c 1 = srt := by rw [hF'.rowA (by omega)]; exact z1
        have w9 : ∀ i, i < many → M9 (c + 1) i = w (b + i) := fun i hi => by rw [hF'.rowA (by omega)]; exact hw i hi
        have ht12 : t'.1 < 12 := by have := hok'.1.2.1; have := hok'.1.1; omega
        have hpp' := tgo_pop hok hg
        refine Ev.aload_n (q := 75) dX11_lists_74 rfl rfl ?_
        refine Ev.iload (q := 77) dX11_lists_75 rfl rfl ?_
        refine cV1i (q := 80) (d' := d + 2) dX11_lists_77 mlX11_380 moX9_has mvX9_has taK rfl rfl rfl (Nat.le_refl _) rfl rfl rfl (p_X9_has c n hc) (fun r4 m4 e4 => ?_)
        obtain ⟨rfl, e4⟩ := e4
        obtain rfl := e4.symm
        rw [z90]
        refine Ev.if_eq (tgt := 101) (q := 83) dX11_lists_80 (by decide) rfl (fun h5 => ?_) (fun h5 => ?_)
        · skip
          have hfull : ¬ n < many := by split at h5 <;> omega
          rw [lsN_full hfull] at hT
          refine Ev.aload_n (q := 102) dX11_lists_101 rfl rfl ?_
          refine Ev.iload (q := 104) dX11_lists_102 rfl rfl ?_
          refine cV1i (q := 107) (d' := d + 2) dX11_lists_104 mlX11_380 moX9_has mvX9_has taK rfl rfl rfl (Nat.le_refl _) rfl rfl rfl (p_X9_has c n hc) (fun r31 m31 e31 => ?_)
          obtain ⟨rfl, e31⟩ := e31
          obtain rfl := e31.symm
          rw [z90]
          refine Ev.if_eq (tgt := 128) (q := 110) dX11_lists_107 (by decide) rfl (fun h32 => ?_) (fun h32 => ?_)
          · skip
            refine iinc_5 (q := 131) dX11_lists_128 rfl rfl rfl ?_
            refine Ev.goto (q := 57) dX11_lists_131 (by decide) ?_
            rw [w32_of (by omega) (by omega)]
            exact ih (k + 1) n M9 w t'.1 t'.2.1 t'.2.2.1 t'.2.2.2.1 t'.2.2.2.2 (by omega) (by omega) hT'.1 hok' (by dsimp only at hpp hpp' ⊢; omega) hF9 z90 z91 w9 (by rw [hT, lsN_full hfull])
          · skip
            rw [if_neg (by omega)] at h32
            exact absurd rfl h32
        · skip
          have hlt : n < many := by split at h5 <;> omega
          refine Ev.aload_n (q := 84) dX11_lists_83 rfl rfl ?_
          refine Ev.iload (q := 86) dX11_lists_84 rfl rfl ?_
          refine iinc_4 (q := 89) dX11_lists_86 rfl rfl rfl ?_
          refine Ev.aload_n (q := 90) dX11_lists_89 rfl rfl ?_
          refine gR (q := 93) dX11_lists_90 gfX11_73 k0 r0_13 rfl rfl ?_
          refine gI (q := 96) dX11_lists_93 gfX11_274 k65 rfl rfl ?_
          rw [w32_of (by omega) (by omega), hT'.1.2.1]
          refine Ev.i2l (q := 97) dX11_lists_96 rfl ?_
          refine cV2j (q := 100) (d' := d + 2) dX11_lists_97 mlX11_385 moX9_put mvX9_put taK rfl rfl rfl (Nat.le_refl _) rfl rfl rfl (p_X9_put c n (t'.1 : Int) hc (by omega) (by omega) (by omega)) (fun r6 m6 e6 => ?_)
          obtain ⟨-, y2⟩ := e6
          rw [z91, cut_fl ht12 hsrt] at y2
          subst y2
          refine Ev.pop2 (q := 101) dX11_lists_100 rfl rfl ?_
          rw [show (n : Int) + 1 = ((n + 1 : Nat) : Int) by omega]
          obtain ⟨M8, hM8⟩ : ∃ M8, M8 = up M9 (c + 1) n (t'.1 : Int) := ⟨_, rfl⟩
          rw [← hM8]
          have z80 : M8 c 0 = many := by rw [hM8, up_o _ _ (by omega)]; exact z90
          have z81 : M8 c 1 = srt := by rw [hM8, up_o _ _ (by omega)]; exact z91
          have t8 : CTc M8 65 l t' := hT'.row (by rw [hM8, up_na _ _ (by omega)])
          have hF8 : Fr (sLs c) m0 M8 := by rw [hM8]; exact hF9.up sLs_t
          have w8 : ∀ i, i < many → M8 (c + 1) i = upg w (b + n) (t'.1 : Int) (b + i) := fun i hi => by
            rw [hM8]
            by_cases e : i = n
            · subst e; rw [up_eq, upg_eq]
            · rw [up_k _ _ e, upg_ne _ _ (by omega)]; exact w9 i hi
          refine Ev.aload_n (q := 102) dX11_lists_101 rfl rfl ?_
          refine Ev.iload (q := 104) dX11_lists_102 rfl rfl ?_
          refine cV1i (q := 107) (d' := d + 2) dX11_lists_104 mlX11_380 moX9_has mvX9_has taK rfl rfl rfl (Nat.le_refl _) rfl rfl rfl (p_X9_has c ((n + 1 : Nat) : Int) hc) (fun r31 m31 e31 => ?_)
          obtain ⟨rfl, e31⟩ := e31
          obtain rfl := e31.symm
          rw [z80]
          refine Ev.if_eq (tgt := 128) (q := 110) dX11_lists_107 (by decide) rfl (fun h32 => ?_) (fun h32 => ?_)
          · skip
            have hone : n + 1 = many := by split at h32 <;> omega
            rw [lsN_one hg hone] at hT
            refine iinc_5 (q := 131) dX11_lists_128 rfl rfl rfl ?_
            refine Ev.goto (q := 57) dX11_lists_131 (by decide) ?_
            rw [w32_of (by omega) (by omega)]
            exact ih (k + 1) (n + 1) M8 _ t'.1 t'.2.1 t'.2.2.1 t'.2.2.2.1 t'.2.2.2.2 (by omega) (by omega) t8.1 hok' (by dsimp only at hpp hpp' ⊢; omega) hF8 z80 z81 w8 (by rw [hT, lsN_full (by omega)])
          · skip
            have htwo : n + 1 < many := by split at h32 <;> omega
            rw [lsN_two hg htwo] at hT
            refine Ev.aload_n (q := 111) dX11_lists_110 rfl rfl ?_
            refine Ev.iload (q := 113) dX11_lists_111 rfl rfl ?_
            refine iinc_4 (q := 116) dX11_lists_113 rfl rfl rfl ?_
            refine Ev.aload_n (q := 117) dX11_lists_116 rfl rfl ?_
            refine gR (q := 120) dX11_lists_117 gfX11_73 k0 r0_13 rfl rfl ?_
            refine gI (q := 123) dX11_lists_120 gfX11_389 k65 rfl rfl ?_
            rw [t8.2]
            refine Ev.i2l (q := 124) dX11_lists_123 rfl ?_
            refine cV2j (q := 127) (d' := d + 2) dX11_lists_124 mlX11_385 moX9_put mvX9_put taK rfl rfl rfl (Nat.le_refl _) rfl rfl rfl (p_X9_put c (n + 1) t'.2.2.2.2 hc (by omega) (by omega) (by omega)) (fun r33 m33 e33 => ?_)
            obtain ⟨-, y2⟩ := e33
            rw [z81] at y2
            subst y2
            refine Ev.pop2 (q := 128) dX11_lists_127 rfl rfl ?_
            refine iinc_5 (q := 131) dX11_lists_128 rfl rfl rfl ?_
            refine Ev.goto (q := 57) dX11_lists_131 (by decide) ?_
            rw [w32_of (z := ((n + 1 : Nat) : Int) + 1) (by omega) (by omega), w32_of (by omega) (by omega), show ((n + 1 : Nat) : Int) + 1 = ((n + 2 : Nat) : Int) by omega]
            refine ih (k + 1) (n + 2) _ _ t'.1 t'.2.1 t'.2.2.1 t'.2.2.2.1 t'.2.2.2.2 (by omega) (by omega) (t8.row (by rw [up_na _ _ (by omega)])).1 hok' (by dsimp only at hpp hpp' ⊢; omega) (hF8.up sLs_t) (by rw [up_o _ _ (by omega)]; exact z80) (by rw [up_o _ _ (by omega)]; exact z81) (fun i hi => ?_) hT
            by_cases e : i = n + 1
            · subst e; rw [up_eq, upg_eq]
            · rw [up_k _ _ e, upg_ne _ _ (by omega)]; exact w8 i hi
set_option maxRecDepth 4000 in
theorem p_X11_lists {Γ : Gm} {d : Nat} {m : Mem} (g : Row) (sort : Nat → Int) (many : Nat → Nat) (num : Nat → Nat → Int) (b : Nat) (w : Nat → Int) (t l : Int) (hI : HI g) (hH : HouR g m 33) (hN : NowR g m 44) (hT : ∀ i, i < 4 → TraR m (165 + 2 * i) (sort i) (many i) (num i)) (hsr : ∀ i, i < 4 → sort i = -1 ∨ (0 ≤ sort i ∧ sort i ≤ 3)) (hw : ∀ tn i, t = ((tn : Nat) : Int) → i < many tn → w (b + i) = num tn i) : Ci Γ (d + 4) MX11_lists [rv 0, iv t, iv l] m (fun r m' => (((0 ≤ t ∧ t ≤ 3) ∧ (0 ≤ l ∧ l < g 2) ∧ ¬ sort t.toNat = -1) → r = ((lsN (g (22 + l.toNat)) (stopV g l.toNat) (sort t.toNat) b (many t.toNat) 13 (liftT g l.toNat) 0 w).1 : Int) ∧ (∀ i, i < many t.toNat → m' (165 + 2 * t.toNat + 1) i = (lsN (g (22 + l.toNat)) (stopV g l.toNat) (sort t.toNat) b (many t.toNat) 13 (liftT g l.toNat) 0 w).2 (b + i)) ∧ Fr (sLs (165 + 2 * t.toNat)) m m') ∧ (¬ ((0 ≤ t ∧ t ≤ 3) ∧ (0 ≤ l ∧ l < g 2) ∧ ¬ sort t.toNat = -1) → r = (if (0 ≤ t ∧ t ≤ 3) ∧ (0 ≤ l ∧ l < g 2) then -6 else -2) ∧ m' = m)) := by
  refine Ci.of moX11_lists rfl rfl (fun hA hM => ?_)
  show Em Γ (d + 4) MX11_lists _ 0 [rv 0, iv t, iv l, uv, uv, uv] [] m
  have hF12 := hI.1
  have hP8 := hI.2.2.1
  have hL3 := hI.2.1
  obtain ⟨n0, n1, n2, n3⟩ := hH.n0
  refine Ev.aload_n (q := 1) dX11_lists_0 rfl rfl ?_
  refine Ev.iload_n (q := 2) dX11_lists_1 rfl rfl ?_
  refine cV1i (q := 5) (d' := d + 3) dX11_lists_2 mlX11_241 moX11_isTray mvX11_isTray k0 rfl rfl rfl (Nat.le_refl _) rfl rfl rfl (p_X11_isTray t) (fun r1 m1 e1 => ?_)
  obtain ⟨rfl, e1⟩ := e1
  obtain rfl := e1.symm
  refine Ev.if_eq (tgt := 19) (q := 8) dX11_lists_5 (by decide) rfl (fun h2 => ?_) (fun h2 => ?_)
  · skip
    have hTT : ¬ (0 ≤ t ∧ t ≤ 3) := by split at h2 <;> omega
    refine Ev.bipush (q := 21) dX11_lists_19 kb_m2 rfl ?_
    refine rI dX11_lists_21 rfl ?_
    exact ⟨fun z => absurd z (by omega), fun _ => ⟨by rw [if_neg (by omega)], rfl⟩⟩
  · skip
    have hTT : 0 ≤ t ∧ t ≤ 3 := by split at h2 <;> omega
    obtain ⟨tn, rfl⟩ : ∃ tn : Nat, t = tn := ⟨t.toNat, by omega⟩
    obtain ⟨taK, tar, taK2, taN⟩ := traK (165 + 2 * tn) (traN tn (by omega)).2
    obtain ⟨tm1, tm2⟩ := hT tn (by omega)
    refine Ev.aload_n (q := 9) dX11_lists_8 rfl rfl ?_
    refine gR (q := 12) dX11_lists_9 gfX11_27 k0 r0_3 rfl rfl ?_
    refine Ev.iload_n (q := 13) dX11_lists_12 rfl rfl ?_
    refine cV1i (q := 16) (d' := d + 3) dX11_lists_13 mlX11_135 moX1_hasLift mvX1_hasLift k33 rfl rfl rfl (Nat.le_refl _) rfl rfl rfl (p_X1_hasLift l) (fun r3 m3 e3 => ?_)
    obtain ⟨rfl, e3⟩ := e3
    obtain rfl := e3.symm
    rw [n2]
    refine Ev.if_ne (tgt := 22) (q := 19) dX11_lists_16 (by decide) rfl (fun h4 => ?_) (fun h4 => ?_)
    · skip
      have hLLln : 0 ≤ l ∧ l < g 2 := by split at h4 <;> omega
      obtain ⟨ln, rfl⟩ : ∃ ln : Nat, l = ln := ⟨l.toNat, by omega⟩
      have hlln : (ln : Int) < g 2 := hLLln.2
      have qlln := hI.lift hlln
      have hlokln := hI.litOk hlln
      have hsln := hlokln.lt hI
      have a1ln : m 45 ln = g (60 + ln) := (hN.1 ln hlln).1
      have a2ln : m 46 ln = g (63 + ln) := (hN.1 ln hlln).2.1
      have a3ln : m 47 ln = ((litV g ln : Nat) : Int) := E47 hI hlln hN
      have a4ln : m 48 ln = g (69 + ln) := (hN.1 ln hlln).2.2.2
      refine Ev.aload_n (q := 23) dX11_lists_22 rfl rfl ?_
      refine gR (q := 26) dX11_lists_23 gfX11_53 k0 r0_9 rfl rfl ?_
      refine Ev.iload_n (q := 27) dX11_lists_26 rfl rfl ?_
      refine aR (q := 28) (k := tn) dX11_lists_27 k61 (by decide) (by first | rfl | omega | (simp (disch := omega) only [w32_of]; omega)) (by omega) (traN tn (by omega)).1 rfl ?_
      refine astore_n_3 (q := 29) dX11_lists_28 rfl rfl rfl ?_
      refine Ev.aload_n (q := 30) dX11_lists_29 rfl rfl ?_
      refine cV0i (q := 33) (d' := d + 3) dX11_lists_30 mlX11_244 moX9_isMissing mvX9_isMissing taK rfl rfl rfl (Nat.le_refl _) rfl rfl rfl (p_X9_isMissing (165 + 2 * tn) (traN tn (by omega)).2) (fun r5 m5 e5 => ?_)
      obtain ⟨rfl, e5⟩ := e5
      obtain rfl := e5.symm
      refine Ev.if_eq (tgt := 39) (q := 36) dX11_lists_33 (by decide) rfl (fun h6 => ?_) (fun h6 => ?_)
      · skip
        have hms : ¬ sort tn = -1 := fun z => by rw [if_pos (tm1 z)] at h6; exact absurd h6 (by decide)
        obtain ⟨u0, u1, u2, u3, u4⟩ := tm2 hms
        refine Ev.iconst (q := 40) dX11_lists_39 ki_0 rfl ?_
        refine istore_4 (q := 42) dX11_lists_40 rfl rfl rfl ?_
        refine Ev.aload_n (q := 43) dX11_lists_42 rfl rfl ?_
        refine gR (q := 46) dX11_lists_43 gfX11_73 k0 r0_13 rfl rfl ?_
        refine Ev.aload_n (q := 47) dX11_lists_46 rfl rfl ?_
        refine gR (q := 50) dX11_lists_47 gfX11_34 k0 r0_4 rfl rfl ?_
        refine Ev.iload_n (q := 51) dX11_lists_50 rfl rfl ?_
        refine cV2v (q := 54) (d' := d + 3) dX11_lists_51 mlX11_159 moX10_begin mvX10_begin k65 rfl rfl rfl (Nat.le_refl _) rfl rfl rfl (p_X10_begin g 65 44 ln (by decide) (by decide) hI hlln hN) (fun r7 m7 e7 => ?_)
        obtain ⟨M1, rfl⟩ : ∃ M1, M1 = m7 := ⟨_, rfl⟩
        obtain ⟨hT1, hF1⟩ := e7
        have hH1 := hH.c hF1.C65
        have hN1 := hN.c hF1.C65
        refine Ev.iconst (q := 55) dX11_lists_54 ki_0 rfl ?_
        refine istore_5 (q := 57) dX11_lists_55 rfl rfl rfl ?_
        refine (lc_lists (m0 := m) g (165 + 2 * tn) tn ln b (many tn) (sort tn) _ (traN tn (by omega)).2 hI hlln hH u2 u3 12 0 0 M1 w _ _ _ _ _ (by omega) (by omega) hT1.1 (hI.liftC hlln) (pop_le _) hF1.ls (by rw [hF1.rowA (by omega)]; exact u0) (by rw [hF1.rowA (by omega)]; exact u1) (fun i hi => by rw [hF1.rowA (by omega)]; exact (u4 i hi).trans (hw tn i (by omega) hi).symm) rfl).imp ?_
        intro r9 m9 h9
        refine ⟨fun _ => ?_, fun z => absurd ⟨by omega, by omega, hms⟩ z⟩
        simp only [Int.toNat_natCast]
        rw [lsN_came (liftT g ln) (g (63 + ln))]
        exact h9
      · skip
        have hms : sort tn = -1 := Classical.byContradiction fun z => by rw [if_neg (by rw [(tm2 z).1]; omega)] at h6; exact absurd rfl h6
        refine Ev.bipush (q := 38) dX11_lists_36 kb_m6 rfl ?_
        refine rI dX11_lists_38 rfl ?_
        exact ⟨fun z => absurd hms z.2.2, fun _ => ⟨by rw [if_pos (by omega)], rfl⟩⟩
    · skip
      have hLL : ¬ (0 ≤ l ∧ l < g 2) := by split at h4 <;> omega
      refine Ev.bipush (q := 21) dX11_lists_19 kb_m2 rfl ?_
      refine rI dX11_lists_21 rfl ?_
      exact ⟨fun z => absurd z (by omega), fun _ => ⟨by rw [if_neg (by omega)], rfl⟩⟩
