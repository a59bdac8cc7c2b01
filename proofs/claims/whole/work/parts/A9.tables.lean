/-! ===== the class: tables of the laws ===== -/
theorem wd_foot {m : Mem} {u ld ag : Int} {fl : Nat} : ∀ i, i < 6 → alw 0 i = true → (up (up (up (up m 26 0 u) 26 1 ld) 26 2 ag) 26 3 fl) (25 + 1) (wIx 0 i) = ftW u ld ag fl i := by
  intro i _ hi
  have hi' : i ≤ 3 := by simpa [alw] using hi
  rcases (show i = 0 ∨ i = 1 ∨ i = 2 ∨ i = 3 by omega) with rfl | rfl | rfl | rfl
  · exact up_eq _ _ _ _
  · show up _ 26 3 _ 26 0 = u
    rw [up_k _ _ (by decide), up_k _ _ (by decide), up_k _ _ (by decide), up_eq]
  · show up _ 26 3 _ 26 1 = ld
    rw [up_k _ _ (by decide), up_k _ _ (by decide), up_eq]
  · show up _ 26 3 _ 26 2 = ag
    rw [up_k _ _ (by decide), up_eq]
theorem wd_stop {m : Mem} {l f n : Nat} : ∀ i, i < 6 → alw 1 i = true → (up (up (up m 30 0 f) 30 1 n) 30 2 l) (29 + 1) (wIx 1 i) = stW l f n i := by
  intro i _ hi
  have hi' : i = 0 ∨ i = 4 ∨ i = 5 := by simpa [alw, or_assoc] using hi
  rcases hi' with rfl | rfl | rfl
  · show up _ 30 2 _ 30 0 = (f : Int)
    rw [up_k _ _ (by decide), up_k _ _ (by decide), up_eq]
  · show up _ 30 2 _ 30 1 = (n : Int)
    rw [up_k _ _ (by decide), up_eq]
  · exact up_eq _ _ _ _
def sSc (c a k : Nat) : Bool := decide ((a = c ∧ (k = 4 ∨ k = 6)) ∨ a = c + 1 ∨ a = c + 2 ∨ a = c + 3)
theorem sSc_f {c a k : Nat} (h : ¬ ((a = c ∧ (k = 4 ∨ k = 6)) ∨ a = c + 1 ∨ a = c + 2 ∨ a = c + 3)) : sSc c a k = false := decide_eq_false h
theorem sSc_t {c a k : Nat} (h : (a = c ∧ (k = 4 ∨ k = 6)) ∨ a = c + 1 ∨ a = c + 2 ∨ a = c + 3) : sSc c a k = true := decide_eq_true h
theorem sSc_n {c a k : Nat} (h : sSc c a k = false) : ¬ ((a = c ∧ (k = 4 ∨ k = 6)) ∨ a = c + 1 ∨ a = c + 2 ∨ a = c + 3) := of_decide_eq_false h
theorem Fr.sc {c : Nat} {m m' : Mem} (h : Fr (sEm c) m m') : Fr (sSc c) m m' := h.mono (fun a k q => sEm_f (by have := sSc_n q; omega))
theorem Fr.scp {c : Nat} {m m' : Mem} (hc : c = 25 ∨ c = 29) (h : Fr (sSc c) m m') : Fr sPc m m' := h.mono (fun a k q => sSc_f (by have := sPc_n q; omega))
theorem RC.sec {m m' : Mem} {f : Row} {L P law c : Nat} {cs : List Int} (h : RC m f L P) (hlc : (law = 0 ∧ c = 25) ∨ (law = 1 ∧ c = 29)) (h1 : (cs.length : Int) = f (8 + law)) (h2 : ∀ k, k < cs.length → cs.getD k 0 = codC law (f (458 + (f (6 + law)).toNat + k))) (hl : LwR m' c cs []) (hf : Fr (sSc c) m m') : RC m' f L P := by
  obtain ⟨q1, q2, q3, q4, q5, q6⟩ := h
  have ea : ∀ a, a < c ∨ c + 3 < a → m' a = m a := fun a z => hf.row a (fun k => sSc_f (by omega))
  refine ⟨?_, fun j hj => ?_, fun l hl => ?_, fun p hp => ?_, ?_, ?_⟩
  · rw [ea 3 (by omega)]; exact q1
  · rw [ea 4 (by omega)]; exact q2 j hj
  · unfold LR; rw [ea 5 (by omega), ea 24 (by omega), ea 15 (by omega), ea 16 (by omega), ea 17 (by omega), ea 18 (by omega)]; exact q3 l hl
  · unfold PR; rw [ea 6 (by omega), ea 7 (by omega), ea 8 (by omega), ea 9 (by omega), ea 19 (by omega), ea 20 (by omega), ea 21 (by omega)]; exact q4 p hp
  · rcases hlc with ⟨rfl, rfl⟩ | ⟨rfl, rfl⟩
    · exact ⟨by rw [hf 25 0 (sSc_f (by omega))]; exact q5.1, fun _ => ⟨cs, hl, h1, h2⟩⟩
    · exact q5.same (ea _ (by omega)) (ea _ (by omega)) (ea _ (by omega))
  · rcases hlc with ⟨rfl, rfl⟩ | ⟨rfl, rfl⟩
    · exact q6.same (ea _ (by omega)) (ea _ (by omega)) (ea _ (by omega))
    · exact ⟨by rw [hf 29 0 (sSc_f (by omega))]; exact q6.1, fun _ => ⟨cs, hl, h1, h2⟩⟩
theorem RC.tab {m : Mem} {f : Row} {L P a : Nat} (h : RC m f L P) (ha : 10 ≤ a ∧ a ≤ 13) (k : Nat) (x : Int) : RC (up m a k x) f L P := by
  obtain ⟨q1, q2, q3, q4, q5, q6⟩ := h
  have ea : ∀ b, b < 10 ∨ 13 < b → up m a k x b = m b := fun b z => up_na _ _ (by omega)
  refine ⟨?_, fun j hj => ?_, fun l hl => ?_, fun p hp => ?_, q5.same (ea _ (by omega)) (ea _ (by omega)) (ea _ (by omega)), q6.same (ea _ (by omega)) (ea _ (by omega)) (ea _ (by omega))⟩
  · rw [ea 3 (by omega)]; exact q1
  · rw [ea 4 (by omega)]; exact q2 j hj
  · unfold LR; rw [ea 5 (by omega), ea 24 (by omega), ea 15 (by omega), ea 16 (by omega), ea 17 (by omega), ea 18 (by omega)]; exact q3 l hl
  · unfold PR; rw [ea 6 (by omega), ea 7 (by omega), ea 8 (by omega), ea 9 (by omega), ea 19 (by omega), ea 20 (by omega), ea 21 (by omega)]; exact q4 p hp
theorem LW.okl {f : Row} (h : LW f) (h9 : f 457 ≤ 900) {law : Nat} (hl : law < 2) (h1 : f (4 + law) = 1) : okLaw (alw law) (fun k => f (458 + (f (6 + law)).toNat + k)) (f (8 + law)).toNat ∧ 0 ≤ f (8 + law) := by
  rcases (h.lawOk h9 hl).1 with z | ⟨-, fr, n, e1, e2, -, e4⟩
  · omega
  · rw [e1, e2, Int.toNat_natCast, Int.toNat_natCast]
    exact ⟨e4, by omega⟩
set_option maxRecDepth 4000 in
theorem p_X6_footSeconds {Γ : Gm} {d : Nat} {m : Mem} (f : Row) (p fl : Nat) (u : Int) (hR : RC m f (f 2).toNat (f 3).toNat) (hH : RH f) (h9 : f 457 ≤ 900) (h41 : f 4 = 1) (hp : (p : Int) < f 3) (hfl : fl < 12) (hu : u = 0 ∨ u = 1) : Ci Γ (d + 4) MX6_footSeconds [rv 2, iv p, iv fl, iv u] m (fun r m' => r = stepV f p fl u ∧ RC m' f (f 2).toNat (f 3).toNat ∧ Fr (sSc 25) m m') := by
  refine Ci.of moX6_footSeconds rfl rfl (fun hA hM => ?_)
  show Em Γ (d + 4) MX6_footSeconds _ 0 [rv 2, iv p, iv fl, iv u] [] m
  have hp8 := hH.1.2.2
  have hub : 0 ≤ u ∧ u ≤ 1 := by rcases hu with rfl | rfl <;> decide
  obtain ⟨-, pk2, pk3, -, -, -⟩ := hH.2.2.1 p hp
  obtain ⟨-, hW1⟩ := hR.2.2.2.2.1
  obtain ⟨cs, c1, c2, c3⟩ := hW1 h41
  have c2e : (cs.length : Int) = f 8 := c2
  obtain ⟨ok1, ok2⟩ := hH.2.2.2.2.2.okl h9 (law := 0) (by decide) h41
  have ok3 := (hH.2.2.2.2.2.lawOk h9 (law := 0) (by decide)).2 h41
  refine Ev.aload_n (q := 1) dX6_footSeconds_0 rfl rfl ?_
  refine gR (q := 4) dX6_footSeconds_1 gfX6_46 k2 r2_6 rfl rfl ?_
  refine gR (q := 7) dX6_footSeconds_4 gfX6_273 k25 r25_2 rfl rfl ?_
  refine Ev.iconst (q := 8) dX6_footSeconds_7 ki_0 rfl ?_
  refine Ev.iload_n (q := 9) dX6_footSeconds_8 rfl rfl ?_
  refine sI (q := 10) (k := 0) dX6_footSeconds_9 k26 (by rfl) (by decide) rfl ?_
  refine Ev.aload_n (q := 11) dX6_footSeconds_10 rfl rfl ?_
  refine gR (q := 14) dX6_footSeconds_11 gfX6_46 k2 r2_6 rfl rfl ?_
  refine gR (q := 17) dX6_footSeconds_14 gfX6_273 k25 r25_2 rfl rfl ?_
  refine Ev.iconst (q := 18) dX6_footSeconds_17 ki_1 rfl ?_
  refine Ev.aload_n (q := 19) dX6_footSeconds_18 rfl rfl ?_
  refine gR (q := 22) dX6_footSeconds_19 gfX6_12 k2 r2_0 rfl rfl ?_
  refine gR (q := 25) dX6_footSeconds_22 gfX6_181 k3 r3_7 rfl rfl ?_
  refine Ev.iload_n (q := 26) dX6_footSeconds_25 rfl rfl ?_
  refine aI (q := 27) (k := p) dX6_footSeconds_26 k7 (by first | rfl | omega | (simp (disch := omega) only [w32_of]; omega)) (by omega) rfl ?_
  rw [up_o _ _ (by decide), (hR.2.2.2.1 p (by omega)).2.1]
  refine sI (q := 28) (k := 1) dX6_footSeconds_27 k26 (by rfl) (by decide) rfl ?_
  refine Ev.aload_n (q := 29) dX6_footSeconds_28 rfl rfl ?_
  refine gR (q := 32) dX6_footSeconds_29 gfX6_46 k2 r2_6 rfl rfl ?_
  refine gR (q := 35) dX6_footSeconds_32 gfX6_273 k25 r25_2 rfl rfl ?_
  refine Ev.iconst (q := 36) dX6_footSeconds_35 ki_2 rfl ?_
  refine Ev.aload_n (q := 37) dX6_footSeconds_36 rfl rfl ?_
  refine gR (q := 40) dX6_footSeconds_37 gfX6_12 k2 r2_0 rfl rfl ?_
  refine gR (q := 43) dX6_footSeconds_40 gfX6_184 k3 r3_8 rfl rfl ?_
  refine Ev.iload_n (q := 44) dX6_footSeconds_43 rfl rfl ?_
  refine aI (q := 45) (k := p) dX6_footSeconds_44 k8 (by first | rfl | omega | (simp (disch := omega) only [w32_of]; omega)) (by omega) rfl ?_
  rw [up_o _ _ (by decide), up_o _ _ (by decide), (hR.2.2.2.1 p (by omega)).2.2.1]
  refine sI (q := 46) (k := 2) dX6_footSeconds_45 k26 (by rfl) (by decide) rfl ?_
  refine Ev.aload_n (q := 47) dX6_footSeconds_46 rfl rfl ?_
  refine gR (q := 50) dX6_footSeconds_47 gfX6_46 k2 r2_6 rfl rfl ?_
  refine gR (q := 53) dX6_footSeconds_50 gfX6_273 k25 r25_2 rfl rfl ?_
  refine Ev.iconst (q := 54) dX6_footSeconds_53 ki_3 rfl ?_
  refine Ev.iload_n (q := 55) dX6_footSeconds_54 rfl rfl ?_
  refine sI (q := 56) (k := 3) dX6_footSeconds_55 k26 (by rfl) (by decide) rfl ?_
  refine Ev.aload_n (q := 57) dX6_footSeconds_56 rfl rfl ?_
  refine gR (q := 60) dX6_footSeconds_57 gfX6_46 k2 r2_6 rfl rfl ?_
  refine cV0i (q := 63) (d' := d + 3) dX6_footSeconds_60 mlX6_276 moX2_seconds mvX2_seconds k25 rfl rfl rfl (Nat.le_refl _) rfl rfl rfl (p_X2_seconds 25 0 (f 8).toNat cs (fun k => f (458 + (f 6).toNat + k)) (ftW u (f (36 + p)) (f (44 + p)) fl) (by decide) (by decide) (by omega) (fun k hk => c3 k (by omega)) ok1 (fun i _ hi => by unfold ftW; repeat (first | omega | split)) (fun k hk => ok3 _ k hk) wd_foot [] (c1.cod (by simp (disch := decide) only [up_o]) (by simp (disch := decide) only [up_na]) (by simp (disch := decide) only [up_o]) (by simp (disch := decide) only [up_na]))) (fun r1 m1 e1 => ?_)
  obtain ⟨M9, rfl⟩ : ∃ M9, M9 = m1 := ⟨_, rfl⟩
  obtain ⟨y0, y1, y2⟩ := e1
  refine rI dX6_footSeconds_63 rfl ?_
  have F9 : Fr (sSc 25) m M9 := (((((Fr.rf _ _).up (sSc_t (by omega))).up (sSc_t (by omega))).up (sSc_t (by omega))).up (sSc_t (by omega))).tr y2.sc
  refine ⟨?_, hR.sec (law := 0) (c := 25) (by omega) c2 c3 y1 F9, F9⟩
  rw [y0]
  unfold stepV
  rw [if_neg (by omega)]
  rfl
set_option maxRecDepth 4000 in
theorem p_X6_stopSeconds {Γ : Gm} {d : Nat} {m : Mem} (f : Row) (l fl n : Nat) (hR : RC m f (f 2).toNat (f 3).toNat) (hH : RH f) (h9 : f 457 ≤ 900) (h51 : f 5 = 1) (hl : l < 3) (hfl : fl < 12) (hn : n < 12) : Ci Γ (d + 4) MX6_stopSeconds [rv 2, iv l, iv fl, iv n] m (fun r m' => r = stopV f l fl n ∧ RC m' f (f 2).toNat (f 3).toNat ∧ Fr (sSc 29) m m') := by
  refine Ci.of moX6_stopSeconds rfl rfl (fun hA hM => ?_)
  show Em Γ (d + 4) MX6_stopSeconds _ 0 [rv 2, iv l, iv fl, iv n] [] m
  obtain ⟨-, hW1⟩ := hR.2.2.2.2.2
  obtain ⟨cs, c1, c2, c3⟩ := hW1 h51
  have c2e : (cs.length : Int) = f 9 := c2
  obtain ⟨ok1, ok2⟩ := hH.2.2.2.2.2.okl h9 (law := 1) (by decide) h51
  have ok3 := (hH.2.2.2.2.2.lawOk h9 (law := 1) (by decide)).2 h51
  refine Ev.aload_n (q := 1) dX6_stopSeconds_0 rfl rfl ?_
  refine gR (q := 4) dX6_stopSeconds_1 gfX6_50 k2 r2_7 rfl rfl ?_
  refine gR (q := 7) dX6_stopSeconds_4 gfX6_273 k29 r29_2 rfl rfl ?_
  refine Ev.iconst (q := 8) dX6_stopSeconds_7 ki_0 rfl ?_
  refine Ev.iload_n (q := 9) dX6_stopSeconds_8 rfl rfl ?_
  refine sI (q := 10) (k := 0) dX6_stopSeconds_9 k30 (by rfl) (by decide) rfl ?_
  refine Ev.aload_n (q := 11) dX6_stopSeconds_10 rfl rfl ?_
  refine gR (q := 14) dX6_stopSeconds_11 gfX6_50 k2 r2_7 rfl rfl ?_
  refine gR (q := 17) dX6_stopSeconds_14 gfX6_273 k29 r29_2 rfl rfl ?_
  refine Ev.iconst (q := 18) dX6_stopSeconds_17 ki_1 rfl ?_
  refine Ev.iload_n (q := 19) dX6_stopSeconds_18 rfl rfl ?_
  refine sI (q := 20) (k := 1) dX6_stopSeconds_19 k30 (by rfl) (by decide) rfl ?_
  refine Ev.aload_n (q := 21) dX6_stopSeconds_20 rfl rfl ?_
  refine gR (q := 24) dX6_stopSeconds_21 gfX6_50 k2 r2_7 rfl rfl ?_
  refine gR (q := 27) dX6_stopSeconds_24 gfX6_273 k29 r29_2 rfl rfl ?_
  refine Ev.iconst (q := 28) dX6_stopSeconds_27 ki_2 rfl ?_
  refine Ev.iload_n (q := 29) dX6_stopSeconds_28 rfl rfl ?_
  refine sI (q := 30) (k := 2) dX6_stopSeconds_29 k30 (by rfl) (by decide) rfl ?_
  refine Ev.aload_n (q := 31) dX6_stopSeconds_30 rfl rfl ?_
  refine gR (q := 34) dX6_stopSeconds_31 gfX6_50 k2 r2_7 rfl rfl ?_
  refine cV0i (q := 37) (d' := d + 3) dX6_stopSeconds_34 mlX6_276 moX2_seconds mvX2_seconds k29 rfl rfl rfl (Nat.le_refl _) rfl rfl rfl (p_X2_seconds 29 1 (f 9).toNat cs (fun k => f (458 + (f 7).toNat + k)) (stW l fl n) (by decide) (by decide) (by omega) (fun k hk => c3 k (by omega)) ok1 (fun i _ hi => by unfold stW; repeat (first | omega | split)) (fun k hk => ok3 _ k hk) wd_stop [] (c1.cod (by simp (disch := decide) only [up_o]) (by simp (disch := decide) only [up_na]) (by simp (disch := decide) only [up_o]) (by simp (disch := decide) only [up_na]))) (fun r1 m1 e1 => ?_)
  obtain ⟨M9, rfl⟩ : ∃ M9, M9 = m1 := ⟨_, rfl⟩
  obtain ⟨y0, y1, y2⟩ := e1
  refine rI dX6_stopSeconds_37 rfl ?_
  have F9 : Fr (sSc 29) m M9 := ((((Fr.rf _ _).up (sSc_t (by omega))).up (sSc_t (by omega))).up (sSc_t (by omega))).tr y2.sc
  refine ⟨?_, hR.sec (law := 1) (c := 29) (by omega) c2 c3 y1 F9, F9⟩
  rw [y0]
  unfold stopV
  rw [if_neg (by omega)]
  rfl
