/-! ===== constructors: the class ===== -/
theorem eqS_perm {n : Nat} {o o' : List (Nat × Nat)} (h1 : ∀ p ∈ o, p ∈ o') (h2 : ∀ p ∈ o', p ∈ o) : eqS n (opS n o) (opS n o') := by
  intro x hx y _
  apply bool_eq
  rw [opS_v, opS_v]
  exact ⟨fun z => ⟨z.1, fun w => z.2 (h2 _ w)⟩, fun z => ⟨z.1, fun w => z.2 (h1 _ w)⟩⟩
def I11a (m : Mem) : Prop := m 0 1 = 0 ∧ m 2 2 = 0 ∧ m 2 3 = -1
def I11b (m : Mem) : Prop := I11a m ∧ m 33 0 = 2 ∧ m 33 1 = 0 ∧ m 33 2 = 0 ∧ m 33 3 = 0 ∧ ∀ j, m 34 j = 0
def I11c (m : Mem) : Prop := I11b m ∧ m 0 7 = 0 ∧ m 0 8 = 0 ∧ ∀ j, m 64 j = 0
def T11 (n : Nat) (m : Mem) : Prop := ∀ i, i < n → m (165 + 2 * i) 0 = -1
def I11 (m : Mem) : Prop := I11c m ∧ T11 4 m
theorem I11a.keep {m m' : Mem} (h : I11a m) (e : ∀ x, x ≤ 2 → m' x = m x) : I11a m' := by
  unfold I11a
  rw [e 0 (by omega), e 2 (by omega)]
  exact h
theorem I11b.keep {m m' : Mem} (h : I11b m) (e : ∀ x, x ≤ 64 → x ≠ 0 → m' x = m x) (e0 : m' 0 1 = m 0 1) : I11b m' := by
  unfold I11b I11a
  rw [e 2 (by omega) (by omega), e 33 (by omega) (by omega), e 34 (by omega) (by omega), e0]
  exact h
theorem I11c.keep {m m' : Mem} (h : I11c m) (e : ∀ x, x ≤ 64 → m' x = m x) : I11c m' := by
  unfold I11c I11b I11a
  rw [e 0 (by omega), e 2 (by omega), e 33 (by omega), e 34 (by omega), e 64 (by omega)]
  exact h
theorem T11.keep {n : Nat} {m m' : Mem} (h : T11 n m) (e : ∀ x, x < 165 + 2 * n → m' x = m x) : T11 n m' := fun i hi => by rw [e _ (by omega)]; exact h i hi
theorem T11.next {n : Nat} {m m' : Mem} (h : T11 n m) (e : ∀ x, x < 165 + 2 * n → m' x = m x) (h2 : m' (165 + 2 * n) 0 = -1) : T11 (n + 1) m' := fun i hi => by
  by_cases q : i = n
  · rw [q]; exact h2
  · rw [e _ (by omega)]; exact h i (by omega)
set_option maxRecDepth 8000 in
set_option maxHeartbeats 1000000 in
theorem i_X11 {Γ : Gm} {d : Nat} {m : Mem} (hz : ∀ x, 0 < x → x ≤ 210 → ∀ j, ¬ (x = 22 ∧ j = 0) → m x j = 0) (h22 : m 22 0 < 0) : Cl Γ (d + 3) MX11_init 210 6895 [rv 0] (1, opS 1 ((0, 0) :: (0, 2) :: (0, 3) :: (0, 4) :: (0, 5) :: (0, 6) :: (0, 9) :: (0, 10) :: (0, 11) :: (0, 12) :: (0, 13) :: (0, 14) :: (0, 15) :: (0, 16) :: (0, 17) :: [])) m (fun v g' m' => g' = (211, opS 211 []) ∧ I11 m' ∧ ∀ x, 210 < x → m' x = m x) := by
  have hz0 := hz
  have h220 := h22
  refine Cl.of moX11_init (fun v hv => by rw [List.mem_singleton.mp hv]; exact (by decide : (3 : Nat) ≠ 0)) (Nat.le_of_ble_eq_true rfl) ?_
  show Ev Γ (d + 3) MX11_init (210, 6895, 0, 0) _ 0 [rv 0, uv] [] _ m
  refine Ev.aload_n (q := 1) dX11_init_0 rfl rfl ?_
  refine Ev.objI (q := 4) dX11_init_1 oiX11 (by omega) (Nat.le_of_ble_eq_true rfl) rfl ?_
  refine Ev.aload_n (q := 5) dX11_init_4 rfl rfl ?_
  refine Ev.sipush (q := 8) dX11_init_5 kh_900 rfl ?_
  refine Ev.newaO (q := 10) (n := 1) dX11_init_8 ka_byte k1 (by decide) rfl rfl (by decide) (fun j => by (try simp (disch := omega) only [up_o]); exact hz0 1 (by omega) (by omega) j (by omega)) (by decide) (by decide) rfl ?_
  show Ev Γ _ _ (210, 6895, 1, 900) _ 10 _ [rv 1, rv 0] (2, opS 2 ((0, 0) :: (0, 2) :: (0, 3) :: (0, 4) :: (0, 5) :: (0, 6) :: (0, 9) :: (0, 10) :: (0, 11) :: (0, 12) :: (0, 13) :: (0, 14) :: (0, 15) :: (0, 16) :: (0, 17) :: [])) _
  refine Ev.putO (q := 13) (n := 2) (o := (0, 2) :: (0, 3) :: (0, 4) :: (0, 5) :: (0, 6) :: (0, 9) :: (0, 10) :: (0, 11) :: (0, 12) :: (0, 13) :: (0, 14) :: (0, 15) :: (0, 16) :: (0, 17) :: []) dX11_init_10 gfX11_9 rfl k0 (by decide) (by decide +kernel) rfl (fun C T N h => by cases (ck11.1.symm.trans h); rfl) (by unfold nin; decide +kernel) rfl ?_
  refine Ev.aload_n (q := 14) dX11_init_13 rfl rfl ?_
  refine Ev.iconst (q := 15) dX11_init_14 ki_0 rfl ?_
  refine Ev.putI (q := 18) dX11_init_15 gfX11_13 rfl k0 (by decide : 0 < 2) rfl ?_
  refine Ev.aload_n (q := 19) dX11_init_18 rfl rfl ?_
  refine Ev.newO (q := 22) (n := 2) (l := [(2, 0), (2, 1), (2, 4), (2, 5), (2, 6), (2, 7)]) dX11_init_19 ck6 kkX11_17 kiX6 kzX6 k2 (fun j => ⟨fun z => absurd (f9 z) (by decide), fun _ => by (try simp (disch := omega) only [up_o]); exact hz0 2 (by omega) (by omega) j (by omega)⟩) (by decide) (fun y hy => by have h9 := isR_in k2 hy; rw [show (List.range (nfd 6)).filter (fun y => fty 6 y == 8) = [0, 1, 4, 5, 6, 7] by decide] at h9; have h8 : ∀ y ∈ ([0, 1, 4, 5, 6, 7] : List Nat), (2, y) ∈ ([(2, 0), (2, 1), (2, 4), (2, 5), (2, 6), (2, 7)] : List (Nat × Nat)) := (by decide); exact h8 y h9) (by decide) (by decide) rfl ?_
  show Ev Γ _ _ (210, 6895, 2, 908) _ 22 _ [rv 2, rv 0] (3, opS 3 ((2, 0) :: (2, 1) :: (2, 4) :: (2, 5) :: (2, 6) :: (2, 7) :: (0, 2) :: (0, 3) :: (0, 4) :: (0, 5) :: (0, 6) :: (0, 9) :: (0, 10) :: (0, 11) :: (0, 12) :: (0, 13) :: (0, 14) :: (0, 15) :: (0, 16) :: (0, 17) :: [])) _
  refine Ev.dup (q := 23) dX11_init_22 (fun z => by cases z) rfl ?_
  refine Ev.callIN (host := "AllPressed") (q := 26) (M' := MX6_init) (d' := d + 2) (mc' := 30) (ms' := 2719) (As := []) (rest := [rv 2, rv 0]) dX11_init_23 (List.mem_of_getElem? (i := 0) rfl) moX6_init miX6_init rfl rfl rfl (Nat.le_of_ble_eq_true rfl) (by omega) (Nat.le_of_ble_eq_true rfl) (by decide) (by decide) (i_X6 (d := d) (o := (0, 2) :: (0, 3) :: (0, 4) :: (0, 5) :: (0, 6) :: (0, 9) :: (0, 10) :: (0, 11) :: (0, 12) :: (0, 13) :: (0, 14) :: (0, 15) :: (0, 16) :: (0, 17) :: []) (fun x h1 h2 j h3 => by (try simp (disch := omega) only [up_o]); exact hz0 x (by omega) (by omega) j h3) (by (try simp (disch := omega) only [up_o]); exact h220) (by decide +kernel)) (fun v g' m' h => by rw [h.1]) rfl (fun v1 g1 m1 t1 h1 => ?_)
  obtain ⟨hg1, hm1⟩ := h1
  subst hg1
  refine Ev.psh0 (show v1.1 = 0 from t1) ?_
  clear t1
  obtain ⟨q22, q23, hq1⟩ := hm1
  have hz1 : ∀ x, 32 < x → x ≤ 210 → ∀ j, ¬ (x = 22 ∧ j = 0) → m1 x j = 0 := fun x h1 h2 j h3 => by rw [hq1 x (by omega)]; (try simp (disch := omega) only [up_o]); exact hz0 x (by omega) h2 j h3
  have hk1 : ∀ x, 210 < x → m1 x = m x := fun x h1 => by rw [hq1 x (by omega)]; funext j; (try simp (disch := omega) only [up_o])
  have hI1 : I11a m1 := ⟨by rw [hq1 0 (by omega)]; exact up_eq _ _ _ _, q22, q23⟩
  clear q22 q23
  show Ev Γ _ _ (210, 6895, 32, 3627) _ 26 _ [rv 2, rv 0] (33, opS 33 ((0, 2) :: (0, 3) :: (0, 4) :: (0, 5) :: (0, 6) :: (0, 9) :: (0, 10) :: (0, 11) :: (0, 12) :: (0, 13) :: (0, 14) :: (0, 15) :: (0, 16) :: (0, 17) :: [])) _
  refine Ev.putO (q := 29) (n := 33) (o := (0, 3) :: (0, 4) :: (0, 5) :: (0, 6) :: (0, 9) :: (0, 10) :: (0, 11) :: (0, 12) :: (0, 13) :: (0, 14) :: (0, 15) :: (0, 16) :: (0, 17) :: []) dX11_init_26 gfX11_20 rfl k0 (by decide) (by decide +kernel) rfl (fun C T N h => by cases (ck11.1.symm.trans h); rfl) (by unfold nin; decide +kernel) rfl ?_
  refine Ev.aload_n (q := 30) dX11_init_29 rfl rfl ?_
  refine Ev.newO (q := 33) (n := 33) (l := [(33, 4), (33, 5), (33, 6), (33, 7), (33, 8), (33, 9), (33, 10), (33, 11), (33, 12), (33, 13)]) dX11_init_30 ck1 kkX11_24 kiX1 kzX1 k33 (fun j => ⟨fun z => absurd (f9 z) (by decide), fun _ => by (try simp (disch := omega) only [up_o]); exact hz1 33 (by omega) (by omega) j (by omega)⟩) (by decide) (fun y hy => by have h9 := isR_in k33 hy; rw [show (List.range (nfd 1)).filter (fun y => fty 1 y == 8) = [4, 5, 6, 7, 8, 9, 10, 11, 12, 13] by decide] at h9; have h8 : ∀ y ∈ ([4, 5, 6, 7, 8, 9, 10, 11, 12, 13] : List Nat), (33, y) ∈ ([(33, 4), (33, 5), (33, 6), (33, 7), (33, 8), (33, 9), (33, 10), (33, 11), (33, 12), (33, 13)] : List (Nat × Nat)) := (by decide); exact h8 y h9) (by decide) (by decide) rfl ?_
  show Ev Γ _ _ (210, 6895, 33, 3641) _ 33 _ [rv 33, rv 0] (34, opS 34 ((33, 4) :: (33, 5) :: (33, 6) :: (33, 7) :: (33, 8) :: (33, 9) :: (33, 10) :: (33, 11) :: (33, 12) :: (33, 13) :: (0, 3) :: (0, 4) :: (0, 5) :: (0, 6) :: (0, 9) :: (0, 10) :: (0, 11) :: (0, 12) :: (0, 13) :: (0, 14) :: (0, 15) :: (0, 16) :: (0, 17) :: [])) _
  refine Ev.dup (q := 34) dX11_init_33 (fun z => by cases z) rfl ?_
  refine Ev.callIN (host := "AllPressed") (q := 37) (M' := MX1_init) (d' := d + 2) (mc' := 10) (ms' := 767) (As := []) (rest := [rv 33, rv 0]) dX11_init_34 (List.mem_of_getElem? (i := 5) rfl) moX1_init miX1_init rfl rfl rfl (Nat.le_of_ble_eq_true rfl) (by omega) (Nat.le_of_ble_eq_true rfl) (by decide) (by decide) (i_X1 (d := d + 1) (o := (0, 3) :: (0, 4) :: (0, 5) :: (0, 6) :: (0, 9) :: (0, 10) :: (0, 11) :: (0, 12) :: (0, 13) :: (0, 14) :: (0, 15) :: (0, 16) :: (0, 17) :: []) 33 (by decide) (fun x h1 h2 j => by (try simp (disch := omega) only [up_o]); exact hz1 x (by omega) (by omega) j (by omega)) (by decide +kernel)) (fun v g' m' h => by rw [h.1]) rfl (fun v2 g2 m2 t2 h2 => ?_)
  obtain ⟨hg2, hm2⟩ := h2
  subst hg2
  refine Ev.psh0 (show v2.1 = 0 from t2) ?_
  clear t2
  have hz2 : ∀ x, 43 < x → x ≤ 210 → ∀ j, ¬ (x = 22 ∧ j = 0) → m2 x j = 0 := fun x h1 h2 j h3 => by rw [hm2]; (try simp (disch := omega) only [up_o]); exact hz1 x (by omega) h2 j h3
  have hk2 : ∀ x, 210 < x → m2 x = m x := fun x h1 => by funext j; rw [hm2]; (try simp (disch := omega) only [up_o]); exact congrFun (hk1 x h1) j
  have hI2 : I11b m2 := ⟨hI1.keep (fun x hx => by rw [hm2]; funext j; (try simp (disch := omega) only [up_o])), by rw [hm2]; simp [up], by rw [hm2]; simp [up], by rw [hm2]; simp [up], by rw [hm2]; simp [up], fun j => by rw [hm2]; (try simp (disch := omega) only [up_o]); exact hz1 34 (by omega) (by omega) j (by omega)⟩
  show Ev Γ _ _ (210, 6895, 43, 4408) _ 37 _ [rv 33, rv 0] (44, opS 44 ((0, 3) :: (0, 4) :: (0, 5) :: (0, 6) :: (0, 9) :: (0, 10) :: (0, 11) :: (0, 12) :: (0, 13) :: (0, 14) :: (0, 15) :: (0, 16) :: (0, 17) :: [])) _
  refine Ev.putO (q := 40) (n := 44) (o := (0, 4) :: (0, 5) :: (0, 6) :: (0, 9) :: (0, 10) :: (0, 11) :: (0, 12) :: (0, 13) :: (0, 14) :: (0, 15) :: (0, 16) :: (0, 17) :: []) dX11_init_37 gfX11_27 rfl k0 (by decide) (by decide +kernel) rfl (fun C T N h => by cases (ck11.1.symm.trans h); rfl) (by unfold nin; decide +kernel) rfl ?_
  refine Ev.aload_n (q := 41) dX11_init_40 rfl rfl ?_
  refine Ev.newO (q := 44) (n := 44) (l := [(44, 0), (44, 1), (44, 2), (44, 3), (44, 4), (44, 5), (44, 6)]) dX11_init_41 ck4 kkX11_31 kiX4 kzX4 k44 (fun j => ⟨fun z => absurd (f9 z) (by decide), fun _ => by (try simp (disch := omega) only [up_o]); exact hz2 44 (by omega) (by omega) j (by omega)⟩) (by decide) (fun y hy => by have h9 := isR_in k44 hy; rw [show (List.range (nfd 4)).filter (fun y => fty 4 y == 8) = [0, 1, 2, 3, 4, 5, 6] by decide] at h9; have h8 : ∀ y ∈ ([0, 1, 2, 3, 4, 5, 6] : List Nat), (44, y) ∈ ([(44, 0), (44, 1), (44, 2), (44, 3), (44, 4), (44, 5), (44, 6)] : List (Nat × Nat)) := (by decide); exact h8 y h9) (by decide) (by decide) rfl ?_
  show Ev Γ _ _ (210, 6895, 44, 4415) _ 44 _ [rv 44, rv 0] (45, opS 45 ((44, 0) :: (44, 1) :: (44, 2) :: (44, 3) :: (44, 4) :: (44, 5) :: (44, 6) :: (0, 4) :: (0, 5) :: (0, 6) :: (0, 9) :: (0, 10) :: (0, 11) :: (0, 12) :: (0, 13) :: (0, 14) :: (0, 15) :: (0, 16) :: (0, 17) :: [])) _
  refine Ev.dup (q := 45) dX11_init_44 (fun z => by cases z) rfl ?_
  refine Ev.callIN (host := "AllPressed") (q := 48) (M' := MX4_init) (d' := d + 2) (mc' := 7) (ms' := 36) (As := []) (rest := [rv 44, rv 0]) dX11_init_45 (List.mem_of_getElem? (i := 6) rfl) moX4_init miX4_init rfl rfl rfl (Nat.le_of_ble_eq_true rfl) (by omega) (Nat.le_of_ble_eq_true rfl) (by decide) (by decide) (i_X4 (d := d + 1) (o := (0, 4) :: (0, 5) :: (0, 6) :: (0, 9) :: (0, 10) :: (0, 11) :: (0, 12) :: (0, 13) :: (0, 14) :: (0, 15) :: (0, 16) :: (0, 17) :: []) 44 (by decide) (fun x h1 h2 j => by (try simp (disch := omega) only [up_o]); exact hz2 x (by omega) (by omega) j (by omega)) (by decide +kernel)) (fun v g' m' h => by rw [h.1]) rfl (fun v3 g3 m3 t3 h3 => ?_)
  obtain ⟨hg3, hm3⟩ := h3
  subst hg3
  replace hm3 := hm3.symm
  subst hm3
  refine Ev.psh0 (show v3.1 = 0 from t3) ?_
  clear t3
  show Ev Γ _ _ (210, 6895, 51, 4451) _ 48 _ [rv 44, rv 0] (52, opS 52 ((0, 4) :: (0, 5) :: (0, 6) :: (0, 9) :: (0, 10) :: (0, 11) :: (0, 12) :: (0, 13) :: (0, 14) :: (0, 15) :: (0, 16) :: (0, 17) :: [])) _
  refine Ev.putO (q := 51) (n := 52) (o := (0, 5) :: (0, 6) :: (0, 9) :: (0, 10) :: (0, 11) :: (0, 12) :: (0, 13) :: (0, 14) :: (0, 15) :: (0, 16) :: (0, 17) :: []) dX11_init_48 gfX11_34 rfl k0 (by decide) (by decide +kernel) rfl (fun C T N h => by cases (ck11.1.symm.trans h); rfl) (by unfold nin; decide +kernel) rfl ?_
  refine Ev.aload_n (q := 52) dX11_init_51 rfl rfl ?_
  refine Ev.newO (q := 55) (n := 52) (l := [(52, 0), (52, 1), (52, 2), (52, 3), (52, 4), (52, 5), (52, 6)]) dX11_init_52 ck4 kkX11_31 kiX4 kzX4 k52 (fun j => ⟨fun z => absurd (f9 z) (by decide), fun _ => by (try simp (disch := omega) only [up_o]); exact hz2 52 (by omega) (by omega) j (by omega)⟩) (by decide) (fun y hy => by have h9 := isR_in k52 hy; rw [show (List.range (nfd 4)).filter (fun y => fty 4 y == 8) = [0, 1, 2, 3, 4, 5, 6] by decide] at h9; have h8 : ∀ y ∈ ([0, 1, 2, 3, 4, 5, 6] : List Nat), (52, y) ∈ ([(52, 0), (52, 1), (52, 2), (52, 3), (52, 4), (52, 5), (52, 6)] : List (Nat × Nat)) := (by decide); exact h8 y h9) (by decide) (by decide) rfl ?_
  show Ev Γ _ _ (210, 6895, 52, 4458) _ 55 _ [rv 52, rv 0] (53, opS 53 ((52, 0) :: (52, 1) :: (52, 2) :: (52, 3) :: (52, 4) :: (52, 5) :: (52, 6) :: (0, 5) :: (0, 6) :: (0, 9) :: (0, 10) :: (0, 11) :: (0, 12) :: (0, 13) :: (0, 14) :: (0, 15) :: (0, 16) :: (0, 17) :: [])) _
  refine Ev.dup (q := 56) dX11_init_55 (fun z => by cases z) rfl ?_
  refine Ev.callIN (host := "AllPressed") (q := 59) (M' := MX4_init) (d' := d + 2) (mc' := 7) (ms' := 36) (As := []) (rest := [rv 52, rv 0]) dX11_init_56 (List.mem_of_getElem? (i := 6) rfl) moX4_init miX4_init rfl rfl rfl (Nat.le_of_ble_eq_true rfl) (by omega) (Nat.le_of_ble_eq_true rfl) (by decide) (by decide) (i_X4 (d := d + 1) (o := (0, 5) :: (0, 6) :: (0, 9) :: (0, 10) :: (0, 11) :: (0, 12) :: (0, 13) :: (0, 14) :: (0, 15) :: (0, 16) :: (0, 17) :: []) 52 (by decide) (fun x h1 h2 j => by (try simp (disch := omega) only [up_o]); exact hz2 x (by omega) (by omega) j (by omega)) (by decide +kernel)) (fun v g' m' h => by rw [h.1]) rfl (fun v4 g4 m4 t4 h4 => ?_)
  obtain ⟨hg4, hm4⟩ := h4
  subst hg4
  replace hm4 := hm4.symm
  subst hm4
  refine Ev.psh0 (show v4.1 = 0 from t4) ?_
  clear t4
  show Ev Γ _ _ (210, 6895, 59, 4494) _ 59 _ [rv 52, rv 0] (60, opS 60 ((0, 5) :: (0, 6) :: (0, 9) :: (0, 10) :: (0, 11) :: (0, 12) :: (0, 13) :: (0, 14) :: (0, 15) :: (0, 16) :: (0, 17) :: [])) _
  refine Ev.putO (q := 62) (n := 60) (o := (0, 6) :: (0, 9) :: (0, 10) :: (0, 11) :: (0, 12) :: (0, 13) :: (0, 14) :: (0, 15) :: (0, 16) :: (0, 17) :: []) dX11_init_59 gfX11_38 rfl k0 (by decide) (by decide +kernel) rfl (fun C T N h => by cases (ck11.1.symm.trans h); rfl) (by unfold nin; decide +kernel) rfl ?_
  refine Ev.aload_n (q := 63) dX11_init_62 rfl rfl ?_
  refine Ev.bipush (q := 65) dX11_init_63 kb_11 rfl ?_
  refine Ev.newqO (q := 68) (n := 60) (l := [(60, 0), (60, 1), (60, 2), (60, 3), (60, 4), (60, 5), (60, 6), (60, 7), (60, 8), (60, 9), (60, 10)]) dX11_init_65 kkX11_31 (fun U h => h.2.1) k60 (by decide) rfl rfl (by decide) (by decide) (fun y hy => by have h9 := isR_row k60 (by decide) hy; have h8 : ∀ y, y < 11 → (60, y) ∈ [(60, 0), (60, 1), (60, 2), (60, 3), (60, 4), (60, 5), (60, 6), (60, 7), (60, 8), (60, 9), (60, 10)] := (by decide); exact h8 y h9) (by decide) (by decide) rfl ?_
  show Ev Γ _ _ (210, 6895, 60, 4505) _ 68 _ [rv 60, rv 0] (61, opS 61 ((60, 0) :: (60, 1) :: (60, 2) :: (60, 3) :: (60, 4) :: (60, 5) :: (60, 6) :: (60, 7) :: (60, 8) :: (60, 9) :: (60, 10) :: (0, 6) :: (0, 9) :: (0, 10) :: (0, 11) :: (0, 12) :: (0, 13) :: (0, 14) :: (0, 15) :: (0, 16) :: (0, 17) :: [])) _
  refine Ev.cg (S' := opS 61 ((0, 6) :: (60, 0) :: (60, 1) :: (60, 2) :: (60, 3) :: (60, 4) :: (60, 5) :: (60, 6) :: (60, 7) :: (60, 8) :: (60, 9) :: (60, 10) :: (0, 9) :: (0, 10) :: (0, 11) :: (0, 12) :: (0, 13) :: (0, 14) :: (0, 15) :: (0, 16) :: (0, 17) :: [])) (eqS_perm (by decide +kernel) (by decide +kernel)) ?_
  refine Ev.putO (q := 71) (n := 61) (o := (60, 0) :: (60, 1) :: (60, 2) :: (60, 3) :: (60, 4) :: (60, 5) :: (60, 6) :: (60, 7) :: (60, 8) :: (60, 9) :: (60, 10) :: (0, 9) :: (0, 10) :: (0, 11) :: (0, 12) :: (0, 13) :: (0, 14) :: (0, 15) :: (0, 16) :: (0, 17) :: []) dX11_init_68 gfX11_41 rfl k0 (by decide) (by decide +kernel) rfl (fun C T N h => by cases (ck11.1.symm.trans h); rfl) (by unfold nin; decide +kernel) rfl ?_
  refine Ev.aload_n (q := 72) dX11_init_71 rfl rfl ?_
  refine Ev.iconst (q := 73) dX11_init_72 ki_0 rfl ?_
  refine Ev.putI (q := 76) dX11_init_73 gfX11_45 rfl k0 (by decide : 0 < 61) rfl ?_
  refine Ev.aload_n (q := 77) dX11_init_76 rfl rfl ?_
  refine Ev.iconst (q := 78) dX11_init_77 ki_0 rfl ?_
  refine Ev.putI (q := 81) dX11_init_78 gfX11_48 rfl k0 (by decide : 0 < 61) rfl ?_
  refine Ev.aload_n (q := 82) dX11_init_81 rfl rfl ?_
  refine Ev.iconst (q := 83) dX11_init_82 ki_4 rfl ?_
  refine Ev.newqO (q := 86) (n := 61) (l := [(61, 0), (61, 1), (61, 2), (61, 3)]) dX11_init_83 kkX11_51 (fun U h => h.2.2.1) k61 (by decide) rfl rfl (by decide) (by decide) (fun y hy => by have h9 := isR_row k61 (by decide) hy; have h8 : ∀ y, y < 4 → (61, y) ∈ [(61, 0), (61, 1), (61, 2), (61, 3)] := (by decide); exact h8 y h9) (by decide) (by decide) rfl ?_
  show Ev Γ _ _ (210, 6895, 61, 4509) _ 86 _ [rv 61, rv 0] (62, opS 62 ((61, 0) :: (61, 1) :: (61, 2) :: (61, 3) :: (60, 0) :: (60, 1) :: (60, 2) :: (60, 3) :: (60, 4) :: (60, 5) :: (60, 6) :: (60, 7) :: (60, 8) :: (60, 9) :: (60, 10) :: (0, 9) :: (0, 10) :: (0, 11) :: (0, 12) :: (0, 13) :: (0, 14) :: (0, 15) :: (0, 16) :: (0, 17) :: [])) _
  refine Ev.cg (S' := opS 62 ((0, 9) :: (61, 0) :: (61, 1) :: (61, 2) :: (61, 3) :: (60, 0) :: (60, 1) :: (60, 2) :: (60, 3) :: (60, 4) :: (60, 5) :: (60, 6) :: (60, 7) :: (60, 8) :: (60, 9) :: (60, 10) :: (0, 10) :: (0, 11) :: (0, 12) :: (0, 13) :: (0, 14) :: (0, 15) :: (0, 16) :: (0, 17) :: [])) (eqS_perm (by decide +kernel) (by decide +kernel)) ?_
  refine Ev.putO (q := 89) (n := 62) (o := (61, 0) :: (61, 1) :: (61, 2) :: (61, 3) :: (60, 0) :: (60, 1) :: (60, 2) :: (60, 3) :: (60, 4) :: (60, 5) :: (60, 6) :: (60, 7) :: (60, 8) :: (60, 9) :: (60, 10) :: (0, 10) :: (0, 11) :: (0, 12) :: (0, 13) :: (0, 14) :: (0, 15) :: (0, 16) :: (0, 17) :: []) dX11_init_86 gfX11_53 rfl k0 (by decide) (by decide +kernel) rfl (fun C T N h => by cases (ck11.1.symm.trans h); rfl) (by unfold nin; decide +kernel) rfl ?_
  refine Ev.aload_n (q := 90) dX11_init_89 rfl rfl ?_
  refine Ev.iconst (q := 91) dX11_init_90 ki_2 rfl ?_
  refine Ev.newqO (q := 94) (n := 62) (l := [(62, 0), (62, 1)]) dX11_init_91 kkX11_24 (fun U h => h.2.2.2) k62 (by decide) rfl rfl (by decide) (by decide) (fun y hy => by have h9 := isR_row k62 (by decide) hy; have h8 : ∀ y, y < 2 → (62, y) ∈ [(62, 0), (62, 1)] := (by decide); exact h8 y h9) (by decide) (by decide) rfl ?_
  show Ev Γ _ _ (210, 6895, 62, 4511) _ 94 _ [rv 62, rv 0] (63, opS 63 ((62, 0) :: (62, 1) :: (61, 0) :: (61, 1) :: (61, 2) :: (61, 3) :: (60, 0) :: (60, 1) :: (60, 2) :: (60, 3) :: (60, 4) :: (60, 5) :: (60, 6) :: (60, 7) :: (60, 8) :: (60, 9) :: (60, 10) :: (0, 10) :: (0, 11) :: (0, 12) :: (0, 13) :: (0, 14) :: (0, 15) :: (0, 16) :: (0, 17) :: [])) _
  refine Ev.cg (S' := opS 63 ((0, 10) :: (62, 0) :: (62, 1) :: (61, 0) :: (61, 1) :: (61, 2) :: (61, 3) :: (60, 0) :: (60, 1) :: (60, 2) :: (60, 3) :: (60, 4) :: (60, 5) :: (60, 6) :: (60, 7) :: (60, 8) :: (60, 9) :: (60, 10) :: (0, 11) :: (0, 12) :: (0, 13) :: (0, 14) :: (0, 15) :: (0, 16) :: (0, 17) :: [])) (eqS_perm (by decide +kernel) (by decide +kernel)) ?_
  refine Ev.putO (q := 97) (n := 63) (o := (62, 0) :: (62, 1) :: (61, 0) :: (61, 1) :: (61, 2) :: (61, 3) :: (60, 0) :: (60, 1) :: (60, 2) :: (60, 3) :: (60, 4) :: (60, 5) :: (60, 6) :: (60, 7) :: (60, 8) :: (60, 9) :: (60, 10) :: (0, 11) :: (0, 12) :: (0, 13) :: (0, 14) :: (0, 15) :: (0, 16) :: (0, 17) :: []) dX11_init_94 gfX11_57 rfl k0 (by decide) (by decide +kernel) rfl (fun C T N h => by cases (ck11.1.symm.trans h); rfl) (by unfold nin; decide +kernel) rfl ?_
  refine Ev.aload_n (q := 98) dX11_init_97 rfl rfl ?_
  refine Ev.iconst (q := 99) dX11_init_98 ki_2 rfl ?_
  refine Ev.newqO (q := 102) (n := 63) (l := [(63, 0), (63, 1)]) dX11_init_99 kkX11_31 (fun U h => h.2.1) k63 (by decide) rfl rfl (by decide) (by decide) (fun y hy => by have h9 := isR_row k63 (by decide) hy; have h8 : ∀ y, y < 2 → (63, y) ∈ [(63, 0), (63, 1)] := (by decide); exact h8 y h9) (by decide) (by decide) rfl ?_
  show Ev Γ _ _ (210, 6895, 63, 4513) _ 102 _ [rv 63, rv 0] (64, opS 64 ((63, 0) :: (63, 1) :: (62, 0) :: (62, 1) :: (61, 0) :: (61, 1) :: (61, 2) :: (61, 3) :: (60, 0) :: (60, 1) :: (60, 2) :: (60, 3) :: (60, 4) :: (60, 5) :: (60, 6) :: (60, 7) :: (60, 8) :: (60, 9) :: (60, 10) :: (0, 11) :: (0, 12) :: (0, 13) :: (0, 14) :: (0, 15) :: (0, 16) :: (0, 17) :: [])) _
  refine Ev.cg (S' := opS 64 ((0, 11) :: (63, 0) :: (63, 1) :: (62, 0) :: (62, 1) :: (61, 0) :: (61, 1) :: (61, 2) :: (61, 3) :: (60, 0) :: (60, 1) :: (60, 2) :: (60, 3) :: (60, 4) :: (60, 5) :: (60, 6) :: (60, 7) :: (60, 8) :: (60, 9) :: (60, 10) :: (0, 12) :: (0, 13) :: (0, 14) :: (0, 15) :: (0, 16) :: (0, 17) :: [])) (eqS_perm (by decide +kernel) (by decide +kernel)) ?_
  refine Ev.putO (q := 105) (n := 64) (o := (63, 0) :: (63, 1) :: (62, 0) :: (62, 1) :: (61, 0) :: (61, 1) :: (61, 2) :: (61, 3) :: (60, 0) :: (60, 1) :: (60, 2) :: (60, 3) :: (60, 4) :: (60, 5) :: (60, 6) :: (60, 7) :: (60, 8) :: (60, 9) :: (60, 10) :: (0, 12) :: (0, 13) :: (0, 14) :: (0, 15) :: (0, 16) :: (0, 17) :: []) dX11_init_102 gfX11_61 rfl k0 (by decide) (by decide +kernel) rfl (fun C T N h => by cases (ck11.1.symm.trans h); rfl) (by unfold nin; decide +kernel) rfl ?_
  refine Ev.aload_n (q := 106) dX11_init_105 rfl rfl ?_
  refine Ev.iconst (q := 107) dX11_init_106 ki_2 rfl ?_
  refine Ev.newaO (q := 109) (n := 64) dX11_init_107 ka_boolean k64 (by decide) rfl rfl (by decide) (fun j => by (try simp (disch := omega) only [up_o]); exact hz2 64 (by omega) (by omega) j (by omega)) (by decide) (by decide) rfl ?_
  show Ev Γ _ _ (210, 6895, 64, 4515) _ 109 _ [rv 64, rv 0] (65, opS 65 ((63, 0) :: (63, 1) :: (62, 0) :: (62, 1) :: (61, 0) :: (61, 1) :: (61, 2) :: (61, 3) :: (60, 0) :: (60, 1) :: (60, 2) :: (60, 3) :: (60, 4) :: (60, 5) :: (60, 6) :: (60, 7) :: (60, 8) :: (60, 9) :: (60, 10) :: (0, 12) :: (0, 13) :: (0, 14) :: (0, 15) :: (0, 16) :: (0, 17) :: [])) _
  refine Ev.cg (S' := opS 65 ((0, 12) :: (63, 0) :: (63, 1) :: (62, 0) :: (62, 1) :: (61, 0) :: (61, 1) :: (61, 2) :: (61, 3) :: (60, 0) :: (60, 1) :: (60, 2) :: (60, 3) :: (60, 4) :: (60, 5) :: (60, 6) :: (60, 7) :: (60, 8) :: (60, 9) :: (60, 10) :: (0, 13) :: (0, 14) :: (0, 15) :: (0, 16) :: (0, 17) :: [])) (eqS_perm (by decide +kernel) (by decide +kernel)) ?_
  refine Ev.putO (q := 112) (n := 65) (o := (63, 0) :: (63, 1) :: (62, 0) :: (62, 1) :: (61, 0) :: (61, 1) :: (61, 2) :: (61, 3) :: (60, 0) :: (60, 1) :: (60, 2) :: (60, 3) :: (60, 4) :: (60, 5) :: (60, 6) :: (60, 7) :: (60, 8) :: (60, 9) :: (60, 10) :: (0, 13) :: (0, 14) :: (0, 15) :: (0, 16) :: (0, 17) :: []) dX11_init_109 gfX11_64 rfl k0 (by decide) (by decide +kernel) rfl (fun C T N h => by cases (ck11.1.symm.trans h); rfl) (by unfold nin; decide +kernel) rfl ?_
  refine Ev.aload_n (q := 113) dX11_init_112 rfl rfl ?_
  refine Ev.newO (q := 116) (n := 65) (l := [(65, 0)]) dX11_init_113 ck10 kkX11_68 kiX10 kzX10 k65 (fun j => ⟨fun z => absurd (f9 z) (by decide), fun _ => by (try simp (disch := omega) only [up_o]); exact hz2 65 (by omega) (by omega) j (by omega)⟩) (by decide) (fun y hy => by have h9 := isR_in k65 hy; rw [show (List.range (nfd 10)).filter (fun y => fty 10 y == 8) = [0] by decide] at h9; have h8 : ∀ y ∈ ([0] : List Nat), (65, y) ∈ ([(65, 0)] : List (Nat × Nat)) := (by decide); exact h8 y h9) (by decide) (by decide) rfl ?_
  show Ev Γ _ _ (210, 6895, 65, 4522) _ 116 _ [rv 65, rv 0] (66, opS 66 ((65, 0) :: (63, 0) :: (63, 1) :: (62, 0) :: (62, 1) :: (61, 0) :: (61, 1) :: (61, 2) :: (61, 3) :: (60, 0) :: (60, 1) :: (60, 2) :: (60, 3) :: (60, 4) :: (60, 5) :: (60, 6) :: (60, 7) :: (60, 8) :: (60, 9) :: (60, 10) :: (0, 13) :: (0, 14) :: (0, 15) :: (0, 16) :: (0, 17) :: [])) _
  refine Ev.dup (q := 117) dX11_init_116 (fun z => by cases z) rfl ?_
  refine Ev.aload_n (q := 118) dX11_init_117 rfl rfl ?_
  refine Ev.getR (q := 121) (r := 33) dX11_init_118 gfX11_27 rfl k0 (by decide) ((opS_v 66 ((65, 0) :: (63, 0) :: (63, 1) :: (62, 0) :: (62, 1) :: (61, 0) :: (61, 1) :: (61, 2) :: (61, 3) :: (60, 0) :: (60, 1) :: (60, 2) :: (60, 3) :: (60, 4) :: (60, 5) :: (60, 6) :: (60, 7) :: (60, 8) :: (60, 9) :: (60, 10) :: (0, 13) :: (0, 14) :: (0, 15) :: (0, 16) :: (0, 17) :: []) 0 3).mpr ⟨by decide, by decide +kernel⟩) (by decide +kernel) rfl ?_
  refine Ev.callI (q := 124) (M' := MX10_init) (d' := d + 2) (mc' := 0) (ms' := 0) (As := [rv 33]) (rest := [rv 65, rv 0]) dX11_init_121 mlX11_70 moX10_init miX10_init rfl rfl rfl (Nat.le_of_ble_eq_true rfl) (by omega) (Nat.le_of_ble_eq_true rfl) (by decide) (by decide) (i_X10 (d := d + 1) (o := (63, 0) :: (63, 1) :: (62, 0) :: (62, 1) :: (61, 0) :: (61, 1) :: (61, 2) :: (61, 3) :: (60, 0) :: (60, 1) :: (60, 2) :: (60, 3) :: (60, 4) :: (60, 5) :: (60, 6) :: (60, 7) :: (60, 8) :: (60, 9) :: (60, 10) :: (0, 13) :: (0, 14) :: (0, 15) :: (0, 16) :: (0, 17) :: []) 65 (by decide) (fun x h1 h2 j => absurd h1 (by omega)) (by decide +kernel)) (fun v g' m' h => by rw [h.1]) rfl (fun v5 g5 m5 t5 h5 => ?_)
  obtain ⟨hg5, hm5⟩ := h5
  subst hg5
  refine Ev.psh0 (show v5.1 = 0 from t5) ?_
  clear t5
  have hz5 : ∀ x, 65 < x → x ≤ 210 → ∀ j, ¬ (x = 22 ∧ j = 0) → m5 x j = 0 := fun x h1 h2 j h3 => by rw [hm5]; (try simp (disch := omega) only [up_o]); exact hz2 x (by omega) h2 j h3
  have hk5 : ∀ x, 210 < x → m5 x = m x := fun x h1 => by funext j; rw [hm5]; (try simp (disch := omega) only [up_o]); exact congrFun (hk2 x h1) j
  have hI5 : I11c m5 := ⟨hI2.keep (fun x hx h0 => by rw [hm5]; funext j; (try simp (disch := omega) only [up_o])) (by rw [hm5]; simp [up]), by rw [hm5]; simp [up], by rw [hm5]; simp [up], fun j => by rw [hm5]; (try simp (disch := omega) only [up_o]); exact hz2 64 (by omega) (by omega) j (by omega)⟩
  have hT5 : T11 0 m5 := fun i hi => absurd hi (by omega)
  show Ev Γ _ _ (210, 6895, 65, 4522) _ 124 _ [rv 65, rv 0] (66, opS 66 ((63, 0) :: (63, 1) :: (62, 0) :: (62, 1) :: (61, 0) :: (61, 1) :: (61, 2) :: (61, 3) :: (60, 0) :: (60, 1) :: (60, 2) :: (60, 3) :: (60, 4) :: (60, 5) :: (60, 6) :: (60, 7) :: (60, 8) :: (60, 9) :: (60, 10) :: (0, 13) :: (0, 14) :: (0, 15) :: (0, 16) :: (0, 17) :: [])) _
  refine Ev.cg (S' := opS 66 ((0, 13) :: (63, 0) :: (63, 1) :: (62, 0) :: (62, 1) :: (61, 0) :: (61, 1) :: (61, 2) :: (61, 3) :: (60, 0) :: (60, 1) :: (60, 2) :: (60, 3) :: (60, 4) :: (60, 5) :: (60, 6) :: (60, 7) :: (60, 8) :: (60, 9) :: (60, 10) :: (0, 14) :: (0, 15) :: (0, 16) :: (0, 17) :: [])) (eqS_perm (by decide +kernel) (by decide +kernel)) ?_
  refine Ev.putO (q := 127) (n := 66) (o := (63, 0) :: (63, 1) :: (62, 0) :: (62, 1) :: (61, 0) :: (61, 1) :: (61, 2) :: (61, 3) :: (60, 0) :: (60, 1) :: (60, 2) :: (60, 3) :: (60, 4) :: (60, 5) :: (60, 6) :: (60, 7) :: (60, 8) :: (60, 9) :: (60, 10) :: (0, 14) :: (0, 15) :: (0, 16) :: (0, 17) :: []) dX11_init_124 gfX11_73 rfl k0 (by decide) (by decide +kernel) rfl (fun C T N h => by cases (ck11.1.symm.trans h); rfl) (by unfold nin; decide +kernel) rfl ?_
  refine Ev.aload_n (q := 128) dX11_init_127 rfl rfl ?_
  refine Ev.newO (q := 131) (n := 66) (l := [(66, 0), (66, 1)]) dX11_init_128 ck0 kkX11_77 kiX0 kzX0 k66 (fun j => ⟨fun z => absurd (f9 z) (by decide), fun _ => by (try simp (disch := omega) only [up_o]); exact hz5 66 (by omega) (by omega) j (by omega)⟩) (by decide) (fun y hy => by have h9 := isR_in k66 hy; rw [show (List.range (nfd 0)).filter (fun y => fty 0 y == 8) = [0, 1] by decide] at h9; have h8 : ∀ y ∈ ([0, 1] : List Nat), (66, y) ∈ ([(66, 0), (66, 1)] : List (Nat × Nat)) := (by decide); exact h8 y h9) (by decide) (by decide) rfl ?_
  show Ev Γ _ _ (210, 6895, 66, 4526) _ 131 _ [rv 66, rv 0] (67, opS 67 ((66, 0) :: (66, 1) :: (63, 0) :: (63, 1) :: (62, 0) :: (62, 1) :: (61, 0) :: (61, 1) :: (61, 2) :: (61, 3) :: (60, 0) :: (60, 1) :: (60, 2) :: (60, 3) :: (60, 4) :: (60, 5) :: (60, 6) :: (60, 7) :: (60, 8) :: (60, 9) :: (60, 10) :: (0, 14) :: (0, 15) :: (0, 16) :: (0, 17) :: [])) _
  refine Ev.dup (q := 132) dX11_init_131 (fun z => by cases z) rfl ?_
  refine Ev.aload_n (q := 133) dX11_init_132 rfl rfl ?_
  refine Ev.getR (q := 136) (r := 33) dX11_init_133 gfX11_27 rfl k0 (by decide) ((opS_v 67 ((66, 0) :: (66, 1) :: (63, 0) :: (63, 1) :: (62, 0) :: (62, 1) :: (61, 0) :: (61, 1) :: (61, 2) :: (61, 3) :: (60, 0) :: (60, 1) :: (60, 2) :: (60, 3) :: (60, 4) :: (60, 5) :: (60, 6) :: (60, 7) :: (60, 8) :: (60, 9) :: (60, 10) :: (0, 14) :: (0, 15) :: (0, 16) :: (0, 17) :: []) 0 3).mpr ⟨by decide, by decide +kernel⟩) (by decide +kernel) rfl ?_
  refine Ev.callI (q := 139) (M' := MX0_init) (d' := d + 2) (mc' := 1) (ms' := 7) (As := [rv 33]) (rest := [rv 66, rv 0]) dX11_init_136 mlX11_79 moX0_init miX0_init rfl rfl rfl (Nat.le_of_ble_eq_true rfl) (by omega) (Nat.le_of_ble_eq_true rfl) (by decide) (by decide) (i_X0 (d := d) (o := (63, 0) :: (63, 1) :: (62, 0) :: (62, 1) :: (61, 0) :: (61, 1) :: (61, 2) :: (61, 3) :: (60, 0) :: (60, 1) :: (60, 2) :: (60, 3) :: (60, 4) :: (60, 5) :: (60, 6) :: (60, 7) :: (60, 8) :: (60, 9) :: (60, 10) :: (0, 14) :: (0, 15) :: (0, 16) :: (0, 17) :: []) (fun x h1 h2 j => by (try simp (disch := omega) only [up_o]); exact hz5 x (by omega) (by omega) j (by omega)) (by decide +kernel)) (fun v g' m' h => by rw [h.1]) rfl (fun v6 g6 m6 t6 h6 => ?_)
  obtain ⟨hg6, hm6⟩ := h6
  subst hg6
  refine Ev.psh0 (show v6.1 = 0 from t6) ?_
  clear t6
  have hz6 : ∀ x, 67 < x → x ≤ 210 → ∀ j, ¬ (x = 22 ∧ j = 0) → m6 x j = 0 := fun x h1 h2 j h3 => by rw [hm6]; (try simp (disch := omega) only [up_o]); exact hz5 x (by omega) h2 j h3
  have hk6 : ∀ x, 210 < x → m6 x = m x := fun x h1 => by funext j; rw [hm6]; (try simp (disch := omega) only [up_o]); exact congrFun (hk5 x h1) j
  have hl6 : ∀ x, x < 66 → m6 x = m5 x := fun x hx => by rw [hm6]; funext j; (try simp (disch := omega) only [up_o])
  have hI6 : I11c m6 := hI5.keep (fun x hx => hl6 x (by omega))
  have hT6 : T11 0 m6 := fun i hi => absurd hi (by omega)
  show Ev Γ _ _ (210, 6895, 67, 4533) _ 139 _ [rv 66, rv 0] (68, opS 68 ((63, 0) :: (63, 1) :: (62, 0) :: (62, 1) :: (61, 0) :: (61, 1) :: (61, 2) :: (61, 3) :: (60, 0) :: (60, 1) :: (60, 2) :: (60, 3) :: (60, 4) :: (60, 5) :: (60, 6) :: (60, 7) :: (60, 8) :: (60, 9) :: (60, 10) :: (0, 14) :: (0, 15) :: (0, 16) :: (0, 17) :: [])) _
  refine Ev.cg (S' := opS 68 ((0, 14) :: (63, 0) :: (63, 1) :: (62, 0) :: (62, 1) :: (61, 0) :: (61, 1) :: (61, 2) :: (61, 3) :: (60, 0) :: (60, 1) :: (60, 2) :: (60, 3) :: (60, 4) :: (60, 5) :: (60, 6) :: (60, 7) :: (60, 8) :: (60, 9) :: (60, 10) :: (0, 15) :: (0, 16) :: (0, 17) :: [])) (eqS_perm (by decide +kernel) (by decide +kernel)) ?_
  refine Ev.putO (q := 142) (n := 68) (o := (63, 0) :: (63, 1) :: (62, 0) :: (62, 1) :: (61, 0) :: (61, 1) :: (61, 2) :: (61, 3) :: (60, 0) :: (60, 1) :: (60, 2) :: (60, 3) :: (60, 4) :: (60, 5) :: (60, 6) :: (60, 7) :: (60, 8) :: (60, 9) :: (60, 10) :: (0, 15) :: (0, 16) :: (0, 17) :: []) dX11_init_139 gfX11_80 rfl k0 (by decide) (by decide +kernel) rfl (fun C T N h => by cases (ck11.1.symm.trans h); rfl) (by unfold nin; decide +kernel) rfl ?_
  refine Ev.aload_n (q := 143) dX11_init_142 rfl rfl ?_
  refine Ev.newO (q := 146) (n := 68) (l := [(68, 3), (68, 4), (68, 0), (68, 1), (68, 2)]) dX11_init_143 ck3 kkX11_84 kiX3 kzX3 k68 (fun j => ⟨fun z => absurd (f9 z) (by decide), fun _ => by (try simp (disch := omega) only [up_o]); exact hz6 68 (by omega) (by omega) j (by omega)⟩) (by decide) (fun y hy => by have h9 := isR_in k68 hy; rw [show (List.range (nfd 3)).filter (fun y => fty 3 y == 8) = [0, 1, 2, 3, 4] by decide] at h9; have h8 : ∀ y ∈ ([0, 1, 2, 3, 4] : List Nat), (68, y) ∈ ([(68, 3), (68, 4), (68, 0), (68, 1), (68, 2)] : List (Nat × Nat)) := (by decide); exact h8 y h9) (by decide) (by decide) rfl ?_
  show Ev Γ _ _ (210, 6895, 68, 4542) _ 146 _ [rv 68, rv 0] (69, opS 69 ((68, 3) :: (68, 4) :: (68, 0) :: (68, 1) :: (68, 2) :: (63, 0) :: (63, 1) :: (62, 0) :: (62, 1) :: (61, 0) :: (61, 1) :: (61, 2) :: (61, 3) :: (60, 0) :: (60, 1) :: (60, 2) :: (60, 3) :: (60, 4) :: (60, 5) :: (60, 6) :: (60, 7) :: (60, 8) :: (60, 9) :: (60, 10) :: (0, 15) :: (0, 16) :: (0, 17) :: [])) _
  refine Ev.dup (q := 147) dX11_init_146 (fun z => by cases z) rfl ?_
  refine Ev.aload_n (q := 148) dX11_init_147 rfl rfl ?_
  refine Ev.getR (q := 151) (r := 33) dX11_init_148 gfX11_27 rfl k0 (by decide) ((opS_v 69 ((68, 3) :: (68, 4) :: (68, 0) :: (68, 1) :: (68, 2) :: (63, 0) :: (63, 1) :: (62, 0) :: (62, 1) :: (61, 0) :: (61, 1) :: (61, 2) :: (61, 3) :: (60, 0) :: (60, 1) :: (60, 2) :: (60, 3) :: (60, 4) :: (60, 5) :: (60, 6) :: (60, 7) :: (60, 8) :: (60, 9) :: (60, 10) :: (0, 15) :: (0, 16) :: (0, 17) :: []) 0 3).mpr ⟨by decide, by decide +kernel⟩) (by decide +kernel) rfl ?_
  refine Ev.aload_n (q := 152) dX11_init_151 rfl rfl ?_
  refine Ev.getR (q := 155) (r := 44) dX11_init_152 gfX11_34 rfl k0 (by decide) ((opS_v 69 ((68, 3) :: (68, 4) :: (68, 0) :: (68, 1) :: (68, 2) :: (63, 0) :: (63, 1) :: (62, 0) :: (62, 1) :: (61, 0) :: (61, 1) :: (61, 2) :: (61, 3) :: (60, 0) :: (60, 1) :: (60, 2) :: (60, 3) :: (60, 4) :: (60, 5) :: (60, 6) :: (60, 7) :: (60, 8) :: (60, 9) :: (60, 10) :: (0, 15) :: (0, 16) :: (0, 17) :: []) 0 4).mpr ⟨by decide, by decide +kernel⟩) (by decide +kernel) rfl ?_
  refine Ev.callI (q := 158) (M' := MX3_init) (d' := d + 2) (mc' := 3) (ms' := 23) (As := [rv 33, rv 44]) (rest := [rv 68, rv 0]) dX11_init_155 mlX11_86 moX3_init miX3_init rfl rfl rfl (Nat.le_of_ble_eq_true rfl) (by omega) (Nat.le_of_ble_eq_true rfl) (by decide) (by decide) (i_X3 (d := d) (o := (63, 0) :: (63, 1) :: (62, 0) :: (62, 1) :: (61, 0) :: (61, 1) :: (61, 2) :: (61, 3) :: (60, 0) :: (60, 1) :: (60, 2) :: (60, 3) :: (60, 4) :: (60, 5) :: (60, 6) :: (60, 7) :: (60, 8) :: (60, 9) :: (60, 10) :: (0, 15) :: (0, 16) :: (0, 17) :: []) (fun x h1 h2 j => by (try simp (disch := omega) only [up_o]); exact hz6 x (by omega) (by omega) j (by omega)) (by decide +kernel)) (fun v g' m' h => by rw [h.1]) rfl (fun v7 g7 m7 t7 h7 => ?_)
  obtain ⟨hg7, hm7⟩ := h7
  subst hg7
  refine Ev.psh0 (show v7.1 = 0 from t7) ?_
  clear t7
  have hz7 : ∀ x, 71 < x → x ≤ 210 → ∀ j, ¬ (x = 22 ∧ j = 0) → m7 x j = 0 := fun x h1 h2 j h3 => by rw [hm7]; (try simp (disch := omega) only [up_o]); exact hz6 x (by omega) h2 j h3
  have hk7 : ∀ x, 210 < x → m7 x = m x := fun x h1 => by funext j; rw [hm7]; (try simp (disch := omega) only [up_o]); exact congrFun (hk6 x h1) j
  have hl7 : ∀ x, x < 68 → m7 x = m6 x := fun x hx => by rw [hm7]; funext j; (try simp (disch := omega) only [up_o])
  have hI7 : I11c m7 := hI6.keep (fun x hx => hl7 x (by omega))
  have hT7 : T11 0 m7 := fun i hi => absurd hi (by omega)
  show Ev Γ _ _ (210, 6895, 71, 4565) _ 158 _ [rv 68, rv 0] (72, opS 72 ((63, 0) :: (63, 1) :: (62, 0) :: (62, 1) :: (61, 0) :: (61, 1) :: (61, 2) :: (61, 3) :: (60, 0) :: (60, 1) :: (60, 2) :: (60, 3) :: (60, 4) :: (60, 5) :: (60, 6) :: (60, 7) :: (60, 8) :: (60, 9) :: (60, 10) :: (0, 15) :: (0, 16) :: (0, 17) :: [])) _
  refine Ev.cg (S' := opS 72 ((0, 15) :: (63, 0) :: (63, 1) :: (62, 0) :: (62, 1) :: (61, 0) :: (61, 1) :: (61, 2) :: (61, 3) :: (60, 0) :: (60, 1) :: (60, 2) :: (60, 3) :: (60, 4) :: (60, 5) :: (60, 6) :: (60, 7) :: (60, 8) :: (60, 9) :: (60, 10) :: (0, 16) :: (0, 17) :: [])) (eqS_perm (by decide +kernel) (by decide +kernel)) ?_
  refine Ev.putO (q := 161) (n := 72) (o := (63, 0) :: (63, 1) :: (62, 0) :: (62, 1) :: (61, 0) :: (61, 1) :: (61, 2) :: (61, 3) :: (60, 0) :: (60, 1) :: (60, 2) :: (60, 3) :: (60, 4) :: (60, 5) :: (60, 6) :: (60, 7) :: (60, 8) :: (60, 9) :: (60, 10) :: (0, 16) :: (0, 17) :: []) dX11_init_158 gfX11_89 rfl k0 (by decide) (by decide +kernel) rfl (fun C T N h => by cases (ck11.1.symm.trans h); rfl) (by unfold nin; decide +kernel) rfl ?_
  refine Ev.aload_n (q := 162) dX11_init_161 rfl rfl ?_
  refine Ev.newO (q := 165) (n := 72) (l := [(72, 0), (72, 1), (72, 2)]) dX11_init_162 ck5 kkX11_93 kiX5 kzX5 k72 (fun j => ⟨fun z => absurd (f9 z) (by decide), fun _ => by (try simp (disch := omega) only [up_o]); exact hz7 72 (by omega) (by omega) j (by omega)⟩) (by decide) (fun y hy => by have h9 := isR_in k72 hy; rw [show (List.range (nfd 5)).filter (fun y => fty 5 y == 8) = [0, 1, 2] by decide] at h9; have h8 : ∀ y ∈ ([0, 1, 2] : List Nat), (72, y) ∈ ([(72, 0), (72, 1), (72, 2)] : List (Nat × Nat)) := (by decide); exact h8 y h9) (by decide) (by decide) rfl ?_
  show Ev Γ _ _ (210, 6895, 72, 4570) _ 165 _ [rv 72, rv 0] (73, opS 73 ((72, 0) :: (72, 1) :: (72, 2) :: (63, 0) :: (63, 1) :: (62, 0) :: (62, 1) :: (61, 0) :: (61, 1) :: (61, 2) :: (61, 3) :: (60, 0) :: (60, 1) :: (60, 2) :: (60, 3) :: (60, 4) :: (60, 5) :: (60, 6) :: (60, 7) :: (60, 8) :: (60, 9) :: (60, 10) :: (0, 16) :: (0, 17) :: [])) _
  refine Ev.dup (q := 166) dX11_init_165 (fun z => by cases z) rfl ?_
  refine Ev.aload_n (q := 167) dX11_init_166 rfl rfl ?_
  refine Ev.getR (q := 170) (r := 33) dX11_init_167 gfX11_27 rfl k0 (by decide) ((opS_v 73 ((72, 0) :: (72, 1) :: (72, 2) :: (63, 0) :: (63, 1) :: (62, 0) :: (62, 1) :: (61, 0) :: (61, 1) :: (61, 2) :: (61, 3) :: (60, 0) :: (60, 1) :: (60, 2) :: (60, 3) :: (60, 4) :: (60, 5) :: (60, 6) :: (60, 7) :: (60, 8) :: (60, 9) :: (60, 10) :: (0, 16) :: (0, 17) :: []) 0 3).mpr ⟨by decide, by decide +kernel⟩) (by decide +kernel) rfl ?_
  refine Ev.aload_n (q := 171) dX11_init_170 rfl rfl ?_
  refine Ev.getR (q := 174) (r := 44) dX11_init_171 gfX11_34 rfl k0 (by decide) ((opS_v 73 ((72, 0) :: (72, 1) :: (72, 2) :: (63, 0) :: (63, 1) :: (62, 0) :: (62, 1) :: (61, 0) :: (61, 1) :: (61, 2) :: (61, 3) :: (60, 0) :: (60, 1) :: (60, 2) :: (60, 3) :: (60, 4) :: (60, 5) :: (60, 6) :: (60, 7) :: (60, 8) :: (60, 9) :: (60, 10) :: (0, 16) :: (0, 17) :: []) 0 4).mpr ⟨by decide, by decide +kernel⟩) (by decide +kernel) rfl ?_
  refine Ev.callI (q := 177) (M' := MX5_init) (d' := d + 2) (mc' := 1) (ms' := 7) (As := [rv 33, rv 44]) (rest := [rv 72, rv 0]) dX11_init_174 mlX11_95 moX5_init miX5_init rfl rfl rfl (Nat.le_of_ble_eq_true rfl) (by omega) (Nat.le_of_ble_eq_true rfl) (by decide) (by decide) (i_X5 (d := d) (o := (63, 0) :: (63, 1) :: (62, 0) :: (62, 1) :: (61, 0) :: (61, 1) :: (61, 2) :: (61, 3) :: (60, 0) :: (60, 1) :: (60, 2) :: (60, 3) :: (60, 4) :: (60, 5) :: (60, 6) :: (60, 7) :: (60, 8) :: (60, 9) :: (60, 10) :: (0, 16) :: (0, 17) :: []) (fun x h1 h2 j => by (try simp (disch := omega) only [up_o]); exact hz7 x (by omega) (by omega) j (by omega)) (by decide +kernel)) (fun v g' m' h => by rw [h.1]) rfl (fun v8 g8 m8 t8 h8 => ?_)
  obtain ⟨hg8, hm8⟩ := h8
  subst hg8
  refine Ev.psh0 (show v8.1 = 0 from t8) ?_
  clear t8
  have hz8 : ∀ x, 73 < x → x ≤ 210 → ∀ j, ¬ (x = 22 ∧ j = 0) → m8 x j = 0 := fun x h1 h2 j h3 => by rw [hm8]; (try simp (disch := omega) only [up_o]); exact hz7 x (by omega) h2 j h3
  have hk8 : ∀ x, 210 < x → m8 x = m x := fun x h1 => by funext j; rw [hm8]; (try simp (disch := omega) only [up_o]); exact congrFun (hk7 x h1) j
  have hl8 : ∀ x, x < 72 → m8 x = m7 x := fun x hx => by rw [hm8]; funext j; (try simp (disch := omega) only [up_o])
  have hI8 : I11c m8 := hI7.keep (fun x hx => hl8 x (by omega))
  have hT8 : T11 0 m8 := fun i hi => absurd hi (by omega)
  show Ev Γ _ _ (210, 6895, 73, 4577) _ 177 _ [rv 72, rv 0] (74, opS 74 ((63, 0) :: (63, 1) :: (62, 0) :: (62, 1) :: (61, 0) :: (61, 1) :: (61, 2) :: (61, 3) :: (60, 0) :: (60, 1) :: (60, 2) :: (60, 3) :: (60, 4) :: (60, 5) :: (60, 6) :: (60, 7) :: (60, 8) :: (60, 9) :: (60, 10) :: (0, 16) :: (0, 17) :: [])) _
  refine Ev.cg (S' := opS 74 ((0, 16) :: (63, 0) :: (63, 1) :: (62, 0) :: (62, 1) :: (61, 0) :: (61, 1) :: (61, 2) :: (61, 3) :: (60, 0) :: (60, 1) :: (60, 2) :: (60, 3) :: (60, 4) :: (60, 5) :: (60, 6) :: (60, 7) :: (60, 8) :: (60, 9) :: (60, 10) :: (0, 17) :: [])) (eqS_perm (by decide +kernel) (by decide +kernel)) ?_
  refine Ev.putO (q := 180) (n := 74) (o := (63, 0) :: (63, 1) :: (62, 0) :: (62, 1) :: (61, 0) :: (61, 1) :: (61, 2) :: (61, 3) :: (60, 0) :: (60, 1) :: (60, 2) :: (60, 3) :: (60, 4) :: (60, 5) :: (60, 6) :: (60, 7) :: (60, 8) :: (60, 9) :: (60, 10) :: (0, 17) :: []) dX11_init_177 gfX11_96 rfl k0 (by decide) (by decide +kernel) rfl (fun C T N h => by cases (ck11.1.symm.trans h); rfl) (by unfold nin; decide +kernel) rfl ?_
  refine Ev.aload_n (q := 181) dX11_init_180 rfl rfl ?_
  refine Ev.newO (q := 184) (n := 74) (l := [(74, 5), (74, 0), (74, 1), (74, 2)]) dX11_init_181 ck7 kkX11_100 kiX7 kzX7 k74 (fun j => ⟨fun z => absurd (f9 z) (by decide), fun _ => by (try simp (disch := omega) only [up_o]); exact hz8 74 (by omega) (by omega) j (by omega)⟩) (by decide) (fun y hy => by have h9 := isR_in k74 hy; rw [show (List.range (nfd 7)).filter (fun y => fty 7 y == 8) = [0, 1, 2, 5] by decide] at h9; have h8 : ∀ y ∈ ([0, 1, 2, 5] : List Nat), (74, y) ∈ ([(74, 5), (74, 0), (74, 1), (74, 2)] : List (Nat × Nat)) := (by decide); exact h8 y h9) (by decide) (by decide) rfl ?_
  show Ev Γ _ _ (210, 6895, 74, 4583) _ 184 _ [rv 74, rv 0] (75, opS 75 ((74, 5) :: (74, 0) :: (74, 1) :: (74, 2) :: (63, 0) :: (63, 1) :: (62, 0) :: (62, 1) :: (61, 0) :: (61, 1) :: (61, 2) :: (61, 3) :: (60, 0) :: (60, 1) :: (60, 2) :: (60, 3) :: (60, 4) :: (60, 5) :: (60, 6) :: (60, 7) :: (60, 8) :: (60, 9) :: (60, 10) :: (0, 17) :: [])) _
  refine Ev.dup (q := 185) dX11_init_184 (fun z => by cases z) rfl ?_
  refine Ev.aload_n (q := 186) dX11_init_185 rfl rfl ?_
  refine Ev.getR (q := 189) (r := 33) dX11_init_186 gfX11_27 rfl k0 (by decide) ((opS_v 75 ((74, 5) :: (74, 0) :: (74, 1) :: (74, 2) :: (63, 0) :: (63, 1) :: (62, 0) :: (62, 1) :: (61, 0) :: (61, 1) :: (61, 2) :: (61, 3) :: (60, 0) :: (60, 1) :: (60, 2) :: (60, 3) :: (60, 4) :: (60, 5) :: (60, 6) :: (60, 7) :: (60, 8) :: (60, 9) :: (60, 10) :: (0, 17) :: []) 0 3).mpr ⟨by decide, by decide +kernel⟩) (by decide +kernel) rfl ?_
  refine Ev.aload_n (q := 190) dX11_init_189 rfl rfl ?_
  refine Ev.getR (q := 193) (r := 44) dX11_init_190 gfX11_34 rfl k0 (by decide) ((opS_v 75 ((74, 5) :: (74, 0) :: (74, 1) :: (74, 2) :: (63, 0) :: (63, 1) :: (62, 0) :: (62, 1) :: (61, 0) :: (61, 1) :: (61, 2) :: (61, 3) :: (60, 0) :: (60, 1) :: (60, 2) :: (60, 3) :: (60, 4) :: (60, 5) :: (60, 6) :: (60, 7) :: (60, 8) :: (60, 9) :: (60, 10) :: (0, 17) :: []) 0 4).mpr ⟨by decide, by decide +kernel⟩) (by decide +kernel) rfl ?_
  refine Ev.callI (q := 196) (M' := MX7_init) (d' := d + 2) (mc' := 2) (ms' := 19) (As := [rv 33, rv 44]) (rest := [rv 74, rv 0]) dX11_init_193 mlX11_102 moX7_init miX7_init rfl rfl rfl (Nat.le_of_ble_eq_true rfl) (by omega) (Nat.le_of_ble_eq_true rfl) (by decide) (by decide) (i_X7 (d := d) (o := (63, 0) :: (63, 1) :: (62, 0) :: (62, 1) :: (61, 0) :: (61, 1) :: (61, 2) :: (61, 3) :: (60, 0) :: (60, 1) :: (60, 2) :: (60, 3) :: (60, 4) :: (60, 5) :: (60, 6) :: (60, 7) :: (60, 8) :: (60, 9) :: (60, 10) :: (0, 17) :: []) (fun x h1 h2 j => by (try simp (disch := omega) only [up_o]); exact hz8 x (by omega) (by omega) j (by omega)) (by decide +kernel)) (fun v g' m' h => by rw [h.1]) rfl (fun v9 g9 m9 t9 h9 => ?_)
  obtain ⟨hg9, hm9⟩ := h9
  subst hg9
  refine Ev.psh0 (show v9.1 = 0 from t9) ?_
  clear t9
  have hz9 : ∀ x, 76 < x → x ≤ 210 → ∀ j, ¬ (x = 22 ∧ j = 0) → m9 x j = 0 := fun x h1 h2 j h3 => by rw [hm9]; (try simp (disch := omega) only [up_o]); exact hz8 x (by omega) h2 j h3
  have hk9 : ∀ x, 210 < x → m9 x = m x := fun x h1 => by funext j; rw [hm9]; (try simp (disch := omega) only [up_o]); exact congrFun (hk8 x h1) j
  have hl9 : ∀ x, x < 74 → m9 x = m8 x := fun x hx => by rw [hm9]; funext j; (try simp (disch := omega) only [up_o])
  have hI9 : I11c m9 := hI8.keep (fun x hx => hl9 x (by omega))
  have hT9 : T11 0 m9 := fun i hi => absurd hi (by omega)
  show Ev Γ _ _ (210, 6895, 76, 4602) _ 196 _ [rv 74, rv 0] (77, opS 77 ((63, 0) :: (63, 1) :: (62, 0) :: (62, 1) :: (61, 0) :: (61, 1) :: (61, 2) :: (61, 3) :: (60, 0) :: (60, 1) :: (60, 2) :: (60, 3) :: (60, 4) :: (60, 5) :: (60, 6) :: (60, 7) :: (60, 8) :: (60, 9) :: (60, 10) :: (0, 17) :: [])) _
  refine Ev.cg (S' := opS 77 ((0, 17) :: (63, 0) :: (63, 1) :: (62, 0) :: (62, 1) :: (61, 0) :: (61, 1) :: (61, 2) :: (61, 3) :: (60, 0) :: (60, 1) :: (60, 2) :: (60, 3) :: (60, 4) :: (60, 5) :: (60, 6) :: (60, 7) :: (60, 8) :: (60, 9) :: (60, 10) :: [])) (eqS_perm (by decide +kernel) (by decide +kernel)) ?_
  refine Ev.putO (q := 199) (n := 77) (o := (63, 0) :: (63, 1) :: (62, 0) :: (62, 1) :: (61, 0) :: (61, 1) :: (61, 2) :: (61, 3) :: (60, 0) :: (60, 1) :: (60, 2) :: (60, 3) :: (60, 4) :: (60, 5) :: (60, 6) :: (60, 7) :: (60, 8) :: (60, 9) :: (60, 10) :: []) dX11_init_196 gfX11_103 rfl k0 (by decide) (by decide +kernel) rfl (fun C T N h => by cases (ck11.1.symm.trans h); rfl) (by unfold nin; decide +kernel) rfl ?_
  refine Ev.iconst (q := 200) dX11_init_199 ki_0 rfl ?_
  refine Ev.istore_n (q := 201) dX11_init_200 (by decide) rfl rfl ?_
  refine Ev.iload_n (q := 202) dX11_init_201 rfl rfl ?_
  refine Ev.aload_n (q := 203) dX11_init_202 rfl rfl ?_
  refine Ev.getR (q := 206) (r := 60) dX11_init_203 gfX11_41 rfl k0 (by decide) ((opS_v 77 ((63, 0) :: (63, 1) :: (62, 0) :: (62, 1) :: (61, 0) :: (61, 1) :: (61, 2) :: (61, 3) :: (60, 0) :: (60, 1) :: (60, 2) :: (60, 3) :: (60, 4) :: (60, 5) :: (60, 6) :: (60, 7) :: (60, 8) :: (60, 9) :: (60, 10) :: []) 0 6).mpr ⟨by decide, by decide +kernel⟩) (by decide +kernel) rfl ?_
  refine Ev.alen (q := 207) dX11_init_206 k60 (by decide) (by decide) (by decide) rfl ?_
  refine Ev.icmp_ge (tgt := 229) (q := 210) dX11_init_207 rfl rfl (fun z => absurd z (by decide)) (fun _ => ?_)
  refine Ev.aload_n (q := 211) dX11_init_210 rfl rfl ?_
  refine Ev.getR (q := 214) (r := 60) dX11_init_211 gfX11_41 rfl k0 (by decide) ((opS_v 77 ((63, 0) :: (63, 1) :: (62, 0) :: (62, 1) :: (61, 0) :: (61, 1) :: (61, 2) :: (61, 3) :: (60, 0) :: (60, 1) :: (60, 2) :: (60, 3) :: (60, 4) :: (60, 5) :: (60, 6) :: (60, 7) :: (60, 8) :: (60, 9) :: (60, 10) :: []) 0 6).mpr ⟨by decide, by decide +kernel⟩) (by decide +kernel) rfl ?_
  refine Ev.iload_n (q := 215) dX11_init_214 rfl rfl ?_
  refine Ev.newO (q := 218) (n := 77) (l := [(77, 0), (77, 1), (77, 2), (77, 3), (77, 4), (77, 5), (77, 6)]) dX11_init_215 ck4 kkX11_31 kiX4 kzX4 k77 (fun j => ⟨fun z => absurd (f9 z) (by decide), fun _ => by (try simp (disch := omega) only [up_o]); exact hz9 77 (by omega) (by omega) j (by omega)⟩) (by decide) (fun y hy => by have h9 := isR_in k77 hy; rw [show (List.range (nfd 4)).filter (fun y => fty 4 y == 8) = [0, 1, 2, 3, 4, 5, 6] by decide] at h9; have h8 : ∀ y ∈ ([0, 1, 2, 3, 4, 5, 6] : List Nat), (77, y) ∈ ([(77, 0), (77, 1), (77, 2), (77, 3), (77, 4), (77, 5), (77, 6)] : List (Nat × Nat)) := (by decide); exact h8 y h9) (by decide) (by decide) rfl ?_
  show Ev Γ _ _ (210, 6895, 77, 4609) _ 218 _ [rv 77, iv 0, rv 60] (78, opS 78 ((77, 0) :: (77, 1) :: (77, 2) :: (77, 3) :: (77, 4) :: (77, 5) :: (77, 6) :: (63, 0) :: (63, 1) :: (62, 0) :: (62, 1) :: (61, 0) :: (61, 1) :: (61, 2) :: (61, 3) :: (60, 0) :: (60, 1) :: (60, 2) :: (60, 3) :: (60, 4) :: (60, 5) :: (60, 6) :: (60, 7) :: (60, 8) :: (60, 9) :: (60, 10) :: [])) _
  refine Ev.dup (q := 219) dX11_init_218 (fun z => by cases z) rfl ?_
  refine Ev.callIN (host := "AllPressed") (q := 222) (M' := MX4_init) (d' := d + 2) (mc' := 7) (ms' := 36) (As := []) (rest := [rv 77, iv 0, rv 60]) dX11_init_219 (List.mem_of_getElem? (i := 6) rfl) moX4_init miX4_init rfl rfl rfl (Nat.le_of_ble_eq_true rfl) (by omega) (Nat.le_of_ble_eq_true rfl) (by decide) (by decide) (i_X4 (d := d + 1) (o := (63, 0) :: (63, 1) :: (62, 0) :: (62, 1) :: (61, 0) :: (61, 1) :: (61, 2) :: (61, 3) :: (60, 0) :: (60, 1) :: (60, 2) :: (60, 3) :: (60, 4) :: (60, 5) :: (60, 6) :: (60, 7) :: (60, 8) :: (60, 9) :: (60, 10) :: []) 77 (by decide) (fun x h1 h2 j => by (try simp (disch := omega) only [up_o]); exact hz9 x (by omega) (by omega) j (by omega)) (by decide +kernel)) (fun v g' m' h => by rw [h.1]) rfl (fun v10 g10 m10 t10 h10 => ?_)
  obtain ⟨hg10, hm10⟩ := h10
  subst hg10
  replace hm10 := hm10.symm
  subst hm10
  refine Ev.psh0 (show v10.1 = 0 from t10) ?_
  clear t10
  show Ev Γ _ _ (210, 6895, 84, 4645) _ 222 _ [rv 77, iv 0, rv 60] (85, opS 85 ((63, 0) :: (63, 1) :: (62, 0) :: (62, 1) :: (61, 0) :: (61, 1) :: (61, 2) :: (61, 3) :: (60, 0) :: (60, 1) :: (60, 2) :: (60, 3) :: (60, 4) :: (60, 5) :: (60, 6) :: (60, 7) :: (60, 8) :: (60, 9) :: (60, 10) :: [])) _
  refine Ev.cg (S' := opS 85 ((60, 0) :: (63, 0) :: (63, 1) :: (62, 0) :: (62, 1) :: (61, 0) :: (61, 1) :: (61, 2) :: (61, 3) :: (60, 1) :: (60, 2) :: (60, 3) :: (60, 4) :: (60, 5) :: (60, 6) :: (60, 7) :: (60, 8) :: (60, 9) :: (60, 10) :: [])) (eqS_perm (by decide +kernel) (by decide +kernel)) ?_
  refine Ev.aastO (q := 223) (n := 85) (k := 0) (o := (63, 0) :: (63, 1) :: (62, 0) :: (62, 1) :: (61, 0) :: (61, 1) :: (61, 2) :: (61, 3) :: (60, 1) :: (60, 2) :: (60, 3) :: (60, 4) :: (60, 5) :: (60, 6) :: (60, 7) :: (60, 8) :: (60, 9) :: (60, 10) :: []) dX11_init_222 k60 (by decide) (by decide) k77 (by decide) ck4.1 rfl rfl (by decide) (by decide +kernel) (by unfold nin; decide +kernel) rfl ?_
  refine Ev.iinc (q := 226) dX11_init_223 (by decide) rfl rfl rfl ?_
  rw [show w32 (0 + 1 : Int) = 1 by decide]
  refine Ev.goto (q := 201) dX11_init_226 rfl ?_
  refine Ev.iload_n (q := 202) dX11_init_201 rfl rfl ?_
  refine Ev.aload_n (q := 203) dX11_init_202 rfl rfl ?_
  refine Ev.getR (q := 206) (r := 60) dX11_init_203 gfX11_41 rfl k0 (by decide) ((opS_v 85 ((63, 0) :: (63, 1) :: (62, 0) :: (62, 1) :: (61, 0) :: (61, 1) :: (61, 2) :: (61, 3) :: (60, 1) :: (60, 2) :: (60, 3) :: (60, 4) :: (60, 5) :: (60, 6) :: (60, 7) :: (60, 8) :: (60, 9) :: (60, 10) :: []) 0 6).mpr ⟨by decide, by decide +kernel⟩) (by decide +kernel) rfl ?_
  refine Ev.alen (q := 207) dX11_init_206 k60 (by decide) (by decide) (by decide) rfl ?_
  refine Ev.icmp_ge (tgt := 229) (q := 210) dX11_init_207 rfl rfl (fun z => absurd z (by decide)) (fun _ => ?_)
  refine Ev.aload_n (q := 211) dX11_init_210 rfl rfl ?_
  refine Ev.getR (q := 214) (r := 60) dX11_init_211 gfX11_41 rfl k0 (by decide) ((opS_v 85 ((63, 0) :: (63, 1) :: (62, 0) :: (62, 1) :: (61, 0) :: (61, 1) :: (61, 2) :: (61, 3) :: (60, 1) :: (60, 2) :: (60, 3) :: (60, 4) :: (60, 5) :: (60, 6) :: (60, 7) :: (60, 8) :: (60, 9) :: (60, 10) :: []) 0 6).mpr ⟨by decide, by decide +kernel⟩) (by decide +kernel) rfl ?_
  refine Ev.iload_n (q := 215) dX11_init_214 rfl rfl ?_
  refine Ev.newO (q := 218) (n := 85) (l := [(85, 0), (85, 1), (85, 2), (85, 3), (85, 4), (85, 5), (85, 6)]) dX11_init_215 ck4 kkX11_31 kiX4 kzX4 k85 (fun j => ⟨fun z => absurd (f9 z) (by decide), fun _ => by (try simp (disch := omega) only [up_o]); exact hz9 85 (by omega) (by omega) j (by omega)⟩) (by decide) (fun y hy => by have h9 := isR_in k85 hy; rw [show (List.range (nfd 4)).filter (fun y => fty 4 y == 8) = [0, 1, 2, 3, 4, 5, 6] by decide] at h9; have h8 : ∀ y ∈ ([0, 1, 2, 3, 4, 5, 6] : List Nat), (85, y) ∈ ([(85, 0), (85, 1), (85, 2), (85, 3), (85, 4), (85, 5), (85, 6)] : List (Nat × Nat)) := (by decide); exact h8 y h9) (by decide) (by decide) rfl ?_
  show Ev Γ _ _ (210, 6895, 85, 4652) _ 218 _ [rv 85, iv 1, rv 60] (86, opS 86 ((85, 0) :: (85, 1) :: (85, 2) :: (85, 3) :: (85, 4) :: (85, 5) :: (85, 6) :: (63, 0) :: (63, 1) :: (62, 0) :: (62, 1) :: (61, 0) :: (61, 1) :: (61, 2) :: (61, 3) :: (60, 1) :: (60, 2) :: (60, 3) :: (60, 4) :: (60, 5) :: (60, 6) :: (60, 7) :: (60, 8) :: (60, 9) :: (60, 10) :: [])) _
  refine Ev.dup (q := 219) dX11_init_218 (fun z => by cases z) rfl ?_
  refine Ev.callIN (host := "AllPressed") (q := 222) (M' := MX4_init) (d' := d + 2) (mc' := 7) (ms' := 36) (As := []) (rest := [rv 85, iv 1, rv 60]) dX11_init_219 (List.mem_of_getElem? (i := 6) rfl) moX4_init miX4_init rfl rfl rfl (Nat.le_of_ble_eq_true rfl) (by omega) (Nat.le_of_ble_eq_true rfl) (by decide) (by decide) (i_X4 (d := d + 1) (o := (63, 0) :: (63, 1) :: (62, 0) :: (62, 1) :: (61, 0) :: (61, 1) :: (61, 2) :: (61, 3) :: (60, 1) :: (60, 2) :: (60, 3) :: (60, 4) :: (60, 5) :: (60, 6) :: (60, 7) :: (60, 8) :: (60, 9) :: (60, 10) :: []) 85 (by decide) (fun x h1 h2 j => by (try simp (disch := omega) only [up_o]); exact hz9 x (by omega) (by omega) j (by omega)) (by decide +kernel)) (fun v g' m' h => by rw [h.1]) rfl (fun v11 g11 m11 t11 h11 => ?_)
  obtain ⟨hg11, hm11⟩ := h11
  subst hg11
  replace hm11 := hm11.symm
  subst hm11
  refine Ev.psh0 (show v11.1 = 0 from t11) ?_
  clear t11
  show Ev Γ _ _ (210, 6895, 92, 4688) _ 222 _ [rv 85, iv 1, rv 60] (93, opS 93 ((63, 0) :: (63, 1) :: (62, 0) :: (62, 1) :: (61, 0) :: (61, 1) :: (61, 2) :: (61, 3) :: (60, 1) :: (60, 2) :: (60, 3) :: (60, 4) :: (60, 5) :: (60, 6) :: (60, 7) :: (60, 8) :: (60, 9) :: (60, 10) :: [])) _
  refine Ev.cg (S' := opS 93 ((60, 1) :: (63, 0) :: (63, 1) :: (62, 0) :: (62, 1) :: (61, 0) :: (61, 1) :: (61, 2) :: (61, 3) :: (60, 2) :: (60, 3) :: (60, 4) :: (60, 5) :: (60, 6) :: (60, 7) :: (60, 8) :: (60, 9) :: (60, 10) :: [])) (eqS_perm (by decide +kernel) (by decide +kernel)) ?_
  refine Ev.aastO (q := 223) (n := 93) (k := 1) (o := (63, 0) :: (63, 1) :: (62, 0) :: (62, 1) :: (61, 0) :: (61, 1) :: (61, 2) :: (61, 3) :: (60, 2) :: (60, 3) :: (60, 4) :: (60, 5) :: (60, 6) :: (60, 7) :: (60, 8) :: (60, 9) :: (60, 10) :: []) dX11_init_222 k60 (by decide) (by decide) k85 (by decide) ck4.1 rfl rfl (by decide) (by decide +kernel) (by unfold nin; decide +kernel) rfl ?_
  refine Ev.iinc (q := 226) dX11_init_223 (by decide) rfl rfl rfl ?_
  rw [show w32 (1 + 1 : Int) = 2 by decide]
  refine Ev.goto (q := 201) dX11_init_226 rfl ?_
  refine Ev.iload_n (q := 202) dX11_init_201 rfl rfl ?_
  refine Ev.aload_n (q := 203) dX11_init_202 rfl rfl ?_
  refine Ev.getR (q := 206) (r := 60) dX11_init_203 gfX11_41 rfl k0 (by decide) ((opS_v 93 ((63, 0) :: (63, 1) :: (62, 0) :: (62, 1) :: (61, 0) :: (61, 1) :: (61, 2) :: (61, 3) :: (60, 2) :: (60, 3) :: (60, 4) :: (60, 5) :: (60, 6) :: (60, 7) :: (60, 8) :: (60, 9) :: (60, 10) :: []) 0 6).mpr ⟨by decide, by decide +kernel⟩) (by decide +kernel) rfl ?_
  refine Ev.alen (q := 207) dX11_init_206 k60 (by decide) (by decide) (by decide) rfl ?_
  refine Ev.icmp_ge (tgt := 229) (q := 210) dX11_init_207 rfl rfl (fun z => absurd z (by decide)) (fun _ => ?_)
  refine Ev.aload_n (q := 211) dX11_init_210 rfl rfl ?_
  refine Ev.getR (q := 214) (r := 60) dX11_init_211 gfX11_41 rfl k0 (by decide) ((opS_v 93 ((63, 0) :: (63, 1) :: (62, 0) :: (62, 1) :: (61, 0) :: (61, 1) :: (61, 2) :: (61, 3) :: (60, 2) :: (60, 3) :: (60, 4) :: (60, 5) :: (60, 6) :: (60, 7) :: (60, 8) :: (60, 9) :: (60, 10) :: []) 0 6).mpr ⟨by decide, by decide +kernel⟩) (by decide +kernel) rfl ?_
  refine Ev.iload_n (q := 215) dX11_init_214 rfl rfl ?_
  refine Ev.newO (q := 218) (n := 93) (l := [(93, 0), (93, 1), (93, 2), (93, 3), (93, 4), (93, 5), (93, 6)]) dX11_init_215 ck4 kkX11_31 kiX4 kzX4 k93 (fun j => ⟨fun z => absurd (f9 z) (by decide), fun _ => by (try simp (disch := omega) only [up_o]); exact hz9 93 (by omega) (by omega) j (by omega)⟩) (by decide) (fun y hy => by have h9 := isR_in k93 hy; rw [show (List.range (nfd 4)).filter (fun y => fty 4 y == 8) = [0, 1, 2, 3, 4, 5, 6] by decide] at h9; have h8 : ∀ y ∈ ([0, 1, 2, 3, 4, 5, 6] : List Nat), (93, y) ∈ ([(93, 0), (93, 1), (93, 2), (93, 3), (93, 4), (93, 5), (93, 6)] : List (Nat × Nat)) := (by decide); exact h8 y h9) (by decide) (by decide) rfl ?_
  show Ev Γ _ _ (210, 6895, 93, 4695) _ 218 _ [rv 93, iv 2, rv 60] (94, opS 94 ((93, 0) :: (93, 1) :: (93, 2) :: (93, 3) :: (93, 4) :: (93, 5) :: (93, 6) :: (63, 0) :: (63, 1) :: (62, 0) :: (62, 1) :: (61, 0) :: (61, 1) :: (61, 2) :: (61, 3) :: (60, 2) :: (60, 3) :: (60, 4) :: (60, 5) :: (60, 6) :: (60, 7) :: (60, 8) :: (60, 9) :: (60, 10) :: [])) _
  refine Ev.dup (q := 219) dX11_init_218 (fun z => by cases z) rfl ?_
  refine Ev.callIN (host := "AllPressed") (q := 222) (M' := MX4_init) (d' := d + 2) (mc' := 7) (ms' := 36) (As := []) (rest := [rv 93, iv 2, rv 60]) dX11_init_219 (List.mem_of_getElem? (i := 6) rfl) moX4_init miX4_init rfl rfl rfl (Nat.le_of_ble_eq_true rfl) (by omega) (Nat.le_of_ble_eq_true rfl) (by decide) (by decide) (i_X4 (d := d + 1) (o := (63, 0) :: (63, 1) :: (62, 0) :: (62, 1) :: (61, 0) :: (61, 1) :: (61, 2) :: (61, 3) :: (60, 2) :: (60, 3) :: (60, 4) :: (60, 5) :: (60, 6) :: (60, 7) :: (60, 8) :: (60, 9) :: (60, 10) :: []) 93 (by decide) (fun x h1 h2 j => by (try simp (disch := omega) only [up_o]); exact hz9 x (by omega) (by omega) j (by omega)) (by decide +kernel)) (fun v g' m' h => by rw [h.1]) rfl (fun v12 g12 m12 t12 h12 => ?_)
  obtain ⟨hg12, hm12⟩ := h12
  subst hg12
  replace hm12 := hm12.symm
  subst hm12
  refine Ev.psh0 (show v12.1 = 0 from t12) ?_
  clear t12
  show Ev Γ _ _ (210, 6895, 100, 4731) _ 222 _ [rv 93, iv 2, rv 60] (101, opS 101 ((63, 0) :: (63, 1) :: (62, 0) :: (62, 1) :: (61, 0) :: (61, 1) :: (61, 2) :: (61, 3) :: (60, 2) :: (60, 3) :: (60, 4) :: (60, 5) :: (60, 6) :: (60, 7) :: (60, 8) :: (60, 9) :: (60, 10) :: [])) _
  refine Ev.cg (S' := opS 101 ((60, 2) :: (63, 0) :: (63, 1) :: (62, 0) :: (62, 1) :: (61, 0) :: (61, 1) :: (61, 2) :: (61, 3) :: (60, 3) :: (60, 4) :: (60, 5) :: (60, 6) :: (60, 7) :: (60, 8) :: (60, 9) :: (60, 10) :: [])) (eqS_perm (by decide +kernel) (by decide +kernel)) ?_
  refine Ev.aastO (q := 223) (n := 101) (k := 2) (o := (63, 0) :: (63, 1) :: (62, 0) :: (62, 1) :: (61, 0) :: (61, 1) :: (61, 2) :: (61, 3) :: (60, 3) :: (60, 4) :: (60, 5) :: (60, 6) :: (60, 7) :: (60, 8) :: (60, 9) :: (60, 10) :: []) dX11_init_222 k60 (by decide) (by decide) k93 (by decide) ck4.1 rfl rfl (by decide) (by decide +kernel) (by unfold nin; decide +kernel) rfl ?_
  refine Ev.iinc (q := 226) dX11_init_223 (by decide) rfl rfl rfl ?_
  rw [show w32 (2 + 1 : Int) = 3 by decide]
  refine Ev.goto (q := 201) dX11_init_226 rfl ?_
  refine Ev.iload_n (q := 202) dX11_init_201 rfl rfl ?_
  refine Ev.aload_n (q := 203) dX11_init_202 rfl rfl ?_
  refine Ev.getR (q := 206) (r := 60) dX11_init_203 gfX11_41 rfl k0 (by decide) ((opS_v 101 ((63, 0) :: (63, 1) :: (62, 0) :: (62, 1) :: (61, 0) :: (61, 1) :: (61, 2) :: (61, 3) :: (60, 3) :: (60, 4) :: (60, 5) :: (60, 6) :: (60, 7) :: (60, 8) :: (60, 9) :: (60, 10) :: []) 0 6).mpr ⟨by decide, by decide +kernel⟩) (by decide +kernel) rfl ?_
  refine Ev.alen (q := 207) dX11_init_206 k60 (by decide) (by decide) (by decide) rfl ?_
  refine Ev.icmp_ge (tgt := 229) (q := 210) dX11_init_207 rfl rfl (fun z => absurd z (by decide)) (fun _ => ?_)
  refine Ev.aload_n (q := 211) dX11_init_210 rfl rfl ?_
  refine Ev.getR (q := 214) (r := 60) dX11_init_211 gfX11_41 rfl k0 (by decide) ((opS_v 101 ((63, 0) :: (63, 1) :: (62, 0) :: (62, 1) :: (61, 0) :: (61, 1) :: (61, 2) :: (61, 3) :: (60, 3) :: (60, 4) :: (60, 5) :: (60, 6) :: (60, 7) :: (60, 8) :: (60, 9) :: (60, 10) :: []) 0 6).mpr ⟨by decide, by decide +kernel⟩) (by decide +kernel) rfl ?_
  refine Ev.iload_n (q := 215) dX11_init_214 rfl rfl ?_
  refine Ev.newO (q := 218) (n := 101) (l := [(101, 0), (101, 1), (101, 2), (101, 3), (101, 4), (101, 5), (101, 6)]) dX11_init_215 ck4 kkX11_31 kiX4 kzX4 k101 (fun j => ⟨fun z => absurd (f9 z) (by decide), fun _ => by (try simp (disch := omega) only [up_o]); exact hz9 101 (by omega) (by omega) j (by omega)⟩) (by decide) (fun y hy => by have h9 := isR_in k101 hy; rw [show (List.range (nfd 4)).filter (fun y => fty 4 y == 8) = [0, 1, 2, 3, 4, 5, 6] by decide] at h9; have h8 : ∀ y ∈ ([0, 1, 2, 3, 4, 5, 6] : List Nat), (101, y) ∈ ([(101, 0), (101, 1), (101, 2), (101, 3), (101, 4), (101, 5), (101, 6)] : List (Nat × Nat)) := (by decide); exact h8 y h9) (by decide) (by decide) rfl ?_
  show Ev Γ _ _ (210, 6895, 101, 4738) _ 218 _ [rv 101, iv 3, rv 60] (102, opS 102 ((101, 0) :: (101, 1) :: (101, 2) :: (101, 3) :: (101, 4) :: (101, 5) :: (101, 6) :: (63, 0) :: (63, 1) :: (62, 0) :: (62, 1) :: (61, 0) :: (61, 1) :: (61, 2) :: (61, 3) :: (60, 3) :: (60, 4) :: (60, 5) :: (60, 6) :: (60, 7) :: (60, 8) :: (60, 9) :: (60, 10) :: [])) _
  refine Ev.dup (q := 219) dX11_init_218 (fun z => by cases z) rfl ?_
  refine Ev.callIN (host := "AllPressed") (q := 222) (M' := MX4_init) (d' := d + 2) (mc' := 7) (ms' := 36) (As := []) (rest := [rv 101, iv 3, rv 60]) dX11_init_219 (List.mem_of_getElem? (i := 6) rfl) moX4_init miX4_init rfl rfl rfl (Nat.le_of_ble_eq_true rfl) (by omega) (Nat.le_of_ble_eq_true rfl) (by decide) (by decide) (i_X4 (d := d + 1) (o := (63, 0) :: (63, 1) :: (62, 0) :: (62, 1) :: (61, 0) :: (61, 1) :: (61, 2) :: (61, 3) :: (60, 3) :: (60, 4) :: (60, 5) :: (60, 6) :: (60, 7) :: (60, 8) :: (60, 9) :: (60, 10) :: []) 101 (by decide) (fun x h1 h2 j => by (try simp (disch := omega) only [up_o]); exact hz9 x (by omega) (by omega) j (by omega)) (by decide +kernel)) (fun v g' m' h => by rw [h.1]) rfl (fun v13 g13 m13 t13 h13 => ?_)
  obtain ⟨hg13, hm13⟩ := h13
  subst hg13
  replace hm13 := hm13.symm
  subst hm13
  refine Ev.psh0 (show v13.1 = 0 from t13) ?_
  clear t13
  show Ev Γ _ _ (210, 6895, 108, 4774) _ 222 _ [rv 101, iv 3, rv 60] (109, opS 109 ((63, 0) :: (63, 1) :: (62, 0) :: (62, 1) :: (61, 0) :: (61, 1) :: (61, 2) :: (61, 3) :: (60, 3) :: (60, 4) :: (60, 5) :: (60, 6) :: (60, 7) :: (60, 8) :: (60, 9) :: (60, 10) :: [])) _
  refine Ev.cg (S' := opS 109 ((60, 3) :: (63, 0) :: (63, 1) :: (62, 0) :: (62, 1) :: (61, 0) :: (61, 1) :: (61, 2) :: (61, 3) :: (60, 4) :: (60, 5) :: (60, 6) :: (60, 7) :: (60, 8) :: (60, 9) :: (60, 10) :: [])) (eqS_perm (by decide +kernel) (by decide +kernel)) ?_
  refine Ev.aastO (q := 223) (n := 109) (k := 3) (o := (63, 0) :: (63, 1) :: (62, 0) :: (62, 1) :: (61, 0) :: (61, 1) :: (61, 2) :: (61, 3) :: (60, 4) :: (60, 5) :: (60, 6) :: (60, 7) :: (60, 8) :: (60, 9) :: (60, 10) :: []) dX11_init_222 k60 (by decide) (by decide) k101 (by decide) ck4.1 rfl rfl (by decide) (by decide +kernel) (by unfold nin; decide +kernel) rfl ?_
  refine Ev.iinc (q := 226) dX11_init_223 (by decide) rfl rfl rfl ?_
  rw [show w32 (3 + 1 : Int) = 4 by decide]
  refine Ev.goto (q := 201) dX11_init_226 rfl ?_
  refine Ev.iload_n (q := 202) dX11_init_201 rfl rfl ?_
  refine Ev.aload_n (q := 203) dX11_init_202 rfl rfl ?_
  refine Ev.getR (q := 206) (r := 60) dX11_init_203 gfX11_41 rfl k0 (by decide) ((opS_v 109 ((63, 0) :: (63, 1) :: (62, 0) :: (62, 1) :: (61, 0) :: (61, 1) :: (61, 2) :: (61, 3) :: (60, 4) :: (60, 5) :: (60, 6) :: (60, 7) :: (60, 8) :: (60, 9) :: (60, 10) :: []) 0 6).mpr ⟨by decide, by decide +kernel⟩) (by decide +kernel) rfl ?_
  refine Ev.alen (q := 207) dX11_init_206 k60 (by decide) (by decide) (by decide) rfl ?_
  refine Ev.icmp_ge (tgt := 229) (q := 210) dX11_init_207 rfl rfl (fun z => absurd z (by decide)) (fun _ => ?_)
  refine Ev.aload_n (q := 211) dX11_init_210 rfl rfl ?_
  refine Ev.getR (q := 214) (r := 60) dX11_init_211 gfX11_41 rfl k0 (by decide) ((opS_v 109 ((63, 0) :: (63, 1) :: (62, 0) :: (62, 1) :: (61, 0) :: (61, 1) :: (61, 2) :: (61, 3) :: (60, 4) :: (60, 5) :: (60, 6) :: (60, 7) :: (60, 8) :: (60, 9) :: (60, 10) :: []) 0 6).mpr ⟨by decide, by decide +kernel⟩) (by decide +kernel) rfl ?_
  refine Ev.iload_n (q := 215) dX11_init_214 rfl rfl ?_
  refine Ev.newO (q := 218) (n := 109) (l := [(109, 0), (109, 1), (109, 2), (109, 3), (109, 4), (109, 5), (109, 6)]) dX11_init_215 ck4 kkX11_31 kiX4 kzX4 k109 (fun j => ⟨fun z => absurd (f9 z) (by decide), fun _ => by (try simp (disch := omega) only [up_o]); exact hz9 109 (by omega) (by omega) j (by omega)⟩) (by decide) (fun y hy => by have h9 := isR_in k109 hy; rw [show (List.range (nfd 4)).filter (fun y => fty 4 y == 8) = [0, 1, 2, 3, 4, 5, 6] by decide] at h9; have h8 : ∀ y ∈ ([0, 1, 2, 3, 4, 5, 6] : List Nat), (109, y) ∈ ([(109, 0), (109, 1), (109, 2), (109, 3), (109, 4), (109, 5), (109, 6)] : List (Nat × Nat)) := (by decide); exact h8 y h9) (by decide) (by decide) rfl ?_
  show Ev Γ _ _ (210, 6895, 109, 4781) _ 218 _ [rv 109, iv 4, rv 60] (110, opS 110 ((109, 0) :: (109, 1) :: (109, 2) :: (109, 3) :: (109, 4) :: (109, 5) :: (109, 6) :: (63, 0) :: (63, 1) :: (62, 0) :: (62, 1) :: (61, 0) :: (61, 1) :: (61, 2) :: (61, 3) :: (60, 4) :: (60, 5) :: (60, 6) :: (60, 7) :: (60, 8) :: (60, 9) :: (60, 10) :: [])) _
  refine Ev.dup (q := 219) dX11_init_218 (fun z => by cases z) rfl ?_
  refine Ev.callIN (host := "AllPressed") (q := 222) (M' := MX4_init) (d' := d + 2) (mc' := 7) (ms' := 36) (As := []) (rest := [rv 109, iv 4, rv 60]) dX11_init_219 (List.mem_of_getElem? (i := 6) rfl) moX4_init miX4_init rfl rfl rfl (Nat.le_of_ble_eq_true rfl) (by omega) (Nat.le_of_ble_eq_true rfl) (by decide) (by decide) (i_X4 (d := d + 1) (o := (63, 0) :: (63, 1) :: (62, 0) :: (62, 1) :: (61, 0) :: (61, 1) :: (61, 2) :: (61, 3) :: (60, 4) :: (60, 5) :: (60, 6) :: (60, 7) :: (60, 8) :: (60, 9) :: (60, 10) :: []) 109 (by decide) (fun x h1 h2 j => by (try simp (disch := omega) only [up_o]); exact hz9 x (by omega) (by omega) j (by omega)) (by decide +kernel)) (fun v g' m' h => by rw [h.1]) rfl (fun v14 g14 m14 t14 h14 => ?_)
  obtain ⟨hg14, hm14⟩ := h14
  subst hg14
  replace hm14 := hm14.symm
  subst hm14
  refine Ev.psh0 (show v14.1 = 0 from t14) ?_
  clear t14
  show Ev Γ _ _ (210, 6895, 116, 4817) _ 222 _ [rv 109, iv 4, rv 60] (117, opS 117 ((63, 0) :: (63, 1) :: (62, 0) :: (62, 1) :: (61, 0) :: (61, 1) :: (61, 2) :: (61, 3) :: (60, 4) :: (60, 5) :: (60, 6) :: (60, 7) :: (60, 8) :: (60, 9) :: (60, 10) :: [])) _
  refine Ev.cg (S' := opS 117 ((60, 4) :: (63, 0) :: (63, 1) :: (62, 0) :: (62, 1) :: (61, 0) :: (61, 1) :: (61, 2) :: (61, 3) :: (60, 5) :: (60, 6) :: (60, 7) :: (60, 8) :: (60, 9) :: (60, 10) :: [])) (eqS_perm (by decide +kernel) (by decide +kernel)) ?_
  refine Ev.aastO (q := 223) (n := 117) (k := 4) (o := (63, 0) :: (63, 1) :: (62, 0) :: (62, 1) :: (61, 0) :: (61, 1) :: (61, 2) :: (61, 3) :: (60, 5) :: (60, 6) :: (60, 7) :: (60, 8) :: (60, 9) :: (60, 10) :: []) dX11_init_222 k60 (by decide) (by decide) k109 (by decide) ck4.1 rfl rfl (by decide) (by decide +kernel) (by unfold nin; decide +kernel) rfl ?_
  refine Ev.iinc (q := 226) dX11_init_223 (by decide) rfl rfl rfl ?_
  rw [show w32 (4 + 1 : Int) = 5 by decide]
  refine Ev.goto (q := 201) dX11_init_226 rfl ?_
  refine Ev.iload_n (q := 202) dX11_init_201 rfl rfl ?_
  refine Ev.aload_n (q := 203) dX11_init_202 rfl rfl ?_
  refine Ev.getR (q := 206) (r := 60) dX11_init_203 gfX11_41 rfl k0 (by decide) ((opS_v 117 ((63, 0) :: (63, 1) :: (62, 0) :: (62, 1) :: (61, 0) :: (61, 1) :: (61, 2) :: (61, 3) :: (60, 5) :: (60, 6) :: (60, 7) :: (60, 8) :: (60, 9) :: (60, 10) :: []) 0 6).mpr ⟨by decide, by decide +kernel⟩) (by decide +kernel) rfl ?_
  refine Ev.alen (q := 207) dX11_init_206 k60 (by decide) (by decide) (by decide) rfl ?_
  refine Ev.icmp_ge (tgt := 229) (q := 210) dX11_init_207 rfl rfl (fun z => absurd z (by decide)) (fun _ => ?_)
  refine Ev.aload_n (q := 211) dX11_init_210 rfl rfl ?_
  refine Ev.getR (q := 214) (r := 60) dX11_init_211 gfX11_41 rfl k0 (by decide) ((opS_v 117 ((63, 0) :: (63, 1) :: (62, 0) :: (62, 1) :: (61, 0) :: (61, 1) :: (61, 2) :: (61, 3) :: (60, 5) :: (60, 6) :: (60, 7) :: (60, 8) :: (60, 9) :: (60, 10) :: []) 0 6).mpr ⟨by decide, by decide +kernel⟩) (by decide +kernel) rfl ?_
  refine Ev.iload_n (q := 215) dX11_init_214 rfl rfl ?_
  refine Ev.newO (q := 218) (n := 117) (l := [(117, 0), (117, 1), (117, 2), (117, 3), (117, 4), (117, 5), (117, 6)]) dX11_init_215 ck4 kkX11_31 kiX4 kzX4 k117 (fun j => ⟨fun z => absurd (f9 z) (by decide), fun _ => by (try simp (disch := omega) only [up_o]); exact hz9 117 (by omega) (by omega) j (by omega)⟩) (by decide) (fun y hy => by have h9 := isR_in k117 hy; rw [show (List.range (nfd 4)).filter (fun y => fty 4 y == 8) = [0, 1, 2, 3, 4, 5, 6] by decide] at h9; have h8 : ∀ y ∈ ([0, 1, 2, 3, 4, 5, 6] : List Nat), (117, y) ∈ ([(117, 0), (117, 1), (117, 2), (117, 3), (117, 4), (117, 5), (117, 6)] : List (Nat × Nat)) := (by decide); exact h8 y h9) (by decide) (by decide) rfl ?_
  show Ev Γ _ _ (210, 6895, 117, 4824) _ 218 _ [rv 117, iv 5, rv 60] (118, opS 118 ((117, 0) :: (117, 1) :: (117, 2) :: (117, 3) :: (117, 4) :: (117, 5) :: (117, 6) :: (63, 0) :: (63, 1) :: (62, 0) :: (62, 1) :: (61, 0) :: (61, 1) :: (61, 2) :: (61, 3) :: (60, 5) :: (60, 6) :: (60, 7) :: (60, 8) :: (60, 9) :: (60, 10) :: [])) _
  refine Ev.dup (q := 219) dX11_init_218 (fun z => by cases z) rfl ?_
  refine Ev.callIN (host := "AllPressed") (q := 222) (M' := MX4_init) (d' := d + 2) (mc' := 7) (ms' := 36) (As := []) (rest := [rv 117, iv 5, rv 60]) dX11_init_219 (List.mem_of_getElem? (i := 6) rfl) moX4_init miX4_init rfl rfl rfl (Nat.le_of_ble_eq_true rfl) (by omega) (Nat.le_of_ble_eq_true rfl) (by decide) (by decide) (i_X4 (d := d + 1) (o := (63, 0) :: (63, 1) :: (62, 0) :: (62, 1) :: (61, 0) :: (61, 1) :: (61, 2) :: (61, 3) :: (60, 5) :: (60, 6) :: (60, 7) :: (60, 8) :: (60, 9) :: (60, 10) :: []) 117 (by decide) (fun x h1 h2 j => by (try simp (disch := omega) only [up_o]); exact hz9 x (by omega) (by omega) j (by omega)) (by decide +kernel)) (fun v g' m' h => by rw [h.1]) rfl (fun v15 g15 m15 t15 h15 => ?_)
  obtain ⟨hg15, hm15⟩ := h15
  subst hg15
  replace hm15 := hm15.symm
  subst hm15
  refine Ev.psh0 (show v15.1 = 0 from t15) ?_
  clear t15
  show Ev Γ _ _ (210, 6895, 124, 4860) _ 222 _ [rv 117, iv 5, rv 60] (125, opS 125 ((63, 0) :: (63, 1) :: (62, 0) :: (62, 1) :: (61, 0) :: (61, 1) :: (61, 2) :: (61, 3) :: (60, 5) :: (60, 6) :: (60, 7) :: (60, 8) :: (60, 9) :: (60, 10) :: [])) _
  refine Ev.cg (S' := opS 125 ((60, 5) :: (63, 0) :: (63, 1) :: (62, 0) :: (62, 1) :: (61, 0) :: (61, 1) :: (61, 2) :: (61, 3) :: (60, 6) :: (60, 7) :: (60, 8) :: (60, 9) :: (60, 10) :: [])) (eqS_perm (by decide +kernel) (by decide +kernel)) ?_
  refine Ev.aastO (q := 223) (n := 125) (k := 5) (o := (63, 0) :: (63, 1) :: (62, 0) :: (62, 1) :: (61, 0) :: (61, 1) :: (61, 2) :: (61, 3) :: (60, 6) :: (60, 7) :: (60, 8) :: (60, 9) :: (60, 10) :: []) dX11_init_222 k60 (by decide) (by decide) k117 (by decide) ck4.1 rfl rfl (by decide) (by decide +kernel) (by unfold nin; decide +kernel) rfl ?_
  refine Ev.iinc (q := 226) dX11_init_223 (by decide) rfl rfl rfl ?_
  rw [show w32 (5 + 1 : Int) = 6 by decide]
  refine Ev.goto (q := 201) dX11_init_226 rfl ?_
  refine Ev.iload_n (q := 202) dX11_init_201 rfl rfl ?_
  refine Ev.aload_n (q := 203) dX11_init_202 rfl rfl ?_
  refine Ev.getR (q := 206) (r := 60) dX11_init_203 gfX11_41 rfl k0 (by decide) ((opS_v 125 ((63, 0) :: (63, 1) :: (62, 0) :: (62, 1) :: (61, 0) :: (61, 1) :: (61, 2) :: (61, 3) :: (60, 6) :: (60, 7) :: (60, 8) :: (60, 9) :: (60, 10) :: []) 0 6).mpr ⟨by decide, by decide +kernel⟩) (by decide +kernel) rfl ?_
  refine Ev.alen (q := 207) dX11_init_206 k60 (by decide) (by decide) (by decide) rfl ?_
  refine Ev.icmp_ge (tgt := 229) (q := 210) dX11_init_207 rfl rfl (fun z => absurd z (by decide)) (fun _ => ?_)
  refine Ev.aload_n (q := 211) dX11_init_210 rfl rfl ?_
  refine Ev.getR (q := 214) (r := 60) dX11_init_211 gfX11_41 rfl k0 (by decide) ((opS_v 125 ((63, 0) :: (63, 1) :: (62, 0) :: (62, 1) :: (61, 0) :: (61, 1) :: (61, 2) :: (61, 3) :: (60, 6) :: (60, 7) :: (60, 8) :: (60, 9) :: (60, 10) :: []) 0 6).mpr ⟨by decide, by decide +kernel⟩) (by decide +kernel) rfl ?_
  refine Ev.iload_n (q := 215) dX11_init_214 rfl rfl ?_
  refine Ev.newO (q := 218) (n := 125) (l := [(125, 0), (125, 1), (125, 2), (125, 3), (125, 4), (125, 5), (125, 6)]) dX11_init_215 ck4 kkX11_31 kiX4 kzX4 k125 (fun j => ⟨fun z => absurd (f9 z) (by decide), fun _ => by (try simp (disch := omega) only [up_o]); exact hz9 125 (by omega) (by omega) j (by omega)⟩) (by decide) (fun y hy => by have h9 := isR_in k125 hy; rw [show (List.range (nfd 4)).filter (fun y => fty 4 y == 8) = [0, 1, 2, 3, 4, 5, 6] by decide] at h9; have h8 : ∀ y ∈ ([0, 1, 2, 3, 4, 5, 6] : List Nat), (125, y) ∈ ([(125, 0), (125, 1), (125, 2), (125, 3), (125, 4), (125, 5), (125, 6)] : List (Nat × Nat)) := (by decide); exact h8 y h9) (by decide) (by decide) rfl ?_
  show Ev Γ _ _ (210, 6895, 125, 4867) _ 218 _ [rv 125, iv 6, rv 60] (126, opS 126 ((125, 0) :: (125, 1) :: (125, 2) :: (125, 3) :: (125, 4) :: (125, 5) :: (125, 6) :: (63, 0) :: (63, 1) :: (62, 0) :: (62, 1) :: (61, 0) :: (61, 1) :: (61, 2) :: (61, 3) :: (60, 6) :: (60, 7) :: (60, 8) :: (60, 9) :: (60, 10) :: [])) _
  refine Ev.dup (q := 219) dX11_init_218 (fun z => by cases z) rfl ?_
  refine Ev.callIN (host := "AllPressed") (q := 222) (M' := MX4_init) (d' := d + 2) (mc' := 7) (ms' := 36) (As := []) (rest := [rv 125, iv 6, rv 60]) dX11_init_219 (List.mem_of_getElem? (i := 6) rfl) moX4_init miX4_init rfl rfl rfl (Nat.le_of_ble_eq_true rfl) (by omega) (Nat.le_of_ble_eq_true rfl) (by decide) (by decide) (i_X4 (d := d + 1) (o := (63, 0) :: (63, 1) :: (62, 0) :: (62, 1) :: (61, 0) :: (61, 1) :: (61, 2) :: (61, 3) :: (60, 6) :: (60, 7) :: (60, 8) :: (60, 9) :: (60, 10) :: []) 125 (by decide) (fun x h1 h2 j => by (try simp (disch := omega) only [up_o]); exact hz9 x (by omega) (by omega) j (by omega)) (by decide +kernel)) (fun v g' m' h => by rw [h.1]) rfl (fun v16 g16 m16 t16 h16 => ?_)
  obtain ⟨hg16, hm16⟩ := h16
  subst hg16
  replace hm16 := hm16.symm
  subst hm16
  refine Ev.psh0 (show v16.1 = 0 from t16) ?_
  clear t16
  show Ev Γ _ _ (210, 6895, 132, 4903) _ 222 _ [rv 125, iv 6, rv 60] (133, opS 133 ((63, 0) :: (63, 1) :: (62, 0) :: (62, 1) :: (61, 0) :: (61, 1) :: (61, 2) :: (61, 3) :: (60, 6) :: (60, 7) :: (60, 8) :: (60, 9) :: (60, 10) :: [])) _
  refine Ev.cg (S' := opS 133 ((60, 6) :: (63, 0) :: (63, 1) :: (62, 0) :: (62, 1) :: (61, 0) :: (61, 1) :: (61, 2) :: (61, 3) :: (60, 7) :: (60, 8) :: (60, 9) :: (60, 10) :: [])) (eqS_perm (by decide +kernel) (by decide +kernel)) ?_
  refine Ev.aastO (q := 223) (n := 133) (k := 6) (o := (63, 0) :: (63, 1) :: (62, 0) :: (62, 1) :: (61, 0) :: (61, 1) :: (61, 2) :: (61, 3) :: (60, 7) :: (60, 8) :: (60, 9) :: (60, 10) :: []) dX11_init_222 k60 (by decide) (by decide) k125 (by decide) ck4.1 rfl rfl (by decide) (by decide +kernel) (by unfold nin; decide +kernel) rfl ?_
  refine Ev.iinc (q := 226) dX11_init_223 (by decide) rfl rfl rfl ?_
  rw [show w32 (6 + 1 : Int) = 7 by decide]
  refine Ev.goto (q := 201) dX11_init_226 rfl ?_
  refine Ev.iload_n (q := 202) dX11_init_201 rfl rfl ?_
  refine Ev.aload_n (q := 203) dX11_init_202 rfl rfl ?_
  refine Ev.getR (q := 206) (r := 60) dX11_init_203 gfX11_41 rfl k0 (by decide) ((opS_v 133 ((63, 0) :: (63, 1) :: (62, 0) :: (62, 1) :: (61, 0) :: (61, 1) :: (61, 2) :: (61, 3) :: (60, 7) :: (60, 8) :: (60, 9) :: (60, 10) :: []) 0 6).mpr ⟨by decide, by decide +kernel⟩) (by decide +kernel) rfl ?_
  refine Ev.alen (q := 207) dX11_init_206 k60 (by decide) (by decide) (by decide) rfl ?_
  refine Ev.icmp_ge (tgt := 229) (q := 210) dX11_init_207 rfl rfl (fun z => absurd z (by decide)) (fun _ => ?_)
  refine Ev.aload_n (q := 211) dX11_init_210 rfl rfl ?_
  refine Ev.getR (q := 214) (r := 60) dX11_init_211 gfX11_41 rfl k0 (by decide) ((opS_v 133 ((63, 0) :: (63, 1) :: (62, 0) :: (62, 1) :: (61, 0) :: (61, 1) :: (61, 2) :: (61, 3) :: (60, 7) :: (60, 8) :: (60, 9) :: (60, 10) :: []) 0 6).mpr ⟨by decide, by decide +kernel⟩) (by decide +kernel) rfl ?_
  refine Ev.iload_n (q := 215) dX11_init_214 rfl rfl ?_
  refine Ev.newO (q := 218) (n := 133) (l := [(133, 0), (133, 1), (133, 2), (133, 3), (133, 4), (133, 5), (133, 6)]) dX11_init_215 ck4 kkX11_31 kiX4 kzX4 k133 (fun j => ⟨fun z => absurd (f9 z) (by decide), fun _ => by (try simp (disch := omega) only [up_o]); exact hz9 133 (by omega) (by omega) j (by omega)⟩) (by decide) (fun y hy => by have h9 := isR_in k133 hy; rw [show (List.range (nfd 4)).filter (fun y => fty 4 y == 8) = [0, 1, 2, 3, 4, 5, 6] by decide] at h9; have h8 : ∀ y ∈ ([0, 1, 2, 3, 4, 5, 6] : List Nat), (133, y) ∈ ([(133, 0), (133, 1), (133, 2), (133, 3), (133, 4), (133, 5), (133, 6)] : List (Nat × Nat)) := (by decide); exact h8 y h9) (by decide) (by decide) rfl ?_
  show Ev Γ _ _ (210, 6895, 133, 4910) _ 218 _ [rv 133, iv 7, rv 60] (134, opS 134 ((133, 0) :: (133, 1) :: (133, 2) :: (133, 3) :: (133, 4) :: (133, 5) :: (133, 6) :: (63, 0) :: (63, 1) :: (62, 0) :: (62, 1) :: (61, 0) :: (61, 1) :: (61, 2) :: (61, 3) :: (60, 7) :: (60, 8) :: (60, 9) :: (60, 10) :: [])) _
  refine Ev.dup (q := 219) dX11_init_218 (fun z => by cases z) rfl ?_
  refine Ev.callIN (host := "AllPressed") (q := 222) (M' := MX4_init) (d' := d + 2) (mc' := 7) (ms' := 36) (As := []) (rest := [rv 133, iv 7, rv 60]) dX11_init_219 (List.mem_of_getElem? (i := 6) rfl) moX4_init miX4_init rfl rfl rfl (Nat.le_of_ble_eq_true rfl) (by omega) (Nat.le_of_ble_eq_true rfl) (by decide) (by decide) (i_X4 (d := d + 1) (o := (63, 0) :: (63, 1) :: (62, 0) :: (62, 1) :: (61, 0) :: (61, 1) :: (61, 2) :: (61, 3) :: (60, 7) :: (60, 8) :: (60, 9) :: (60, 10) :: []) 133 (by decide) (fun x h1 h2 j => by (try simp (disch := omega) only [up_o]); exact hz9 x (by omega) (by omega) j (by omega)) (by decide +kernel)) (fun v g' m' h => by rw [h.1]) rfl (fun v17 g17 m17 t17 h17 => ?_)
  obtain ⟨hg17, hm17⟩ := h17
  subst hg17
  replace hm17 := hm17.symm
  subst hm17
  refine Ev.psh0 (show v17.1 = 0 from t17) ?_
  clear t17
  show Ev Γ _ _ (210, 6895, 140, 4946) _ 222 _ [rv 133, iv 7, rv 60] (141, opS 141 ((63, 0) :: (63, 1) :: (62, 0) :: (62, 1) :: (61, 0) :: (61, 1) :: (61, 2) :: (61, 3) :: (60, 7) :: (60, 8) :: (60, 9) :: (60, 10) :: [])) _
  refine Ev.cg (S' := opS 141 ((60, 7) :: (63, 0) :: (63, 1) :: (62, 0) :: (62, 1) :: (61, 0) :: (61, 1) :: (61, 2) :: (61, 3) :: (60, 8) :: (60, 9) :: (60, 10) :: [])) (eqS_perm (by decide +kernel) (by decide +kernel)) ?_
  refine Ev.aastO (q := 223) (n := 141) (k := 7) (o := (63, 0) :: (63, 1) :: (62, 0) :: (62, 1) :: (61, 0) :: (61, 1) :: (61, 2) :: (61, 3) :: (60, 8) :: (60, 9) :: (60, 10) :: []) dX11_init_222 k60 (by decide) (by decide) k133 (by decide) ck4.1 rfl rfl (by decide) (by decide +kernel) (by unfold nin; decide +kernel) rfl ?_
  refine Ev.iinc (q := 226) dX11_init_223 (by decide) rfl rfl rfl ?_
  rw [show w32 (7 + 1 : Int) = 8 by decide]
  refine Ev.goto (q := 201) dX11_init_226 rfl ?_
  refine Ev.iload_n (q := 202) dX11_init_201 rfl rfl ?_
  refine Ev.aload_n (q := 203) dX11_init_202 rfl rfl ?_
  refine Ev.getR (q := 206) (r := 60) dX11_init_203 gfX11_41 rfl k0 (by decide) ((opS_v 141 ((63, 0) :: (63, 1) :: (62, 0) :: (62, 1) :: (61, 0) :: (61, 1) :: (61, 2) :: (61, 3) :: (60, 8) :: (60, 9) :: (60, 10) :: []) 0 6).mpr ⟨by decide, by decide +kernel⟩) (by decide +kernel) rfl ?_
  refine Ev.alen (q := 207) dX11_init_206 k60 (by decide) (by decide) (by decide) rfl ?_
  refine Ev.icmp_ge (tgt := 229) (q := 210) dX11_init_207 rfl rfl (fun z => absurd z (by decide)) (fun _ => ?_)
  refine Ev.aload_n (q := 211) dX11_init_210 rfl rfl ?_
  refine Ev.getR (q := 214) (r := 60) dX11_init_211 gfX11_41 rfl k0 (by decide) ((opS_v 141 ((63, 0) :: (63, 1) :: (62, 0) :: (62, 1) :: (61, 0) :: (61, 1) :: (61, 2) :: (61, 3) :: (60, 8) :: (60, 9) :: (60, 10) :: []) 0 6).mpr ⟨by decide, by decide +kernel⟩) (by decide +kernel) rfl ?_
  refine Ev.iload_n (q := 215) dX11_init_214 rfl rfl ?_
  refine Ev.newO (q := 218) (n := 141) (l := [(141, 0), (141, 1), (141, 2), (141, 3), (141, 4), (141, 5), (141, 6)]) dX11_init_215 ck4 kkX11_31 kiX4 kzX4 k141 (fun j => ⟨fun z => absurd (f9 z) (by decide), fun _ => by (try simp (disch := omega) only [up_o]); exact hz9 141 (by omega) (by omega) j (by omega)⟩) (by decide) (fun y hy => by have h9 := isR_in k141 hy; rw [show (List.range (nfd 4)).filter (fun y => fty 4 y == 8) = [0, 1, 2, 3, 4, 5, 6] by decide] at h9; have h8 : ∀ y ∈ ([0, 1, 2, 3, 4, 5, 6] : List Nat), (141, y) ∈ ([(141, 0), (141, 1), (141, 2), (141, 3), (141, 4), (141, 5), (141, 6)] : List (Nat × Nat)) := (by decide); exact h8 y h9) (by decide) (by decide) rfl ?_
  show Ev Γ _ _ (210, 6895, 141, 4953) _ 218 _ [rv 141, iv 8, rv 60] (142, opS 142 ((141, 0) :: (141, 1) :: (141, 2) :: (141, 3) :: (141, 4) :: (141, 5) :: (141, 6) :: (63, 0) :: (63, 1) :: (62, 0) :: (62, 1) :: (61, 0) :: (61, 1) :: (61, 2) :: (61, 3) :: (60, 8) :: (60, 9) :: (60, 10) :: [])) _
  refine Ev.dup (q := 219) dX11_init_218 (fun z => by cases z) rfl ?_
  refine Ev.callIN (host := "AllPressed") (q := 222) (M' := MX4_init) (d' := d + 2) (mc' := 7) (ms' := 36) (As := []) (rest := [rv 141, iv 8, rv 60]) dX11_init_219 (List.mem_of_getElem? (i := 6) rfl) moX4_init miX4_init rfl rfl rfl (Nat.le_of_ble_eq_true rfl) (by omega) (Nat.le_of_ble_eq_true rfl) (by decide) (by decide) (i_X4 (d := d + 1) (o := (63, 0) :: (63, 1) :: (62, 0) :: (62, 1) :: (61, 0) :: (61, 1) :: (61, 2) :: (61, 3) :: (60, 8) :: (60, 9) :: (60, 10) :: []) 141 (by decide) (fun x h1 h2 j => by (try simp (disch := omega) only [up_o]); exact hz9 x (by omega) (by omega) j (by omega)) (by decide +kernel)) (fun v g' m' h => by rw [h.1]) rfl (fun v18 g18 m18 t18 h18 => ?_)
  obtain ⟨hg18, hm18⟩ := h18
  subst hg18
  replace hm18 := hm18.symm
  subst hm18
  refine Ev.psh0 (show v18.1 = 0 from t18) ?_
  clear t18
  show Ev Γ _ _ (210, 6895, 148, 4989) _ 222 _ [rv 141, iv 8, rv 60] (149, opS 149 ((63, 0) :: (63, 1) :: (62, 0) :: (62, 1) :: (61, 0) :: (61, 1) :: (61, 2) :: (61, 3) :: (60, 8) :: (60, 9) :: (60, 10) :: [])) _
  refine Ev.cg (S' := opS 149 ((60, 8) :: (63, 0) :: (63, 1) :: (62, 0) :: (62, 1) :: (61, 0) :: (61, 1) :: (61, 2) :: (61, 3) :: (60, 9) :: (60, 10) :: [])) (eqS_perm (by decide +kernel) (by decide +kernel)) ?_
  refine Ev.aastO (q := 223) (n := 149) (k := 8) (o := (63, 0) :: (63, 1) :: (62, 0) :: (62, 1) :: (61, 0) :: (61, 1) :: (61, 2) :: (61, 3) :: (60, 9) :: (60, 10) :: []) dX11_init_222 k60 (by decide) (by decide) k141 (by decide) ck4.1 rfl rfl (by decide) (by decide +kernel) (by unfold nin; decide +kernel) rfl ?_
  refine Ev.iinc (q := 226) dX11_init_223 (by decide) rfl rfl rfl ?_
  rw [show w32 (8 + 1 : Int) = 9 by decide]
  refine Ev.goto (q := 201) dX11_init_226 rfl ?_
  refine Ev.iload_n (q := 202) dX11_init_201 rfl rfl ?_
  refine Ev.aload_n (q := 203) dX11_init_202 rfl rfl ?_
  refine Ev.getR (q := 206) (r := 60) dX11_init_203 gfX11_41 rfl k0 (by decide) ((opS_v 149 ((63, 0) :: (63, 1) :: (62, 0) :: (62, 1) :: (61, 0) :: (61, 1) :: (61, 2) :: (61, 3) :: (60, 9) :: (60, 10) :: []) 0 6).mpr ⟨by decide, by decide +kernel⟩) (by decide +kernel) rfl ?_
  refine Ev.alen (q := 207) dX11_init_206 k60 (by decide) (by decide) (by decide) rfl ?_
  refine Ev.icmp_ge (tgt := 229) (q := 210) dX11_init_207 rfl rfl (fun z => absurd z (by decide)) (fun _ => ?_)
  refine Ev.aload_n (q := 211) dX11_init_210 rfl rfl ?_
  refine Ev.getR (q := 214) (r := 60) dX11_init_211 gfX11_41 rfl k0 (by decide) ((opS_v 149 ((63, 0) :: (63, 1) :: (62, 0) :: (62, 1) :: (61, 0) :: (61, 1) :: (61, 2) :: (61, 3) :: (60, 9) :: (60, 10) :: []) 0 6).mpr ⟨by decide, by decide +kernel⟩) (by decide +kernel) rfl ?_
  refine Ev.iload_n (q := 215) dX11_init_214 rfl rfl ?_
  refine Ev.newO (q := 218) (n := 149) (l := [(149, 0), (149, 1), (149, 2), (149, 3), (149, 4), (149, 5), (149, 6)]) dX11_init_215 ck4 kkX11_31 kiX4 kzX4 k149 (fun j => ⟨fun z => absurd (f9 z) (by decide), fun _ => by (try simp (disch := omega) only [up_o]); exact hz9 149 (by omega) (by omega) j (by omega)⟩) (by decide) (fun y hy => by have h9 := isR_in k149 hy; rw [show (List.range (nfd 4)).filter (fun y => fty 4 y == 8) = [0, 1, 2, 3, 4, 5, 6] by decide] at h9; have h8 : ∀ y ∈ ([0, 1, 2, 3, 4, 5, 6] : List Nat), (149, y) ∈ ([(149, 0), (149, 1), (149, 2), (149, 3), (149, 4), (149, 5), (149, 6)] : List (Nat × Nat)) := (by decide); exact h8 y h9) (by decide) (by decide) rfl ?_
  show Ev Γ _ _ (210, 6895, 149, 4996) _ 218 _ [rv 149, iv 9, rv 60] (150, opS 150 ((149, 0) :: (149, 1) :: (149, 2) :: (149, 3) :: (149, 4) :: (149, 5) :: (149, 6) :: (63, 0) :: (63, 1) :: (62, 0) :: (62, 1) :: (61, 0) :: (61, 1) :: (61, 2) :: (61, 3) :: (60, 9) :: (60, 10) :: [])) _
  refine Ev.dup (q := 219) dX11_init_218 (fun z => by cases z) rfl ?_
  refine Ev.callIN (host := "AllPressed") (q := 222) (M' := MX4_init) (d' := d + 2) (mc' := 7) (ms' := 36) (As := []) (rest := [rv 149, iv 9, rv 60]) dX11_init_219 (List.mem_of_getElem? (i := 6) rfl) moX4_init miX4_init rfl rfl rfl (Nat.le_of_ble_eq_true rfl) (by omega) (Nat.le_of_ble_eq_true rfl) (by decide) (by decide) (i_X4 (d := d + 1) (o := (63, 0) :: (63, 1) :: (62, 0) :: (62, 1) :: (61, 0) :: (61, 1) :: (61, 2) :: (61, 3) :: (60, 9) :: (60, 10) :: []) 149 (by decide) (fun x h1 h2 j => by (try simp (disch := omega) only [up_o]); exact hz9 x (by omega) (by omega) j (by omega)) (by decide +kernel)) (fun v g' m' h => by rw [h.1]) rfl (fun v19 g19 m19 t19 h19 => ?_)
  obtain ⟨hg19, hm19⟩ := h19
  subst hg19
  replace hm19 := hm19.symm
  subst hm19
  refine Ev.psh0 (show v19.1 = 0 from t19) ?_
  clear t19
  show Ev Γ _ _ (210, 6895, 156, 5032) _ 222 _ [rv 149, iv 9, rv 60] (157, opS 157 ((63, 0) :: (63, 1) :: (62, 0) :: (62, 1) :: (61, 0) :: (61, 1) :: (61, 2) :: (61, 3) :: (60, 9) :: (60, 10) :: [])) _
  refine Ev.cg (S' := opS 157 ((60, 9) :: (63, 0) :: (63, 1) :: (62, 0) :: (62, 1) :: (61, 0) :: (61, 1) :: (61, 2) :: (61, 3) :: (60, 10) :: [])) (eqS_perm (by decide +kernel) (by decide +kernel)) ?_
  refine Ev.aastO (q := 223) (n := 157) (k := 9) (o := (63, 0) :: (63, 1) :: (62, 0) :: (62, 1) :: (61, 0) :: (61, 1) :: (61, 2) :: (61, 3) :: (60, 10) :: []) dX11_init_222 k60 (by decide) (by decide) k149 (by decide) ck4.1 rfl rfl (by decide) (by decide +kernel) (by unfold nin; decide +kernel) rfl ?_
  refine Ev.iinc (q := 226) dX11_init_223 (by decide) rfl rfl rfl ?_
  rw [show w32 (9 + 1 : Int) = 10 by decide]
  refine Ev.goto (q := 201) dX11_init_226 rfl ?_
  refine Ev.iload_n (q := 202) dX11_init_201 rfl rfl ?_
  refine Ev.aload_n (q := 203) dX11_init_202 rfl rfl ?_
  refine Ev.getR (q := 206) (r := 60) dX11_init_203 gfX11_41 rfl k0 (by decide) ((opS_v 157 ((63, 0) :: (63, 1) :: (62, 0) :: (62, 1) :: (61, 0) :: (61, 1) :: (61, 2) :: (61, 3) :: (60, 10) :: []) 0 6).mpr ⟨by decide, by decide +kernel⟩) (by decide +kernel) rfl ?_
  refine Ev.alen (q := 207) dX11_init_206 k60 (by decide) (by decide) (by decide) rfl ?_
  refine Ev.icmp_ge (tgt := 229) (q := 210) dX11_init_207 rfl rfl (fun z => absurd z (by decide)) (fun _ => ?_)
  refine Ev.aload_n (q := 211) dX11_init_210 rfl rfl ?_
  refine Ev.getR (q := 214) (r := 60) dX11_init_211 gfX11_41 rfl k0 (by decide) ((opS_v 157 ((63, 0) :: (63, 1) :: (62, 0) :: (62, 1) :: (61, 0) :: (61, 1) :: (61, 2) :: (61, 3) :: (60, 10) :: []) 0 6).mpr ⟨by decide, by decide +kernel⟩) (by decide +kernel) rfl ?_
  refine Ev.iload_n (q := 215) dX11_init_214 rfl rfl ?_
  refine Ev.newO (q := 218) (n := 157) (l := [(157, 0), (157, 1), (157, 2), (157, 3), (157, 4), (157, 5), (157, 6)]) dX11_init_215 ck4 kkX11_31 kiX4 kzX4 k157 (fun j => ⟨fun z => absurd (f9 z) (by decide), fun _ => by (try simp (disch := omega) only [up_o]); exact hz9 157 (by omega) (by omega) j (by omega)⟩) (by decide) (fun y hy => by have h9 := isR_in k157 hy; rw [show (List.range (nfd 4)).filter (fun y => fty 4 y == 8) = [0, 1, 2, 3, 4, 5, 6] by decide] at h9; have h8 : ∀ y ∈ ([0, 1, 2, 3, 4, 5, 6] : List Nat), (157, y) ∈ ([(157, 0), (157, 1), (157, 2), (157, 3), (157, 4), (157, 5), (157, 6)] : List (Nat × Nat)) := (by decide); exact h8 y h9) (by decide) (by decide) rfl ?_
  show Ev Γ _ _ (210, 6895, 157, 5039) _ 218 _ [rv 157, iv 10, rv 60] (158, opS 158 ((157, 0) :: (157, 1) :: (157, 2) :: (157, 3) :: (157, 4) :: (157, 5) :: (157, 6) :: (63, 0) :: (63, 1) :: (62, 0) :: (62, 1) :: (61, 0) :: (61, 1) :: (61, 2) :: (61, 3) :: (60, 10) :: [])) _
  refine Ev.dup (q := 219) dX11_init_218 (fun z => by cases z) rfl ?_
  refine Ev.callIN (host := "AllPressed") (q := 222) (M' := MX4_init) (d' := d + 2) (mc' := 7) (ms' := 36) (As := []) (rest := [rv 157, iv 10, rv 60]) dX11_init_219 (List.mem_of_getElem? (i := 6) rfl) moX4_init miX4_init rfl rfl rfl (Nat.le_of_ble_eq_true rfl) (by omega) (Nat.le_of_ble_eq_true rfl) (by decide) (by decide) (i_X4 (d := d + 1) (o := (63, 0) :: (63, 1) :: (62, 0) :: (62, 1) :: (61, 0) :: (61, 1) :: (61, 2) :: (61, 3) :: (60, 10) :: []) 157 (by decide) (fun x h1 h2 j => by (try simp (disch := omega) only [up_o]); exact hz9 x (by omega) (by omega) j (by omega)) (by decide +kernel)) (fun v g' m' h => by rw [h.1]) rfl (fun v20 g20 m20 t20 h20 => ?_)
  obtain ⟨hg20, hm20⟩ := h20
  subst hg20
  replace hm20 := hm20.symm
  subst hm20
  refine Ev.psh0 (show v20.1 = 0 from t20) ?_
  clear t20
  show Ev Γ _ _ (210, 6895, 164, 5075) _ 222 _ [rv 157, iv 10, rv 60] (165, opS 165 ((63, 0) :: (63, 1) :: (62, 0) :: (62, 1) :: (61, 0) :: (61, 1) :: (61, 2) :: (61, 3) :: (60, 10) :: [])) _
  refine Ev.cg (S' := opS 165 ((60, 10) :: (63, 0) :: (63, 1) :: (62, 0) :: (62, 1) :: (61, 0) :: (61, 1) :: (61, 2) :: (61, 3) :: [])) (eqS_perm (by decide +kernel) (by decide +kernel)) ?_
  refine Ev.aastO (q := 223) (n := 165) (k := 10) (o := (63, 0) :: (63, 1) :: (62, 0) :: (62, 1) :: (61, 0) :: (61, 1) :: (61, 2) :: (61, 3) :: []) dX11_init_222 k60 (by decide) (by decide) k157 (by decide) ck4.1 rfl rfl (by decide) (by decide +kernel) (by unfold nin; decide +kernel) rfl ?_
  refine Ev.iinc (q := 226) dX11_init_223 (by decide) rfl rfl rfl ?_
  rw [show w32 (10 + 1 : Int) = 11 by decide]
  refine Ev.goto (q := 201) dX11_init_226 rfl ?_
  refine Ev.iload_n (q := 202) dX11_init_201 rfl rfl ?_
  refine Ev.aload_n (q := 203) dX11_init_202 rfl rfl ?_
  refine Ev.getR (q := 206) (r := 60) dX11_init_203 gfX11_41 rfl k0 (by decide) ((opS_v 165 ((63, 0) :: (63, 1) :: (62, 0) :: (62, 1) :: (61, 0) :: (61, 1) :: (61, 2) :: (61, 3) :: []) 0 6).mpr ⟨by decide, by decide +kernel⟩) (by decide +kernel) rfl ?_
  refine Ev.alen (q := 207) dX11_init_206 k60 (by decide) (by decide) (by decide) rfl ?_
  refine Ev.icmp_ge (tgt := 229) (q := 210) dX11_init_207 rfl rfl (fun _ => ?_) (fun z => absurd (by decide) z)
  refine Ev.iconst (q := 230) dX11_init_229 ki_0 rfl ?_
  refine Ev.istore_n (q := 231) dX11_init_230 (by decide) rfl rfl ?_
  refine Ev.iload_n (q := 232) dX11_init_231 rfl rfl ?_
  refine Ev.aload_n (q := 233) dX11_init_232 rfl rfl ?_
  refine Ev.getR (q := 236) (r := 61) dX11_init_233 gfX11_53 rfl k0 (by decide) ((opS_v 165 ((63, 0) :: (63, 1) :: (62, 0) :: (62, 1) :: (61, 0) :: (61, 1) :: (61, 2) :: (61, 3) :: []) 0 9).mpr ⟨by decide, by decide +kernel⟩) (by decide +kernel) rfl ?_
  refine Ev.alen (q := 237) dX11_init_236 k61 (by decide) (by decide) (by decide) rfl ?_
  refine Ev.icmp_ge (tgt := 259) (q := 240) dX11_init_237 rfl rfl (fun z => absurd z (by decide)) (fun _ => ?_)
  refine Ev.aload_n (q := 241) dX11_init_240 rfl rfl ?_
  refine Ev.getR (q := 244) (r := 61) dX11_init_241 gfX11_53 rfl k0 (by decide) ((opS_v 165 ((63, 0) :: (63, 1) :: (62, 0) :: (62, 1) :: (61, 0) :: (61, 1) :: (61, 2) :: (61, 3) :: []) 0 9).mpr ⟨by decide, by decide +kernel⟩) (by decide +kernel) rfl ?_
  refine Ev.iload_n (q := 245) dX11_init_244 rfl rfl ?_
  refine Ev.newO (q := 248) (n := 165) (l := [(165, 2)]) dX11_init_245 ck9 kkX11_51 kiX9 kzX9 k165 (fun j => ⟨fun z => absurd (f9 z) (by decide), fun _ => by (try simp (disch := omega) only [up_o]); exact hz9 165 (by omega) (by omega) j (by omega)⟩) (by decide) (fun y hy => by have h9 := isR_in k165 hy; rw [show (List.range (nfd 9)).filter (fun y => fty 9 y == 8) = [2] by decide] at h9; have h8 : ∀ y ∈ ([2] : List Nat), (165, y) ∈ ([(165, 2)] : List (Nat × Nat)) := (by decide); exact h8 y h9) (by decide) (by decide) rfl ?_
  show Ev Γ _ _ (210, 6895, 165, 5078) _ 248 _ [rv 165, iv 0, rv 61] (166, opS 166 ((165, 2) :: (63, 0) :: (63, 1) :: (62, 0) :: (62, 1) :: (61, 0) :: (61, 1) :: (61, 2) :: (61, 3) :: [])) _
  refine Ev.dup (q := 249) dX11_init_248 (fun z => by cases z) rfl ?_
  refine Ev.callIN (host := "AllPressed") (q := 252) (M' := MX9_init) (d' := d + 2) (mc' := 1) (ms' := 40) (As := []) (rest := [rv 165, iv 0, rv 61]) dX11_init_249 (List.mem_of_getElem? (i := 7) rfl) moX9_init miX9_init rfl rfl rfl (Nat.le_of_ble_eq_true rfl) (by omega) (Nat.le_of_ble_eq_true rfl) (by decide) (by decide) (i_X9 (d := d + 1) (o := (63, 0) :: (63, 1) :: (62, 0) :: (62, 1) :: (61, 0) :: (61, 1) :: (61, 2) :: (61, 3) :: []) 165 (by decide) (fun x h1 h2 j => by (try simp (disch := omega) only [up_o]); exact hz9 x (by omega) (by omega) j (by omega)) (by decide +kernel)) (fun v g' m' h => by rw [h.1]) rfl (fun v21 g21 m21 t21 h21 => ?_)
  obtain ⟨hg21, hm21⟩ := h21
  subst hg21
  refine Ev.psh0 (show v21.1 = 0 from t21) ?_
  clear t21
  have hz21 : ∀ x, 166 < x → x ≤ 210 → ∀ j, ¬ (x = 22 ∧ j = 0) → m21 x j = 0 := fun x h1 h2 j h3 => by rw [hm21]; (try simp (disch := omega) only [up_o]); exact hz9 x (by omega) h2 j h3
  have hk21 : ∀ x, 210 < x → m21 x = m x := fun x h1 => by funext j; rw [hm21]; (try simp (disch := omega) only [up_o]); exact congrFun (hk9 x h1) j
  have hl21 : ∀ x, x < 165 → m21 x = m9 x := fun x hx => by rw [hm21]; funext j; (try simp (disch := omega) only [up_o])
  have hI21 : I11c m21 := hI9.keep (fun x hx => hl21 x (by omega))
  have hT21 : T11 1 m21 := hT9.next (fun x hx => hl21 x (by omega)) (by rw [hm21]; simp [up])
  show Ev Γ _ _ (210, 6895, 166, 5118) _ 252 _ [rv 165, iv 0, rv 61] (167, opS 167 ((63, 0) :: (63, 1) :: (62, 0) :: (62, 1) :: (61, 0) :: (61, 1) :: (61, 2) :: (61, 3) :: [])) _
  refine Ev.cg (S' := opS 167 ((61, 0) :: (63, 0) :: (63, 1) :: (62, 0) :: (62, 1) :: (61, 1) :: (61, 2) :: (61, 3) :: [])) (eqS_perm (by decide +kernel) (by decide +kernel)) ?_
  refine Ev.aastO (q := 253) (n := 167) (k := 0) (o := (63, 0) :: (63, 1) :: (62, 0) :: (62, 1) :: (61, 1) :: (61, 2) :: (61, 3) :: []) dX11_init_252 k61 (by decide) (by decide) k165 (by decide) ck9.1 rfl rfl (by decide) (by decide +kernel) (by unfold nin; decide +kernel) rfl ?_
  refine Ev.iinc (q := 256) dX11_init_253 (by decide) rfl rfl rfl ?_
  rw [show w32 (0 + 1 : Int) = 1 by decide]
  refine Ev.goto (q := 231) dX11_init_256 rfl ?_
  refine Ev.iload_n (q := 232) dX11_init_231 rfl rfl ?_
  refine Ev.aload_n (q := 233) dX11_init_232 rfl rfl ?_
  refine Ev.getR (q := 236) (r := 61) dX11_init_233 gfX11_53 rfl k0 (by decide) ((opS_v 167 ((63, 0) :: (63, 1) :: (62, 0) :: (62, 1) :: (61, 1) :: (61, 2) :: (61, 3) :: []) 0 9).mpr ⟨by decide, by decide +kernel⟩) (by decide +kernel) rfl ?_
  refine Ev.alen (q := 237) dX11_init_236 k61 (by decide) (by decide) (by decide) rfl ?_
  refine Ev.icmp_ge (tgt := 259) (q := 240) dX11_init_237 rfl rfl (fun z => absurd z (by decide)) (fun _ => ?_)
  refine Ev.aload_n (q := 241) dX11_init_240 rfl rfl ?_
  refine Ev.getR (q := 244) (r := 61) dX11_init_241 gfX11_53 rfl k0 (by decide) ((opS_v 167 ((63, 0) :: (63, 1) :: (62, 0) :: (62, 1) :: (61, 1) :: (61, 2) :: (61, 3) :: []) 0 9).mpr ⟨by decide, by decide +kernel⟩) (by decide +kernel) rfl ?_
  refine Ev.iload_n (q := 245) dX11_init_244 rfl rfl ?_
  refine Ev.newO (q := 248) (n := 167) (l := [(167, 2)]) dX11_init_245 ck9 kkX11_51 kiX9 kzX9 k167 (fun j => ⟨fun z => absurd (f9 z) (by decide), fun _ => by (try simp (disch := omega) only [up_o]); exact hz21 167 (by omega) (by omega) j (by omega)⟩) (by decide) (fun y hy => by have h9 := isR_in k167 hy; rw [show (List.range (nfd 9)).filter (fun y => fty 9 y == 8) = [2] by decide] at h9; have h8 : ∀ y ∈ ([2] : List Nat), (167, y) ∈ ([(167, 2)] : List (Nat × Nat)) := (by decide); exact h8 y h9) (by decide) (by decide) rfl ?_
  show Ev Γ _ _ (210, 6895, 167, 5121) _ 248 _ [rv 167, iv 1, rv 61] (168, opS 168 ((167, 2) :: (63, 0) :: (63, 1) :: (62, 0) :: (62, 1) :: (61, 1) :: (61, 2) :: (61, 3) :: [])) _
  refine Ev.dup (q := 249) dX11_init_248 (fun z => by cases z) rfl ?_
  refine Ev.callIN (host := "AllPressed") (q := 252) (M' := MX9_init) (d' := d + 2) (mc' := 1) (ms' := 40) (As := []) (rest := [rv 167, iv 1, rv 61]) dX11_init_249 (List.mem_of_getElem? (i := 7) rfl) moX9_init miX9_init rfl rfl rfl (Nat.le_of_ble_eq_true rfl) (by omega) (Nat.le_of_ble_eq_true rfl) (by decide) (by decide) (i_X9 (d := d + 1) (o := (63, 0) :: (63, 1) :: (62, 0) :: (62, 1) :: (61, 1) :: (61, 2) :: (61, 3) :: []) 167 (by decide) (fun x h1 h2 j => by (try simp (disch := omega) only [up_o]); exact hz21 x (by omega) (by omega) j (by omega)) (by decide +kernel)) (fun v g' m' h => by rw [h.1]) rfl (fun v22 g22 m22 t22 h22 => ?_)
  obtain ⟨hg22, hm22⟩ := h22
  subst hg22
  refine Ev.psh0 (show v22.1 = 0 from t22) ?_
  clear t22
  have hz22 : ∀ x, 168 < x → x ≤ 210 → ∀ j, ¬ (x = 22 ∧ j = 0) → m22 x j = 0 := fun x h1 h2 j h3 => by rw [hm22]; (try simp (disch := omega) only [up_o]); exact hz21 x (by omega) h2 j h3
  have hk22 : ∀ x, 210 < x → m22 x = m x := fun x h1 => by funext j; rw [hm22]; (try simp (disch := omega) only [up_o]); exact congrFun (hk21 x h1) j
  have hl22 : ∀ x, x < 167 → m22 x = m21 x := fun x hx => by rw [hm22]; funext j; (try simp (disch := omega) only [up_o])
  have hI22 : I11c m22 := hI21.keep (fun x hx => hl22 x (by omega))
  have hT22 : T11 2 m22 := hT21.next (fun x hx => hl22 x (by omega)) (by rw [hm22]; simp [up])
  show Ev Γ _ _ (210, 6895, 168, 5161) _ 252 _ [rv 167, iv 1, rv 61] (169, opS 169 ((63, 0) :: (63, 1) :: (62, 0) :: (62, 1) :: (61, 1) :: (61, 2) :: (61, 3) :: [])) _
  refine Ev.cg (S' := opS 169 ((61, 1) :: (63, 0) :: (63, 1) :: (62, 0) :: (62, 1) :: (61, 2) :: (61, 3) :: [])) (eqS_perm (by decide +kernel) (by decide +kernel)) ?_
  refine Ev.aastO (q := 253) (n := 169) (k := 1) (o := (63, 0) :: (63, 1) :: (62, 0) :: (62, 1) :: (61, 2) :: (61, 3) :: []) dX11_init_252 k61 (by decide) (by decide) k167 (by decide) ck9.1 rfl rfl (by decide) (by decide +kernel) (by unfold nin; decide +kernel) rfl ?_
  refine Ev.iinc (q := 256) dX11_init_253 (by decide) rfl rfl rfl ?_
  rw [show w32 (1 + 1 : Int) = 2 by decide]
  refine Ev.goto (q := 231) dX11_init_256 rfl ?_
  refine Ev.iload_n (q := 232) dX11_init_231 rfl rfl ?_
  refine Ev.aload_n (q := 233) dX11_init_232 rfl rfl ?_
  refine Ev.getR (q := 236) (r := 61) dX11_init_233 gfX11_53 rfl k0 (by decide) ((opS_v 169 ((63, 0) :: (63, 1) :: (62, 0) :: (62, 1) :: (61, 2) :: (61, 3) :: []) 0 9).mpr ⟨by decide, by decide +kernel⟩) (by decide +kernel) rfl ?_
  refine Ev.alen (q := 237) dX11_init_236 k61 (by decide) (by decide) (by decide) rfl ?_
  refine Ev.icmp_ge (tgt := 259) (q := 240) dX11_init_237 rfl rfl (fun z => absurd z (by decide)) (fun _ => ?_)
  refine Ev.aload_n (q := 241) dX11_init_240 rfl rfl ?_
  refine Ev.getR (q := 244) (r := 61) dX11_init_241 gfX11_53 rfl k0 (by decide) ((opS_v 169 ((63, 0) :: (63, 1) :: (62, 0) :: (62, 1) :: (61, 2) :: (61, 3) :: []) 0 9).mpr ⟨by decide, by decide +kernel⟩) (by decide +kernel) rfl ?_
  refine Ev.iload_n (q := 245) dX11_init_244 rfl rfl ?_
  refine Ev.newO (q := 248) (n := 169) (l := [(169, 2)]) dX11_init_245 ck9 kkX11_51 kiX9 kzX9 k169 (fun j => ⟨fun z => absurd (f9 z) (by decide), fun _ => by (try simp (disch := omega) only [up_o]); exact hz22 169 (by omega) (by omega) j (by omega)⟩) (by decide) (fun y hy => by have h9 := isR_in k169 hy; rw [show (List.range (nfd 9)).filter (fun y => fty 9 y == 8) = [2] by decide] at h9; have h8 : ∀ y ∈ ([2] : List Nat), (169, y) ∈ ([(169, 2)] : List (Nat × Nat)) := (by decide); exact h8 y h9) (by decide) (by decide) rfl ?_
  show Ev Γ _ _ (210, 6895, 169, 5164) _ 248 _ [rv 169, iv 2, rv 61] (170, opS 170 ((169, 2) :: (63, 0) :: (63, 1) :: (62, 0) :: (62, 1) :: (61, 2) :: (61, 3) :: [])) _
  refine Ev.dup (q := 249) dX11_init_248 (fun z => by cases z) rfl ?_
  refine Ev.callIN (host := "AllPressed") (q := 252) (M' := MX9_init) (d' := d + 2) (mc' := 1) (ms' := 40) (As := []) (rest := [rv 169, iv 2, rv 61]) dX11_init_249 (List.mem_of_getElem? (i := 7) rfl) moX9_init miX9_init rfl rfl rfl (Nat.le_of_ble_eq_true rfl) (by omega) (Nat.le_of_ble_eq_true rfl) (by decide) (by decide) (i_X9 (d := d + 1) (o := (63, 0) :: (63, 1) :: (62, 0) :: (62, 1) :: (61, 2) :: (61, 3) :: []) 169 (by decide) (fun x h1 h2 j => by (try simp (disch := omega) only [up_o]); exact hz22 x (by omega) (by omega) j (by omega)) (by decide +kernel)) (fun v g' m' h => by rw [h.1]) rfl (fun v23 g23 m23 t23 h23 => ?_)
  obtain ⟨hg23, hm23⟩ := h23
  subst hg23
  refine Ev.psh0 (show v23.1 = 0 from t23) ?_
  clear t23
  have hz23 : ∀ x, 170 < x → x ≤ 210 → ∀ j, ¬ (x = 22 ∧ j = 0) → m23 x j = 0 := fun x h1 h2 j h3 => by rw [hm23]; (try simp (disch := omega) only [up_o]); exact hz22 x (by omega) h2 j h3
  have hk23 : ∀ x, 210 < x → m23 x = m x := fun x h1 => by funext j; rw [hm23]; (try simp (disch := omega) only [up_o]); exact congrFun (hk22 x h1) j
  have hl23 : ∀ x, x < 169 → m23 x = m22 x := fun x hx => by rw [hm23]; funext j; (try simp (disch := omega) only [up_o])
  have hI23 : I11c m23 := hI22.keep (fun x hx => hl23 x (by omega))
  have hT23 : T11 3 m23 := hT22.next (fun x hx => hl23 x (by omega)) (by rw [hm23]; simp [up])
  show Ev Γ _ _ (210, 6895, 170, 5204) _ 252 _ [rv 169, iv 2, rv 61] (171, opS 171 ((63, 0) :: (63, 1) :: (62, 0) :: (62, 1) :: (61, 2) :: (61, 3) :: [])) _
  refine Ev.cg (S' := opS 171 ((61, 2) :: (63, 0) :: (63, 1) :: (62, 0) :: (62, 1) :: (61, 3) :: [])) (eqS_perm (by decide +kernel) (by decide +kernel)) ?_
  refine Ev.aastO (q := 253) (n := 171) (k := 2) (o := (63, 0) :: (63, 1) :: (62, 0) :: (62, 1) :: (61, 3) :: []) dX11_init_252 k61 (by decide) (by decide) k169 (by decide) ck9.1 rfl rfl (by decide) (by decide +kernel) (by unfold nin; decide +kernel) rfl ?_
  refine Ev.iinc (q := 256) dX11_init_253 (by decide) rfl rfl rfl ?_
  rw [show w32 (2 + 1 : Int) = 3 by decide]
  refine Ev.goto (q := 231) dX11_init_256 rfl ?_
  refine Ev.iload_n (q := 232) dX11_init_231 rfl rfl ?_
  refine Ev.aload_n (q := 233) dX11_init_232 rfl rfl ?_
  refine Ev.getR (q := 236) (r := 61) dX11_init_233 gfX11_53 rfl k0 (by decide) ((opS_v 171 ((63, 0) :: (63, 1) :: (62, 0) :: (62, 1) :: (61, 3) :: []) 0 9).mpr ⟨by decide, by decide +kernel⟩) (by decide +kernel) rfl ?_
  refine Ev.alen (q := 237) dX11_init_236 k61 (by decide) (by decide) (by decide) rfl ?_
  refine Ev.icmp_ge (tgt := 259) (q := 240) dX11_init_237 rfl rfl (fun z => absurd z (by decide)) (fun _ => ?_)
  refine Ev.aload_n (q := 241) dX11_init_240 rfl rfl ?_
  refine Ev.getR (q := 244) (r := 61) dX11_init_241 gfX11_53 rfl k0 (by decide) ((opS_v 171 ((63, 0) :: (63, 1) :: (62, 0) :: (62, 1) :: (61, 3) :: []) 0 9).mpr ⟨by decide, by decide +kernel⟩) (by decide +kernel) rfl ?_
  refine Ev.iload_n (q := 245) dX11_init_244 rfl rfl ?_
  refine Ev.newO (q := 248) (n := 171) (l := [(171, 2)]) dX11_init_245 ck9 kkX11_51 kiX9 kzX9 k171 (fun j => ⟨fun z => absurd (f9 z) (by decide), fun _ => by (try simp (disch := omega) only [up_o]); exact hz23 171 (by omega) (by omega) j (by omega)⟩) (by decide) (fun y hy => by have h9 := isR_in k171 hy; rw [show (List.range (nfd 9)).filter (fun y => fty 9 y == 8) = [2] by decide] at h9; have h8 : ∀ y ∈ ([2] : List Nat), (171, y) ∈ ([(171, 2)] : List (Nat × Nat)) := (by decide); exact h8 y h9) (by decide) (by decide) rfl ?_
  show Ev Γ _ _ (210, 6895, 171, 5207) _ 248 _ [rv 171, iv 3, rv 61] (172, opS 172 ((171, 2) :: (63, 0) :: (63, 1) :: (62, 0) :: (62, 1) :: (61, 3) :: [])) _
  refine Ev.dup (q := 249) dX11_init_248 (fun z => by cases z) rfl ?_
  refine Ev.callIN (host := "AllPressed") (q := 252) (M' := MX9_init) (d' := d + 2) (mc' := 1) (ms' := 40) (As := []) (rest := [rv 171, iv 3, rv 61]) dX11_init_249 (List.mem_of_getElem? (i := 7) rfl) moX9_init miX9_init rfl rfl rfl (Nat.le_of_ble_eq_true rfl) (by omega) (Nat.le_of_ble_eq_true rfl) (by decide) (by decide) (i_X9 (d := d + 1) (o := (63, 0) :: (63, 1) :: (62, 0) :: (62, 1) :: (61, 3) :: []) 171 (by decide) (fun x h1 h2 j => by (try simp (disch := omega) only [up_o]); exact hz23 x (by omega) (by omega) j (by omega)) (by decide +kernel)) (fun v g' m' h => by rw [h.1]) rfl (fun v24 g24 m24 t24 h24 => ?_)
  obtain ⟨hg24, hm24⟩ := h24
  subst hg24
  refine Ev.psh0 (show v24.1 = 0 from t24) ?_
  clear t24
  have hz24 : ∀ x, 172 < x → x ≤ 210 → ∀ j, ¬ (x = 22 ∧ j = 0) → m24 x j = 0 := fun x h1 h2 j h3 => by rw [hm24]; (try simp (disch := omega) only [up_o]); exact hz23 x (by omega) h2 j h3
  have hk24 : ∀ x, 210 < x → m24 x = m x := fun x h1 => by funext j; rw [hm24]; (try simp (disch := omega) only [up_o]); exact congrFun (hk23 x h1) j
  have hl24 : ∀ x, x < 171 → m24 x = m23 x := fun x hx => by rw [hm24]; funext j; (try simp (disch := omega) only [up_o])
  have hI24 : I11c m24 := hI23.keep (fun x hx => hl24 x (by omega))
  have hT24 : T11 4 m24 := hT23.next (fun x hx => hl24 x (by omega)) (by rw [hm24]; simp [up])
  show Ev Γ _ _ (210, 6895, 172, 5247) _ 252 _ [rv 171, iv 3, rv 61] (173, opS 173 ((63, 0) :: (63, 1) :: (62, 0) :: (62, 1) :: (61, 3) :: [])) _
  refine Ev.cg (S' := opS 173 ((61, 3) :: (63, 0) :: (63, 1) :: (62, 0) :: (62, 1) :: [])) (eqS_perm (by decide +kernel) (by decide +kernel)) ?_
  refine Ev.aastO (q := 253) (n := 173) (k := 3) (o := (63, 0) :: (63, 1) :: (62, 0) :: (62, 1) :: []) dX11_init_252 k61 (by decide) (by decide) k171 (by decide) ck9.1 rfl rfl (by decide) (by decide +kernel) (by unfold nin; decide +kernel) rfl ?_
  refine Ev.iinc (q := 256) dX11_init_253 (by decide) rfl rfl rfl ?_
  rw [show w32 (3 + 1 : Int) = 4 by decide]
  refine Ev.goto (q := 231) dX11_init_256 rfl ?_
  refine Ev.iload_n (q := 232) dX11_init_231 rfl rfl ?_
  refine Ev.aload_n (q := 233) dX11_init_232 rfl rfl ?_
  refine Ev.getR (q := 236) (r := 61) dX11_init_233 gfX11_53 rfl k0 (by decide) ((opS_v 173 ((63, 0) :: (63, 1) :: (62, 0) :: (62, 1) :: []) 0 9).mpr ⟨by decide, by decide +kernel⟩) (by decide +kernel) rfl ?_
  refine Ev.alen (q := 237) dX11_init_236 k61 (by decide) (by decide) (by decide) rfl ?_
  refine Ev.icmp_ge (tgt := 259) (q := 240) dX11_init_237 rfl rfl (fun _ => ?_) (fun z => absurd (by decide) z)
  refine Ev.iconst (q := 260) dX11_init_259 ki_0 rfl ?_
  refine Ev.istore_n (q := 261) dX11_init_260 (by decide) rfl rfl ?_
  refine Ev.iload_n (q := 262) dX11_init_261 rfl rfl ?_
  refine Ev.iconst (q := 263) dX11_init_262 ki_2 rfl ?_
  refine Ev.icmp_ge (tgt := 298) (q := 266) dX11_init_263 rfl rfl (fun z => absurd z (by decide)) (fun _ => ?_)
  refine Ev.aload_n (q := 267) dX11_init_266 rfl rfl ?_
  refine Ev.getR (q := 270) (r := 62) dX11_init_267 gfX11_57 rfl k0 (by decide) ((opS_v 173 ((63, 0) :: (63, 1) :: (62, 0) :: (62, 1) :: []) 0 10).mpr ⟨by decide, by decide +kernel⟩) (by decide +kernel) rfl ?_
  refine Ev.iload_n (q := 271) dX11_init_270 rfl rfl ?_
  refine Ev.newO (q := 274) (n := 173) (l := [(173, 4), (173, 5), (173, 6), (173, 7), (173, 8), (173, 9), (173, 10), (173, 11), (173, 12), (173, 13)]) dX11_init_271 ck1 kkX11_24 kiX1 kzX1 k173 (fun j => ⟨fun z => absurd (f9 z) (by decide), fun _ => by (try simp (disch := omega) only [up_o]); exact hz24 173 (by omega) (by omega) j (by omega)⟩) (by decide) (fun y hy => by have h9 := isR_in k173 hy; rw [show (List.range (nfd 1)).filter (fun y => fty 1 y == 8) = [4, 5, 6, 7, 8, 9, 10, 11, 12, 13] by decide] at h9; have h8 : ∀ y ∈ ([4, 5, 6, 7, 8, 9, 10, 11, 12, 13] : List Nat), (173, y) ∈ ([(173, 4), (173, 5), (173, 6), (173, 7), (173, 8), (173, 9), (173, 10), (173, 11), (173, 12), (173, 13)] : List (Nat × Nat)) := (by decide); exact h8 y h9) (by decide) (by decide) rfl ?_
  show Ev Γ _ _ (210, 6895, 173, 5261) _ 274 _ [rv 173, iv 0, rv 62] (174, opS 174 ((173, 4) :: (173, 5) :: (173, 6) :: (173, 7) :: (173, 8) :: (173, 9) :: (173, 10) :: (173, 11) :: (173, 12) :: (173, 13) :: (63, 0) :: (63, 1) :: (62, 0) :: (62, 1) :: [])) _
  refine Ev.dup (q := 275) dX11_init_274 (fun z => by cases z) rfl ?_
  refine Ev.callIN (host := "AllPressed") (q := 278) (M' := MX1_init) (d' := d + 2) (mc' := 10) (ms' := 767) (As := []) (rest := [rv 173, iv 0, rv 62]) dX11_init_275 (List.mem_of_getElem? (i := 5) rfl) moX1_init miX1_init rfl rfl rfl (Nat.le_of_ble_eq_true rfl) (by omega) (Nat.le_of_ble_eq_true rfl) (by decide) (by decide) (i_X1 (d := d + 1) (o := (63, 0) :: (63, 1) :: (62, 0) :: (62, 1) :: []) 173 (by decide) (fun x h1 h2 j => by (try simp (disch := omega) only [up_o]); exact hz24 x (by omega) (by omega) j (by omega)) (by decide +kernel)) (fun v g' m' h => by rw [h.1]) rfl (fun v25 g25 m25 t25 h25 => ?_)
  obtain ⟨hg25, hm25⟩ := h25
  subst hg25
  refine Ev.psh0 (show v25.1 = 0 from t25) ?_
  clear t25
  have hz25 : ∀ x, 183 < x → x ≤ 210 → ∀ j, ¬ (x = 22 ∧ j = 0) → m25 x j = 0 := fun x h1 h2 j h3 => by rw [hm25]; (try simp (disch := omega) only [up_o]); exact hz24 x (by omega) h2 j h3
  have hk25 : ∀ x, 210 < x → m25 x = m x := fun x h1 => by funext j; rw [hm25]; (try simp (disch := omega) only [up_o]); exact congrFun (hk24 x h1) j
  have hl25 : ∀ x, x < 173 → m25 x = m24 x := fun x hx => by rw [hm25]; funext j; (try simp (disch := omega) only [up_o])
  have hI25 : I11c m25 := hI24.keep (fun x hx => hl25 x (by omega))
  have hT25 : T11 4 m25 := hT24.keep (fun x hx => hl25 x (by omega))
  show Ev Γ _ _ (210, 6895, 183, 6028) _ 278 _ [rv 173, iv 0, rv 62] (184, opS 184 ((63, 0) :: (63, 1) :: (62, 0) :: (62, 1) :: [])) _
  refine Ev.cg (S' := opS 184 ((62, 0) :: (63, 0) :: (63, 1) :: (62, 1) :: [])) (eqS_perm (by decide +kernel) (by decide +kernel)) ?_
  refine Ev.aastO (q := 279) (n := 184) (k := 0) (o := (63, 0) :: (63, 1) :: (62, 1) :: []) dX11_init_278 k62 (by decide) (by decide) k173 (by decide) ck1.1 rfl rfl (by decide) (by decide +kernel) (by unfold nin; decide +kernel) rfl ?_
  refine Ev.aload_n (q := 280) dX11_init_279 rfl rfl ?_
  refine Ev.getR (q := 283) (r := 63) dX11_init_280 gfX11_61 rfl k0 (by decide) ((opS_v 184 ((63, 0) :: (63, 1) :: (62, 1) :: []) 0 11).mpr ⟨by decide, by decide +kernel⟩) (by decide +kernel) rfl ?_
  refine Ev.iload_n (q := 284) dX11_init_283 rfl rfl ?_
  refine Ev.newO (q := 287) (n := 184) (l := [(184, 0), (184, 1), (184, 2), (184, 3), (184, 4), (184, 5), (184, 6)]) dX11_init_284 ck4 kkX11_31 kiX4 kzX4 k184 (fun j => ⟨fun z => absurd (f9 z) (by decide), fun _ => by (try simp (disch := omega) only [up_o]); exact hz25 184 (by omega) (by omega) j (by omega)⟩) (by decide) (fun y hy => by have h9 := isR_in k184 hy; rw [show (List.range (nfd 4)).filter (fun y => fty 4 y == 8) = [0, 1, 2, 3, 4, 5, 6] by decide] at h9; have h8 : ∀ y ∈ ([0, 1, 2, 3, 4, 5, 6] : List Nat), (184, y) ∈ ([(184, 0), (184, 1), (184, 2), (184, 3), (184, 4), (184, 5), (184, 6)] : List (Nat × Nat)) := (by decide); exact h8 y h9) (by decide) (by decide) rfl ?_
  show Ev Γ _ _ (210, 6895, 184, 6035) _ 287 _ [rv 184, iv 0, rv 63] (185, opS 185 ((184, 0) :: (184, 1) :: (184, 2) :: (184, 3) :: (184, 4) :: (184, 5) :: (184, 6) :: (63, 0) :: (63, 1) :: (62, 1) :: [])) _
  refine Ev.dup (q := 288) dX11_init_287 (fun z => by cases z) rfl ?_
  refine Ev.callIN (host := "AllPressed") (q := 291) (M' := MX4_init) (d' := d + 2) (mc' := 7) (ms' := 36) (As := []) (rest := [rv 184, iv 0, rv 63]) dX11_init_288 (List.mem_of_getElem? (i := 6) rfl) moX4_init miX4_init rfl rfl rfl (Nat.le_of_ble_eq_true rfl) (by omega) (Nat.le_of_ble_eq_true rfl) (by decide) (by decide) (i_X4 (d := d + 1) (o := (63, 0) :: (63, 1) :: (62, 1) :: []) 184 (by decide) (fun x h1 h2 j => by (try simp (disch := omega) only [up_o]); exact hz25 x (by omega) (by omega) j (by omega)) (by decide +kernel)) (fun v g' m' h => by rw [h.1]) rfl (fun v26 g26 m26 t26 h26 => ?_)
  obtain ⟨hg26, hm26⟩ := h26
  subst hg26
  replace hm26 := hm26.symm
  subst hm26
  refine Ev.psh0 (show v26.1 = 0 from t26) ?_
  clear t26
  show Ev Γ _ _ (210, 6895, 191, 6071) _ 291 _ [rv 184, iv 0, rv 63] (192, opS 192 ((63, 0) :: (63, 1) :: (62, 1) :: [])) _
  refine Ev.aastO (q := 292) (n := 192) (k := 0) (o := (63, 1) :: (62, 1) :: []) dX11_init_291 k63 (by decide) (by decide) k184 (by decide) ck4.1 rfl rfl (by decide) (by decide +kernel) (by unfold nin; decide +kernel) rfl ?_
  refine Ev.iinc (q := 295) dX11_init_292 (by decide) rfl rfl rfl ?_
  rw [show w32 (0 + 1 : Int) = 1 by decide]
  refine Ev.goto (q := 261) dX11_init_295 rfl ?_
  refine Ev.iload_n (q := 262) dX11_init_261 rfl rfl ?_
  refine Ev.iconst (q := 263) dX11_init_262 ki_2 rfl ?_
  refine Ev.icmp_ge (tgt := 298) (q := 266) dX11_init_263 rfl rfl (fun z => absurd z (by decide)) (fun _ => ?_)
  refine Ev.aload_n (q := 267) dX11_init_266 rfl rfl ?_
  refine Ev.getR (q := 270) (r := 62) dX11_init_267 gfX11_57 rfl k0 (by decide) ((opS_v 192 ((63, 1) :: (62, 1) :: []) 0 10).mpr ⟨by decide, by decide +kernel⟩) (by decide +kernel) rfl ?_
  refine Ev.iload_n (q := 271) dX11_init_270 rfl rfl ?_
  refine Ev.newO (q := 274) (n := 192) (l := [(192, 4), (192, 5), (192, 6), (192, 7), (192, 8), (192, 9), (192, 10), (192, 11), (192, 12), (192, 13)]) dX11_init_271 ck1 kkX11_24 kiX1 kzX1 k192 (fun j => ⟨fun z => absurd (f9 z) (by decide), fun _ => by (try simp (disch := omega) only [up_o]); exact hz25 192 (by omega) (by omega) j (by omega)⟩) (by decide) (fun y hy => by have h9 := isR_in k192 hy; rw [show (List.range (nfd 1)).filter (fun y => fty 1 y == 8) = [4, 5, 6, 7, 8, 9, 10, 11, 12, 13] by decide] at h9; have h8 : ∀ y ∈ ([4, 5, 6, 7, 8, 9, 10, 11, 12, 13] : List Nat), (192, y) ∈ ([(192, 4), (192, 5), (192, 6), (192, 7), (192, 8), (192, 9), (192, 10), (192, 11), (192, 12), (192, 13)] : List (Nat × Nat)) := (by decide); exact h8 y h9) (by decide) (by decide) rfl ?_
  show Ev Γ _ _ (210, 6895, 192, 6085) _ 274 _ [rv 192, iv 1, rv 62] (193, opS 193 ((192, 4) :: (192, 5) :: (192, 6) :: (192, 7) :: (192, 8) :: (192, 9) :: (192, 10) :: (192, 11) :: (192, 12) :: (192, 13) :: (63, 1) :: (62, 1) :: [])) _
  refine Ev.dup (q := 275) dX11_init_274 (fun z => by cases z) rfl ?_
  refine Ev.callIN (host := "AllPressed") (q := 278) (M' := MX1_init) (d' := d + 2) (mc' := 10) (ms' := 767) (As := []) (rest := [rv 192, iv 1, rv 62]) dX11_init_275 (List.mem_of_getElem? (i := 5) rfl) moX1_init miX1_init rfl rfl rfl (Nat.le_of_ble_eq_true rfl) (by omega) (Nat.le_of_ble_eq_true rfl) (by decide) (by decide) (i_X1 (d := d + 1) (o := (63, 1) :: (62, 1) :: []) 192 (by decide) (fun x h1 h2 j => by (try simp (disch := omega) only [up_o]); exact hz25 x (by omega) (by omega) j (by omega)) (by decide +kernel)) (fun v g' m' h => by rw [h.1]) rfl (fun v27 g27 m27 t27 h27 => ?_)
  obtain ⟨hg27, hm27⟩ := h27
  subst hg27
  refine Ev.psh0 (show v27.1 = 0 from t27) ?_
  clear t27
  have hz27 : ∀ x, 202 < x → x ≤ 210 → ∀ j, ¬ (x = 22 ∧ j = 0) → m27 x j = 0 := fun x h1 h2 j h3 => by rw [hm27]; (try simp (disch := omega) only [up_o]); exact hz25 x (by omega) h2 j h3
  have hk27 : ∀ x, 210 < x → m27 x = m x := fun x h1 => by funext j; rw [hm27]; (try simp (disch := omega) only [up_o]); exact congrFun (hk25 x h1) j
  have hl27 : ∀ x, x < 192 → m27 x = m25 x := fun x hx => by rw [hm27]; funext j; (try simp (disch := omega) only [up_o])
  have hI27 : I11c m27 := hI25.keep (fun x hx => hl27 x (by omega))
  have hT27 : T11 4 m27 := hT25.keep (fun x hx => hl27 x (by omega))
  show Ev Γ _ _ (210, 6895, 202, 6852) _ 278 _ [rv 192, iv 1, rv 62] (203, opS 203 ((63, 1) :: (62, 1) :: [])) _
  refine Ev.cg (S' := opS 203 ((62, 1) :: (63, 1) :: [])) (eqS_perm (by decide +kernel) (by decide +kernel)) ?_
  refine Ev.aastO (q := 279) (n := 203) (k := 1) (o := (63, 1) :: []) dX11_init_278 k62 (by decide) (by decide) k192 (by decide) ck1.1 rfl rfl (by decide) (by decide +kernel) (by unfold nin; decide +kernel) rfl ?_
  refine Ev.aload_n (q := 280) dX11_init_279 rfl rfl ?_
  refine Ev.getR (q := 283) (r := 63) dX11_init_280 gfX11_61 rfl k0 (by decide) ((opS_v 203 ((63, 1) :: []) 0 11).mpr ⟨by decide, by decide +kernel⟩) (by decide +kernel) rfl ?_
  refine Ev.iload_n (q := 284) dX11_init_283 rfl rfl ?_
  refine Ev.newO (q := 287) (n := 203) (l := [(203, 0), (203, 1), (203, 2), (203, 3), (203, 4), (203, 5), (203, 6)]) dX11_init_284 ck4 kkX11_31 kiX4 kzX4 k203 (fun j => ⟨fun z => absurd (f9 z) (by decide), fun _ => by (try simp (disch := omega) only [up_o]); exact hz27 203 (by omega) (by omega) j (by omega)⟩) (by decide) (fun y hy => by have h9 := isR_in k203 hy; rw [show (List.range (nfd 4)).filter (fun y => fty 4 y == 8) = [0, 1, 2, 3, 4, 5, 6] by decide] at h9; have h8 : ∀ y ∈ ([0, 1, 2, 3, 4, 5, 6] : List Nat), (203, y) ∈ ([(203, 0), (203, 1), (203, 2), (203, 3), (203, 4), (203, 5), (203, 6)] : List (Nat × Nat)) := (by decide); exact h8 y h9) (by decide) (by decide) rfl ?_
  show Ev Γ _ _ (210, 6895, 203, 6859) _ 287 _ [rv 203, iv 1, rv 63] (204, opS 204 ((203, 0) :: (203, 1) :: (203, 2) :: (203, 3) :: (203, 4) :: (203, 5) :: (203, 6) :: (63, 1) :: [])) _
  refine Ev.dup (q := 288) dX11_init_287 (fun z => by cases z) rfl ?_
  refine Ev.callIN (host := "AllPressed") (q := 291) (M' := MX4_init) (d' := d + 2) (mc' := 7) (ms' := 36) (As := []) (rest := [rv 203, iv 1, rv 63]) dX11_init_288 (List.mem_of_getElem? (i := 6) rfl) moX4_init miX4_init rfl rfl rfl (Nat.le_of_ble_eq_true rfl) (by omega) (Nat.le_of_ble_eq_true rfl) (by decide) (by decide) (i_X4 (d := d + 1) (o := (63, 1) :: []) 203 (by decide) (fun x h1 h2 j => by (try simp (disch := omega) only [up_o]); exact hz27 x (by omega) (by omega) j (by omega)) (by decide +kernel)) (fun v g' m' h => by rw [h.1]) rfl (fun v28 g28 m28 t28 h28 => ?_)
  obtain ⟨hg28, hm28⟩ := h28
  subst hg28
  replace hm28 := hm28.symm
  subst hm28
  refine Ev.psh0 (show v28.1 = 0 from t28) ?_
  clear t28
  show Ev Γ _ _ (210, 6895, 210, 6895) _ 291 _ [rv 203, iv 1, rv 63] (211, opS 211 ((63, 1) :: [])) _
  refine Ev.aastO (q := 292) (n := 211) (k := 1) (o := []) dX11_init_291 k63 (by decide) (by decide) k203 (by decide) ck4.1 rfl rfl (by decide) (by decide +kernel) (by unfold nin; decide +kernel) rfl ?_
  refine Ev.iinc (q := 295) dX11_init_292 (by decide) rfl rfl rfl ?_
  rw [show w32 (1 + 1 : Int) = 2 by decide]
  refine Ev.goto (q := 261) dX11_init_295 rfl ?_
  refine Ev.iload_n (q := 262) dX11_init_261 rfl rfl ?_
  refine Ev.iconst (q := 263) dX11_init_262 ki_2 rfl ?_
  refine Ev.icmp_ge (tgt := 298) (q := 266) dX11_init_263 rfl rfl (fun _ => ?_) (fun z => absurd (by decide) z)
  refine Ev.vret dX11_init_298 rfl ⟨by decide, by decide⟩ ?_
  exact ⟨rfl, ⟨hI27, hT27⟩, hk27⟩
