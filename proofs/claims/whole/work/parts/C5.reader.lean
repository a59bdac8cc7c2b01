/-! ===== constructors: the reader ===== -/
theorem Ev.psh0 {Γ : Gm} {d : Nat} {M : Mth} {b : Bd} {Po : Pos} {pc : Nat} {L rest : List Vl} {g : Gh} {m : Mem} {v : Vl} (h : v.1 = 0) (k : Ev Γ d M b Po pc L rest g m) : Ev Γ d M b Po pc L (psh v rest) g m := by
  unfold psh
  rw [if_pos h]
  exact k
theorem f98 {j : Nat} (h : fty 8 j = 9) : j = 0 := by
  by_cases hj : j < 6
  · have : ∀ j, j < 6 → fty 8 j = 9 → j = 0 := by decide +kernel
    exact this j hj h
  · unfold fty at h
    have hl : (Fl.getD 8 []).length ≤ j := by
      have : (Fl.getD 8 []).length = 6 := by decide +kernel
      omega
    rw [List.getD_eq_getElem?_getD (l := Fl.getD 8 []), List.getElem?_eq_none hl] at h
    exact absurd h (by decide)
theorem f980 : fty 8 0 = 9 := by decide +kernel
set_option maxRecDepth 4000 in
theorem i_X6 {Γ : Gm} {d : Nat} {m : Mem} {o : List (Nat × Nat)} (hz : ∀ x, 2 < x → x ≤ 32 → ∀ j, ¬ (x = 22 ∧ j = 0) → m x j = 0) (h22 : m 22 0 < 0) (ho : ∀ p ∈ o, p.1 < 2) : Cl Γ (d + 2) MX6_init 30 2719 [rv 2] (3, opS 3 ((2, 0) :: (2, 1) :: (2, 4) :: (2, 5) :: (2, 6) :: (2, 7) :: o)) m (fun v g' m' => g' = (33, opS 33 o) ∧ m' 2 2 = 0 ∧ m' 2 3 = -1 ∧ ∀ x, ¬ (2 ≤ x ∧ x ≤ 32) → m' x = m x) := by
  have hz0 := hz
  have h220 := h22
  refine Cl.of moX6_init (fun v hv => by rw [List.mem_singleton.mp hv]; exact (by decide : (3 : Nat) ≠ 0)) (Nat.le_of_ble_eq_true rfl) ?_
  show Ev Γ (d + 2) MX6_init (30, 2719, 0, 0) _ 0 [rv 2] [] _ m
  refine Ev.aload_n (q := 1) dX6_init_0 rfl rfl ?_
  refine Ev.objI (q := 4) dX6_init_1 oiX6 (by omega) (Nat.le_of_ble_eq_true rfl) rfl ?_
  refine Ev.aload_n (q := 5) dX6_init_4 rfl rfl ?_
  refine Ev.newO (q := 8) (n := 3) (l := [(3, 4), (3, 5), (3, 6), (3, 7), (3, 8), (3, 9), (3, 10), (3, 11), (3, 12), (3, 13)]) dX6_init_5 ck1 kkX6_9 kiX1 kzX1 k3 (fun j => ⟨fun z => absurd (f9 z) (by decide), fun _ => by (try simp (disch := omega) only [up_o]); exact hz0 3 (by omega) (by omega) j (by omega)⟩) (by decide) (fun y hy => by have h9 := isR_in k3 hy; rw [show (List.range (nfd 1)).filter (fun y => fty 1 y == 8) = [4, 5, 6, 7, 8, 9, 10, 11, 12, 13] by decide] at h9; have h8 : ∀ y ∈ ([4, 5, 6, 7, 8, 9, 10, 11, 12, 13] : List Nat), (3, y) ∈ ([(3, 4), (3, 5), (3, 6), (3, 7), (3, 8), (3, 9), (3, 10), (3, 11), (3, 12), (3, 13)] : List (Nat × Nat)) := (by decide); exact h8 y h9) (by decide) (by decide) rfl ?_
  show Ev Γ _ _ (30, 2719, 1, 14) _ 8 _ [rv 3, rv 2] (4, opS 4 ((3, 4) :: (3, 5) :: (3, 6) :: (3, 7) :: (3, 8) :: (3, 9) :: (3, 10) :: (3, 11) :: (3, 12) :: (3, 13) :: (2, 0) :: (2, 1) :: (2, 4) :: (2, 5) :: (2, 6) :: (2, 7) :: o)) _
  refine Ev.dup (q := 9) dX6_init_8 (fun z => by cases z) rfl ?_
  refine Ev.callIN (host := "AllPressed") (q := 12) (M' := MX1_init) (d' := d + 1) (mc' := 10) (ms' := 767) (As := []) (rest := [rv 3, rv 2]) dX6_init_9 (List.mem_of_getElem? (i := 1) rfl) moX1_init miX1_init rfl rfl rfl (Nat.le_of_ble_eq_true rfl) (by omega) (Nat.le_of_ble_eq_true rfl) (by decide) (by decide) (i_X1 (d := d) (o := (2, 0) :: (2, 1) :: (2, 4) :: (2, 5) :: (2, 6) :: (2, 7) :: o) 3 (by decide) (fun x h1 h2 j => by (try simp (disch := omega) only [up_o]); exact hz0 x (by omega) (by omega) j (by omega)) (fun p hp => by simp only [List.mem_cons] at hp; rcases hp with rfl | rfl | rfl | rfl | rfl | rfl | hp; (exact (by decide : 2 < 3)); (exact (by decide : 2 < 3)); (exact (by decide : 2 < 3)); (exact (by decide : 2 < 3)); (exact (by decide : 2 < 3)); (exact (by decide : 2 < 3)); exact Nat.lt_trans (ho p hp) (by decide))) (fun v g' m' h => by rw [h.1]) rfl (fun v1 g1 m1 t1 h1 => ?_)
  obtain ⟨hg1, hm1⟩ := h1
  subst hg1
  refine Ev.psh0 (show v1.1 = 0 from t1) ?_
  clear t1
  have hz1 : ∀ x, 13 < x → x ≤ 32 → ∀ j, ¬ (x = 22 ∧ j = 0) → m1 x j = 0 := fun x h1 h2 j h3 => by rw [hm1]; (try simp (disch := omega) only [up_o]); exact hz0 x (by omega) h2 j h3
  have h221 : m1 22 0 < 0 := by rw [hm1]; (try simp (disch := omega) only [up_o]); exact h220
  have hk1 : ∀ x, ¬ (2 ≤ x ∧ x ≤ 13) → m1 x = m x := fun x h1 => by funext j; rw [hm1]; (try simp (disch := omega) only [up_o])
  show Ev Γ _ _ (30, 2719, 11, 781) _ 12 _ [rv 3, rv 2] (14, opS 14 ((2, 0) :: (2, 1) :: (2, 4) :: (2, 5) :: (2, 6) :: (2, 7) :: o)) _
  refine Ev.putO (q := 15) (n := 14) (o := (2, 1) :: (2, 4) :: (2, 5) :: (2, 6) :: (2, 7) :: o) dX6_init_12 gfX6_12 rfl k2 (by decide) (by decide +kernel) rfl (fun C T N h => by cases (ck6.1.symm.trans h); rfl) (nin_cons (Or.inr (by decide)) (nin_cons (Or.inr (by decide)) (nin_cons (Or.inr (by decide)) (nin_cons (Or.inr (by decide)) (nin_cons (Or.inr (by decide)) (nin_lo ho (Nat.le_refl _))))))) rfl ?_
  refine Ev.aload_n (q := 16) dX6_init_15 rfl rfl ?_
  refine Ev.newO (q := 19) (n := 14) (l := [(14, 0), (14, 1), (14, 2), (14, 3), (14, 4), (14, 5), (14, 6)]) dX6_init_16 ck4 kkX6_18 kiX4 kzX4 k14 (fun j => ⟨fun z => absurd (f9 z) (by decide), fun _ => by (try simp (disch := omega) only [up_o]); exact hz1 14 (by omega) (by omega) j (by omega)⟩) (by decide) (fun y hy => by have h9 := isR_in k14 hy; rw [show (List.range (nfd 4)).filter (fun y => fty 4 y == 8) = [0, 1, 2, 3, 4, 5, 6] by decide] at h9; have h8 : ∀ y ∈ ([0, 1, 2, 3, 4, 5, 6] : List Nat), (14, y) ∈ ([(14, 0), (14, 1), (14, 2), (14, 3), (14, 4), (14, 5), (14, 6)] : List (Nat × Nat)) := (by decide); exact h8 y h9) (by decide) (by decide) rfl ?_
  show Ev Γ _ _ (30, 2719, 12, 788) _ 19 _ [rv 14, rv 2] (15, opS 15 ((14, 0) :: (14, 1) :: (14, 2) :: (14, 3) :: (14, 4) :: (14, 5) :: (14, 6) :: (2, 1) :: (2, 4) :: (2, 5) :: (2, 6) :: (2, 7) :: o)) _
  refine Ev.dup (q := 20) dX6_init_19 (fun z => by cases z) rfl ?_
  refine Ev.callIN (host := "AllPressed") (q := 23) (M' := MX4_init) (d' := d + 1) (mc' := 7) (ms' := 36) (As := []) (rest := [rv 14, rv 2]) dX6_init_20 (List.mem_of_getElem? (i := 2) rfl) moX4_init miX4_init rfl rfl rfl (Nat.le_of_ble_eq_true rfl) (by omega) (Nat.le_of_ble_eq_true rfl) (by decide) (by decide) (i_X4 (d := d) (o := (2, 1) :: (2, 4) :: (2, 5) :: (2, 6) :: (2, 7) :: o) 14 (by decide) (fun x h1 h2 j => by (try simp (disch := omega) only [up_o]); exact hz1 x (by omega) (by omega) j (by omega)) (fun p hp => by simp only [List.mem_cons] at hp; rcases hp with rfl | rfl | rfl | rfl | rfl | hp; (exact (by decide : 2 < 14)); (exact (by decide : 2 < 14)); (exact (by decide : 2 < 14)); (exact (by decide : 2 < 14)); (exact (by decide : 2 < 14)); exact Nat.lt_trans (ho p hp) (by decide))) (fun v g' m' h => by rw [h.1]) rfl (fun v2 g2 m2 t2 h2 => ?_)
  obtain ⟨hg2, hm2⟩ := h2
  subst hg2
  refine Ev.psh0 (show v2.1 = 0 from t2) ?_
  clear t2
  have hz2 : ∀ x, 21 < x → x ≤ 32 → ∀ j, ¬ (x = 22 ∧ j = 0) → m2 x j = 0 := fun x h1 h2 j h3 => by rw [hm2]; (try simp (disch := omega) only [up_o]); exact hz1 x (by omega) h2 j h3
  have h222 : m2 22 0 < 0 := by rw [hm2]; (try simp (disch := omega) only [up_o]); exact h221
  have hk2 : ∀ x, ¬ (2 ≤ x ∧ x ≤ 21) → m2 x = m x := fun x h1 => by funext j; rw [hm2]; (try simp (disch := omega) only [up_o]); exact congrFun (hk1 x (by omega)) j
  show Ev Γ _ _ (30, 2719, 19, 824) _ 23 _ [rv 14, rv 2] (22, opS 22 ((2, 1) :: (2, 4) :: (2, 5) :: (2, 6) :: (2, 7) :: o)) _
  refine Ev.putO (q := 26) (n := 22) (o := (2, 4) :: (2, 5) :: (2, 6) :: (2, 7) :: o) dX6_init_23 gfX6_21 rfl k2 (by decide) (by decide +kernel) rfl (fun C T N h => by cases (ck6.1.symm.trans h); rfl) (nin_cons (Or.inr (by decide)) (nin_cons (Or.inr (by decide)) (nin_cons (Or.inr (by decide)) (nin_cons (Or.inr (by decide)) (nin_lo ho (Nat.le_refl _)))))) rfl ?_
  refine Ev.aload_n (q := 27) dX6_init_26 rfl rfl ?_
  refine Ev.iconst (q := 28) dX6_init_27 ki_0 rfl ?_
  refine Ev.putI (q := 31) dX6_init_28 gfX6_25 rfl k2 (by decide : 2 < 22) rfl ?_
  refine Ev.aload_n (q := 32) dX6_init_31 rfl rfl ?_
  refine Ev.iconst (q := 33) dX6_init_32 ki_m1 rfl ?_
  refine Ev.putI (q := 36) dX6_init_33 gfX6_29 rfl k2 (by decide : 2 < 22) rfl ?_
  refine Ev.aload_n (q := 37) dX6_init_36 rfl rfl ?_
  refine Ev.newO (q := 40) (n := 22) (l := []) dX6_init_37 ck8 kkX6_32 kiX8 kzX8 k22 (fun j => ⟨fun z => by rw [f98 z]; (try simp (disch := omega) only [up_o]); exact h222, fun z => by (try simp (disch := omega) only [up_o]); exact hz2 22 (by omega) (by omega) j (fun y => z (by rw [y.2]; exact f980))⟩) (by decide) (fun y hy => by have h9 := isR_in k22 hy; rw [show (List.range (nfd 8)).filter (fun y => fty 8 y == 8) = [] by decide] at h9; have h8 : ∀ y ∈ ([] : List Nat), (22, y) ∈ ([] : List (Nat × Nat)) := (by decide); exact h8 y h9) (by decide) (by decide) rfl ?_
  show Ev Γ _ _ (30, 2719, 20, 830) _ 40 _ [rv 22, rv 2] (23, opS 23 ((2, 4) :: (2, 5) :: (2, 6) :: (2, 7) :: o)) _
  refine Ev.dup (q := 41) dX6_init_40 (fun z => by cases z) rfl ?_
  refine Ev.callIN (host := "AllPressed") (q := 44) (M' := MX8_init) (d' := d + 1) (mc' := 1) (ms' := 0) (As := []) (rest := [rv 22, rv 2]) dX6_init_41 (List.mem_of_getElem? (i := 3) rfl) moX8_init miX8_init rfl rfl rfl (Nat.le_of_ble_eq_true rfl) (by omega) (Nat.le_of_ble_eq_true rfl) (by decide) (by decide) (i_X8 (d := d) (o := (2, 4) :: (2, 5) :: (2, 6) :: (2, 7) :: o) 22 (by decide) (fun x h1 h2 j => by (try simp (disch := omega) only [up_o]); exact hz2 x (by omega) (by omega) j (by omega)) (fun p hp => by simp only [List.mem_cons] at hp; rcases hp with rfl | rfl | rfl | rfl | hp; (exact (by decide : 2 < 22)); (exact (by decide : 2 < 22)); (exact (by decide : 2 < 22)); (exact (by decide : 2 < 22)); exact Nat.lt_trans (ho p hp) (by decide))) (fun v g' m' h => by rw [h.1]) rfl (fun v3 g3 m3 t3 h3 => ?_)
  obtain ⟨hg3, hm3⟩ := h3
  subst hg3
  refine Ev.psh0 (show v3.1 = 0 from t3) ?_
  clear t3
  have hz3 : ∀ x, 23 < x → x ≤ 32 → ∀ j, ¬ (x = 22 ∧ j = 0) → m3 x j = 0 := fun x h1 h2 j h3 => by rw [hm3]; (try simp (disch := omega) only [up_o]); exact hz2 x (by omega) h2 j h3
  have hk3 : ∀ x, ¬ (2 ≤ x ∧ x ≤ 23) → m3 x = m x := fun x h1 => by funext j; rw [hm3]; (try simp (disch := omega) only [up_o]); exact congrFun (hk2 x (by omega)) j
  show Ev Γ _ _ (30, 2719, 21, 830) _ 44 _ [rv 22, rv 2] (24, opS 24 ((2, 4) :: (2, 5) :: (2, 6) :: (2, 7) :: o)) _
  refine Ev.putO (q := 47) (n := 24) (o := (2, 5) :: (2, 6) :: (2, 7) :: o) dX6_init_44 gfX6_35 rfl k2 (by decide) (by decide +kernel) rfl (fun C T N h => by cases (ck6.1.symm.trans h); rfl) (nin_cons (Or.inr (by decide)) (nin_cons (Or.inr (by decide)) (nin_cons (Or.inr (by decide)) (nin_lo ho (Nat.le_refl _))))) rfl ?_
  refine Ev.aload_n (q := 48) dX6_init_47 rfl rfl ?_
  refine Ev.iconst (q := 49) dX6_init_48 ki_3 rfl ?_
  refine Ev.newaO (q := 51) (n := 24) dX6_init_49 ka_int k24 (by decide) rfl rfl (by decide) (fun j => by (try simp (disch := omega) only [up_o]); exact hz3 24 (by omega) (by omega) j (by omega)) (by decide) (by decide) rfl ?_
  show Ev Γ _ _ (30, 2719, 22, 833) _ 51 _ [rv 24, rv 2] (25, opS 25 ((2, 5) :: (2, 6) :: (2, 7) :: o)) _
  refine Ev.putO (q := 54) (n := 25) (o := (2, 6) :: (2, 7) :: o) dX6_init_51 gfX6_39 rfl k2 (by decide) (by decide +kernel) rfl (fun C T N h => by cases (ck6.1.symm.trans h); rfl) (nin_cons (Or.inr (by decide)) (nin_cons (Or.inr (by decide)) (nin_lo ho (Nat.le_refl _)))) rfl ?_
  refine Ev.aload_n (q := 55) dX6_init_54 rfl rfl ?_
  refine Ev.newO (q := 58) (n := 25) (l := [(25, 2), (25, 3), (25, 5)]) dX6_init_55 ck2 kkX6_43 kiX2 kzX2 k25 (fun j => ⟨fun z => absurd (f9 z) (by decide), fun _ => by (try simp (disch := omega) only [up_o]); exact hz3 25 (by omega) (by omega) j (by omega)⟩) (by decide) (fun y hy => by have h9 := isR_in k25 hy; rw [show (List.range (nfd 2)).filter (fun y => fty 2 y == 8) = [2, 3, 5] by decide] at h9; have h8 : ∀ y ∈ ([2, 3, 5] : List Nat), (25, y) ∈ ([(25, 2), (25, 3), (25, 5)] : List (Nat × Nat)) := (by decide); exact h8 y h9) (by decide) (by decide) rfl ?_
  show Ev Γ _ _ (30, 2719, 23, 840) _ 58 _ [rv 25, rv 2] (26, opS 26 ((25, 2) :: (25, 3) :: (25, 5) :: (2, 6) :: (2, 7) :: o)) _
  refine Ev.dup (q := 59) dX6_init_58 (fun z => by cases z) rfl ?_
  refine Ev.callIN (host := "AllPressed") (q := 62) (M' := MX2_init) (d' := d + 1) (mc' := 3) (ms' := 936) (As := []) (rest := [rv 25, rv 2]) dX6_init_59 (List.mem_of_getElem? (i := 4) rfl) moX2_init miX2_init rfl rfl rfl (Nat.le_of_ble_eq_true rfl) (by omega) (Nat.le_of_ble_eq_true rfl) (by decide) (by decide) (i_X2 (d := d) (o := (2, 6) :: (2, 7) :: o) 25 (by decide) (fun x h1 h2 j => by (try simp (disch := omega) only [up_o]); exact hz3 x (by omega) (by omega) j (by omega)) (fun p hp => by simp only [List.mem_cons] at hp; rcases hp with rfl | rfl | hp; (exact (by decide : 2 < 25)); (exact (by decide : 2 < 25)); exact Nat.lt_trans (ho p hp) (by decide))) (fun v g' m' h => by rw [h.1]) rfl (fun v4 g4 m4 t4 h4 => ?_)
  obtain ⟨hg4, hm4⟩ := h4
  subst hg4
  refine Ev.psh0 (show v4.1 = 0 from t4) ?_
  clear t4
  have hz4 : ∀ x, 28 < x → x ≤ 32 → ∀ j, ¬ (x = 22 ∧ j = 0) → m4 x j = 0 := fun x h1 h2 j h3 => by rw [hm4]; (try simp (disch := omega) only [up_o]); exact hz3 x (by omega) h2 j h3
  have hk4 : ∀ x, ¬ (2 ≤ x ∧ x ≤ 28) → m4 x = m x := fun x h1 => by funext j; rw [hm4]; (try simp (disch := omega) only [up_o]); exact congrFun (hk3 x (by omega)) j
  show Ev Γ _ _ (30, 2719, 26, 1776) _ 62 _ [rv 25, rv 2] (29, opS 29 ((2, 6) :: (2, 7) :: o)) _
  refine Ev.putO (q := 65) (n := 29) (o := (2, 7) :: o) dX6_init_62 gfX6_46 rfl k2 (by decide) (by decide +kernel) rfl (fun C T N h => by cases (ck6.1.symm.trans h); rfl) (nin_cons (Or.inr (by decide)) (nin_lo ho (Nat.le_refl _))) rfl ?_
  refine Ev.aload_n (q := 66) dX6_init_65 rfl rfl ?_
  refine Ev.newO (q := 69) (n := 29) (l := [(29, 2), (29, 3), (29, 5)]) dX6_init_66 ck2 kkX6_43 kiX2 kzX2 k29 (fun j => ⟨fun z => absurd (f9 z) (by decide), fun _ => by (try simp (disch := omega) only [up_o]); exact hz4 29 (by omega) (by omega) j (by omega)⟩) (by decide) (fun y hy => by have h9 := isR_in k29 hy; rw [show (List.range (nfd 2)).filter (fun y => fty 2 y == 8) = [2, 3, 5] by decide] at h9; have h8 : ∀ y ∈ ([2, 3, 5] : List Nat), (29, y) ∈ ([(29, 2), (29, 3), (29, 5)] : List (Nat × Nat)) := (by decide); exact h8 y h9) (by decide) (by decide) rfl ?_
  show Ev Γ _ _ (30, 2719, 27, 1783) _ 69 _ [rv 29, rv 2] (30, opS 30 ((29, 2) :: (29, 3) :: (29, 5) :: (2, 7) :: o)) _
  refine Ev.dup (q := 70) dX6_init_69 (fun z => by cases z) rfl ?_
  refine Ev.callIN (host := "AllPressed") (q := 73) (M' := MX2_init) (d' := d + 1) (mc' := 3) (ms' := 936) (As := []) (rest := [rv 29, rv 2]) dX6_init_70 (List.mem_of_getElem? (i := 4) rfl) moX2_init miX2_init rfl rfl rfl (Nat.le_of_ble_eq_true rfl) (by omega) (Nat.le_of_ble_eq_true rfl) (by decide) (by decide) (i_X2 (d := d) (o := (2, 7) :: o) 29 (by decide) (fun x h1 h2 j => by (try simp (disch := omega) only [up_o]); exact hz4 x (by omega) (by omega) j (by omega)) (fun p hp => by simp only [List.mem_cons] at hp; rcases hp with rfl | hp; (exact (by decide : 2 < 29)); exact Nat.lt_trans (ho p hp) (by decide))) (fun v g' m' h => by rw [h.1]) rfl (fun v5 g5 m5 t5 h5 => ?_)
  obtain ⟨hg5, hm5⟩ := h5
  subst hg5
  refine Ev.psh0 (show v5.1 = 0 from t5) ?_
  clear t5
  have hz5 : ∀ x, 32 < x → x ≤ 32 → ∀ j, ¬ (x = 22 ∧ j = 0) → m5 x j = 0 := fun x h1 h2 j h3 => by rw [hm5]; (try simp (disch := omega) only [up_o]); exact hz4 x (by omega) h2 j h3
  have hk5 : ∀ x, ¬ (2 ≤ x ∧ x ≤ 32) → m5 x = m x := fun x h1 => by funext j; rw [hm5]; (try simp (disch := omega) only [up_o]); exact congrFun (hk4 x (by omega)) j
  show Ev Γ _ _ (30, 2719, 30, 2719) _ 73 _ [rv 29, rv 2] (33, opS 33 ((2, 7) :: o)) _
  refine Ev.putO (q := 76) (n := 33) (o := o) dX6_init_73 gfX6_50 rfl k2 (by decide) (by decide +kernel) rfl (fun C T N h => by cases (ck6.1.symm.trans h); rfl) (nin_lo ho (Nat.le_refl _)) rfl ?_
  refine Ev.vret dX6_init_76 rfl ⟨by decide, by decide⟩ ?_
  refine ⟨rfl, ?_, ?_, hk5⟩
  · rw [hm5]; simp (disch := omega) only [up_o]; rw [hm4]; simp (disch := omega) only [up_o]; rw [hm3]; simp (disch := omega) only [up_o]; rw [up_ne _ _ (Or.inr (by decide)), up_eq]
  · rw [hm5]; simp (disch := omega) only [up_o]; rw [hm4]; simp (disch := omega) only [up_o]; rw [hm3]; simp (disch := omega) only [up_o]; rw [up_eq]
