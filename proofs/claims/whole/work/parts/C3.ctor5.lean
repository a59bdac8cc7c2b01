/-! ===== constructors: plans, lights, deeds ===== -/
set_option maxRecDepth 4000 in
theorem i_X3 {Γ : Gm} {d : Nat} {m : Mem} {o : List (Nat × Nat)} (hz : ∀ x, 68 < x → x ≤ 68 + 3 → ∀ j, m x j = 0) (ho : ∀ p ∈ o, p.1 < 68) : Cl Γ (d + 2) MX3_init 3 23 [rv 68, rv 33, rv 44] (69, opS 69 ((68, 3) :: (68, 4) :: (68, 0) :: (68, 1) :: (68, 2) :: o)) m (fun v g' m' => g' = (72, opS 72 o) ∧ m' = (up (up (up (up (up (up (up (up (up (up m 68 5 0) 68 6 0) 68 7 0) 68 8 1) 71 1 0) 71 2 0) 71 3 0) 71 4 0) 71 5 1) 71 6 0)) := by
  refine Cl.of moX3_init (fun v hv => by simp only [List.mem_cons, List.not_mem_nil, or_false] at hv; rcases hv with rfl | rfl | rfl <;> exact (by decide : (3 : Nat) ≠ 0)) (Nat.le_of_ble_eq_true rfl) ?_
  show Ev Γ (d + 2) MX3_init (3, 23, 0, 0) _ 0 [rv 68, rv 33, rv 44] [] _ m
  refine Ev.aload_n (q := 1) dX3_init_0 rfl rfl ?_
  refine Ev.objI (q := 4) dX3_init_1 oiX3 (by omega) (Nat.le_of_ble_eq_true rfl) rfl ?_
  refine Ev.aload_n (q := 5) dX3_init_4 rfl rfl ?_
  refine Ev.bipush (q := 7) dX3_init_5 kb_8 rfl ?_
  refine Ev.newaO (q := 9) (n := 69) dX3_init_7 ka_int k69 (by decide) rfl rfl (by decide) (fun j => by (try simp (disch := omega) only [up_o]); exact hz 69 (by omega) (by omega) j) (by decide) (by decide) rfl ?_
  refine Ev.putO (q := 12) (n := 70) (o := (68, 4) :: (68, 0) :: (68, 1) :: (68, 2) :: o) dX3_init_9 gfX3_9 rfl k68 (by decide) (by decide +kernel) rfl (fun C T N h => by cases (ck3.1.symm.trans h); rfl) (nin_cons (Or.inr (by decide)) (nin_cons (Or.inr (by decide)) (nin_cons (Or.inr (by decide)) (nin_cons (Or.inr (by decide)) (nin_lo ho (Nat.le_refl _)))))) rfl ?_
  refine Ev.aload_n (q := 13) dX3_init_12 rfl rfl ?_
  refine Ev.bipush (q := 15) dX3_init_13 kb_8 rfl ?_
  refine Ev.newaO (q := 17) (n := 70) dX3_init_15 ka_int k70 (by decide) rfl rfl (by decide) (fun j => by (try simp (disch := omega) only [up_o]); exact hz 70 (by omega) (by omega) j) (by decide) (by decide) rfl ?_
  refine Ev.putO (q := 20) (n := 71) (o := (68, 0) :: (68, 1) :: (68, 2) :: o) dX3_init_17 gfX3_15 rfl k68 (by decide) (by decide +kernel) rfl (fun C T N h => by cases (ck3.1.symm.trans h); rfl) (nin_cons (Or.inr (by decide)) (nin_cons (Or.inr (by decide)) (nin_cons (Or.inr (by decide)) (nin_lo ho (Nat.le_refl _))))) rfl ?_
  refine Ev.aload_n (q := 21) dX3_init_20 rfl rfl ?_
  refine Ev.lconst (q := 22) dX3_init_21 kj_0 rfl ?_
  refine Ev.putJ (q := 25) dX3_init_22 gfX3_18 rfl k68 (by decide : 68 < 71) rfl ?_
  refine Ev.aload_n (q := 26) dX3_init_25 rfl rfl ?_
  refine Ev.iconst (q := 27) dX3_init_26 ki_0 rfl ?_
  refine Ev.putI (q := 30) dX3_init_27 gfX3_22 rfl k68 (by decide : 68 < 71) rfl ?_
  refine Ev.aload_n (q := 31) dX3_init_30 rfl rfl ?_
  refine Ev.lconst (q := 32) dX3_init_31 kj_0 rfl ?_
  refine Ev.putJ (q := 35) dX3_init_32 gfX3_26 rfl k68 (by decide : 68 < 71) rfl ?_
  refine Ev.aload_n (q := 36) dX3_init_35 rfl rfl ?_
  refine Ev.lconst (q := 37) dX3_init_36 kj_1 rfl ?_
  refine Ev.putJ (q := 40) dX3_init_37 gfX3_29 rfl k68 (by decide : 68 < 71) rfl ?_
  refine Ev.aload_n (q := 41) dX3_init_40 rfl rfl ?_
  refine Ev.aload_n (q := 42) dX3_init_41 rfl rfl ?_
  refine Ev.putO (q := 45) (n := 71) (o := (68, 1) :: (68, 2) :: o) dX3_init_42 gfX3_32 rfl k68 (by decide) (by decide +kernel) rfl (fun C T N h => by cases (ck3.1.symm.trans h); rfl) (nin_cons (Or.inr (by decide)) (nin_cons (Or.inr (by decide)) (nin_lo ho (Nat.le_refl _)))) rfl ?_
  refine Ev.aload_n (q := 46) dX3_init_45 rfl rfl ?_
  refine Ev.aload_n (q := 47) dX3_init_46 rfl rfl ?_
  refine Ev.putO (q := 50) (n := 71) (o := (68, 2) :: o) dX3_init_47 gfX3_36 rfl k68 (by decide) (by decide +kernel) rfl (fun C T N h => by cases (ck3.1.symm.trans h); rfl) (nin_cons (Or.inr (by decide)) (nin_lo ho (Nat.le_refl _))) rfl ?_
  refine Ev.aload_n (q := 51) dX3_init_50 rfl rfl ?_
  refine Ev.newO (q := 54) (n := 71) (l := [(71, 0)]) dX3_init_51 ck10 kkX3_40 kiX10 kzX10 k71 (fun j => ⟨fun z => absurd (f9 z) (by decide), fun _ => by (try simp (disch := omega) only [up_o]); exact hz 71 (by omega) (by omega) j⟩) (by decide) (fun y hy => by have := isR_in k71 hy; rw [show (List.range (nfd 10)).filter (fun y => fty 10 y == 8) = [0] by decide] at this; simp at this ⊢; exact this) (by decide) (by decide) rfl ?_
  refine Ev.dup (q := 55) dX3_init_54 (fun z => by cases z) rfl ?_
  refine Ev.aload_n (q := 56) dX3_init_55 rfl rfl ?_
  refine Ev.callI (q := 59) (M' := MX10_init) (d' := d + 1) (mc' := 0) (ms' := 0) (As := [rv 33]) (rest := [rv 71, rv 68]) dX3_init_56 mlX3_42 moX10_init miX10_init rfl rfl rfl (Nat.le_of_ble_eq_true rfl) (by omega) (Nat.le_of_ble_eq_true rfl) (by decide) (by decide) (i_X10 (d := d) (o := (68, 2) :: o) 71 (by decide) (fun x h1 h2 j => by (try simp (disch := omega) only [up_o]); exact absurd h1 (by omega)) (fun p hp => by simp only [List.mem_cons] at hp; rcases hp with rfl | hp; (exact (by decide : 68 < 71)); exact Nat.lt_trans (ho p hp) (by decide))) (fun v g' m' h => by rw [h.1]) rfl (fun v1 g1 m1 t1 h1 => ?_)
  obtain ⟨rfl, rfl⟩ := h1
  rw [show psh v1 [rv 71, rv 68] = [rv 71, rv 68] from if_pos (show v1.1 = 0 from t1)]
  refine Ev.putO (q := 62) (n := 72) (o := o) dX3_init_59 gfX3_45 rfl k68 (by decide) (by decide +kernel) rfl (fun C T N h => by cases (ck3.1.symm.trans h); rfl) (nin_lo ho (Nat.le_refl _)) rfl ?_
  refine Ev.vret dX3_init_62 rfl ⟨by decide, by decide⟩ ?_
  exact ⟨rfl, rfl⟩
set_option maxRecDepth 4000 in
theorem i_X5 {Γ : Gm} {d : Nat} {m : Mem} {o : List (Nat × Nat)} (hz : ∀ x, 72 < x → x ≤ 72 + 1 → ∀ j, m x j = 0) (ho : ∀ p ∈ o, p.1 < 72) : Cl Γ (d + 2) MX5_init 1 7 [rv 72, rv 33, rv 44] (73, opS 73 ((72, 0) :: (72, 1) :: (72, 2) :: o)) m (fun v g' m' => g' = (74, opS 74 o) ∧ m' = (up (up (up (up (up (up (up (up m 72 3 0) 72 4 0) 73 1 0) 73 2 0) 73 3 0) 73 4 0) 73 5 1) 73 6 0)) := by
  refine Cl.of moX5_init (fun v hv => by simp only [List.mem_cons, List.not_mem_nil, or_false] at hv; rcases hv with rfl | rfl | rfl <;> exact (by decide : (3 : Nat) ≠ 0)) (Nat.le_of_ble_eq_true rfl) ?_
  show Ev Γ (d + 2) MX5_init (1, 7, 0, 0) _ 0 [rv 72, rv 33, rv 44] [] _ m
  refine Ev.aload_n (q := 1) dX5_init_0 rfl rfl ?_
  refine Ev.objI (q := 4) dX5_init_1 oiX5 (by omega) (Nat.le_of_ble_eq_true rfl) rfl ?_
  refine Ev.aload_n (q := 5) dX5_init_4 rfl rfl ?_
  refine Ev.lconst (q := 6) dX5_init_5 kj_0 rfl ?_
  refine Ev.putJ (q := 9) dX5_init_6 gfX5_9 rfl k72 (by decide : 72 < 73) rfl ?_
  refine Ev.aload_n (q := 10) dX5_init_9 rfl rfl ?_
  refine Ev.iconst (q := 11) dX5_init_10 ki_0 rfl ?_
  refine Ev.putI (q := 14) dX5_init_11 gfX5_15 rfl k72 (by decide : 72 < 73) rfl ?_
  refine Ev.aload_n (q := 15) dX5_init_14 rfl rfl ?_
  refine Ev.aload_n (q := 16) dX5_init_15 rfl rfl ?_
  refine Ev.putO (q := 19) (n := 73) (o := (72, 1) :: (72, 2) :: o) dX5_init_16 gfX5_19 rfl k72 (by decide) (by decide +kernel) rfl (fun C T N h => by cases (ck5.1.symm.trans h); rfl) (nin_cons (Or.inr (by decide)) (nin_cons (Or.inr (by decide)) (nin_lo ho (Nat.le_refl _)))) rfl ?_
  refine Ev.aload_n (q := 20) dX5_init_19 rfl rfl ?_
  refine Ev.aload_n (q := 21) dX5_init_20 rfl rfl ?_
  refine Ev.putO (q := 24) (n := 73) (o := (72, 2) :: o) dX5_init_21 gfX5_23 rfl k72 (by decide) (by decide +kernel) rfl (fun C T N h => by cases (ck5.1.symm.trans h); rfl) (nin_cons (Or.inr (by decide)) (nin_lo ho (Nat.le_refl _))) rfl ?_
  refine Ev.aload_n (q := 25) dX5_init_24 rfl rfl ?_
  refine Ev.newO (q := 28) (n := 73) (l := [(73, 0)]) dX5_init_25 ck10 kkX5_27 kiX10 kzX10 k73 (fun j => ⟨fun z => absurd (f9 z) (by decide), fun _ => by (try simp (disch := omega) only [up_o]); exact hz 73 (by omega) (by omega) j⟩) (by decide) (fun y hy => by have := isR_in k73 hy; rw [show (List.range (nfd 10)).filter (fun y => fty 10 y == 8) = [0] by decide] at this; simp at this ⊢; exact this) (by decide) (by decide) rfl ?_
  refine Ev.dup (q := 29) dX5_init_28 (fun z => by cases z) rfl ?_
  refine Ev.aload_n (q := 30) dX5_init_29 rfl rfl ?_
  refine Ev.callI (q := 33) (M' := MX10_init) (d' := d + 1) (mc' := 0) (ms' := 0) (As := [rv 33]) (rest := [rv 73, rv 72]) dX5_init_30 mlX5_29 moX10_init miX10_init rfl rfl rfl (Nat.le_of_ble_eq_true rfl) (by omega) (Nat.le_of_ble_eq_true rfl) (by decide) (by decide) (i_X10 (d := d) (o := (72, 2) :: o) 73 (by decide) (fun x h1 h2 j => by (try simp (disch := omega) only [up_o]); exact absurd h1 (by omega)) (fun p hp => by simp only [List.mem_cons] at hp; rcases hp with rfl | hp; (exact (by decide : 72 < 73)); exact Nat.lt_trans (ho p hp) (by decide))) (fun v g' m' h => by rw [h.1]) rfl (fun v1 g1 m1 t1 h1 => ?_)
  obtain ⟨rfl, rfl⟩ := h1
  rw [show psh v1 [rv 73, rv 72] = [rv 73, rv 72] from if_pos (show v1.1 = 0 from t1)]
  refine Ev.putO (q := 36) (n := 74) (o := o) dX5_init_33 gfX5_32 rfl k72 (by decide) (by decide +kernel) rfl (fun C T N h => by cases (ck5.1.symm.trans h); rfl) (nin_lo ho (Nat.le_refl _)) rfl ?_
  refine Ev.vret dX5_init_36 rfl ⟨by decide, by decide⟩ ?_
  exact ⟨rfl, rfl⟩
set_option maxRecDepth 4000 in
theorem i_X7 {Γ : Gm} {d : Nat} {m : Mem} {o : List (Nat × Nat)} (hz : ∀ x, 74 < x → x ≤ 74 + 2 → ∀ j, m x j = 0) (ho : ∀ p ∈ o, p.1 < 74) : Cl Γ (d + 2) MX7_init 2 19 [rv 74, rv 33, rv 44] (75, opS 75 ((74, 5) :: (74, 0) :: (74, 1) :: (74, 2) :: o)) m (fun v g' m' => g' = (77, opS 77 o) ∧ m' = (up (up (up (up (up (up (up (up m 74 3 0) 74 4 0) 76 1 0) 76 2 0) 76 3 0) 76 4 0) 76 5 1) 76 6 0)) := by
  refine Cl.of moX7_init (fun v hv => by simp only [List.mem_cons, List.not_mem_nil, or_false] at hv; rcases hv with rfl | rfl | rfl <;> exact (by decide : (3 : Nat) ≠ 0)) (Nat.le_of_ble_eq_true rfl) ?_
  show Ev Γ (d + 2) MX7_init (2, 19, 0, 0) _ 0 [rv 74, rv 33, rv 44] [] _ m
  refine Ev.aload_n (q := 1) dX7_init_0 rfl rfl ?_
  refine Ev.objI (q := 4) dX7_init_1 oiX7 (by omega) (Nat.le_of_ble_eq_true rfl) rfl ?_
  refine Ev.aload_n (q := 5) dX7_init_4 rfl rfl ?_
  refine Ev.iconst (q := 6) dX7_init_5 ki_0 rfl ?_
  refine Ev.putI (q := 9) dX7_init_6 gfX7_9 rfl k74 (by decide : 74 < 75) rfl ?_
  refine Ev.aload_n (q := 10) dX7_init_9 rfl rfl ?_
  refine Ev.iconst (q := 11) dX7_init_10 ki_0 rfl ?_
  refine Ev.putI (q := 14) dX7_init_11 gfX7_15 rfl k74 (by decide : 74 < 75) rfl ?_
  refine Ev.aload_n (q := 15) dX7_init_14 rfl rfl ?_
  refine Ev.bipush (q := 17) dX7_init_15 kb_12 rfl ?_
  refine Ev.newaO (q := 19) (n := 75) dX7_init_17 ka_int k75 (by decide) rfl rfl (by decide) (fun j => by (try simp (disch := omega) only [up_o]); exact hz 75 (by omega) (by omega) j) (by decide) (by decide) rfl ?_
  refine Ev.putO (q := 22) (n := 76) (o := (74, 0) :: (74, 1) :: (74, 2) :: o) dX7_init_19 gfX7_18 rfl k74 (by decide) (by decide +kernel) rfl (fun C T N h => by cases (ck7.1.symm.trans h); rfl) (nin_cons (Or.inr (by decide)) (nin_cons (Or.inr (by decide)) (nin_cons (Or.inr (by decide)) (nin_lo ho (Nat.le_refl _))))) rfl ?_
  refine Ev.aload_n (q := 23) dX7_init_22 rfl rfl ?_
  refine Ev.aload_n (q := 24) dX7_init_23 rfl rfl ?_
  refine Ev.putO (q := 27) (n := 76) (o := (74, 1) :: (74, 2) :: o) dX7_init_24 gfX7_22 rfl k74 (by decide) (by decide +kernel) rfl (fun C T N h => by cases (ck7.1.symm.trans h); rfl) (nin_cons (Or.inr (by decide)) (nin_cons (Or.inr (by decide)) (nin_lo ho (Nat.le_refl _)))) rfl ?_
  refine Ev.aload_n (q := 28) dX7_init_27 rfl rfl ?_
  refine Ev.aload_n (q := 29) dX7_init_28 rfl rfl ?_
  refine Ev.putO (q := 32) (n := 76) (o := (74, 2) :: o) dX7_init_29 gfX7_26 rfl k74 (by decide) (by decide +kernel) rfl (fun C T N h => by cases (ck7.1.symm.trans h); rfl) (nin_cons (Or.inr (by decide)) (nin_lo ho (Nat.le_refl _))) rfl ?_
  refine Ev.aload_n (q := 33) dX7_init_32 rfl rfl ?_
  refine Ev.newO (q := 36) (n := 76) (l := [(76, 0)]) dX7_init_33 ck10 kkX7_30 kiX10 kzX10 k76 (fun j => ⟨fun z => absurd (f9 z) (by decide), fun _ => by (try simp (disch := omega) only [up_o]); exact hz 76 (by omega) (by omega) j⟩) (by decide) (fun y hy => by have := isR_in k76 hy; rw [show (List.range (nfd 10)).filter (fun y => fty 10 y == 8) = [0] by decide] at this; simp at this ⊢; exact this) (by decide) (by decide) rfl ?_
  refine Ev.dup (q := 37) dX7_init_36 (fun z => by cases z) rfl ?_
  refine Ev.aload_n (q := 38) dX7_init_37 rfl rfl ?_
  refine Ev.callI (q := 41) (M' := MX10_init) (d' := d + 1) (mc' := 0) (ms' := 0) (As := [rv 33]) (rest := [rv 76, rv 74]) dX7_init_38 mlX7_32 moX10_init miX10_init rfl rfl rfl (Nat.le_of_ble_eq_true rfl) (by omega) (Nat.le_of_ble_eq_true rfl) (by decide) (by decide) (i_X10 (d := d) (o := (74, 2) :: o) 76 (by decide) (fun x h1 h2 j => by (try simp (disch := omega) only [up_o]); exact absurd h1 (by omega)) (fun p hp => by simp only [List.mem_cons] at hp; rcases hp with rfl | hp; (exact (by decide : 74 < 76)); exact Nat.lt_trans (ho p hp) (by decide))) (fun v g' m' h => by rw [h.1]) rfl (fun v1 g1 m1 t1 h1 => ?_)
  obtain ⟨rfl, rfl⟩ := h1
  rw [show psh v1 [rv 76, rv 74] = [rv 76, rv 74] from if_pos (show v1.1 = 0 from t1)]
  refine Ev.putO (q := 44) (n := 77) (o := o) dX7_init_41 gfX7_35 rfl k74 (by decide) (by decide +kernel) rfl (fun C T N h => by cases (ck7.1.symm.trans h); rfl) (nin_lo ho (Nat.le_refl _)) rfl ?_
  refine Ev.vret dX7_init_44 rfl ⟨by decide, by decide⟩ ?_
  exact ⟨rfl, rfl⟩
