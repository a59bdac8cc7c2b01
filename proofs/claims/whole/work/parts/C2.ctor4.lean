/-! ===== constructors: those with a trip ===== -/
theorem f9_all : ∀ ci, ci < 14 → 9 ∈ Fl.getD ci [] → ci = 8 := by decide +kernel
theorem f9 {ci j : Nat} (h : fty ci j = 9) : ci = 8 := by
  unfold fty at h
  have hm : 9 ∈ Fl.getD ci [] := by
    rw [List.getD_eq_getElem?_getD (l := Fl.getD ci [])] at h
    cases hq : (Fl.getD ci [])[j]? with
    | none => rw [hq] at h; exact absurd h (by decide)
    | some v => rw [hq] at h; have h : v = 9 := h; subst h; exact List.mem_of_getElem? hq
  by_cases hc : ci < 14
  · exact f9_all ci hc hm
  · have hl : Fl.length ≤ ci := by
      have : Fl.length = 13 := by decide +kernel
      omega
    rw [List.getD_eq_getElem?_getD, List.getElem?_eq_none hl] at hm
    exact absurd hm List.not_mem_nil
set_option maxRecDepth 4000 in
theorem i_X0 {Γ : Gm} {d : Nat} {m : Mem} {o : List (Nat × Nat)} (hz : ∀ x, 66 < x → x ≤ 66 + 1 → ∀ j, m x j = 0) (ho : ∀ p ∈ o, p.1 < 66) : Cl Γ (d + 2) MX0_init 1 7 [rv 66, rv 33] (67, opS 67 ((66, 0) :: (66, 1) :: o)) m (fun v g' m' => g' = (68, opS 68 o) ∧ m' = (up (up (up (up (up (up (up (up m 66 2 0) 66 3 0) 67 1 0) 67 2 0) 67 3 0) 67 4 0) 67 5 1) 67 6 0)) := by
  refine Cl.of moX0_init (fun v hv => by simp only [List.mem_cons, List.not_mem_nil, or_false] at hv; rcases hv with rfl | rfl <;> exact (by decide : (3 : Nat) ≠ 0)) (Nat.le_of_ble_eq_true rfl) ?_
  show Ev Γ (d + 2) MX0_init (1, 7, 0, 0) _ 0 [rv 66, rv 33] [] _ m
  refine Ev.aload_n (q := 1) dX0_init_0 rfl rfl ?_
  refine Ev.objI (q := 4) dX0_init_1 oiX0 (by omega) (Nat.le_of_ble_eq_true rfl) rfl ?_
  refine Ev.aload_n (q := 5) dX0_init_4 rfl rfl ?_
  refine Ev.iconst (q := 6) dX0_init_5 ki_0 rfl ?_
  refine Ev.putI (q := 9) dX0_init_6 gfX0_9 rfl k66 (by decide : 66 < 67) rfl ?_
  refine Ev.aload_n (q := 10) dX0_init_9 rfl rfl ?_
  refine Ev.iconst (q := 11) dX0_init_10 ki_0 rfl ?_
  refine Ev.putI (q := 14) dX0_init_11 gfX0_15 rfl k66 (by decide : 66 < 67) rfl ?_
  refine Ev.aload_n (q := 15) dX0_init_14 rfl rfl ?_
  refine Ev.aload_n (q := 16) dX0_init_15 rfl rfl ?_
  refine Ev.putO (q := 19) (n := 67) (o := (66, 1) :: o) dX0_init_16 gfX0_18 rfl k66 (by decide) (by decide +kernel) rfl (fun C T N h => by cases (ck0.1.symm.trans h); rfl) (nin_cons (Or.inr (by decide)) (nin_lo ho (Nat.le_refl _))) rfl ?_
  refine Ev.aload_n (q := 20) dX0_init_19 rfl rfl ?_
  refine Ev.newO (q := 23) (n := 67) (l := [(67, 0)]) dX0_init_20 ck10 kkX0_22 kiX10 kzX10 k67 (fun j => ⟨fun z => absurd (f9 z) (by decide), fun _ => by (try simp (disch := omega) only [up_o]); exact hz 67 (by omega) (by omega) j⟩) (by decide) (fun y hy => by have := isR_in k67 hy; rw [show (List.range (nfd 10)).filter (fun y => fty 10 y == 8) = [0] by decide] at this; simp at this ⊢; exact this) (by decide) (by decide) rfl ?_
  refine Ev.dup (q := 24) dX0_init_23 (fun z => by cases z) rfl ?_
  refine Ev.aload_n (q := 25) dX0_init_24 rfl rfl ?_
  refine Ev.callI (q := 28) (M' := MX10_init) (d' := d + 1) (mc' := 0) (ms' := 0) (As := [rv 33]) (rest := [rv 67, rv 66]) dX0_init_25 mlX0_24 moX10_init miX10_init rfl rfl rfl (Nat.le_of_ble_eq_true rfl) (by omega) (Nat.le_of_ble_eq_true rfl) (by decide) (by decide) (i_X10 (d := d) (o := (66, 1) :: o) 67 (by decide) (fun x h1 h2 j => by (try simp (disch := omega) only [up_o]); exact absurd h1 (by omega)) (fun p hp => by simp only [List.mem_cons] at hp; rcases hp with rfl | hp; (exact (by decide : 66 < 67)); exact Nat.lt_trans (ho p hp) (by decide))) (fun v g' m' h => by rw [h.1]) rfl (fun v1 g1 m1 t1 h1 => ?_)
  obtain ⟨rfl, rfl⟩ := h1
  rw [show psh v1 [rv 67, rv 66] = [rv 67, rv 66] from if_pos (show v1.1 = 0 from t1)]
  refine Ev.putO (q := 31) (n := 68) (o := o) dX0_init_28 gfX0_27 rfl k66 (by decide) (by decide +kernel) rfl (fun C T N h => by cases (ck0.1.symm.trans h); rfl) (nin_lo ho (Nat.le_refl _)) rfl ?_
  refine Ev.vret dX0_init_31 rfl ⟨by decide, by decide⟩ ?_
  exact ⟨rfl, rfl⟩
