/-! ===== the class: house ===== -/
def sHb (a k : Nat) : Bool := decide ((a = 0 ∧ k = 1) ∨ (a = 2 ∧ (k = 2 ∨ k = 3)) ∨ (3 ≤ a ∧ a ≤ 22) ∨ (24 ≤ a ∧ a ≤ 32))
theorem sHb_t {a k : Nat} (h : (a = 0 ∧ k = 1) ∨ (a = 2 ∧ (k = 2 ∨ k = 3)) ∨ (3 ≤ a ∧ a ≤ 22) ∨ (24 ≤ a ∧ a ≤ 32)) : sHb a k = true := decide_eq_true h
theorem sHb_f {a k : Nat} (h : ¬ ((a = 0 ∧ k = 1) ∨ (a = 2 ∧ (k = 2 ∨ k = 3)) ∨ (3 ≤ a ∧ a ≤ 22) ∨ (24 ≤ a ∧ a ≤ 32))) : sHb a k = false := decide_eq_false h
theorem sHb_n {a k : Nat} (h : sHb a k = false) : ¬ ((a = 0 ∧ k = 1) ∨ (a = 2 ∧ (k = 2 ∨ k = 3)) ∨ (3 ≤ a ∧ a ≤ 22) ∨ (24 ≤ a ∧ a ≤ 32)) := of_decide_eq_false h
def sHg (a k : Nat) : Bool := decide ((a = 0 ∧ (k = 1 ∨ k = 8)) ∨ (a = 2 ∧ (k = 2 ∨ k = 3)) ∨ (3 ≤ a ∧ a ≤ 22) ∨ (24 ≤ a ∧ a ≤ 51))
theorem sHg_t {a k : Nat} (h : (a = 0 ∧ (k = 1 ∨ k = 8)) ∨ (a = 2 ∧ (k = 2 ∨ k = 3)) ∨ (3 ≤ a ∧ a ≤ 22) ∨ (24 ≤ a ∧ a ≤ 51)) : sHg a k = true := decide_eq_true h
theorem sHg_f {a k : Nat} (h : ¬ ((a = 0 ∧ (k = 1 ∨ k = 8)) ∨ (a = 2 ∧ (k = 2 ∨ k = 3)) ∨ (3 ≤ a ∧ a ≤ 22) ∨ (24 ≤ a ∧ a ≤ 51))) : sHg a k = false := decide_eq_false h
theorem sHg_n {a k : Nat} (h : sHg a k = false) : ¬ ((a = 0 ∧ (k = 1 ∨ k = 8)) ∨ (a = 2 ∧ (k = 2 ∨ k = 3)) ∨ (3 ≤ a ∧ a ≤ 22) ∨ (24 ≤ a ∧ a ≤ 51)) := of_decide_eq_false h
theorem Fr.hb {m m' : Mem} (h : Fr sRq m m') : Fr sHb m m' := h.mono (fun a k q => sRq_f (by have := sHb_n q; omega))
theorem Fr.hg {m m' : Mem} (h : Fr sHb m m') : Fr sHg m m' := h.mono (fun a k q => sHb_f (by have := sHg_n q; omega))
theorem Fr.hg1 {m m' : Mem} (h : Fr (sH 33) m m') : Fr sHg m m' := h.mono (fun a k q => decide_eq_false (by have := sHg_n q; omega))
theorem Fr.hg2 {m m' : Mem} (h : Fr (sN 44) m m') : Fr sHg m m' := h.mono (fun a k q => decide_eq_false (by have := sHg_n q; omega))
/-- what house leaves of the class -/
def PHc (r : Int) (m m' : Mem) (x : Er (Tok × Row)) : Prop := m' 0 1 = 0 ∧ match x with
  | .inl e => ¬ e.1 = 0 ∧ r = w32 (-30 - e.1) ∧ m' 2 2 = e.1 ∧ m' 2 3 = e.2 ∧ Fr sHb m m'
  | .inr a => r = a.2 0 ∧ m' 0 8 = 0 ∧ (m' 2 2 = 0 ∧ m' 2 3 = -1) ∧ HouR a.2 m' 33 ∧ NowR a.2 m' 44 ∧ HI a.2 ∧ Fr sHg m m'
set_option maxRecDepth 4000 in
theorem p_X11_house_no {Γ : Gm} {d : Nat} {m : Mem} (n : Int) (hn : ¬ (0 ≤ n ∧ n ≤ m 0 1)) : Ci Γ (d + 0) MX11_house [rv 0, iv n] m (fun r m' => r = -3 ∧ m' = m) := by
  refine Ci.of moX11_house rfl rfl (fun hA hM => ?_)
  show Em Γ (d + 0) MX11_house _ 0 [rv 0, iv n] [] m
  refine Ev.iload_n (q := 1) dX11_house_0 rfl rfl ?_
  refine Ev.if_lt (tgt := 12) (q := 4) dX11_house_1 (by decide) rfl (fun h1 => ?_) (fun h1 => ?_)
  · skip
    refine Ev.bipush (q := 14) dX11_house_12 kb_m3 rfl ?_
    refine rI dX11_house_14 rfl ?_
    exact ⟨rfl, rfl⟩
  · skip
    refine Ev.iload_n (q := 5) dX11_house_4 rfl rfl ?_
    refine Ev.aload_n (q := 6) dX11_house_5 rfl rfl ?_
    refine gI (q := 9) dX11_house_6 gfX11_13 k0 rfl rfl ?_
    refine Ev.icmp_le (tgt := 15) (q := 12) dX11_house_9 (by decide) rfl (fun h2 => ?_) (fun h2 => ?_)
    · skip
      omega
    · skip
      refine Ev.bipush (q := 14) dX11_house_12 kb_m3 rfl ?_
      refine rI dX11_house_14 rfl ?_
      exact ⟨rfl, rfl⟩
set_option maxRecDepth 4000 in
theorem p_X11_house {Γ : Gm} {d : Nat} {m : Mem} (tx : Nat → Int) (N : Nat) (f0 : Row) (hN : (N : Int) ≤ m 0 1) (h9 : m 0 1 ≤ 900) (hB : BT m tx N) (h0 : ∀ j, j < 1358 → f0 j = f0R j) : Ci Γ (d + 12) MX11_house [rv 0, iv N] m (fun r m' => PHc r m m' (hoG tx N f0)) := by
  refine Ci.of moX11_house rfl rfl (fun hA hM => ?_)
  show Em Γ (d + 12) MX11_house _ 0 [rv 0, iv N] [] m
  refine Ev.iload_n (q := 1) dX11_house_0 rfl rfl ?_
  refine Ev.if_lt (tgt := 12) (q := 4) dX11_house_1 (by decide) rfl (fun h1 => ?_) (fun h1 => ?_)
  · skip
    omega
  · skip
    refine Ev.iload_n (q := 5) dX11_house_4 rfl rfl ?_
    refine Ev.aload_n (q := 6) dX11_house_5 rfl rfl ?_
    refine gI (q := 9) dX11_house_6 gfX11_13 k0 rfl rfl ?_
    refine Ev.icmp_le (tgt := 15) (q := 12) dX11_house_9 (by decide) rfl (fun h2 => ?_) (fun h2 => ?_)
    · skip
      refine Ev.aload_n (q := 16) dX11_house_15 rfl rfl ?_
      refine Ev.iconst (q := 17) dX11_house_16 ki_0 rfl ?_
      refine pI (q := 20) dX11_house_17 gfX11_13 k0 rfl rfl ?_
      refine Ev.aload_n (q := 21) dX11_house_20 rfl rfl ?_
      refine gR (q := 24) dX11_house_21 gfX11_20 k0 r0_2 rfl rfl ?_
      refine Ev.aload_n (q := 25) dX11_house_24 rfl rfl ?_
      refine gR (q := 28) dX11_house_25 gfX11_9 k0 r0_0 rfl rfl ?_
      refine Ev.iload_n (q := 29) dX11_house_28 rfl rfl ?_
      refine cV2i (q := 32) (d' := d + 11) dX11_house_29 mlX11_112 moX6_read mvX6_read k2 rfl rfl rfl (Nat.le_refl _) rfl rfl rfl (p_X6_read tx N f0 (by omega) (fun i hi => by rw [up_o _ _ (by decide)]; exact hB i hi) h0) (fun r3 m3 e3 => ?_)
      obtain ⟨M9, rfl⟩ : ∃ M9, M9 = m3 := ⟨_, rfl⟩
      obtain ⟨x9, f9⟩ := e3
      have F9 : Fr sHb m M9 := ((Fr.rf _ _).up (sHb_t (by omega))).tr f9.hb
      cases hx : hoG tx N f0 with
      | inl e =>
        rw [hx] at x9
        obtain ⟨xr, x9⟩ : _ = 0 ∧ BDc M9 e := x9
        rw [xr]
        refine Ev.if_ne (tgt := 46) (q := 35) dX11_house_32 (by decide) rfl (fun h61 => ?_) (fun h61 => ?_)
        · skip
          omega
        · skip
          refine Ev.bipush (q := 37) dX11_house_35 kb_m30 rfl ?_
          refine Ev.aload_n (q := 38) dX11_house_37 rfl rfl ?_
          refine gR (q := 41) dX11_house_38 gfX11_20 k0 r0_2 rfl rfl ?_
          refine gI (q := 44) dX11_house_41 gfX11_116 k2 rfl rfl ?_
          rw [x9.1]
          refine Ev.isub (q := 45) dX11_house_44 rfl ?_
          refine rI dX11_house_45 rfl ?_
          exact ⟨by rw [f9 0 1 (sRq_f (by omega)), up_eq], x9.2.1, rfl, x9.1, x9.2.2, F9⟩
      | inr a =>
        rw [hx] at x9
        obtain ⟨xr, x1, x2, x3, x4⟩ : _ = 1 ∧ (M9 2 2 = 0 ∧ M9 2 3 = -1) ∧ HouR a.2 M9 3 ∧ NowR a.2 M9 14 ∧ HI a.2 := x9
        rw [xr]
        refine Ev.if_ne (tgt := 46) (q := 35) dX11_house_32 (by decide) rfl (fun h61 => ?_) (fun h61 => ?_)
        · skip
          refine Ev.aload_n (q := 47) dX11_house_46 rfl rfl ?_
          refine gR (q := 50) dX11_house_47 gfX11_27 k0 r0_3 rfl rfl ?_
          refine Ev.aload_n (q := 51) dX11_house_50 rfl rfl ?_
          refine gR (q := 54) dX11_house_51 gfX11_20 k0 r0_2 rfl rfl ?_
          refine gR (q := 57) dX11_house_54 gfX11_119 k2 r2_0 rfl rfl ?_
          refine cV1v (q := 60) (d' := d + 11) dX11_house_57 mlX11_122 moX1_copyFrom mvX1_copyFrom k33 rfl rfl rfl (Nat.le_refl _) rfl rfl rfl (p_X1_copyFrom 33 3 (by decide) (by decide) (by decide)) (fun r62 m62 e62 => ?_)
          obtain ⟨M8, rfl⟩ : ∃ M8, M8 = m62 := ⟨_, rfl⟩
          obtain ⟨c1, c2, f8⟩ := e62
          have hH8 : HouR a.2 M8 33 := x2.copy (by have := x4.1; omega) (by have := x4.2.1; omega) (by have := x4.2.2.1; omega) c1 c2
          refine Ev.aload_n (q := 61) dX11_house_60 rfl rfl ?_
          refine gR (q := 64) dX11_house_61 gfX11_34 k0 r0_4 rfl rfl ?_
          refine Ev.aload_n (q := 65) dX11_house_64 rfl rfl ?_
          refine gR (q := 68) dX11_house_65 gfX11_20 k0 r0_2 rfl rfl ?_
          refine gR (q := 71) dX11_house_68 gfX11_125 k2 r2_1 rfl rfl ?_
          refine cV1v (q := 74) (d' := d + 11) dX11_house_71 mlX11_126 moX4_copyFrom mvX4_copyFrom k44 rfl rfl rfl (Nat.le_refl _) rfl rfl rfl (p_X4_copyFrom 44 14 (by decide) (by decide) (by decide)) (fun r63 m63 e63 => ?_)
          obtain ⟨M7, rfl⟩ : ∃ M7, M7 = m63 := ⟨_, rfl⟩
          obtain ⟨d1, f7⟩ := e63
          have hN7 : NowR a.2 M7 44 := NowR.copy (by have := x4.2.1; omega) (by have := x4.2.2.1; omega) (x3.keep (fun b z1 z2 => f8.row b (fun _ => decide_eq_false (by omega)))) d1
          have hH7 : HouR a.2 M7 33 := hH8.keep (fun b z1 z2 => f7.row b (fun _ => decide_eq_false (by omega)))
          refine Ev.aload_n (q := 75) dX11_house_74 rfl rfl ?_
          refine Ev.iconst (q := 76) dX11_house_75 ki_0 rfl ?_
          refine pI (q := 79) dX11_house_76 gfX11_48 k0 rfl rfl ?_
          refine Ev.aload_n (q := 80) dX11_house_79 rfl rfl ?_
          refine gR (q := 83) dX11_house_80 gfX11_27 k0 r0_3 rfl rfl ?_
          refine gI (q := 86) dX11_house_83 gfX11_129 k33 rfl rfl ?_
          refine rI dX11_house_86 rfl ?_
          have G : ∀ b k, b < 33 → M7 b k = M9 b k := fun b k hb => (f7 b k (decide_eq_false (by omega))).trans (f8 b k (decide_eq_false (by omega)))
          refine ⟨?_, ?_, up_eq _ _ _ _, ⟨?_, ?_⟩, hH7.keep (fun b z1 z2 => up_na _ _ (by omega)), hN7.keep (fun b z1 z2 => up_na _ _ (by omega)), x4, ((F9.hg.tr f8.hg1).tr f7.hg2).up (sHg_t (by omega))⟩
          · rw [up_k _ _ (by decide), G 0 1 (by decide), f9 0 1 (sRq_f (by omega)), up_eq]
          · rw [up_o _ _ (by decide)]; exact hH7.1.2.1
          · rw [up_o _ _ (by decide), G 2 2 (by decide)]; exact x1.1
          · rw [up_o _ _ (by decide), G 2 3 (by decide)]; exact x1.2
        · skip
          omega
    · skip
      omega
