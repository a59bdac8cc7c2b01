/-! ===== each call on both sides: trays, images, the tape, the house ===== -/
theorem kq_numbers {Γ : Gm} {d : Nat} {m : Mem} (a1 a2 a3 : Int) (h : SR m) : K2 Γ (d + 30) MX11_numbers MX12_numbers [iv a1, iv a2, iv a3] m := by
  obtain ⟨pa, n, h⟩ := h
  refine Ci.imp (fun r m1 hr => ?_) (p_X11_numbers (d := d + 28) a1 a2 a3)
  by_cases q : okNum a1 a2 a3
  · obtain ⟨r1, r2, r3, r4, f1⟩ := hr.1 q
    obtain ⟨q1, q2, q3⟩ := q
    have e : ∀ a, 212 ≤ a → m1 a = m a := fun a ha => f1.rw1 a (fun k => sTy_f (by omega) (by omega))
    refine Ci.imp (fun y2 m2 hr2 => ?_) (p_X12_numbers (d := d + 29) a1 a2 a3)
    rw [e 220 (by omega), e 221 (by omega), e 222 (by omega)] at hr2
    obtain ⟨s1, s2, s3, s4, s5⟩ := hr2.1 ⟨q1, q2, q3⟩
    refine ⟨s1.trans r1.symm, h.tray (t := a1.toNat) (by omega) (f1.mono (fun a k z => ?_)) s5 ?_ ?_ ?_ ?_ ?_ ?_⟩
    · simp at z; exact sTy_f z.1.1 z.1.2
    · intro i hi hne; rw [s2, upg_ne _ _ hne]
    · intro i hi hne; rw [s3, upg_ne _ _ hne]
    · intro i hi hne j hj; rw [s4]; unfold clrN; rw [if_neg (by omega)]
    · rw [s3, upg_eq]; exact q3
    · rw [s2, upg_eq]; exact Or.inr q2
    · rw [s2, s3, upg_eq, upg_eq]
      refine ⟨fun z => absurd z (by omega), fun _ => ⟨by rw [r2]; omega, r3, q2, by omega, fun j hj => ?_⟩⟩
      rw [r4 j (by omega), s4]
      unfold clrN
      dsimp only
      rw [if_pos (by omega)]
  · obtain ⟨r1, rfl⟩ := hr.2 q
    refine Ci.imp (fun y2 m2 hr2 => ?_) (p_X12_numbers (d := d + 29) a1 a2 a3)
    obtain ⟨s1, s2⟩ := hr2.2 q
    exact ⟨s1.trans r1.symm, pa, n, h.q s2⟩
theorem kq_write {Γ : Gm} {d : Nat} {m : Mem} (a1 a2 a3 : Int) (h : SR m) : K2 Γ (d + 30) MX11_write MX12_write [iv a1, iv a2, jv a3] m := by
  obtain ⟨pa, n, h⟩ := h
  obtain ⟨h1, h2, h3, h4, h10, h11, h12⟩ := id h
  refine Ci.imp (fun r m1 hr => ?_) (p_X11_write (d := d + 28) (fun i => m 220 i) (fun i => (m 221 i).toNat) (fun i j => m 222 (40 * i + j)) a1 a2 a3 h11.t h11.s)
  by_cases q0 : 0 ≤ a1 ∧ a1 ≤ 3
  · have hn := h11.n a1.toNat (by omega)
    by_cases q : (0 ≤ a1 ∧ a1 ≤ 3) ∧ ¬ m 220 a1.toNat = -1 ∧ (0 ≤ a2 ∧ a2 < ((m 221 a1.toNat).toNat : Int))
    · obtain ⟨r1, r2⟩ := hr.1 q
      obtain ⟨q1, q2, q3⟩ := q
      subst r2
      refine Ci.imp (fun y2 m2 hr2 => ?_) (p_X12_write (d := d + 28) a1 a2 a3 (by rw [up_na _ _ (by omega)]; exact h11.n))
      rw [up_na _ _ (show 220 ≠ 165 + 2 * a1.toNat + 1 by omega), up_na _ _ (show 221 ≠ 165 + 2 * a1.toNat + 1 by omega), up_na _ _ (show 222 ≠ 165 + 2 * a1.toNat + 1 by omega)] at hr2
      obtain ⟨s1, s2, s3, s4, s5⟩ := hr2.1 ⟨q1, q2, q3.1, by omega⟩
      refine ⟨s1.trans r1.symm, h.tray (t := a1.toNat) (by omega) (fun a k z => ?_) s3 ?_ ?_ ?_ ?_ ?_ ?_⟩
      · simp at z; exact up_o _ _ z.1.2
      · intro i hi hne; rw [s4]
      · intro i hi hne; rw [s5]
      · intro i hi hne j hj; rw [s2, upg_ne _ _ (by omega)]
      · rw [s5]; exact hn
      · rw [s4]; exact h11.s _ (by omega)
      · rw [s4, s5]
        have hT := h11.t a1.toNat (by omega)
        refine ⟨fun z => absurd z q2, fun z => ?_⟩
        obtain ⟨p1, p2, p3, p4, p5⟩ := hT.2 z
        refine ⟨by rw [up_o _ _ (by omega)]; exact p1, by rw [up_o _ _ (by omega)]; exact p2, p3, p4, fun j hj => ?_⟩
        rw [s2]
        dsimp only
        by_cases ej : j = a2.toNat
        · subst ej; rw [up_eq, upg_eq]
        · rw [up_ne _ _ (Or.inr ej), upg_ne _ _ (by omega)]; exact p5 j hj
    · obtain ⟨r1, rfl⟩ := hr.2 q
      refine Ci.imp (fun y2 m2 hr2 => ?_) (p_X12_write (d := d + 28) a1 a2 a3 h11.n)
      obtain ⟨s1, s2⟩ := hr2.2 (fun z => q ⟨z.1, z.2.1, z.2.2.1, by have := z.2.2.2; omega⟩)
      exact ⟨s1.trans r1.symm, pa, n, h.q s2⟩
  · obtain ⟨r1, rfl⟩ := hr.2 (fun z => q0 z.1)
    refine Ci.imp (fun y2 m2 hr2 => ?_) (p_X12_write (d := d + 28) a1 a2 a3 h11.n)
    obtain ⟨s1, s2⟩ := hr2.2 (fun z => q0 z.1)
    exact ⟨s1.trans r1.symm, pa, n, h.q s2⟩
theorem kq_lists {Γ : Gm} {d : Nat} {m : Mem} (a1 a2 : Int) (h : SR m) : K2 Γ (d + 30) MX11_lists MX12_lists [iv a1, iv a2] m := by
  obtain ⟨pa, n, h⟩ := h
  obtain ⟨h1, h2, h3, h4, h10, h11, h12⟩ := id h
  refine Ci.imp (fun r m1 hr => ?_) (p_X11_lists (d := d + 26) (m 212) (fun i => m 220 i) (fun i => (m 221 i).toNat) (fun i j => m 222 (40 * i + j)) (40 * a1.toNat) (m 222) a1 a2 h1 h2 h3 h11.t h11.s (fun tn i e _ => by rw [e, Int.toNat_natCast]))
  by_cases q : (0 ≤ a1 ∧ a1 ≤ 3) ∧ (0 ≤ a2 ∧ a2 < m 212 2) ∧ ¬ m 220 a1.toNat = -1
  · obtain ⟨r1, r2, f1⟩ := hr.1 q
    obtain ⟨q1, q2, q3⟩ := q
    have hn := h11.n a1.toNat (by omega)
    have e : ∀ a, 212 ≤ a → m1 a = m a := fun a ha => f1.rw1 a (fun k => sLs_f (by omega) (by omega))
    refine Ci.imp (fun y2 m2 hr2 => ?_) (p_X12_lists (d := d + 26) a1 a2 (by rw [e 212 (by omega)]; exact h1) (by rw [e 221 (by omega)]; exact h11.n))
    rw [e 212 (by omega), e 220 (by omega), e 221 (by omega), e 222 (by omega)] at hr2
    obtain ⟨s1, s2, s3, s4, s5⟩ := hr2.1 ⟨q1, q2, q3⟩
    refine ⟨s1.trans r1.symm, h.tray (t := a1.toNat) (by omega) (f1.mono (fun a k z => ?_)) s3 ?_ ?_ ?_ ?_ ?_ ?_⟩
    · simp at z; exact sLs_f z.2 z.1.2
    · intro i hi hne; rw [s4]
    · intro i hi hne; rw [s5]
    · intro i hi hne j hj; rw [s2, lsN_o _ _ _ _ _ (by omega)]
    · rw [s5]; exact hn
    · rw [s4]; exact h11.s _ (by omega)
    · rw [s4, s5]
      have hT := h11.t a1.toNat (by omega)
      refine ⟨fun z => absurd z q3, fun z => ?_⟩
      obtain ⟨p1, p2, p3, p4, p5⟩ := hT.2 z
      have e0 : m1 (165 + 2 * a1.toNat) = m (165 + 2 * a1.toNat) := f1.rw1 _ (fun k => sLs_f (by omega) (by omega))
      refine ⟨by rw [e0]; exact p1, by rw [e0]; exact p2, p3, p4, fun j hj => ?_⟩
      rw [s2]
      exact r2 j hj
  · obtain ⟨r1, rfl⟩ := hr.2 q
    refine Ci.imp (fun y2 m2 hr2 => ?_) (p_X12_lists (d := d + 26) a1 a2 h1 h11.n)
    obtain ⟨s1, s2⟩ := hr2.2 q
    exact ⟨s1.trans r1.symm, pa, n, h.q s2⟩
theorem kq_image {Γ : Gm} {d : Nat} {m : Mem} (a1 : Int) (h : SR m) : K2 Γ (d + 30) MX11_image MX12_image [iv a1] m := by
  obtain ⟨pa, n, h⟩ := h
  obtain ⟨h1, h2, h3, h4, h10, h11, h12⟩ := id h
  refine Ci.imp (fun r m1 hr => ?_) (p_X11_image (d := d + 28) (m 212) a1 h1 h2 h3)
  by_cases q : 0 ≤ a1 ∧ a1 ≤ 1
  · obtain ⟨r1, r2, r3, r4, f1⟩ := hr.1 q
    have e : ∀ a, 212 ≤ a → m1 a = m a := fun a ha => f1.rw1 a (fun k => sIg_f (by omega))
    refine Ci.imp (fun y2 m2 hr2 => ?_) (p_X12_image (d := d + 29) a1)
    rw [e 212 (by omega), e 213 (by omega)] at hr2
    obtain ⟨s1, s2, s3, s4⟩ := hr2.1 q
    exact ⟨s1.trans r1.symm, h.image (i := a1.toNat) (by omega) r2 r3 r4 f1 s2 s3 s4⟩
  · obtain ⟨r1, rfl⟩ := hr.2 q
    refine Ci.imp (fun y2 m2 hr2 => ?_) (p_X12_image (d := d + 29) a1)
    obtain ⟨s1, s2⟩ := hr2.2 q
    exact ⟨s1.trans r1.symm, pa, n, h.q s2⟩
theorem kq_restore {Γ : Gm} {d : Nat} {m : Mem} (a1 : Int) (h : SR m) : K2 Γ (d + 30) MX11_restore MX12_restore [iv a1] m := by
  obtain ⟨pa, n, h⟩ := h
  obtain ⟨h1, h2, h3, h4, h10, h11, h12⟩ := id h
  refine Ci.imp (fun r m1 hr => ?_) (p_X11_restore (d := d + 28) (gim (m 212)) a1 (fun j hj z => (h10 j hj).2 z))
  by_cases q0 : 0 ≤ a1 ∧ a1 ≤ 1
  · have e6 : m 64 a1.toNat = m 213 a1.toNat := (h10 a1.toNat (by omega)).1
    by_cases q : m 64 a1.toNat = 0
    · obtain ⟨r1, rfl⟩ := hr.2 (fun z => z.2 q)
      refine Ci.imp (fun y2 m2 hr2 => ?_) (p_X12_restore2 (d := d + 29) a1)
      obtain ⟨s1, s2⟩ := hr2.2 (fun z => z.2 (by rw [← e6]; exact q))
      exact ⟨s1.trans r1.symm, pa, n, h.q s2⟩
    · obtain ⟨r1, r2, r3, r4, f1⟩ := hr.1 ⟨q0, q⟩
      have e : ∀ a, 212 ≤ a → m1 a = m a := fun a ha => f1.rw1 a (fun k => sRe_f (by omega))
      refine Ci.imp (fun y2 m2 hr2 => ?_) (p_X12_restore2 (d := d + 29) a1)
      rw [e 212 (by omega), e 213 (by omega)] at hr2
      obtain ⟨s1, s2, s3⟩ := hr2.1 ⟨q0, by rw [← e6]; exact q⟩
      exact ⟨s1.trans r1.symm, h.restore (i := a1.toNat) (by omega) q r2 r3 r4 f1 s2 s3⟩
  · obtain ⟨r1, rfl⟩ := hr.2 (fun z => q0 z.1)
    refine Ci.imp (fun y2 m2 hr2 => ?_) (p_X12_restore2 (d := d + 29) a1)
    obtain ⟨s1, s2⟩ := hr2.2 (fun z => q0 z.1)
    exact ⟨s1.trans r1.symm, pa, n, h.q s2⟩
theorem kq_feed {Γ : Gm} {d : Nat} {m : Mem} (a1 a2 a3 a4 a5 : Int) (h : SR m) : K2 Γ (d + 30) MX11_feed MX12_feed [iv a1, iv a2, iv a3, iv a4, iv a5] m := by
  obtain ⟨pa, n, h⟩ := h
  obtain ⟨h1, h2, h3, h4, h10, h11, h12, h13⟩ := id h
  obtain ⟨k, hk⟩ : ∃ k : Nat, m 211 5 = k := ⟨(m 211 5).toNat, by have := h12.2.1; omega⟩
  have hk9 : k ≤ 900 := by have := h12.2.1; omega
  refine Ci.imp (fun r m1 hr => ?_) (p_X11_feed (d := d + 29) k a1 a2 a3 a4 a5 (h12.1.trans hk) hk9)
  by_cases q : k + 20 ≤ 900
  · obtain ⟨r1, r2, r3, r4, f1⟩ := hr.1 q
    refine Ci.imp (fun y2 m2 hr2 => ?_) (p_X12_feed (d := d + 30) k a1 a2 a3 a4 a5 (by rw [f1 211 5 (sFe_f (by omega))]; exact hk) hk9)
    obtain ⟨s1, s2, s3, s4, s5⟩ := hr2.1 q
    exact ⟨s1.trans r1.symm, h.feed hk q r2 r3 r4 f1 s2 s3 s4 s5⟩
  · obtain ⟨r1, rfl⟩ := hr.2 q
    refine Ci.imp (fun y2 m2 hr2 => ?_) (p_X12_feed (d := d + 30) k a1 a2 a3 a4 a5 hk hk9)
    obtain ⟨s1, s2⟩ := hr2.2 q
    exact ⟨s1.trans r1.symm, pa, n, h.q s2⟩
def fF (m : Mem) : Row := fun j => if j < 1358 then f0R j else m 215 j
theorem fF_0 (m : Mem) : ∀ j, j < 1358 → fF m j = f0R j := fun j hj => by unfold fF; rw [if_pos hj]
theorem PHc.hi {r : Int} {m m' : Mem} {x : Er (Tok × Row)} (h : PHc r m m' x) {a : Nat} (ha : 52 ≤ a) : m' a = m a := by
  obtain ⟨-, h⟩ := h
  cases x with
  | inl e => exact h.2.2.2.2.rw1 a (fun k => sHb_f (by omega))
  | inr e => exact h.2.2.2.2.2.2.rw1 a (fun k => sHg_f (by omega))
theorem kq_house {Γ : Gm} {d : Nat} {m : Mem} (a1 : Int) (h : SR m) : K2 Γ (d + 30) MX11_house MX12_house [iv a1] m := by
  obtain ⟨pa, n, h⟩ := h
  obtain ⟨h1, h2, h3, h4, h10, h11, h12, h13⟩ := id h
  by_cases q : 0 ≤ a1 ∧ a1 ≤ m 211 5
  · obtain ⟨N, rfl⟩ : ∃ N : Nat, a1 = N := ⟨a1.toNat, by omega⟩
    have h9 := h12.2.1
    refine Ci.imp (fun r m1 hr => ?_) (p_X11_house (d := d + 18) (m 214) N (fF m) (by rw [h12.1]; exact q.2) (by rw [h12.1]; exact h9.2) (fun i hi => h12.2.2 i (by omega)) (fF_0 m))
    have e : ∀ a, 52 ≤ a → m1 a = m a := fun a ha => hr.hi ha
    refine Ci.imp (fun y2 m2 hr2 => ?_) (p_X12_house2 (d := d) (N : Int) (by rw [e 211 (by omega)]; exact h9))
    obtain ⟨f0, e1, e2, e3, e4⟩ := hr2.1 (by rw [e 211 (by omega)]; exact q)
    have ef : f0 = fF m := by
      funext j
      unfold fF
      by_cases z : j < 1358
      · rw [if_pos z]; exact e1 j z
      · rw [if_neg z, e2 j (by omega), e 215 (by omega)]
    rw [ef, e 214 (by omega), Int.toNat_natCast] at e3
    exact h.house hr e4 e3 (fun a ha => hoG_96 (fF_0 m) ha)
  · refine Ci.imp (fun r m1 hr => ?_) (p_X11_house_no (d := d + 30) a1 (by rw [h12.1]; exact q))
    obtain ⟨r1, rfl⟩ := hr
    refine Ci.imp (fun y2 m2 hr2 => ?_) (p_X12_house (d := d) a1 h12.2.1)
    obtain ⟨s1, s2⟩ := hr2.2 q
    exact ⟨s1.trans r1.symm, pa, n, h.q s2⟩
