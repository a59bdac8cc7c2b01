/-! ===== each call on both sides, from the state to the state ===== -/
def K2 (Γ : Gm) (d : Nat) (M1 M2 : Mth) (As : List Vl) (m : Mem) : Prop := Ci Γ d M1 (rv 0 :: As) m (fun r m1 => Ci Γ d M2 (rv 211 :: As) m1 (fun r2 m2 => r2 = r ∧ SR m2))
theorem TrsR.t {m : Mem} (h : TrsR m) : ∀ i, i < 4 → TraR m (165 + 2 * i) ((fun i => m 220 i) i) ((fun i => (m 221 i).toNat) i) ((fun i j => m 222 (40 * i + j)) i) := fun i hi => (h i hi).2.2
theorem TrsR.s {m : Mem} (h : TrsR m) : ∀ i, i < 4 → (fun i => m 220 i) i = -1 ∨ (0 ≤ (fun i => m 220 i) i ∧ (fun i => m 220 i) i ≤ 3) := fun i hi => (h i hi).2.1
theorem TrsR.n {m : Mem} (h : TrsR m) : ∀ i, i < 4 → 0 ≤ m 221 i ∧ m 221 i ≤ 40 := fun i hi => (h i hi).1
theorem Fr.qD {m m' : Mem} (h : Fr sQ m m') : Fr sD m m' := h.mono (fun _ _ q => sD_Q q)
theorem kq_lift {Γ : Gm} {d : Nat} {m : Mem} (a1 a2 : Int) (h : SR m) : K2 Γ (d + 30) MX11_lift MX12_lift [iv a1, iv a2] m := by
  obtain ⟨pa, n, h⟩ := h
  refine Ci.imp (fun r m1 hr => ?_) (p_X11_lift (d := d + 28) (m 212) a1 a2 h.1 h.2.1 h.2.2.1)
  obtain ⟨rfl, f1⟩ := hr
  have h' := h.c f1
  have e12 : m1 212 = m 212 := f1.rw1 212 (fun k => sC_f (by omega))
  refine Ci.imp (fun y2 m2 hr2 => ?_) (p_X12_lift (d := d + 27) a1 a2 h'.1)
  obtain ⟨rfl, f2⟩ := hr2
  rw [e12]
  exact ⟨rfl, pa, n, h'.q f2⟩
theorem kq_person {Γ : Gm} {d : Nat} {m : Mem} (a1 a2 : Int) (h : SR m) : K2 Γ (d + 30) MX11_person MX12_person [iv a1, iv a2] m := by
  obtain ⟨pa, n, h⟩ := h
  refine Ci.imp (fun r m1 hr => ?_) (p_X11_person (d := d + 29) (m 212) a1 a2 h.1 h.2.1 h.2.2.1)
  obtain ⟨rfl, f1⟩ := hr
  have h' := h.c f1
  have e12 : m1 212 = m 212 := f1.rw1 212 (fun k => sC_f (by omega))
  refine Ci.imp (fun y2 m2 hr2 => ?_) (p_X12_person (d := d + 28) a1 a2 h'.1)
  obtain ⟨rfl, f2⟩ := hr2
  rw [e12]
  exact ⟨rfl, pa, n, h'.q f2⟩
theorem kq_foot {Γ : Gm} {d : Nat} {m : Mem} (a1 a2 a3 : Int) (h : SR m) : K2 Γ (d + 30) MX11_foot MX12_foot [iv a1, iv a2, iv a3] m := by
  obtain ⟨pa, n, h⟩ := h
  refine Ci.imp (fun r m1 hr => ?_) (p_X11_foot (d := d + 29) (m 212) a1 a2 a3 h.1 h.2.1 h.2.2.1)
  obtain ⟨rfl, f1⟩ := hr
  have h' := h.c f1
  have e12 : m1 212 = m 212 := f1.rw1 212 (fun k => sC_f (by omega))
  refine Ci.imp (fun y2 m2 hr2 => ?_) (p_X12_foot (d := d + 27) a1 a2 a3 h'.1)
  obtain ⟨rfl, f2⟩ := hr2
  rw [e12]
  exact ⟨rfl, pa, n, h'.q f2⟩
theorem kq_stop {Γ : Gm} {d : Nat} {m : Mem} (a1 a2 a3 : Int) (h : SR m) : K2 Γ (d + 30) MX11_stop MX12_stop [iv a1, iv a2, iv a3] m := by
  obtain ⟨pa, n, h⟩ := h
  refine Ci.imp (fun r m1 hr => ?_) (p_X11_stop (d := d + 28) (m 212) a1 a2 a3 h.1 h.2.1 h.2.2.1)
  obtain ⟨rfl, f1⟩ := hr
  have h' := h.c f1
  have e12 : m1 212 = m 212 := f1.rw1 212 (fun k => sC_f (by omega))
  refine Ci.imp (fun y2 m2 hr2 => ?_) (p_X12_stop (d := d + 27) a1 a2 a3 h'.1)
  obtain ⟨rfl, f2⟩ := hr2
  rw [e12]
  exact ⟨rfl, pa, n, h'.q f2⟩
theorem kq_calls {Γ : Gm} {d : Nat} {m : Mem} (a1 : Int) (h : SR m) : K2 Γ (d + 30) MX11_calls MX12_calls [iv a1] m := by
  obtain ⟨pa, n, h⟩ := h
  refine Ci.imp (fun r m1 hr => ?_) (p_X11_calls (d := d + 29) (m 212) a1 h.1 h.2.1 h.2.2.1)
  obtain ⟨rfl, f1⟩ := hr
  have h' := h.c f1
  have e12 : m1 212 = m 212 := f1.rw1 212 (fun k => sC_f (by omega))
  refine Ci.imp (fun y2 m2 hr2 => ?_) (p_X12_calls (d := d + 28) a1 h'.1)
  obtain ⟨rfl, f2⟩ := hr2
  rw [e12]
  exact ⟨rfl, pa, n, h'.q f2⟩
theorem kq_stops {Γ : Gm} {d : Nat} {m : Mem} (a1 : Int) (h : SR m) : K2 Γ (d + 30) MX11_stops MX12_stops [iv a1] m := by
  obtain ⟨pa, n, h⟩ := h
  refine Ci.imp (fun r m1 hr => ?_) (p_X11_stops (d := d + 29) (m 212) a1 h.1 h.2.1 h.2.2.1)
  obtain ⟨rfl, f1⟩ := hr
  have h' := h.c f1
  have e12 : m1 212 = m 212 := f1.rw1 212 (fun k => sC_f (by omega))
  refine Ci.imp (fun y2 m2 hr2 => ?_) (p_X12_stops (d := d + 28) a1 h'.1)
  obtain ⟨rfl, f2⟩ := hr2
  rw [e12]
  exact ⟨rfl, pa, n, h'.q f2⟩
theorem kq_stopAt {Γ : Gm} {d : Nat} {m : Mem} (a1 a2 : Int) (h : SR m) : K2 Γ (d + 30) MX11_stopAt MX12_stopAt [iv a1, iv a2] m := by
  obtain ⟨pa, n, h⟩ := h
  refine Ci.imp (fun r m1 hr => ?_) (p_X11_stopAt (d := d + 27) (m 212) a1 a2 h.1 h.2.1 h.2.2.1)
  obtain ⟨rfl, f1⟩ := hr
  have h' := h.c f1
  have e12 : m1 212 = m 212 := f1.rw1 212 (fun k => sC_f (by omega))
  refine Ci.imp (fun y2 m2 hr2 => ?_) (p_X12_stopAt (d := d + 26) a1 a2 h'.1)
  obtain ⟨rfl, f2⟩ := hr2
  rw [e12]
  exact ⟨rfl, pa, n, h'.q f2⟩
theorem kq_comes {Γ : Gm} {d : Nat} {m : Mem} (a1 a2 : Int) (h : SR m) : K2 Γ (d + 30) MX11_comes MX12_comes [iv a1, iv a2] m := by
  obtain ⟨pa, n, h⟩ := h
  refine Ci.imp (fun r m1 hr => ?_) (p_X11_comes (d := d + 26) (m 212) a1 a2 h.1 h.2.1 h.2.2.1)
  obtain ⟨rfl, f1⟩ := hr
  have h' := h.c f1
  have e12 : m1 212 = m 212 := f1.rw1 212 (fun k => sC_f (by omega))
  refine Ci.imp (fun y2 m2 hr2 => ?_) (p_X12_comes (d := d + 25) a1 a2 h'.1)
  obtain ⟨rfl, f2⟩ := hr2
  rw [e12]
  exact ⟨rfl, pa, n, h'.q f2⟩
theorem kq_restsBy {Γ : Gm} {d : Nat} {m : Mem} (a1 : Int) (h : SR m) : K2 Γ (d + 30) MX11_restsBy MX12_restsBy [iv a1] m := by
  obtain ⟨pa, n, h⟩ := h
  refine Ci.imp (fun r m1 hr => ?_) (p_X11_restsBy (d := d + 26) (m 212) a1 h.1 h.2.1 h.2.2.1)
  obtain ⟨rfl, f1⟩ := hr
  have h' := h.c f1
  have e12 : m1 212 = m 212 := f1.rw1 212 (fun k => sC_f (by omega))
  refine Ci.imp (fun y2 m2 hr2 => ?_) (p_X12_restsBy (d := d + 26) a1 h'.1)
  obtain ⟨rfl, f2⟩ := hr2
  rw [e12]
  exact ⟨rfl, pa, n, h'.q f2⟩
theorem kq_best {Γ : Gm} {d : Nat} {m : Mem} (a1 a2 : Int) (h : SR m) : K2 Γ (d + 30) MX11_best MX12_best [iv a1, iv a2] m := by
  obtain ⟨pa, n, h⟩ := h
  refine Ci.imp (fun r m1 hr => ?_) (p_X11_best (d := d + 25) (m 212) a1 a2 h.1 h.2.1 h.2.2.1)
  obtain ⟨rfl, f1⟩ := hr
  have h' := h.c f1
  have e12 : m1 212 = m 212 := f1.rw1 212 (fun k => sC_f (by omega))
  refine Ci.imp (fun y2 m2 hr2 => ?_) (p_X12_best (d := d + 24) a1 a2 h'.1)
  obtain ⟨rfl, f2⟩ := hr2
  rw [e12]
  exact ⟨rfl, pa, n, h'.q f2⟩
theorem kq_homeBy {Γ : Gm} {d : Nat} {m : Mem} (a1 a2 : Int) (h : SR m) : K2 Γ (d + 30) MX11_homeBy MX12_homeBy [iv a1, iv a2] m := by
  obtain ⟨pa, n, h⟩ := h
  refine Ci.imp (fun r m1 hr => ?_) (p_X11_homeBy (d := d + 26) (m 212) a1 a2 h.1 h.2.1 h.2.2.1)
  obtain ⟨rfl, f1⟩ := hr
  have h' := h.c f1
  have e12 : m1 212 = m 212 := f1.rw1 212 (fun k => sC_f (by omega))
  refine Ci.imp (fun y2 m2 hr2 => ?_) (p_X12_homeBy (d := d + 25) a1 a2 h'.1)
  obtain ⟨rfl, f2⟩ := hr2
  rw [e12]
  exact ⟨rfl, pa, n, h'.q f2⟩
theorem kq_all {Γ : Gm} {d : Nat} {m : Mem} (a1 : Int) (h : SR m) : K2 Γ (d + 30) MX11_all MX12_all [iv a1] m := by
  obtain ⟨pa, n, h⟩ := h
  refine Ci.imp (fun r m1 hr => ?_) (p_X11_all (d := d + 24) (m 212) a1 h.1 h.2.1 h.2.2.1)
  obtain ⟨rfl, f1⟩ := hr
  have h' := h.c f1
  have e12 : m1 212 = m 212 := f1.rw1 212 (fun k => sC_f (by omega))
  refine Ci.imp (fun y2 m2 hr2 => ?_) (p_X12_all (d := d + 24) a1 h'.1)
  obtain ⟨rfl, f2⟩ := hr2
  rw [e12]
  exact ⟨rfl, pa, n, h'.q f2⟩
theorem kq_latest {Γ : Gm} {d : Nat} {m : Mem} (a1 : Int) (h : SR m) : K2 Γ (d + 30) MX11_latest MX12_latest [iv a1] m := by
  obtain ⟨pa, n, h⟩ := h
  refine Ci.imp (fun r m1 hr => ?_) (p_X11_latest (d := d + 24) (m 212) a1 h.1 h.2.1 h.2.2.1)
  obtain ⟨rfl, f1⟩ := hr
  have h' := h.c f1
  have e12 : m1 212 = m 212 := f1.rw1 212 (fun k => sC_f (by omega))
  refine Ci.imp (fun y2 m2 hr2 => ?_) (p_X12_latest (d := d + 24) a1 h'.1)
  obtain ⟨rfl, f2⟩ := hr2
  rw [e12]
  exact ⟨rfl, pa, n, h'.q f2⟩
theorem kq_walkers {Γ : Gm} {d : Nat} {m : Mem} (a1 : Int) (h : SR m) : K2 Γ (d + 30) MX11_walkers MX12_walkers [iv a1] m := by
  obtain ⟨pa, n, h⟩ := h
  refine Ci.imp (fun r m1 hr => ?_) (p_X11_walkers (d := d + 25) (m 212) a1 h.1 h.2.1 h.2.2.1)
  obtain ⟨rfl, f1⟩ := hr
  have h' := h.c f1
  have e12 : m1 212 = m 212 := f1.rw1 212 (fun k => sC_f (by omega))
  refine Ci.imp (fun y2 m2 hr2 => ?_) (p_X12_walkers (d := d + 24) a1 h'.1)
  obtain ⟨rfl, f2⟩ := hr2
  rw [e12]
  exact ⟨rfl, pa, n, h'.q f2⟩
theorem kq_waits {Γ : Gm} {d : Nat} {m : Mem} (a1 a2 : Int) (h : SR m) : K2 Γ (d + 30) MX11_waits MX12_waits [iv a1, iv a2] m := by
  obtain ⟨pa, n, h⟩ := h
  refine Ci.imp (fun r m1 hr => ?_) (p_X11_waits (d := d + 25) (m 212) a1 a2 h.1 h.2.1 h.2.2.1)
  obtain ⟨rfl, f1⟩ := hr
  have h' := h.c f1
  have e12 : m1 212 = m 212 := f1.rw1 212 (fun k => sC_f (by omega))
  refine Ci.imp (fun y2 m2 hr2 => ?_) (p_X12_waits (d := d + 24) a1 a2 h'.1)
  obtain ⟨rfl, f2⟩ := hr2
  rw [e12]
  exact ⟨rfl, pa, n, h'.q f2⟩
theorem kq_choice {Γ : Gm} {d : Nat} {m : Mem} (a1 : Int) (h : SR m) : K2 Γ (d + 30) MX11_choice MX12_choice [iv a1] m := by
  obtain ⟨pa, n, h⟩ := h
  refine Ci.imp (fun r m1 hr => ?_) (p_X11_choice (d := d + 25) (m 212) a1 h.1 h.2.1 h.2.2.1)
  obtain ⟨rfl, f1⟩ := hr
  have h' := h.c f1
  have e12 : m1 212 = m 212 := f1.rw1 212 (fun k => sC_f (by omega))
  refine Ci.imp (fun y2 m2 hr2 => ?_) (p_X12_choice (d := d + 24) a1 h'.1)
  obtain ⟨rfl, f2⟩ := hr2
  rw [e12]
  exact ⟨rfl, pa, n, h'.q f2⟩
theorem kq_least {Γ : Gm} {d : Nat} {m : Mem} (a1 a2 : Int) (h : SR m) : K2 Γ (d + 30) MX11_least MX12_least [iv a1, iv a2] m := by
  obtain ⟨pa, n, h⟩ := h
  refine Ci.imp (fun r m1 hr => ?_) (p_X11_least (d := d + 23) (m 212) a1 a2 h.1 h.2.1 h.2.2.1)
  obtain ⟨rfl, f1⟩ := hr
  have h' := h.c f1
  have e12 : m1 212 = m 212 := f1.rw1 212 (fun k => sC_f (by omega))
  refine Ci.imp (fun y2 m2 hr2 => ?_) (p_X12_least (d := d + 22) a1 a2 h'.1)
  obtain ⟨rfl, f2⟩ := hr2
  rw [e12]
  exact ⟨rfl, pa, n, h'.q f2⟩
theorem kq_fairest {Γ : Gm} {d : Nat} {m : Mem} (a1 a2 : Int) (h : SR m) : K2 Γ (d + 30) MX11_fairest MX12_fairest [iv a1, iv a2] m := by
  obtain ⟨pa, n, h⟩ := h
  refine Ci.imp (fun r m1 hr => ?_) (p_X11_fairest (d := d + 23) (m 212) a1 a2 h.1 h.2.1 h.2.2.1)
  obtain ⟨rfl, f1⟩ := hr
  have h' := h.c f1
  have e12 : m1 212 = m 212 := f1.rw1 212 (fun k => sC_f (by omega))
  refine Ci.imp (fun y2 m2 hr2 => ?_) (p_X12_fairest (d := d + 22) a1 a2 h'.1)
  obtain ⟨rfl, f2⟩ := hr2
  rw [e12]
  exact ⟨rfl, pa, n, h'.q f2⟩
theorem kq_costs {Γ : Gm} {d : Nat} {m : Mem} (a1 a2 : Int) (h : SR m) : K2 Γ (d + 30) MX11_costs MX12_costs [iv a1, iv a2] m := by
  obtain ⟨pa, n, h⟩ := h
  refine Ci.imp (fun r m1 hr => ?_) (p_X11_costs (d := d + 24) (m 212) a1 a2 h.1 h.2.1 h.2.2.1)
  obtain ⟨rfl, f1⟩ := hr
  have h' := h.c f1
  have e12 : m1 212 = m 212 := f1.rw1 212 (fun k => sC_f (by omega))
  refine Ci.imp (fun y2 m2 hr2 => ?_) (p_X12_costs (d := d + 24) a1 a2 h'.1)
  obtain ⟨rfl, f2⟩ := hr2
  rw [e12]
  exact ⟨rfl, pa, n, h'.q f2⟩
theorem kq_worstLight {Γ : Gm} {d : Nat} {m : Mem} (a1 : Int) (h : SR m) : K2 Γ (d + 30) MX11_worstLight MX12_worstLight [iv a1] m := by
  obtain ⟨pa, n, h⟩ := h
  refine Ci.imp (fun r m1 hr => ?_) (p_X11_worstLight (d := d + 23) (m 212) a1 h.1 h.2.1 h.2.2.1)
  obtain ⟨rfl, f1⟩ := hr
  have h' := h.c f1
  have e12 : m1 212 = m 212 := f1.rw1 212 (fun k => sC_f (by omega))
  refine Ci.imp (fun y2 m2 hr2 => ?_) (p_X12_worstLight (d := d + 23) a1 h'.1)
  obtain ⟨rfl, f2⟩ := hr2
  rw [e12]
  exact ⟨rfl, pa, n, h'.q f2⟩
theorem kq_bestLight {Γ : Gm} {d : Nat} {m : Mem} (a1 : Int) (h : SR m) : K2 Γ (d + 30) MX11_bestLight MX12_bestLight [iv a1] m := by
  obtain ⟨pa, n, h⟩ := h
  refine Ci.imp (fun r m1 hr => ?_) (p_X11_bestLight (d := d + 23) (m 212) a1 h.1 h.2.1 h.2.2.1)
  obtain ⟨rfl, f1⟩ := hr
  have h' := h.c f1
  have e12 : m1 212 = m 212 := f1.rw1 212 (fun k => sC_f (by omega))
  refine Ci.imp (fun y2 m2 hr2 => ?_) (p_X12_bestLight (d := d + 23) a1 h'.1)
  obtain ⟨rfl, f2⟩ := hr2
  rw [e12]
  exact ⟨rfl, pa, n, h'.q f2⟩
theorem kq_boy {Γ : Gm} {d : Nat} {m : Mem} (a1 a2 a3 : Int) (h : SR m) : K2 Γ (d + 30) MX11_boy MX12_boy [iv a1, iv a2, iv a3] m := by
  obtain ⟨pa, n, h⟩ := h
  refine Ci.imp (fun r m1 hr => ?_) (p_X11_boy (d := d + 23) (m 212) a1 a2 a3 h.1 h.2.1 h.2.2.1)
  obtain ⟨rfl, f1⟩ := hr
  have h' := h.c f1
  have e12 : m1 212 = m 212 := f1.rw1 212 (fun k => sC_f (by omega))
  refine Ci.imp (fun y2 m2 hr2 => ?_) (p_X12_boy (d := d + 2) a1 a2 a3 h'.1)
  obtain ⟨rfl, f2⟩ := hr2
  rw [e12]
  exact ⟨rfl, pa, n, h'.q f2⟩
theorem kq_parting {Γ : Gm} {d : Nat} {m : Mem} (a1 a2 a3 : Int) (h : SR m) : K2 Γ (d + 30) MX11_parting MX12_parting [iv a1, iv a2, iv a3] m := by
  obtain ⟨pa, n, h⟩ := h
  refine Ci.imp (fun r m1 hr => ?_) (p_X11_parting (d := d + 25) (m 212) a1 a2 a3 h.1 h.2.1 h.2.2.1)
  obtain ⟨rfl, f1⟩ := hr
  have h' := h.c f1
  have e12 : m1 212 = m 212 := f1.rw1 212 (fun k => sC_f (by omega))
  refine Ci.imp (fun y2 m2 hr2 => ?_) (p_X12_parting (d := d + 24) a1 a2 a3 h'.1)
  obtain ⟨rfl, f2⟩ := hr2
  rw [e12]
  exact ⟨rfl, pa, n, h'.q f2⟩
theorem kq_rest {Γ : Gm} {d : Nat} {m : Mem} (h : SR m) : K2 Γ (d + 30) MX11_rest MX12_rest [] m := by
  obtain ⟨pa, n, h⟩ := h
  refine Ci.imp (fun r m1 hr => ?_) (p_X11_rest (d := d + 28) (m 212)  h.1 h.2.1 h.2.2.1)
  obtain ⟨rfl, f1⟩ := hr
  have h' := h.c f1
  have e12 : m1 212 = m 212 := f1.rw1 212 (fun k => sC_f (by omega))
  refine Ci.imp (fun y2 m2 hr2 => ?_) (p_X12_rest (d := d + 28)  h'.1)
  obtain ⟨rfl, f2⟩ := hr2
  rw [e12]
  exact ⟨rfl, pa, n, h'.q f2⟩
theorem kq_away {Γ : Gm} {d : Nat} {m : Mem} (a1 : Int) (h : SR m) : K2 Γ (d + 30) MX11_away MX12_away [iv a1] m := by
  obtain ⟨pa, n, h⟩ := h
  refine Ci.imp (fun r m1 hr => ?_) (p_X11_away (d := d + 28) (m 212) a1 h.1 h.2.1 h.2.2.1)
  obtain ⟨rfl, f1⟩ := hr
  have h' := h.c f1
  have e12 : m1 212 = m 212 := f1.rw1 212 (fun k => sC_f (by omega))
  refine Ci.imp (fun y2 m2 hr2 => ?_) (p_X12_away (d := d + 28) a1 h'.1)
  obtain ⟨rfl, f2⟩ := hr2
  rw [e12]
  exact ⟨rfl, pa, n, h'.q f2⟩
theorem kq_nearest {Γ : Gm} {d : Nat} {m : Mem} (a1 : Int) (h : SR m) : K2 Γ (d + 30) MX11_nearest MX12_nearest [iv a1] m := by
  obtain ⟨pa, n, h⟩ := h
  refine Ci.imp (fun r m1 hr => ?_) (p_X11_nearest (d := d + 29) (m 212) a1 h.1 h.2.1 h.2.2.1)
  obtain ⟨rfl, f1⟩ := hr
  have h' := h.c f1
  have e12 : m1 212 = m 212 := f1.rw1 212 (fun k => sC_f (by omega))
  refine Ci.imp (fun y2 m2 hr2 => ?_) (p_X12_nearest (d := d + 28) a1 h'.1)
  obtain ⟨rfl, f2⟩ := hr2
  rw [e12]
  exact ⟨rfl, pa, n, h'.q f2⟩
theorem kq_count {Γ : Gm} {d : Nat} {m : Mem} (a1 : Int) (h : SR m) : K2 Γ (d + 30) MX11_count MX12_count [iv a1] m := by
  obtain ⟨pa, n, h⟩ := h
  refine Ci.imp (fun r m1 hr => ?_) (p_X11_count (d := d + 28) (m 212) a1 h.1 h.2.1 h.2.2.1 (by rw [h.2.2.2.1.2.2.2.1, h.2.2.2.1.2.2.2.2.1]))
  obtain ⟨rfl, f1⟩ := hr
  have h' := h.c f1
  have e12 : m1 212 = m 212 := f1.rw1 212 (fun k => sC_f (by omega))
  refine Ci.imp (fun y2 m2 hr2 => ?_) (p_X12_count (d := d + 28) a1 h'.1)
  obtain ⟨rfl, f2⟩ := hr2
  rw [e12, f1 211 5 (sC_f (by omega)), h.2.2.2.2.2.2.1.1]
  exact ⟨rfl, pa, n, h'.q f2⟩
theorem kq_fault {Γ : Gm} {d : Nat} {m : Mem} (a1 : Int) (h : SR m) : K2 Γ (d + 30) MX11_fault MX12_fault [iv a1] m := by
  obtain ⟨pa, n, h⟩ := h
  refine Ci.imp (fun r m1 hr => ?_) (p_X11_fault (d := d + 30) a1)
  obtain ⟨rfl, rfl⟩ := hr
  refine Ci.imp (fun y2 m2 hr2 => ?_) (p_X12_fault (d := d + 30) a1)
  obtain ⟨rfl, f2⟩ := hr2
  rw [h.2.2.2.2.2.2.2.1, h.2.2.2.2.2.2.2.2]
  exact ⟨rfl, pa, n, h.q f2⟩
theorem kq_judge {Γ : Gm} {d : Nat} {m : Mem} (a1 a2 : Int) (h : SR m) : K2 Γ (d + 30) MX11_judge MX12_judge [iv a1, iv a2] m := by
  obtain ⟨pa, n, h⟩ := h
  refine Ci.imp (fun r m1 hr => ?_) (p_X11_judge (d := d + 24) (m 212) (fun i => m 220 i) (fun i => (m 221 i).toNat) (fun i j => m 222 (40 * i + j)) a1 a2 h.1 h.2.1 h.2.2.1 h.2.2.2.2.2.1.t h.2.2.2.2.2.1.s)
  obtain ⟨rfl, f1⟩ := hr
  have h' := h.c f1
  have e : ∀ a, 212 ≤ a → m1 a = m a := fun a ha => f1.rw1 a (fun k => sC_f (by omega))
  refine Ci.imp (fun y2 m2 hr2 => ?_) (p_X12_judge (d := d + 23) a1 a2 h'.1 h'.2.2.2.2.2.1.n)
  obtain ⟨rfl, f2⟩ := hr2
  rw [e 212 (by omega), e 220 (by omega), e 221 (by omega), e 222 (by omega)]
  exact ⟨rfl, pa, n, h'.q f2⟩
theorem kq_seen {Γ : Gm} {d : Nat} {m : Mem} (a1 a2 : Int) (h : SR m) : K2 Γ (d + 30) MX11_seen MX12_seen [iv a1, iv a2] m := by
  obtain ⟨pa, n, h⟩ := h
  refine Ci.imp (fun r m1 hr => ?_) (p_X11_seen (d := d + 24) (m 212) (fun i => m 220 i) (fun i => (m 221 i).toNat) (fun i j => m 222 (40 * i + j)) a1 a2 h.1 h.2.1 h.2.2.1 h.2.2.2.2.2.1.t h.2.2.2.2.2.1.s)
  obtain ⟨rfl, f1⟩ := hr
  have h' := h.c f1
  have e : ∀ a, 212 ≤ a → m1 a = m a := fun a ha => f1.rw1 a (fun k => sC_f (by omega))
  refine Ci.imp (fun y2 m2 hr2 => ?_) (p_X12_seen (d := d + 24) a1 a2 h'.1 h'.2.2.2.2.2.1.n)
  obtain ⟨rfl, f2⟩ := hr2
  rw [e 212 (by omega), e 220 (by omega), e 221 (by omega), e 222 (by omega)]
  exact ⟨rfl, pa, n, h'.q f2⟩
theorem kq_sure {Γ : Gm} {d : Nat} {m : Mem} (a1 a2 : Int) (h : SR m) : K2 Γ (d + 30) MX11_sure MX12_sure [iv a1, iv a2] m := by
  obtain ⟨pa, n, h⟩ := h
  refine Ci.imp (fun r m1 hr => ?_) (p_X11_sure (d := d + 24) (m 212) (fun i => m 220 i) (fun i => (m 221 i).toNat) (fun i j => m 222 (40 * i + j)) a1 a2 h.1 h.2.1 h.2.2.1 h.2.2.2.2.2.1.t h.2.2.2.2.2.1.s)
  obtain ⟨rfl, f1⟩ := hr
  have h' := h.c f1
  have e : ∀ a, 212 ≤ a → m1 a = m a := fun a ha => f1.rw1 a (fun k => sC_f (by omega))
  refine Ci.imp (fun y2 m2 hr2 => ?_) (p_X12_sure (d := d + 24) a1 a2 h'.1 h'.2.2.2.2.2.1.n)
  obtain ⟨rfl, f2⟩ := hr2
  rw [e 212 (by omega), e 220 (by omega), e 221 (by omega), e 222 (by omega)]
  exact ⟨rfl, pa, n, h'.q f2⟩
theorem kq_look {Γ : Gm} {d : Nat} {m : Mem} (a1 a2 : Int) (h : SR m) : K2 Γ (d + 30) MX11_look MX12_look [iv a1, iv a2] m := by
  obtain ⟨pa, n, h⟩ := h
  refine Ci.imp (fun r m1 hr => ?_) (p_X11_look (d := d + 24) (m 212) (fun i => m 220 i) (fun i => (m 221 i).toNat) (fun i j => m 222 (40 * i + j)) a1 a2 h.1 h.2.1 h.2.2.1 h.2.2.2.2.2.1.t h.2.2.2.2.2.1.s)
  obtain ⟨rfl, f1⟩ := hr
  have h' := h.c f1
  have e : ∀ a, 212 ≤ a → m1 a = m a := fun a ha => f1.rw1 a (fun k => sC_f (by omega))
  refine Ci.imp (fun y2 m2 hr2 => ?_) (p_X12_look (d := d + 24) a1 a2 h'.1 h'.2.2.2.2.2.1.n)
  obtain ⟨rfl, f2⟩ := hr2
  rw [e 212 (by omega), e 220 (by omega), e 221 (by omega), e 222 (by omega)]
  exact ⟨rfl, pa, n, h'.q f2⟩
theorem kq_odd {Γ : Gm} {d : Nat} {m : Mem} (a1 a2 : Int) (h : SR m) : K2 Γ (d + 30) MX11_odd MX12_odd [iv a1, iv a2] m := by
  obtain ⟨pa, n, h⟩ := h
  refine Ci.imp (fun r m1 hr => ?_) (p_X11_odd (d := d + 24) (m 212) (fun i => m 220 i) (fun i => (m 221 i).toNat) (fun i j => m 222 (40 * i + j)) a1 a2 h.1 h.2.1 h.2.2.1 h.2.2.2.2.2.1.t h.2.2.2.2.2.1.s)
  obtain ⟨rfl, f1⟩ := hr
  have h' := h.c f1
  have e : ∀ a, 212 ≤ a → m1 a = m a := fun a ha => f1.rw1 a (fun k => sC_f (by omega))
  refine Ci.imp (fun y2 m2 hr2 => ?_) (p_X12_odd (d := d + 24) a1 a2 h'.1 h'.2.2.2.2.2.1.n)
  obtain ⟨rfl, f2⟩ := hr2
  rw [e 212 (by omega), e 220 (by omega), e 221 (by omega), e 222 (by omega)]
  exact ⟨rfl, pa, n, h'.q f2⟩
theorem kq_press {Γ : Gm} {d : Nat} {m : Mem} (a1 a2 : Int) (h : SR m) : K2 Γ (d + 30) MX11_press MX12_press [iv a1, iv a2] m := by
  obtain ⟨pa, n, h⟩ := h
  obtain ⟨h1, h2, h3, ⟨h4, h5, h6, h7, h8, h9⟩, h10⟩ := id h
  refine Ci.imp (fun r m1 hr => ?_) (p_X11_press (d := d + 27) (m 212) pa n a1 a2 h1 h2 h3 h4 h5 h6 h7)
  have f1 := hr.2.2
  have e12 : m1 212 = m 212 := f1.rw1 212 (fun k => sDd_f (by omega))
  refine Ci.imp (fun y2 m2 hr2 => ?_) (p_X12_press (d := d + 27) a1 a2 (by rw [e12]; exact h1) (by rw [e12, h8]; omega))
  rw [e12] at hr2
  by_cases q : whyP (m 212) a1 a2 false = 0
  · obtain ⟨a9, b9⟩ := hr.1 q
    obtain ⟨c9, d9, e9⟩ := hr2.1 q
    obtain ⟨⟨z1, -⟩, ⟨z2, -⟩⟩ := whyP_c0 q
    have w : whyD (m 212) 0 a1.toNat a2.toNat = 0 := by
      show whyP (m 212) (a1.toNat : Int) (a2.toNat : Int) false = 0
      rw [Int.toNat_of_nonneg z1, Int.toNat_of_nonneg z2]
      exact q
    exact ⟨c9.trans a9.symm, h.deed b9 f1 (HI_D h1 w).1 (HI_D h1 w).2 d9 e9⟩
  · obtain ⟨a9, b9⟩ := hr.2.1 q
    obtain ⟨c9, e9⟩ := hr2.2 q
    exact ⟨c9.trans a9.symm, h.dno b9 f1 h1 (Kp.rf _) ((e9.rw1 212 (fun k => sQ_f (by omega))).trans e12) e9.qD⟩
theorem kq_pressOff {Γ : Gm} {d : Nat} {m : Mem} (a1 a2 : Int) (h : SR m) : K2 Γ (d + 30) MX11_pressOff MX12_pressOff [iv a1, iv a2] m := by
  obtain ⟨pa, n, h⟩ := h
  obtain ⟨h1, h2, h3, ⟨h4, h5, h6, h7, h8, h9⟩, h10⟩ := id h
  refine Ci.imp (fun r m1 hr => ?_) (p_X11_pressOff (d := d + 27) (m 212) pa n a1 a2 h1 h2 h3 h4 h5 h6 h7)
  have f1 := hr.2.2
  have e12 : m1 212 = m 212 := f1.rw1 212 (fun k => sDd_f (by omega))
  refine Ci.imp (fun y2 m2 hr2 => ?_) (p_X12_pressOff (d := d + 27) a1 a2 (by rw [e12]; exact h1) (by rw [e12, h8]; omega))
  rw [e12] at hr2
  by_cases q : whyP (m 212) a1 a2 true = 0
  · obtain ⟨a9, b9⟩ := hr.1 q
    obtain ⟨c9, d9, e9⟩ := hr2.1 q
    obtain ⟨⟨z1, -⟩, ⟨z2, -⟩⟩ := whyP_c0 q
    have w : whyD (m 212) 1 a1.toNat a2.toNat = 0 := by
      show whyP (m 212) (a1.toNat : Int) (a2.toNat : Int) true = 0
      rw [Int.toNat_of_nonneg z1, Int.toNat_of_nonneg z2]
      exact q
    exact ⟨c9.trans a9.symm, h.deed b9 f1 (HI_D h1 w).1 (HI_D h1 w).2 d9 e9⟩
  · obtain ⟨a9, b9⟩ := hr.2.1 q
    obtain ⟨c9, e9⟩ := hr2.2 q
    exact ⟨c9.trans a9.symm, h.dno b9 f1 h1 (Kp.rf _) ((e9.rw1 212 (fun k => sQ_f (by omega))).trans e12) e9.qD⟩
theorem kq_rides {Γ : Gm} {d : Nat} {m : Mem} (a1 : Int) (h : SR m) : K2 Γ (d + 30) MX11_rides MX12_rides [iv a1] m := by
  obtain ⟨pa, n, h⟩ := h
  obtain ⟨h1, h2, h3, ⟨h4, h5, h6, h7, h8, h9⟩, h10⟩ := id h
  refine Ci.imp (fun r m1 hr => ?_) (p_X11_rides (d := d + 26) (m 212) pa n a1 h1 h2 h3 h4 h5 h6 h7)
  have f1 := hr.2.2
  have e12 : m1 212 = m 212 := f1.rw1 212 (fun k => sDd_f (by omega))
  refine Ci.imp (fun y2 m2 hr2 => ?_) (p_X12_rides (d := d + 25) a1 (by rw [e12]; exact h1) (by rw [e12, h8]; omega))
  rw [e12] at hr2
  by_cases q : whyR (m 212) a1 = 0
  · obtain ⟨a9, b9⟩ := hr.1 q
    obtain ⟨c9, d9, e9⟩ := hr2.1 q
    obtain ⟨z1, -⟩ := whyR_c0 q
    have w : whyD (m 212) 2 a1.toNat 0 = 0 := by
      show whyR (m 212) (a1.toNat : Int) = 0
      rw [Int.toNat_of_nonneg z1]
      exact q
    exact ⟨c9.trans a9.symm, h.deed b9 f1 (HI_D h1 w).1 (HI_D h1 w).2 d9 e9⟩
  · obtain ⟨a9, b9⟩ := hr.2.1 q
    obtain ⟨c9, e9⟩ := hr2.2 q
    exact ⟨c9.trans a9.symm, h.dno b9 f1 h1 (Kp.rf _) ((e9.rw1 212 (fun k => sQ_f (by omega))).trans e12) e9.qD⟩
theorem kq_out {Γ : Gm} {d : Nat} {m : Mem} (a1 : Int) (h : SR m) : K2 Γ (d + 30) MX11_out MX12_out [iv a1] m := by
  obtain ⟨pa, n, h⟩ := h
  obtain ⟨h1, h2, h3, ⟨h4, h5, h6, h7, h8, h9⟩, h10⟩ := id h
  refine Ci.imp (fun r m1 hr => ?_) (p_X11_out (d := d + 27) (m 212) pa n a1 h1 h2 h3 h4 h5 h6 h7)
  have f1 := hr.2.2
  have e12 : m1 212 = m 212 := f1.rw1 212 (fun k => sDd_f (by omega))
  refine Ci.imp (fun y2 m2 hr2 => ?_) (p_X12_out (d := d + 27) a1 (by rw [e12]; exact h1) (by rw [e12, h8]; omega))
  rw [e12] at hr2
  by_cases q : whyO (m 212) a1 = 0
  · obtain ⟨a9, b9⟩ := hr.1 q
    obtain ⟨c9, d9, e9⟩ := hr2.1 q
    obtain ⟨z1, -⟩ := whyO_c0 q
    have w : whyD (m 212) 3 a1.toNat 0 = 0 := by
      show whyO (m 212) (a1.toNat : Int) = 0
      rw [Int.toNat_of_nonneg z1]
      exact q
    exact ⟨c9.trans a9.symm, h.deed b9 f1 (HI_D h1 w).1 (HI_D h1 w).2 d9 e9⟩
  · obtain ⟨a9, b9⟩ := hr.2.1 q
    obtain ⟨c9, e9⟩ := hr2.2 q
    exact ⟨c9.trans a9.symm, h.dno b9 f1 h1 (Kp.rf _) ((e9.rw1 212 (fun k => sQ_f (by omega))).trans e12) e9.qD⟩
theorem kq_in {Γ : Gm} {d : Nat} {m : Mem} (a1 a2 : Int) (h : SR m) : K2 Γ (d + 30) MX11_in MX12_in [iv a1, iv a2] m := by
  obtain ⟨pa, n, h⟩ := h
  obtain ⟨h1, h2, h3, ⟨h4, h5, h6, h7, h8, h9⟩, h10⟩ := id h
  refine Ci.imp (fun r m1 hr => ?_) (p_X11_in (d := d + 27) (m 212) pa n a1 a2 h1 h2 h3 h4 h5 h6 h7)
  have f1 := hr.2.2
  have e12 : m1 212 = m 212 := f1.rw1 212 (fun k => sDd_f (by omega))
  refine Ci.imp (fun y2 m2 hr2 => ?_) (p_X12_in (d := d + 27) a1 a2 (by rw [e12]; exact h1) (by rw [e12, h8]; omega))
  rw [e12] at hr2
  by_cases q : whyI (m 212) a1 a2 = 0
  · obtain ⟨a9, b9⟩ := hr.1 q
    obtain ⟨c9, d9, e9⟩ := hr2.1 q
    obtain ⟨⟨z1, -⟩, ⟨z2, -⟩⟩ := whyI_c0 q
    have w : whyD (m 212) 4 a1.toNat a2.toNat = 0 := by
      show whyI (m 212) (a1.toNat : Int) (a2.toNat : Int) = 0
      rw [Int.toNat_of_nonneg z1, Int.toNat_of_nonneg z2]
      exact q
    exact ⟨c9.trans a9.symm, h.deed b9 f1 (HI_D h1 w).1 (HI_D h1 w).2 d9 e9⟩
  · obtain ⟨a9, b9⟩ := hr.2.1 q
    obtain ⟨c9, e9⟩ := hr2.2 q
    exact ⟨c9.trans a9.symm, h.dno b9 f1 h1 (Kp.rf _) ((e9.rw1 212 (fun k => sQ_f (by omega))).trans e12) e9.qD⟩
theorem kq_walks {Γ : Gm} {d : Nat} {m : Mem} (a1 a2 : Int) (h : SR m) : K2 Γ (d + 30) MX11_walks MX12_walks [iv a1, iv a2] m := by
  obtain ⟨pa, n, h⟩ := h
  obtain ⟨h1, h2, h3, ⟨h4, h5, h6, h7, h8, h9⟩, h10⟩ := id h
  refine Ci.imp (fun r m1 hr => ?_) (p_X11_walks (d := d + 27) (m 212) pa n a1 a2 h1 h2 h3 h4 h5 h6 h7)
  have f1 := hr.2.2
  have e12 : m1 212 = m 212 := f1.rw1 212 (fun k => sDd_f (by omega))
  refine Ci.imp (fun y2 m2 hr2 => ?_) (p_X12_walks (d := d + 26) a1 a2 (by rw [e12]; exact h1) (by rw [e12, h8]; omega))
  rw [e12] at hr2
  by_cases q : whyW (m 212) a1 a2 = 0
  · obtain ⟨a9, b9⟩ := hr.1 q
    obtain ⟨c9, d9, e9⟩ := hr2.1 q
    obtain ⟨⟨z1, -⟩, ⟨z2, -⟩⟩ := whyW_c0 q
    have w : whyD (m 212) 5 a1.toNat a2.toNat = 0 := by
      show whyW (m 212) (a1.toNat : Int) (a2.toNat : Int) = 0
      rw [Int.toNat_of_nonneg z1, Int.toNat_of_nonneg z2]
      exact q
    exact ⟨c9.trans a9.symm, h.deed b9 f1 (HI_D h1 w).1 (HI_D h1 w).2 d9 e9⟩
  · obtain ⟨a9, b9⟩ := hr.2.1 q
    obtain ⟨c9, e9⟩ := hr2.2 q
    exact ⟨c9.trans a9.symm, h.dno b9 f1 h1 (Kp.rf _) ((e9.rw1 212 (fun k => sQ_f (by omega))).trans e12) e9.qD⟩
theorem kq_undo {Γ : Gm} {d : Nat} {m : Mem} (a1 : Int) (h : SR m) : K2 Γ (d + 30) MX11_undo MX12_undo [iv a1] m := by
  obtain ⟨pa, n, h⟩ := h
  obtain ⟨h1, h2, h3, ⟨h4, h5, h6, h7, h8, h9⟩, h10⟩ := id h
  refine Ci.imp (fun r m1 hr => ?_) (p_X11_undo (d := d + 28) pa n a1 h4 h5 h6 h7)
  by_cases q : 1 ≤ a1 ∧ a1 ≤ n
  · obtain ⟨r1, r2, r3, r4, r5⟩ := hr.1 q
    have e12 : m1 212 = m 212 := r5.rw1 212 (fun k => sDd_f (by omega))
    refine Ci.imp (fun y2 m2 hr2 => ?_) (p_X12_undo (d := d + 29) a1 (by rw [e12, h8]; omega))
    rw [e12, h8] at hr2
    obtain ⟨s1, s2, s3⟩ := hr2.1 q
    refine ⟨s1.trans r1.symm, h.undo (k := a1.toNat) (by omega) (by omega) r2 (by rw [r3]; omega) r4 r5 ?_ s3⟩
    rw [s2]
    congr 1
    omega
  · obtain ⟨r1, rfl⟩ := hr.2 q
    refine Ci.imp (fun y2 m2 hr2 => ?_) (p_X12_undo (d := d + 29) a1 (by rw [h8]; omega))
    rw [h8] at hr2
    obtain ⟨s1, s2⟩ := hr2.2 q
    exact ⟨s1.trans r1.symm, pa, n, h.q s2⟩
theorem kq_perform {Γ : Gm} {d : Nat} {m : Mem} (a1 : Int) (h : SR m) : K2 Γ (d + 30) MX11_perform MX12_perform [iv a1] m := by
  obtain ⟨pa, n, h⟩ := h
  obtain ⟨h1, h2, h3, ⟨h4, h5, h6, h7, h8, h9⟩, h10, h11, h12⟩ := id h
  refine Ci.imp (fun r m1 hr => ?_) (p_X11_perform (d := d + 24) (m 212) pa n (fun i => m 220 i) (fun i => (m 221 i).toNat) (fun i j => m 222 (40 * i + j)) a1 h1 h2 h3 h4 h5 h6 h7 h11.t h11.s)
  by_cases q : (0 ≤ a1 ∧ a1 ≤ 3) ∧ ¬ m 220 a1.toNat = -1
  · obtain ⟨r1, r2, r3, f1⟩ := hr.1 q
    have e : ∀ a, 212 ≤ a → m1 a = m a := fun a ha => f1.rw1 a (fun k => sDd_f (by omega))
    refine Ci.imp (fun y2 m2 hr2 => ?_) (p_X12_perform (d := d + 23) a1 (by rw [e 212 (by omega)]; exact h1) (by rw [e 212 (by omega), h8]; omega) (by rw [e 221 (by omega)]; exact h11.n))
    rw [e 212 (by omega), e 220 (by omega), e 221 (by omega), e 222 (by omega)] at hr2
    obtain ⟨s1, s2, s3⟩ := hr2.1 q
    obtain ⟨t1, t2, -⟩ := telN_ok (num := fun i => m 222 (40 * a1.toNat + i)) (m 221 a1.toNat).toNat 0 (m 212) h1
    refine ⟨s1.trans r1.symm, ?_⟩
    unfold perG at s2
    by_cases p : 0 < (telN (fun i => m 222 (40 * a1.toNat + i)) (m 221 a1.toNat).toNat 0 (m 212)).2.1
    · rw [if_pos p] at s2
      exact h.deed (r2 p) f1 t1 t2 s2 s3
    · rw [if_neg p] at s2
      exact h.dno (r3 p) f1 t1 t2 s2 s3
  · obtain ⟨r1, rfl⟩ := hr.2 q
    refine Ci.imp (fun y2 m2 hr2 => ?_) (p_X12_perform (d := d + 23) a1 h1 (by rw [h8]; omega) h11.n)
    obtain ⟨s1, s2⟩ := hr2.2 q
    exact ⟨s1.trans r1.symm, pa, n, h.q s2⟩
theorem kq_evenings {Γ : Gm} {d : Nat} {m : Mem} (a1 a2 : Int) (h : SR m) : K2 Γ (d + 30) MX11_evenings MX12_evenings [iv a1, iv a2] m := by
  obtain ⟨pa, n, h⟩ := h
  obtain ⟨h1, h2, h3, ⟨h4, h5, h6, h7, h8, h9⟩, h10, h11, h12⟩ := id h
  refine Ci.imp (fun r m1 hr => ?_) (p_X11_evenings (d := d + 24) (m 212) pa n a1 a2 h1 h2 h3 h4 h5 h6 h7)
  by_cases q : (1 ≤ a2 ∧ a2 ≤ 40) ∧ ¬ m 212 2 = 0 ∧ ¬ m 212 3 = 0
  · obtain ⟨r1, r2, r3, f1⟩ := hr.1 q
    have e : ∀ a, 212 ≤ a → m1 a = m a := fun a ha => f1.rw1 a (fun k => sDd_f (by omega))
    refine Ci.imp (fun y2 m2 hr2 => ?_) (p_X12_evenings (d := d + 24) a1 a2 (by rw [e 212 (by omega)]; exact h1) (by rw [e 212 (by omega), h8]; omega))
    rw [e 212 (by omega)] at hr2
    obtain ⟨s1, s2, s3⟩ := hr2.1 q
    obtain ⟨t1, t2, -⟩ := eveN_ok (L := (m 212 2).toNat) (P := (m 212 3).toNat) (F := (m 212 1).toNat) a2.toNat a1 0 (m 212) h1
    refine ⟨s1.trans r1.symm, ?_⟩
    by_cases p : 0 < (eveV (m 212) a1 a2.toNat).1
    · rw [if_pos p] at s2
      exact h.deed (r2 p) f1 t1 t2 s2 s3
    · rw [if_neg p] at s2
      exact h.dno (r3 p) f1 t1 t2 s2 s3
  · obtain ⟨r1, rfl⟩ := hr.2 q
    refine Ci.imp (fun y2 m2 hr2 => ?_) (p_X12_evenings (d := d + 24) a1 a2 h1 (by rw [h8]; omega))
    obtain ⟨s1, s2⟩ := hr2.2 q
    exact ⟨s1.trans r1.symm, pa, n, h.q s2⟩
