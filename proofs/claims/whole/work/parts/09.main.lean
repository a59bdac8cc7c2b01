/-! ===== when all cells are made ===== -/
def gF : Gh := (223, fun _ _ => true)
def z4 : Bd := (0, 0, 0, 0)
def mP (P : Int → Mem → Prop) : Pos := fun v g m => g = gF ∧ P v.2 m
/-- a contract when all cells are made: answers as integers -/
def Ci (Γ : Gm) (d : Nat) (M : Mth) (As : List Vl) (m : Mem) (P : Int → Mem → Prop) : Prop := Cl Γ d M 0 0 As gF m (mP P)
abbrev Em (Γ : Gm) (d : Nat) (M : Mth) (P : Int → Mem → Prop) (pc : Nat) (L st : List Vl) (m : Mem) : Prop := Ev Γ d M z4 (mP P) pc L st gF m
def nz (As : List Vl) : Bool := As.all fun v => v.1 != 0
theorem Ci.of {Γ : Gm} {d : Nat} {M : Mth} {As : List Vl} {m : Mem} {P : Int → Mem → Prop} (hok : MOk M) (h0 : nz As = true) (hn : Nat.ble (flatA As).length (Mn M) = true) (ev : okL As → okM m → Em Γ d M P 0 (entL (Mn M) As) [] m) : Ci Γ d M As m P := by
  refine Cl.of hok (fun v hv => by have := List.all_eq_true.mp h0 v hv; simpa using this) (Nat.le_of_ble_eq_true hn) ?_
  intro hL hst hm
  refine ev (fun w hw => ?_) hm hL hst hm
  by_cases h2 : w.1 = 2
  · exact hL w (by unfold entL flatA; refine List.mem_append_left _ (List.mem_flatMap.mpr ⟨w, hw, ?_⟩); simp [h2])
  · exact hL w (by unfold entL flatA; refine List.mem_append_left _ (List.mem_flatMap.mpr ⟨w, hw, ?_⟩); simp [h2])
theorem Ci.imp {Γ : Gm} {d : Nat} {M : Mth} {As : List Vl} {m : Mem} {P P' : Int → Mem → Prop} (h : ∀ x m', P' x m' → P x m') (k : Ci Γ d M As m P') : Ci Γ d M As m P := Cl.imp (fun v g m q => ⟨q.1, h _ _ q.2⟩) k
section MAIN
variable {Γ : Gm} {d : Nat} {M : Mth} {P : Int → Mem → Prop} {pc q : Nat} {L st : List Vl} {m : Mem}
theorem Em.ok (k : okL L → okL st → okM m → Em Γ d M P pc L st m) : Em Γ d M P pc L st m := fun h1 h2 h3 => k h1 h2 h3 h1 h2 h3
theorem gI {a ci k idx : Nat} (hdg : decode (Mc M) pc = .ok (.getfield idx, 3)) (hf : Gf (Mo M) idx ci k) (hK : K a = (0, ci)) (ht : isI (fty ci k) = true) (hq : pc + 3 = q) (kk : Em Γ d M P q L (iv (m a k) :: st) m) : Em Γ d M P pc L (rv a :: st) m := Ev.getI hdg hf ht hK (K_lt hK (by decide)) hq kk
theorem gJ {a ci k idx : Nat} (hdg : decode (Mc M) pc = .ok (.getfield idx, 3)) (hf : Gf (Mo M) idx ci k) (hK : K a = (0, ci)) (ht : fty ci k = 4) (hq : pc + 3 = q) (kk : Em Γ d M P q L (jv (m a k) :: st) m) : Em Γ d M P pc L (rv a :: st) m := Ev.getJ hdg hf ht hK (K_lt hK (by decide)) hq kk
theorem gR {a ci k idx r : Nat} (hdg : decode (Mc M) pc = .ok (.getfield idx, 3)) (hf : Gf (Mo M) idx ci k) (hK : K a = (0, ci)) (hr : rf a k = r) (ht : fty ci k = 8) (hq : pc + 3 = q) (kk : Em Γ d M P q L (rv r :: st) m) : Em Γ d M P pc L (rv a :: st) m := Ev.getR hdg hf ht hK (K_lt hK (by decide)) rfl hr hq kk
theorem gDy {a ci k idx r : Nat} (hdg : decode (Mc M) pc = .ok (.getfield idx, 3)) (hf : Gf (Mo M) idx ci k) (hK : K a = (0, ci)) (hr : m a k = (r : Int)) (ht : fty ci k = 9) (hq : pc + 3 = q) (kk : Em Γ d M P q L (rv r :: st) m) : Em Γ d M P pc L (rv a :: st) m := Ev.getD hdg hf ht hK (K_lt hK (by decide)) hr hq kk
theorem pI {a ci k idx : Nat} {x : Int} (hdg : decode (Mc M) pc = .ok (.putfield idx, 3)) (hf : Gf (Mo M) idx ci k) (hK : K a = (0, ci)) (ht : fty ci k = 1) (hq : pc + 3 = q) (kk : Em Γ d M P q L st (up m a k x)) : Em Γ d M P pc L (iv x :: rv a :: st) m := Ev.putI hdg hf ht hK (K_lt hK (by decide)) hq kk
theorem pZ {a ci k idx : Nat} {x : Int} (hdg : decode (Mc M) pc = .ok (.putfield idx, 3)) (hf : Gf (Mo M) idx ci k) (hK : K a = (0, ci)) (h01 : x = 0 ∨ x = 1) (ht : fty ci k = 3) (hq : pc + 3 = q) (kk : Em Γ d M P q L st (up m a k x)) : Em Γ d M P pc L (iv x :: rv a :: st) m := Ev.putZ hdg hf ht hK (K_lt hK (by decide)) h01 hq kk
theorem pJ {a ci k idx : Nat} {x : Int} (hdg : decode (Mc M) pc = .ok (.putfield idx, 3)) (hf : Gf (Mo M) idx ci k) (hK : K a = (0, ci)) (ht : fty ci k = 4) (hq : pc + 3 = q) (kk : Em Γ d M P q L st (up m a k x)) : Em Γ d M P pc L (jv x :: rv a :: st) m := Ev.putJ hdg hf ht hK (K_lt hK (by decide)) hq kk
theorem pDy {a ci k idx r : Nat} (hdg : decode (Mc M) pc = .ok (.putfield idx, 3)) (hf : Gf (Mo M) idx ci k) (hK : K a = (0, ci)) (hr : r < 100000) (ht : fty ci k = 9) (hq : pc + 3 = q) (kk : Em Γ d M P q L st (up m a k (r : Int))) : Em Γ d M P pc L (rv r :: rv a :: st) m := Ev.putD hdg hf ht hK (K_lt hK (by decide)) hr hq kk
theorem aI {a n k : Nat} {x : Int} (hdg : decode (Mc M) pc = .ok (.iaload, 1)) (hK : K a = (1, n)) (hx : x = (k : Int)) (hk : k < n) (hq : pc + 1 = q) (kk : Em Γ d M P q L (iv (m a k) :: st) m) : Em Γ d M P pc L (iv x :: rv a :: st) m := by
  subst hx
  exact Ev.iald hdg hK (K_lt hK (by decide)) ⟨by omega, by omega⟩ hq kk
theorem aB {a n k : Nat} {x : Int} (hdg : decode (Mc M) pc = .ok (.baload, 1)) (hK : K a = (2, n)) (hx : x = (k : Int)) (hk : k < n) (hq : pc + 1 = q) (kk : Em Γ d M P q L (iv (m a k) :: st) m) : Em Γ d M P pc L (iv x :: rv a :: st) m := by
  subst hx
  exact Ev.bald hdg hK (K_lt hK (by decide)) ⟨by omega, by omega⟩ hq kk
theorem aZ {a n k : Nat} {x : Int} (hdg : decode (Mc M) pc = .ok (.baload, 1)) (hK : K a = (3, n)) (hx : x = (k : Int)) (hk : k < n) (hq : pc + 1 = q) (kk : Em Γ d M P q L (iv (m a k) :: st) m) : Em Γ d M P pc L (iv x :: rv a :: st) m := by
  subst hx
  exact Ev.zald hdg hK (K_lt hK (by decide)) ⟨by omega, by omega⟩ hq kk
theorem aJ {a n k : Nat} {x : Int} (hdg : decode (Mc M) pc = .ok (.laload, 1)) (hK : K a = (4, n)) (hx : x = (k : Int)) (hk : k < n) (hq : pc + 1 = q) (kk : Em Γ d M P q L (jv (m a k) :: st) m) : Em Γ d M P pc L (iv x :: rv a :: st) m := by
  subst hx
  exact Ev.lald hdg hK (K_lt hK (by decide)) ⟨by omega, by omega⟩ hq kk
theorem sI {a n k : Nat} {x y : Int} (hdg : decode (Mc M) pc = .ok (.iastore, 1)) (hK : K a = (1, n)) (hx : x = (k : Int)) (hk : k < n) (hq : pc + 1 = q) (kk : Em Γ d M P q L st (up m a k y)) : Em Γ d M P pc L (iv y :: iv x :: rv a :: st) m := by
  subst hx
  exact Ev.iast hdg hK (K_lt hK (by decide)) ⟨by omega, by omega⟩ hq kk
theorem sB {a n k : Nat} {x y : Int} (hdg : decode (Mc M) pc = .ok (.bastore, 1)) (hK : K a = (2, n)) (hx : x = (k : Int)) (hk : k < n) (hq : pc + 1 = q) (kk : Em Γ d M P q L st (up m a k (i8 y))) : Em Γ d M P pc L (iv y :: iv x :: rv a :: st) m := by
  subst hx
  exact Ev.bast hdg hK (K_lt hK (by decide)) ⟨by omega, by omega⟩ hq kk
theorem sZ {a n k : Nat} {x y : Int} (hdg : decode (Mc M) pc = .ok (.bastore, 1)) (hK : K a = (3, n)) (hx : x = (k : Int)) (hk : k < n) (h01 : y = 0 ∨ y = 1) (hq : pc + 1 = q) (kk : Em Γ d M P q L st (up m a k y)) : Em Γ d M P pc L (iv y :: iv x :: rv a :: st) m := by
  subst hx
  exact Ev.zast hdg hK (K_lt hK (by decide)) ⟨by omega, by omega⟩ h01 hq kk
theorem sJ {a n k : Nat} {x y : Int} (hdg : decode (Mc M) pc = .ok (.lastore, 1)) (hK : K a = (4, n)) (hx : x = (k : Int)) (hk : k < n) (hq : pc + 1 = q) (kk : Em Γ d M P q L st (up m a k y)) : Em Γ d M P pc L (jv y :: iv x :: rv a :: st) m := by
  subst hx
  exact Ev.last hdg hK (K_lt hK (by decide)) ⟨by omega, by omega⟩ hq kk
theorem aLen {a n c0 : Nat} (hdg : decode (Mc M) pc = .ok (.arraylength, 1)) (hK : K a = (c0, n)) (hc0 : 1 ≤ c0 ∧ c0 ≤ 7) (hs : n < 2147483648) (hq : pc + 1 = q) (kk : Em Γ d M P q L (iv (n : Int) :: st) m) : Em Γ d M P pc L (rv a :: st) m := Ev.alen hdg hK hc0 (K_lt hK (by omega)) hs hq kk
theorem aR {a n c0 r : Nat} {x : Int} (hdg : decode (Mc M) pc = .ok (.aaload, 1)) (hK : K a = (c0, n)) {k : Nat} (hc0 : 5 ≤ c0 ∧ c0 ≤ 7) (hx : x = (k : Int)) (hk : k < n) (hr : rf a k = r) (hq : pc + 1 = q) (kk : Em Γ d M P q L (rv r :: st) m) : Em Γ d M P pc L (iv x :: rv a :: st) m := by
  subst hx
  exact Ev.aald hdg hK hc0 (K_lt hK (by omega)) ⟨by omega, by omega⟩ rfl hr hq kk
theorem rI {x : Int} (hdg : decode (Mc M) pc = .ok (.ireturn, 1)) (hrt : Mr M = some .int) (kk : P x m) : Em Γ d M P pc L [iv x] m := Ev.iret hdg hrt ⟨rfl, rfl⟩ ⟨Nat.le_refl _, Nat.le_refl _⟩ ⟨rfl, kk⟩
theorem rZ {x : Int} (hdg : decode (Mc M) pc = .ok (.ireturn, 1)) (hrt : Mr M = some .boolean) (h01 : x = 0 ∨ x = 1) (kk : P x m) : Em Γ d M P pc L [iv x] m := Ev.iret hdg hrt ⟨by rcases h01 with rfl | rfl <;> rfl, rfl⟩ ⟨Nat.le_refl _, Nat.le_refl _⟩ ⟨rfl, kk⟩
theorem rJ {x : Int} (hdg : decode (Mc M) pc = .ok (.lreturn, 1)) (hrt : Mr M = some .long) (kk : P x m) : Em Γ d M P pc L [jv x] m := Ev.lret hdg hrt ⟨Nat.le_refl _, Nat.le_refl _⟩ ⟨rfl, kk⟩
theorem rV (hdg : decode (Mc M) pc = .ok (.return_, 1)) (hrt : Mr M = none) (kk : P 0 m) : Em Γ d M P pc L [] m := Ev.vret hdg hrt ⟨Nat.le_refl _, Nat.le_refl _⟩ ⟨rfl, kk⟩
theorem vl_i {v : Vl} (h : v.1 = 1) : v = iv v.2 := by obtain ⟨t, x⟩ := v; have : t = 1 := h; subst this; rfl
theorem vl_j {v : Vl} (h : v.1 = 2) : v = jv v.2 := by obtain ⟨t, x⟩ := v; have : t = 2 := h; subst this; rfl
theorem cV0i {M' : Mth} {d' idx : Nat} {a ci : Nat} {rest : List Vl} {P' : Int → Mem → Prop} (hdg : decode (Mc M) pc = .ok (.invokevirtual idx, 3)) (hl : Cond.methodLink (Mo M) idx (My M') ∈ tb) (hok : MOk M') (hv : MVt M') (hK : K a = (0, ci)) (hC : (vwCl[ci]?).map (fun q => q.1) = some (Mo M')) (hlen : ([] : List Vl).length = Mp M') (hsum : Nat.ble (catS rest) 8 = true) (hd : d' + 1 ≤ d) (h45 : Nat.ble (Mn M') 45 = true) (hr : rtag (Mr M') = 1) (hq : pc + 3 = q) (hc : Ci Γ d' M' (rv a :: ([] : List Vl)) m P') (k : ∀ (x : Int) (m' : Mem), P' x m' → Em Γ d M P q L (iv x :: rest) m') : Em Γ d M P pc L (rv a :: rest) m := by
  refine Ev.callV hdg hl hok hv hK hC (K_lt hK (by decide)) (As := ([] : List Vl)) (rest := rest) hlen rfl (Nat.le_of_ble_eq_true hsum) hd (Nat.le_of_ble_eq_true h45) ⟨Nat.le_refl _, Nat.le_refl _⟩ hc (fun v g' m' h => by rw [h.1]) hq (fun v g' m' h hp => ?_)
  obtain ⟨rfl, hp⟩ := hp
  rw [hr] at h
  have e1 : psh v rest = iv v.2 :: rest := by unfold psh; rw [if_neg (by rw [h]; decide), ← vl_i h]
  rw [e1]
  exact k v.2 m' hp
theorem cV0j {M' : Mth} {d' idx : Nat} {a ci : Nat} {rest : List Vl} {P' : Int → Mem → Prop} (hdg : decode (Mc M) pc = .ok (.invokevirtual idx, 3)) (hl : Cond.methodLink (Mo M) idx (My M') ∈ tb) (hok : MOk M') (hv : MVt M') (hK : K a = (0, ci)) (hC : (vwCl[ci]?).map (fun q => q.1) = some (Mo M')) (hlen : ([] : List Vl).length = Mp M') (hsum : Nat.ble (catS rest) 8 = true) (hd : d' + 1 ≤ d) (h45 : Nat.ble (Mn M') 45 = true) (hr : rtag (Mr M') = 2) (hq : pc + 3 = q) (hc : Ci Γ d' M' (rv a :: ([] : List Vl)) m P') (k : ∀ (x : Int) (m' : Mem), P' x m' → Em Γ d M P q L (jv x :: rest) m') : Em Γ d M P pc L (rv a :: rest) m := by
  refine Ev.callV hdg hl hok hv hK hC (K_lt hK (by decide)) (As := ([] : List Vl)) (rest := rest) hlen rfl (Nat.le_of_ble_eq_true hsum) hd (Nat.le_of_ble_eq_true h45) ⟨Nat.le_refl _, Nat.le_refl _⟩ hc (fun v g' m' h => by rw [h.1]) hq (fun v g' m' h hp => ?_)
  obtain ⟨rfl, hp⟩ := hp
  rw [hr] at h
  have e1 : psh v rest = jv v.2 :: rest := by unfold psh; rw [if_neg (by rw [h]; decide), ← vl_j h]
  rw [e1]
  exact k v.2 m' hp
theorem cV0v {M' : Mth} {d' idx : Nat} {a ci : Nat} {rest : List Vl} {P' : Int → Mem → Prop} (hdg : decode (Mc M) pc = .ok (.invokevirtual idx, 3)) (hl : Cond.methodLink (Mo M) idx (My M') ∈ tb) (hok : MOk M') (hv : MVt M') (hK : K a = (0, ci)) (hC : (vwCl[ci]?).map (fun q => q.1) = some (Mo M')) (hlen : ([] : List Vl).length = Mp M') (hsum : Nat.ble (catS rest) 8 = true) (hd : d' + 1 ≤ d) (h45 : Nat.ble (Mn M') 45 = true) (hr : rtag (Mr M') = 0) (hq : pc + 3 = q) (hc : Ci Γ d' M' (rv a :: ([] : List Vl)) m P') (k : ∀ (x : Int) (m' : Mem), P' x m' → Em Γ d M P q L (rest) m') : Em Γ d M P pc L (rv a :: rest) m := by
  refine Ev.callV hdg hl hok hv hK hC (K_lt hK (by decide)) (As := ([] : List Vl)) (rest := rest) hlen rfl (Nat.le_of_ble_eq_true hsum) hd (Nat.le_of_ble_eq_true h45) ⟨Nat.le_refl _, Nat.le_refl _⟩ hc (fun v g' m' h => by rw [h.1]) hq (fun v g' m' h hp => ?_)
  obtain ⟨rfl, hp⟩ := hp
  rw [hr] at h
  have e1 : psh v rest = rest := by unfold psh; rw [if_pos h]
  rw [e1]
  exact k v.2 m' hp
theorem cV1i {M' : Mth} {d' idx : Nat} {a ci : Nat} {v1 : Vl} {rest : List Vl} {P' : Int → Mem → Prop} (hdg : decode (Mc M) pc = .ok (.invokevirtual idx, 3)) (hl : Cond.methodLink (Mo M) idx (My M') ∈ tb) (hok : MOk M') (hv : MVt M') (hK : K a = (0, ci)) (hC : (vwCl[ci]?).map (fun q => q.1) = some (Mo M')) (hlen : ([v1] : List Vl).length = Mp M') (hsum : Nat.ble (catS rest) 8 = true) (hd : d' + 1 ≤ d) (h45 : Nat.ble (Mn M') 45 = true) (hr : rtag (Mr M') = 1) (hq : pc + 3 = q) (hc : Ci Γ d' M' (rv a :: ([v1] : List Vl)) m P') (k : ∀ (x : Int) (m' : Mem), P' x m' → Em Γ d M P q L (iv x :: rest) m') : Em Γ d M P pc L (v1 :: rv a :: rest) m := by
  refine Ev.callV hdg hl hok hv hK hC (K_lt hK (by decide)) (As := ([v1] : List Vl)) (rest := rest) hlen rfl (Nat.le_of_ble_eq_true hsum) hd (Nat.le_of_ble_eq_true h45) ⟨Nat.le_refl _, Nat.le_refl _⟩ hc (fun v g' m' h => by rw [h.1]) hq (fun v g' m' h hp => ?_)
  obtain ⟨rfl, hp⟩ := hp
  rw [hr] at h
  have e1 : psh v rest = iv v.2 :: rest := by unfold psh; rw [if_neg (by rw [h]; decide), ← vl_i h]
  rw [e1]
  exact k v.2 m' hp
theorem cS1i {M' : Mth} {d' idx : Nat} {v1 : Vl} {rest : List Vl} {P' : Int → Mem → Prop} (hdg : decode (Mc M) pc = .ok (.invokestatic idx, 3)) (hl : Cond.methodLink (Mo M) idx (My M') ∈ tb) (hok : MOk M') (hv : MSt M') (hlen : ([v1] : List Vl).length = Mp M') (hsum : Nat.ble (catS rest) 8 = true) (hd : d' + 1 ≤ d) (h45 : Nat.ble (Mn M') 45 = true) (hr : rtag (Mr M') = 1) (hq : pc + 3 = q) (hc : Ci Γ d' M' (([v1] : List Vl)) m P') (k : ∀ (x : Int) (m' : Mem), P' x m' → Em Γ d M P q L (iv x :: rest) m') : Em Γ d M P pc L (v1 :: rest) m := by
  refine Ev.callS hdg hl hok hv (As := ([v1] : List Vl)) (rest := rest) hlen rfl (Nat.le_of_ble_eq_true hsum) hd (Nat.le_of_ble_eq_true h45) ⟨Nat.le_refl _, Nat.le_refl _⟩ hc (fun v g' m' h => by rw [h.1]) hq (fun v g' m' h hp => ?_)
  obtain ⟨rfl, hp⟩ := hp
  rw [hr] at h
  have e1 : psh v rest = iv v.2 :: rest := by unfold psh; rw [if_neg (by rw [h]; decide), ← vl_i h]
  rw [e1]
  exact k v.2 m' hp
theorem cV1j {M' : Mth} {d' idx : Nat} {a ci : Nat} {v1 : Vl} {rest : List Vl} {P' : Int → Mem → Prop} (hdg : decode (Mc M) pc = .ok (.invokevirtual idx, 3)) (hl : Cond.methodLink (Mo M) idx (My M') ∈ tb) (hok : MOk M') (hv : MVt M') (hK : K a = (0, ci)) (hC : (vwCl[ci]?).map (fun q => q.1) = some (Mo M')) (hlen : ([v1] : List Vl).length = Mp M') (hsum : Nat.ble (catS rest) 8 = true) (hd : d' + 1 ≤ d) (h45 : Nat.ble (Mn M') 45 = true) (hr : rtag (Mr M') = 2) (hq : pc + 3 = q) (hc : Ci Γ d' M' (rv a :: ([v1] : List Vl)) m P') (k : ∀ (x : Int) (m' : Mem), P' x m' → Em Γ d M P q L (jv x :: rest) m') : Em Γ d M P pc L (v1 :: rv a :: rest) m := by
  refine Ev.callV hdg hl hok hv hK hC (K_lt hK (by decide)) (As := ([v1] : List Vl)) (rest := rest) hlen rfl (Nat.le_of_ble_eq_true hsum) hd (Nat.le_of_ble_eq_true h45) ⟨Nat.le_refl _, Nat.le_refl _⟩ hc (fun v g' m' h => by rw [h.1]) hq (fun v g' m' h hp => ?_)
  obtain ⟨rfl, hp⟩ := hp
  rw [hr] at h
  have e1 : psh v rest = jv v.2 :: rest := by unfold psh; rw [if_neg (by rw [h]; decide), ← vl_j h]
  rw [e1]
  exact k v.2 m' hp
theorem cS1j {M' : Mth} {d' idx : Nat} {v1 : Vl} {rest : List Vl} {P' : Int → Mem → Prop} (hdg : decode (Mc M) pc = .ok (.invokestatic idx, 3)) (hl : Cond.methodLink (Mo M) idx (My M') ∈ tb) (hok : MOk M') (hv : MSt M') (hlen : ([v1] : List Vl).length = Mp M') (hsum : Nat.ble (catS rest) 8 = true) (hd : d' + 1 ≤ d) (h45 : Nat.ble (Mn M') 45 = true) (hr : rtag (Mr M') = 2) (hq : pc + 3 = q) (hc : Ci Γ d' M' (([v1] : List Vl)) m P') (k : ∀ (x : Int) (m' : Mem), P' x m' → Em Γ d M P q L (jv x :: rest) m') : Em Γ d M P pc L (v1 :: rest) m := by
  refine Ev.callS hdg hl hok hv (As := ([v1] : List Vl)) (rest := rest) hlen rfl (Nat.le_of_ble_eq_true hsum) hd (Nat.le_of_ble_eq_true h45) ⟨Nat.le_refl _, Nat.le_refl _⟩ hc (fun v g' m' h => by rw [h.1]) hq (fun v g' m' h hp => ?_)
  obtain ⟨rfl, hp⟩ := hp
  rw [hr] at h
  have e1 : psh v rest = jv v.2 :: rest := by unfold psh; rw [if_neg (by rw [h]; decide), ← vl_j h]
  rw [e1]
  exact k v.2 m' hp
theorem cV1v {M' : Mth} {d' idx : Nat} {a ci : Nat} {v1 : Vl} {rest : List Vl} {P' : Int → Mem → Prop} (hdg : decode (Mc M) pc = .ok (.invokevirtual idx, 3)) (hl : Cond.methodLink (Mo M) idx (My M') ∈ tb) (hok : MOk M') (hv : MVt M') (hK : K a = (0, ci)) (hC : (vwCl[ci]?).map (fun q => q.1) = some (Mo M')) (hlen : ([v1] : List Vl).length = Mp M') (hsum : Nat.ble (catS rest) 8 = true) (hd : d' + 1 ≤ d) (h45 : Nat.ble (Mn M') 45 = true) (hr : rtag (Mr M') = 0) (hq : pc + 3 = q) (hc : Ci Γ d' M' (rv a :: ([v1] : List Vl)) m P') (k : ∀ (x : Int) (m' : Mem), P' x m' → Em Γ d M P q L (rest) m') : Em Γ d M P pc L (v1 :: rv a :: rest) m := by
  refine Ev.callV hdg hl hok hv hK hC (K_lt hK (by decide)) (As := ([v1] : List Vl)) (rest := rest) hlen rfl (Nat.le_of_ble_eq_true hsum) hd (Nat.le_of_ble_eq_true h45) ⟨Nat.le_refl _, Nat.le_refl _⟩ hc (fun v g' m' h => by rw [h.1]) hq (fun v g' m' h hp => ?_)
  obtain ⟨rfl, hp⟩ := hp
  rw [hr] at h
  have e1 : psh v rest = rest := by unfold psh; rw [if_pos h]
  rw [e1]
  exact k v.2 m' hp
theorem cS1v {M' : Mth} {d' idx : Nat} {v1 : Vl} {rest : List Vl} {P' : Int → Mem → Prop} (hdg : decode (Mc M) pc = .ok (.invokestatic idx, 3)) (hl : Cond.methodLink (Mo M) idx (My M') ∈ tb) (hok : MOk M') (hv : MSt M') (hlen : ([v1] : List Vl).length = Mp M') (hsum : Nat.ble (catS rest) 8 = true) (hd : d' + 1 ≤ d) (h45 : Nat.ble (Mn M') 45 = true) (hr : rtag (Mr M') = 0) (hq : pc + 3 = q) (hc : Ci Γ d' M' (([v1] : List Vl)) m P') (k : ∀ (x : Int) (m' : Mem), P' x m' → Em Γ d M P q L (rest) m') : Em Γ d M P pc L (v1 :: rest) m := by
  refine Ev.callS hdg hl hok hv (As := ([v1] : List Vl)) (rest := rest) hlen rfl (Nat.le_of_ble_eq_true hsum) hd (Nat.le_of_ble_eq_true h45) ⟨Nat.le_refl _, Nat.le_refl _⟩ hc (fun v g' m' h => by rw [h.1]) hq (fun v g' m' h hp => ?_)
  obtain ⟨rfl, hp⟩ := hp
  rw [hr] at h
  have e1 : psh v rest = rest := by unfold psh; rw [if_pos h]
  rw [e1]
  exact k v.2 m' hp
theorem cV2i {M' : Mth} {d' idx : Nat} {a ci : Nat} {v1 v2 : Vl} {rest : List Vl} {P' : Int → Mem → Prop} (hdg : decode (Mc M) pc = .ok (.invokevirtual idx, 3)) (hl : Cond.methodLink (Mo M) idx (My M') ∈ tb) (hok : MOk M') (hv : MVt M') (hK : K a = (0, ci)) (hC : (vwCl[ci]?).map (fun q => q.1) = some (Mo M')) (hlen : ([v1, v2] : List Vl).length = Mp M') (hsum : Nat.ble (catS rest) 8 = true) (hd : d' + 1 ≤ d) (h45 : Nat.ble (Mn M') 45 = true) (hr : rtag (Mr M') = 1) (hq : pc + 3 = q) (hc : Ci Γ d' M' (rv a :: ([v1, v2] : List Vl)) m P') (k : ∀ (x : Int) (m' : Mem), P' x m' → Em Γ d M P q L (iv x :: rest) m') : Em Γ d M P pc L (v2 :: v1 :: rv a :: rest) m := by
  refine Ev.callV hdg hl hok hv hK hC (K_lt hK (by decide)) (As := ([v1, v2] : List Vl)) (rest := rest) hlen rfl (Nat.le_of_ble_eq_true hsum) hd (Nat.le_of_ble_eq_true h45) ⟨Nat.le_refl _, Nat.le_refl _⟩ hc (fun v g' m' h => by rw [h.1]) hq (fun v g' m' h hp => ?_)
  obtain ⟨rfl, hp⟩ := hp
  rw [hr] at h
  have e1 : psh v rest = iv v.2 :: rest := by unfold psh; rw [if_neg (by rw [h]; decide), ← vl_i h]
  rw [e1]
  exact k v.2 m' hp
theorem cS2i {M' : Mth} {d' idx : Nat} {v1 v2 : Vl} {rest : List Vl} {P' : Int → Mem → Prop} (hdg : decode (Mc M) pc = .ok (.invokestatic idx, 3)) (hl : Cond.methodLink (Mo M) idx (My M') ∈ tb) (hok : MOk M') (hv : MSt M') (hlen : ([v1, v2] : List Vl).length = Mp M') (hsum : Nat.ble (catS rest) 8 = true) (hd : d' + 1 ≤ d) (h45 : Nat.ble (Mn M') 45 = true) (hr : rtag (Mr M') = 1) (hq : pc + 3 = q) (hc : Ci Γ d' M' (([v1, v2] : List Vl)) m P') (k : ∀ (x : Int) (m' : Mem), P' x m' → Em Γ d M P q L (iv x :: rest) m') : Em Γ d M P pc L (v2 :: v1 :: rest) m := by
  refine Ev.callS hdg hl hok hv (As := ([v1, v2] : List Vl)) (rest := rest) hlen rfl (Nat.le_of_ble_eq_true hsum) hd (Nat.le_of_ble_eq_true h45) ⟨Nat.le_refl _, Nat.le_refl _⟩ hc (fun v g' m' h => by rw [h.1]) hq (fun v g' m' h hp => ?_)
  obtain ⟨rfl, hp⟩ := hp
  rw [hr] at h
  have e1 : psh v rest = iv v.2 :: rest := by unfold psh; rw [if_neg (by rw [h]; decide), ← vl_i h]
  rw [e1]
  exact k v.2 m' hp
theorem cV2j {M' : Mth} {d' idx : Nat} {a ci : Nat} {v1 v2 : Vl} {rest : List Vl} {P' : Int → Mem → Prop} (hdg : decode (Mc M) pc = .ok (.invokevirtual idx, 3)) (hl : Cond.methodLink (Mo M) idx (My M') ∈ tb) (hok : MOk M') (hv : MVt M') (hK : K a = (0, ci)) (hC : (vwCl[ci]?).map (fun q => q.1) = some (Mo M')) (hlen : ([v1, v2] : List Vl).length = Mp M') (hsum : Nat.ble (catS rest) 8 = true) (hd : d' + 1 ≤ d) (h45 : Nat.ble (Mn M') 45 = true) (hr : rtag (Mr M') = 2) (hq : pc + 3 = q) (hc : Ci Γ d' M' (rv a :: ([v1, v2] : List Vl)) m P') (k : ∀ (x : Int) (m' : Mem), P' x m' → Em Γ d M P q L (jv x :: rest) m') : Em Γ d M P pc L (v2 :: v1 :: rv a :: rest) m := by
  refine Ev.callV hdg hl hok hv hK hC (K_lt hK (by decide)) (As := ([v1, v2] : List Vl)) (rest := rest) hlen rfl (Nat.le_of_ble_eq_true hsum) hd (Nat.le_of_ble_eq_true h45) ⟨Nat.le_refl _, Nat.le_refl _⟩ hc (fun v g' m' h => by rw [h.1]) hq (fun v g' m' h hp => ?_)
  obtain ⟨rfl, hp⟩ := hp
  rw [hr] at h
  have e1 : psh v rest = jv v.2 :: rest := by unfold psh; rw [if_neg (by rw [h]; decide), ← vl_j h]
  rw [e1]
  exact k v.2 m' hp
theorem cS2j {M' : Mth} {d' idx : Nat} {v1 v2 : Vl} {rest : List Vl} {P' : Int → Mem → Prop} (hdg : decode (Mc M) pc = .ok (.invokestatic idx, 3)) (hl : Cond.methodLink (Mo M) idx (My M') ∈ tb) (hok : MOk M') (hv : MSt M') (hlen : ([v1, v2] : List Vl).length = Mp M') (hsum : Nat.ble (catS rest) 8 = true) (hd : d' + 1 ≤ d) (h45 : Nat.ble (Mn M') 45 = true) (hr : rtag (Mr M') = 2) (hq : pc + 3 = q) (hc : Ci Γ d' M' (([v1, v2] : List Vl)) m P') (k : ∀ (x : Int) (m' : Mem), P' x m' → Em Γ d M P q L (jv x :: rest) m') : Em Γ d M P pc L (v2 :: v1 :: rest) m := by
  refine Ev.callS hdg hl hok hv (As := ([v1, v2] : List Vl)) (rest := rest) hlen rfl (Nat.le_of_ble_eq_true hsum) hd (Nat.le_of_ble_eq_true h45) ⟨Nat.le_refl _, Nat.le_refl _⟩ hc (fun v g' m' h => by rw [h.1]) hq (fun v g' m' h hp => ?_)
  obtain ⟨rfl, hp⟩ := hp
  rw [hr] at h
  have e1 : psh v rest = jv v.2 :: rest := by unfold psh; rw [if_neg (by rw [h]; decide), ← vl_j h]
  rw [e1]
  exact k v.2 m' hp
theorem cV2v {M' : Mth} {d' idx : Nat} {a ci : Nat} {v1 v2 : Vl} {rest : List Vl} {P' : Int → Mem → Prop} (hdg : decode (Mc M) pc = .ok (.invokevirtual idx, 3)) (hl : Cond.methodLink (Mo M) idx (My M') ∈ tb) (hok : MOk M') (hv : MVt M') (hK : K a = (0, ci)) (hC : (vwCl[ci]?).map (fun q => q.1) = some (Mo M')) (hlen : ([v1, v2] : List Vl).length = Mp M') (hsum : Nat.ble (catS rest) 8 = true) (hd : d' + 1 ≤ d) (h45 : Nat.ble (Mn M') 45 = true) (hr : rtag (Mr M') = 0) (hq : pc + 3 = q) (hc : Ci Γ d' M' (rv a :: ([v1, v2] : List Vl)) m P') (k : ∀ (x : Int) (m' : Mem), P' x m' → Em Γ d M P q L (rest) m') : Em Γ d M P pc L (v2 :: v1 :: rv a :: rest) m := by
  refine Ev.callV hdg hl hok hv hK hC (K_lt hK (by decide)) (As := ([v1, v2] : List Vl)) (rest := rest) hlen rfl (Nat.le_of_ble_eq_true hsum) hd (Nat.le_of_ble_eq_true h45) ⟨Nat.le_refl _, Nat.le_refl _⟩ hc (fun v g' m' h => by rw [h.1]) hq (fun v g' m' h hp => ?_)
  obtain ⟨rfl, hp⟩ := hp
  rw [hr] at h
  have e1 : psh v rest = rest := by unfold psh; rw [if_pos h]
  rw [e1]
  exact k v.2 m' hp
theorem cS2v {M' : Mth} {d' idx : Nat} {v1 v2 : Vl} {rest : List Vl} {P' : Int → Mem → Prop} (hdg : decode (Mc M) pc = .ok (.invokestatic idx, 3)) (hl : Cond.methodLink (Mo M) idx (My M') ∈ tb) (hok : MOk M') (hv : MSt M') (hlen : ([v1, v2] : List Vl).length = Mp M') (hsum : Nat.ble (catS rest) 8 = true) (hd : d' + 1 ≤ d) (h45 : Nat.ble (Mn M') 45 = true) (hr : rtag (Mr M') = 0) (hq : pc + 3 = q) (hc : Ci Γ d' M' (([v1, v2] : List Vl)) m P') (k : ∀ (x : Int) (m' : Mem), P' x m' → Em Γ d M P q L (rest) m') : Em Γ d M P pc L (v2 :: v1 :: rest) m := by
  refine Ev.callS hdg hl hok hv (As := ([v1, v2] : List Vl)) (rest := rest) hlen rfl (Nat.le_of_ble_eq_true hsum) hd (Nat.le_of_ble_eq_true h45) ⟨Nat.le_refl _, Nat.le_refl _⟩ hc (fun v g' m' h => by rw [h.1]) hq (fun v g' m' h hp => ?_)
  obtain ⟨rfl, hp⟩ := hp
  rw [hr] at h
  have e1 : psh v rest = rest := by unfold psh; rw [if_pos h]
  rw [e1]
  exact k v.2 m' hp
theorem cV3i {M' : Mth} {d' idx : Nat} {a ci : Nat} {v1 v2 v3 : Vl} {rest : List Vl} {P' : Int → Mem → Prop} (hdg : decode (Mc M) pc = .ok (.invokevirtual idx, 3)) (hl : Cond.methodLink (Mo M) idx (My M') ∈ tb) (hok : MOk M') (hv : MVt M') (hK : K a = (0, ci)) (hC : (vwCl[ci]?).map (fun q => q.1) = some (Mo M')) (hlen : ([v1, v2, v3] : List Vl).length = Mp M') (hsum : Nat.ble (catS rest) 8 = true) (hd : d' + 1 ≤ d) (h45 : Nat.ble (Mn M') 45 = true) (hr : rtag (Mr M') = 1) (hq : pc + 3 = q) (hc : Ci Γ d' M' (rv a :: ([v1, v2, v3] : List Vl)) m P') (k : ∀ (x : Int) (m' : Mem), P' x m' → Em Γ d M P q L (iv x :: rest) m') : Em Γ d M P pc L (v3 :: v2 :: v1 :: rv a :: rest) m := by
  refine Ev.callV hdg hl hok hv hK hC (K_lt hK (by decide)) (As := ([v1, v2, v3] : List Vl)) (rest := rest) hlen rfl (Nat.le_of_ble_eq_true hsum) hd (Nat.le_of_ble_eq_true h45) ⟨Nat.le_refl _, Nat.le_refl _⟩ hc (fun v g' m' h => by rw [h.1]) hq (fun v g' m' h hp => ?_)
  obtain ⟨rfl, hp⟩ := hp
  rw [hr] at h
  have e1 : psh v rest = iv v.2 :: rest := by unfold psh; rw [if_neg (by rw [h]; decide), ← vl_i h]
  rw [e1]
  exact k v.2 m' hp
theorem cS3i {M' : Mth} {d' idx : Nat} {v1 v2 v3 : Vl} {rest : List Vl} {P' : Int → Mem → Prop} (hdg : decode (Mc M) pc = .ok (.invokestatic idx, 3)) (hl : Cond.methodLink (Mo M) idx (My M') ∈ tb) (hok : MOk M') (hv : MSt M') (hlen : ([v1, v2, v3] : List Vl).length = Mp M') (hsum : Nat.ble (catS rest) 8 = true) (hd : d' + 1 ≤ d) (h45 : Nat.ble (Mn M') 45 = true) (hr : rtag (Mr M') = 1) (hq : pc + 3 = q) (hc : Ci Γ d' M' (([v1, v2, v3] : List Vl)) m P') (k : ∀ (x : Int) (m' : Mem), P' x m' → Em Γ d M P q L (iv x :: rest) m') : Em Γ d M P pc L (v3 :: v2 :: v1 :: rest) m := by
  refine Ev.callS hdg hl hok hv (As := ([v1, v2, v3] : List Vl)) (rest := rest) hlen rfl (Nat.le_of_ble_eq_true hsum) hd (Nat.le_of_ble_eq_true h45) ⟨Nat.le_refl _, Nat.le_refl _⟩ hc (fun v g' m' h => by rw [h.1]) hq (fun v g' m' h hp => ?_)
  obtain ⟨rfl, hp⟩ := hp
  rw [hr] at h
  have e1 : psh v rest = iv v.2 :: rest := by unfold psh; rw [if_neg (by rw [h]; decide), ← vl_i h]
  rw [e1]
  exact k v.2 m' hp
theorem cV3j {M' : Mth} {d' idx : Nat} {a ci : Nat} {v1 v2 v3 : Vl} {rest : List Vl} {P' : Int → Mem → Prop} (hdg : decode (Mc M) pc = .ok (.invokevirtual idx, 3)) (hl : Cond.methodLink (Mo M) idx (My M') ∈ tb) (hok : MOk M') (hv : MVt M') (hK : K a = (0, ci)) (hC : (vwCl[ci]?).map (fun q => q.1) = some (Mo M')) (hlen : ([v1, v2, v3] : List Vl).length = Mp M') (hsum : Nat.ble (catS rest) 8 = true) (hd : d' + 1 ≤ d) (h45 : Nat.ble (Mn M') 45 = true) (hr : rtag (Mr M') = 2) (hq : pc + 3 = q) (hc : Ci Γ d' M' (rv a :: ([v1, v2, v3] : List Vl)) m P') (k : ∀ (x : Int) (m' : Mem), P' x m' → Em Γ d M P q L (jv x :: rest) m') : Em Γ d M P pc L (v3 :: v2 :: v1 :: rv a :: rest) m := by
  refine Ev.callV hdg hl hok hv hK hC (K_lt hK (by decide)) (As := ([v1, v2, v3] : List Vl)) (rest := rest) hlen rfl (Nat.le_of_ble_eq_true hsum) hd (Nat.le_of_ble_eq_true h45) ⟨Nat.le_refl _, Nat.le_refl _⟩ hc (fun v g' m' h => by rw [h.1]) hq (fun v g' m' h hp => ?_)
  obtain ⟨rfl, hp⟩ := hp
  rw [hr] at h
  have e1 : psh v rest = jv v.2 :: rest := by unfold psh; rw [if_neg (by rw [h]; decide), ← vl_j h]
  rw [e1]
  exact k v.2 m' hp
theorem cS3j {M' : Mth} {d' idx : Nat} {v1 v2 v3 : Vl} {rest : List Vl} {P' : Int → Mem → Prop} (hdg : decode (Mc M) pc = .ok (.invokestatic idx, 3)) (hl : Cond.methodLink (Mo M) idx (My M') ∈ tb) (hok : MOk M') (hv : MSt M') (hlen : ([v1, v2, v3] : List Vl).length = Mp M') (hsum : Nat.ble (catS rest) 8 = true) (hd : d' + 1 ≤ d) (h45 : Nat.ble (Mn M') 45 = true) (hr : rtag (Mr M') = 2) (hq : pc + 3 = q) (hc : Ci Γ d' M' (([v1, v2, v3] : List Vl)) m P') (k : ∀ (x : Int) (m' : Mem), P' x m' → Em Γ d M P q L (jv x :: rest) m') : Em Γ d M P pc L (v3 :: v2 :: v1 :: rest) m := by
  refine Ev.callS hdg hl hok hv (As := ([v1, v2, v3] : List Vl)) (rest := rest) hlen rfl (Nat.le_of_ble_eq_true hsum) hd (Nat.le_of_ble_eq_true h45) ⟨Nat.le_refl _, Nat.le_refl _⟩ hc (fun v g' m' h => by rw [h.1]) hq (fun v g' m' h hp => ?_)
  obtain ⟨rfl, hp⟩ := hp
  rw [hr] at h
  have e1 : psh v rest = jv v.2 :: rest := by unfold psh; rw [if_neg (by rw [h]; decide), ← vl_j h]
  rw [e1]
  exact k v.2 m' hp
theorem cV3v {M' : Mth} {d' idx : Nat} {a ci : Nat} {v1 v2 v3 : Vl} {rest : List Vl} {P' : Int → Mem → Prop} (hdg : decode (Mc M) pc = .ok (.invokevirtual idx, 3)) (hl : Cond.methodLink (Mo M) idx (My M') ∈ tb) (hok : MOk M') (hv : MVt M') (hK : K a = (0, ci)) (hC : (vwCl[ci]?).map (fun q => q.1) = some (Mo M')) (hlen : ([v1, v2, v3] : List Vl).length = Mp M') (hsum : Nat.ble (catS rest) 8 = true) (hd : d' + 1 ≤ d) (h45 : Nat.ble (Mn M') 45 = true) (hr : rtag (Mr M') = 0) (hq : pc + 3 = q) (hc : Ci Γ d' M' (rv a :: ([v1, v2, v3] : List Vl)) m P') (k : ∀ (x : Int) (m' : Mem), P' x m' → Em Γ d M P q L (rest) m') : Em Γ d M P pc L (v3 :: v2 :: v1 :: rv a :: rest) m := by
  refine Ev.callV hdg hl hok hv hK hC (K_lt hK (by decide)) (As := ([v1, v2, v3] : List Vl)) (rest := rest) hlen rfl (Nat.le_of_ble_eq_true hsum) hd (Nat.le_of_ble_eq_true h45) ⟨Nat.le_refl _, Nat.le_refl _⟩ hc (fun v g' m' h => by rw [h.1]) hq (fun v g' m' h hp => ?_)
  obtain ⟨rfl, hp⟩ := hp
  rw [hr] at h
  have e1 : psh v rest = rest := by unfold psh; rw [if_pos h]
  rw [e1]
  exact k v.2 m' hp
theorem cS3v {M' : Mth} {d' idx : Nat} {v1 v2 v3 : Vl} {rest : List Vl} {P' : Int → Mem → Prop} (hdg : decode (Mc M) pc = .ok (.invokestatic idx, 3)) (hl : Cond.methodLink (Mo M) idx (My M') ∈ tb) (hok : MOk M') (hv : MSt M') (hlen : ([v1, v2, v3] : List Vl).length = Mp M') (hsum : Nat.ble (catS rest) 8 = true) (hd : d' + 1 ≤ d) (h45 : Nat.ble (Mn M') 45 = true) (hr : rtag (Mr M') = 0) (hq : pc + 3 = q) (hc : Ci Γ d' M' (([v1, v2, v3] : List Vl)) m P') (k : ∀ (x : Int) (m' : Mem), P' x m' → Em Γ d M P q L (rest) m') : Em Γ d M P pc L (v3 :: v2 :: v1 :: rest) m := by
  refine Ev.callS hdg hl hok hv (As := ([v1, v2, v3] : List Vl)) (rest := rest) hlen rfl (Nat.le_of_ble_eq_true hsum) hd (Nat.le_of_ble_eq_true h45) ⟨Nat.le_refl _, Nat.le_refl _⟩ hc (fun v g' m' h => by rw [h.1]) hq (fun v g' m' h hp => ?_)
  obtain ⟨rfl, hp⟩ := hp
  rw [hr] at h
  have e1 : psh v rest = rest := by unfold psh; rw [if_pos h]
  rw [e1]
  exact k v.2 m' hp
theorem cV4i {M' : Mth} {d' idx : Nat} {a ci : Nat} {v1 v2 v3 v4 : Vl} {rest : List Vl} {P' : Int → Mem → Prop} (hdg : decode (Mc M) pc = .ok (.invokevirtual idx, 3)) (hl : Cond.methodLink (Mo M) idx (My M') ∈ tb) (hok : MOk M') (hv : MVt M') (hK : K a = (0, ci)) (hC : (vwCl[ci]?).map (fun q => q.1) = some (Mo M')) (hlen : ([v1, v2, v3, v4] : List Vl).length = Mp M') (hsum : Nat.ble (catS rest) 8 = true) (hd : d' + 1 ≤ d) (h45 : Nat.ble (Mn M') 45 = true) (hr : rtag (Mr M') = 1) (hq : pc + 3 = q) (hc : Ci Γ d' M' (rv a :: ([v1, v2, v3, v4] : List Vl)) m P') (k : ∀ (x : Int) (m' : Mem), P' x m' → Em Γ d M P q L (iv x :: rest) m') : Em Γ d M P pc L (v4 :: v3 :: v2 :: v1 :: rv a :: rest) m := by
  refine Ev.callV hdg hl hok hv hK hC (K_lt hK (by decide)) (As := ([v1, v2, v3, v4] : List Vl)) (rest := rest) hlen rfl (Nat.le_of_ble_eq_true hsum) hd (Nat.le_of_ble_eq_true h45) ⟨Nat.le_refl _, Nat.le_refl _⟩ hc (fun v g' m' h => by rw [h.1]) hq (fun v g' m' h hp => ?_)
  obtain ⟨rfl, hp⟩ := hp
  rw [hr] at h
  have e1 : psh v rest = iv v.2 :: rest := by unfold psh; rw [if_neg (by rw [h]; decide), ← vl_i h]
  rw [e1]
  exact k v.2 m' hp
theorem cS4i {M' : Mth} {d' idx : Nat} {v1 v2 v3 v4 : Vl} {rest : List Vl} {P' : Int → Mem → Prop} (hdg : decode (Mc M) pc = .ok (.invokestatic idx, 3)) (hl : Cond.methodLink (Mo M) idx (My M') ∈ tb) (hok : MOk M') (hv : MSt M') (hlen : ([v1, v2, v3, v4] : List Vl).length = Mp M') (hsum : Nat.ble (catS rest) 8 = true) (hd : d' + 1 ≤ d) (h45 : Nat.ble (Mn M') 45 = true) (hr : rtag (Mr M') = 1) (hq : pc + 3 = q) (hc : Ci Γ d' M' (([v1, v2, v3, v4] : List Vl)) m P') (k : ∀ (x : Int) (m' : Mem), P' x m' → Em Γ d M P q L (iv x :: rest) m') : Em Γ d M P pc L (v4 :: v3 :: v2 :: v1 :: rest) m := by
  refine Ev.callS hdg hl hok hv (As := ([v1, v2, v3, v4] : List Vl)) (rest := rest) hlen rfl (Nat.le_of_ble_eq_true hsum) hd (Nat.le_of_ble_eq_true h45) ⟨Nat.le_refl _, Nat.le_refl _⟩ hc (fun v g' m' h => by rw [h.1]) hq (fun v g' m' h hp => ?_)
  obtain ⟨rfl, hp⟩ := hp
  rw [hr] at h
  have e1 : psh v rest = iv v.2 :: rest := by unfold psh; rw [if_neg (by rw [h]; decide), ← vl_i h]
  rw [e1]
  exact k v.2 m' hp
theorem cV4j {M' : Mth} {d' idx : Nat} {a ci : Nat} {v1 v2 v3 v4 : Vl} {rest : List Vl} {P' : Int → Mem → Prop} (hdg : decode (Mc M) pc = .ok (.invokevirtual idx, 3)) (hl : Cond.methodLink (Mo M) idx (My M') ∈ tb) (hok : MOk M') (hv : MVt M') (hK : K a = (0, ci)) (hC : (vwCl[ci]?).map (fun q => q.1) = some (Mo M')) (hlen : ([v1, v2, v3, v4] : List Vl).length = Mp M') (hsum : Nat.ble (catS rest) 8 = true) (hd : d' + 1 ≤ d) (h45 : Nat.ble (Mn M') 45 = true) (hr : rtag (Mr M') = 2) (hq : pc + 3 = q) (hc : Ci Γ d' M' (rv a :: ([v1, v2, v3, v4] : List Vl)) m P') (k : ∀ (x : Int) (m' : Mem), P' x m' → Em Γ d M P q L (jv x :: rest) m') : Em Γ d M P pc L (v4 :: v3 :: v2 :: v1 :: rv a :: rest) m := by
  refine Ev.callV hdg hl hok hv hK hC (K_lt hK (by decide)) (As := ([v1, v2, v3, v4] : List Vl)) (rest := rest) hlen rfl (Nat.le_of_ble_eq_true hsum) hd (Nat.le_of_ble_eq_true h45) ⟨Nat.le_refl _, Nat.le_refl _⟩ hc (fun v g' m' h => by rw [h.1]) hq (fun v g' m' h hp => ?_)
  obtain ⟨rfl, hp⟩ := hp
  rw [hr] at h
  have e1 : psh v rest = jv v.2 :: rest := by unfold psh; rw [if_neg (by rw [h]; decide), ← vl_j h]
  rw [e1]
  exact k v.2 m' hp
theorem cS4j {M' : Mth} {d' idx : Nat} {v1 v2 v3 v4 : Vl} {rest : List Vl} {P' : Int → Mem → Prop} (hdg : decode (Mc M) pc = .ok (.invokestatic idx, 3)) (hl : Cond.methodLink (Mo M) idx (My M') ∈ tb) (hok : MOk M') (hv : MSt M') (hlen : ([v1, v2, v3, v4] : List Vl).length = Mp M') (hsum : Nat.ble (catS rest) 8 = true) (hd : d' + 1 ≤ d) (h45 : Nat.ble (Mn M') 45 = true) (hr : rtag (Mr M') = 2) (hq : pc + 3 = q) (hc : Ci Γ d' M' (([v1, v2, v3, v4] : List Vl)) m P') (k : ∀ (x : Int) (m' : Mem), P' x m' → Em Γ d M P q L (jv x :: rest) m') : Em Γ d M P pc L (v4 :: v3 :: v2 :: v1 :: rest) m := by
  refine Ev.callS hdg hl hok hv (As := ([v1, v2, v3, v4] : List Vl)) (rest := rest) hlen rfl (Nat.le_of_ble_eq_true hsum) hd (Nat.le_of_ble_eq_true h45) ⟨Nat.le_refl _, Nat.le_refl _⟩ hc (fun v g' m' h => by rw [h.1]) hq (fun v g' m' h hp => ?_)
  obtain ⟨rfl, hp⟩ := hp
  rw [hr] at h
  have e1 : psh v rest = jv v.2 :: rest := by unfold psh; rw [if_neg (by rw [h]; decide), ← vl_j h]
  rw [e1]
  exact k v.2 m' hp
theorem cV4v {M' : Mth} {d' idx : Nat} {a ci : Nat} {v1 v2 v3 v4 : Vl} {rest : List Vl} {P' : Int → Mem → Prop} (hdg : decode (Mc M) pc = .ok (.invokevirtual idx, 3)) (hl : Cond.methodLink (Mo M) idx (My M') ∈ tb) (hok : MOk M') (hv : MVt M') (hK : K a = (0, ci)) (hC : (vwCl[ci]?).map (fun q => q.1) = some (Mo M')) (hlen : ([v1, v2, v3, v4] : List Vl).length = Mp M') (hsum : Nat.ble (catS rest) 8 = true) (hd : d' + 1 ≤ d) (h45 : Nat.ble (Mn M') 45 = true) (hr : rtag (Mr M') = 0) (hq : pc + 3 = q) (hc : Ci Γ d' M' (rv a :: ([v1, v2, v3, v4] : List Vl)) m P') (k : ∀ (x : Int) (m' : Mem), P' x m' → Em Γ d M P q L (rest) m') : Em Γ d M P pc L (v4 :: v3 :: v2 :: v1 :: rv a :: rest) m := by
  refine Ev.callV hdg hl hok hv hK hC (K_lt hK (by decide)) (As := ([v1, v2, v3, v4] : List Vl)) (rest := rest) hlen rfl (Nat.le_of_ble_eq_true hsum) hd (Nat.le_of_ble_eq_true h45) ⟨Nat.le_refl _, Nat.le_refl _⟩ hc (fun v g' m' h => by rw [h.1]) hq (fun v g' m' h hp => ?_)
  obtain ⟨rfl, hp⟩ := hp
  rw [hr] at h
  have e1 : psh v rest = rest := by unfold psh; rw [if_pos h]
  rw [e1]
  exact k v.2 m' hp
theorem cS4v {M' : Mth} {d' idx : Nat} {v1 v2 v3 v4 : Vl} {rest : List Vl} {P' : Int → Mem → Prop} (hdg : decode (Mc M) pc = .ok (.invokestatic idx, 3)) (hl : Cond.methodLink (Mo M) idx (My M') ∈ tb) (hok : MOk M') (hv : MSt M') (hlen : ([v1, v2, v3, v4] : List Vl).length = Mp M') (hsum : Nat.ble (catS rest) 8 = true) (hd : d' + 1 ≤ d) (h45 : Nat.ble (Mn M') 45 = true) (hr : rtag (Mr M') = 0) (hq : pc + 3 = q) (hc : Ci Γ d' M' (([v1, v2, v3, v4] : List Vl)) m P') (k : ∀ (x : Int) (m' : Mem), P' x m' → Em Γ d M P q L (rest) m') : Em Γ d M P pc L (v4 :: v3 :: v2 :: v1 :: rest) m := by
  refine Ev.callS hdg hl hok hv (As := ([v1, v2, v3, v4] : List Vl)) (rest := rest) hlen rfl (Nat.le_of_ble_eq_true hsum) hd (Nat.le_of_ble_eq_true h45) ⟨Nat.le_refl _, Nat.le_refl _⟩ hc (fun v g' m' h => by rw [h.1]) hq (fun v g' m' h hp => ?_)
  obtain ⟨rfl, hp⟩ := hp
  rw [hr] at h
  have e1 : psh v rest = rest := by unfold psh; rw [if_pos h]
  rw [e1]
  exact k v.2 m' hp
theorem cV5i {M' : Mth} {d' idx : Nat} {a ci : Nat} {v1 v2 v3 v4 v5 : Vl} {rest : List Vl} {P' : Int → Mem → Prop} (hdg : decode (Mc M) pc = .ok (.invokevirtual idx, 3)) (hl : Cond.methodLink (Mo M) idx (My M') ∈ tb) (hok : MOk M') (hv : MVt M') (hK : K a = (0, ci)) (hC : (vwCl[ci]?).map (fun q => q.1) = some (Mo M')) (hlen : ([v1, v2, v3, v4, v5] : List Vl).length = Mp M') (hsum : Nat.ble (catS rest) 8 = true) (hd : d' + 1 ≤ d) (h45 : Nat.ble (Mn M') 45 = true) (hr : rtag (Mr M') = 1) (hq : pc + 3 = q) (hc : Ci Γ d' M' (rv a :: ([v1, v2, v3, v4, v5] : List Vl)) m P') (k : ∀ (x : Int) (m' : Mem), P' x m' → Em Γ d M P q L (iv x :: rest) m') : Em Γ d M P pc L (v5 :: v4 :: v3 :: v2 :: v1 :: rv a :: rest) m := by
  refine Ev.callV hdg hl hok hv hK hC (K_lt hK (by decide)) (As := ([v1, v2, v3, v4, v5] : List Vl)) (rest := rest) hlen rfl (Nat.le_of_ble_eq_true hsum) hd (Nat.le_of_ble_eq_true h45) ⟨Nat.le_refl _, Nat.le_refl _⟩ hc (fun v g' m' h => by rw [h.1]) hq (fun v g' m' h hp => ?_)
  obtain ⟨rfl, hp⟩ := hp
  rw [hr] at h
  have e1 : psh v rest = iv v.2 :: rest := by unfold psh; rw [if_neg (by rw [h]; decide), ← vl_i h]
  rw [e1]
  exact k v.2 m' hp
theorem cS5i {M' : Mth} {d' idx : Nat} {v1 v2 v3 v4 v5 : Vl} {rest : List Vl} {P' : Int → Mem → Prop} (hdg : decode (Mc M) pc = .ok (.invokestatic idx, 3)) (hl : Cond.methodLink (Mo M) idx (My M') ∈ tb) (hok : MOk M') (hv : MSt M') (hlen : ([v1, v2, v3, v4, v5] : List Vl).length = Mp M') (hsum : Nat.ble (catS rest) 8 = true) (hd : d' + 1 ≤ d) (h45 : Nat.ble (Mn M') 45 = true) (hr : rtag (Mr M') = 1) (hq : pc + 3 = q) (hc : Ci Γ d' M' (([v1, v2, v3, v4, v5] : List Vl)) m P') (k : ∀ (x : Int) (m' : Mem), P' x m' → Em Γ d M P q L (iv x :: rest) m') : Em Γ d M P pc L (v5 :: v4 :: v3 :: v2 :: v1 :: rest) m := by
  refine Ev.callS hdg hl hok hv (As := ([v1, v2, v3, v4, v5] : List Vl)) (rest := rest) hlen rfl (Nat.le_of_ble_eq_true hsum) hd (Nat.le_of_ble_eq_true h45) ⟨Nat.le_refl _, Nat.le_refl _⟩ hc (fun v g' m' h => by rw [h.1]) hq (fun v g' m' h hp => ?_)
  obtain ⟨rfl, hp⟩ := hp
  rw [hr] at h
  have e1 : psh v rest = iv v.2 :: rest := by unfold psh; rw [if_neg (by rw [h]; decide), ← vl_i h]
  rw [e1]
  exact k v.2 m' hp
theorem cV5j {M' : Mth} {d' idx : Nat} {a ci : Nat} {v1 v2 v3 v4 v5 : Vl} {rest : List Vl} {P' : Int → Mem → Prop} (hdg : decode (Mc M) pc = .ok (.invokevirtual idx, 3)) (hl : Cond.methodLink (Mo M) idx (My M') ∈ tb) (hok : MOk M') (hv : MVt M') (hK : K a = (0, ci)) (hC : (vwCl[ci]?).map (fun q => q.1) = some (Mo M')) (hlen : ([v1, v2, v3, v4, v5] : List Vl).length = Mp M') (hsum : Nat.ble (catS rest) 8 = true) (hd : d' + 1 ≤ d) (h45 : Nat.ble (Mn M') 45 = true) (hr : rtag (Mr M') = 2) (hq : pc + 3 = q) (hc : Ci Γ d' M' (rv a :: ([v1, v2, v3, v4, v5] : List Vl)) m P') (k : ∀ (x : Int) (m' : Mem), P' x m' → Em Γ d M P q L (jv x :: rest) m') : Em Γ d M P pc L (v5 :: v4 :: v3 :: v2 :: v1 :: rv a :: rest) m := by
  refine Ev.callV hdg hl hok hv hK hC (K_lt hK (by decide)) (As := ([v1, v2, v3, v4, v5] : List Vl)) (rest := rest) hlen rfl (Nat.le_of_ble_eq_true hsum) hd (Nat.le_of_ble_eq_true h45) ⟨Nat.le_refl _, Nat.le_refl _⟩ hc (fun v g' m' h => by rw [h.1]) hq (fun v g' m' h hp => ?_)
  obtain ⟨rfl, hp⟩ := hp
  rw [hr] at h
  have e1 : psh v rest = jv v.2 :: rest := by unfold psh; rw [if_neg (by rw [h]; decide), ← vl_j h]
  rw [e1]
  exact k v.2 m' hp
theorem cS5j {M' : Mth} {d' idx : Nat} {v1 v2 v3 v4 v5 : Vl} {rest : List Vl} {P' : Int → Mem → Prop} (hdg : decode (Mc M) pc = .ok (.invokestatic idx, 3)) (hl : Cond.methodLink (Mo M) idx (My M') ∈ tb) (hok : MOk M') (hv : MSt M') (hlen : ([v1, v2, v3, v4, v5] : List Vl).length = Mp M') (hsum : Nat.ble (catS rest) 8 = true) (hd : d' + 1 ≤ d) (h45 : Nat.ble (Mn M') 45 = true) (hr : rtag (Mr M') = 2) (hq : pc + 3 = q) (hc : Ci Γ d' M' (([v1, v2, v3, v4, v5] : List Vl)) m P') (k : ∀ (x : Int) (m' : Mem), P' x m' → Em Γ d M P q L (jv x :: rest) m') : Em Γ d M P pc L (v5 :: v4 :: v3 :: v2 :: v1 :: rest) m := by
  refine Ev.callS hdg hl hok hv (As := ([v1, v2, v3, v4, v5] : List Vl)) (rest := rest) hlen rfl (Nat.le_of_ble_eq_true hsum) hd (Nat.le_of_ble_eq_true h45) ⟨Nat.le_refl _, Nat.le_refl _⟩ hc (fun v g' m' h => by rw [h.1]) hq (fun v g' m' h hp => ?_)
  obtain ⟨rfl, hp⟩ := hp
  rw [hr] at h
  have e1 : psh v rest = jv v.2 :: rest := by unfold psh; rw [if_neg (by rw [h]; decide), ← vl_j h]
  rw [e1]
  exact k v.2 m' hp
theorem cV5v {M' : Mth} {d' idx : Nat} {a ci : Nat} {v1 v2 v3 v4 v5 : Vl} {rest : List Vl} {P' : Int → Mem → Prop} (hdg : decode (Mc M) pc = .ok (.invokevirtual idx, 3)) (hl : Cond.methodLink (Mo M) idx (My M') ∈ tb) (hok : MOk M') (hv : MVt M') (hK : K a = (0, ci)) (hC : (vwCl[ci]?).map (fun q => q.1) = some (Mo M')) (hlen : ([v1, v2, v3, v4, v5] : List Vl).length = Mp M') (hsum : Nat.ble (catS rest) 8 = true) (hd : d' + 1 ≤ d) (h45 : Nat.ble (Mn M') 45 = true) (hr : rtag (Mr M') = 0) (hq : pc + 3 = q) (hc : Ci Γ d' M' (rv a :: ([v1, v2, v3, v4, v5] : List Vl)) m P') (k : ∀ (x : Int) (m' : Mem), P' x m' → Em Γ d M P q L (rest) m') : Em Γ d M P pc L (v5 :: v4 :: v3 :: v2 :: v1 :: rv a :: rest) m := by
  refine Ev.callV hdg hl hok hv hK hC (K_lt hK (by decide)) (As := ([v1, v2, v3, v4, v5] : List Vl)) (rest := rest) hlen rfl (Nat.le_of_ble_eq_true hsum) hd (Nat.le_of_ble_eq_true h45) ⟨Nat.le_refl _, Nat.le_refl _⟩ hc (fun v g' m' h => by rw [h.1]) hq (fun v g' m' h hp => ?_)
  obtain ⟨rfl, hp⟩ := hp
  rw [hr] at h
  have e1 : psh v rest = rest := by unfold psh; rw [if_pos h]
  rw [e1]
  exact k v.2 m' hp
theorem cS5v {M' : Mth} {d' idx : Nat} {v1 v2 v3 v4 v5 : Vl} {rest : List Vl} {P' : Int → Mem → Prop} (hdg : decode (Mc M) pc = .ok (.invokestatic idx, 3)) (hl : Cond.methodLink (Mo M) idx (My M') ∈ tb) (hok : MOk M') (hv : MSt M') (hlen : ([v1, v2, v3, v4, v5] : List Vl).length = Mp M') (hsum : Nat.ble (catS rest) 8 = true) (hd : d' + 1 ≤ d) (h45 : Nat.ble (Mn M') 45 = true) (hr : rtag (Mr M') = 0) (hq : pc + 3 = q) (hc : Ci Γ d' M' (([v1, v2, v3, v4, v5] : List Vl)) m P') (k : ∀ (x : Int) (m' : Mem), P' x m' → Em Γ d M P q L (rest) m') : Em Γ d M P pc L (v5 :: v4 :: v3 :: v2 :: v1 :: rest) m := by
  refine Ev.callS hdg hl hok hv (As := ([v1, v2, v3, v4, v5] : List Vl)) (rest := rest) hlen rfl (Nat.le_of_ble_eq_true hsum) hd (Nat.le_of_ble_eq_true h45) ⟨Nat.le_refl _, Nat.le_refl _⟩ hc (fun v g' m' h => by rw [h.1]) hq (fun v g' m' h hp => ?_)
  obtain ⟨rfl, hp⟩ := hp
  rw [hr] at h
  have e1 : psh v rest = rest := by unfold psh; rw [if_pos h]
  rw [e1]
  exact k v.2 m' hp
end MAIN
theorem k0 : K 0 = (0, 11) := by decide +kernel
theorem k1 : K 1 = (2, 900) := by decide +kernel
theorem k2 : K 2 = (0, 6) := by decide +kernel
theorem k3 : K 3 = (0, 1) := by decide +kernel
theorem k4 : K 4 = (1, 12) := by decide +kernel
theorem k5 : K 5 = (1, 3) := by decide +kernel
theorem k6 : K 6 = (1, 8) := by decide +kernel
theorem k7 : K 7 = (1, 8) := by decide +kernel
theorem k8 : K 8 = (1, 8) := by decide +kernel
theorem k9 : K 9 = (1, 8) := by decide +kernel
theorem k10 : K 10 = (1, 96) := by decide +kernel
theorem k11 : K 11 = (1, 96) := by decide +kernel
theorem k12 : K 12 = (1, 96) := by decide +kernel
theorem k13 : K 13 = (1, 432) := by decide +kernel
theorem k14 : K 14 = (0, 4) := by decide +kernel
theorem k15 : K 15 = (1, 3) := by decide +kernel
theorem k16 : K 16 = (1, 3) := by decide +kernel
theorem k17 : K 17 = (1, 3) := by decide +kernel
theorem k18 : K 18 = (1, 3) := by decide +kernel
theorem k19 : K 19 = (1, 8) := by decide +kernel
theorem k20 : K 20 = (1, 8) := by decide +kernel
theorem k21 : K 21 = (1, 8) := by decide +kernel
theorem k22 : K 22 = (0, 8) := by decide +kernel
theorem k23 : K 23 = (2, 0) := by decide +kernel
theorem k24 : K 24 = (1, 3) := by decide +kernel
theorem k25 : K 25 = (0, 2) := by decide +kernel
theorem k26 : K 26 = (1, 4) := by decide +kernel
theorem k27 : K 27 = (1, 900) := by decide +kernel
theorem k28 : K 28 = (1, 32) := by decide +kernel
theorem k29 : K 29 = (0, 2) := by decide +kernel
theorem k30 : K 30 = (1, 4) := by decide +kernel
theorem k31 : K 31 = (1, 900) := by decide +kernel
theorem k32 : K 32 = (1, 32) := by decide +kernel
theorem k33 : K 33 = (0, 1) := by decide +kernel
theorem k34 : K 34 = (1, 12) := by decide +kernel
theorem k35 : K 35 = (1, 3) := by decide +kernel
theorem k36 : K 36 = (1, 8) := by decide +kernel
theorem k37 : K 37 = (1, 8) := by decide +kernel
theorem k38 : K 38 = (1, 8) := by decide +kernel
theorem k39 : K 39 = (1, 8) := by decide +kernel
theorem k40 : K 40 = (1, 96) := by decide +kernel
theorem k41 : K 41 = (1, 96) := by decide +kernel
theorem k42 : K 42 = (1, 96) := by decide +kernel
theorem k43 : K 43 = (1, 432) := by decide +kernel
theorem k44 : K 44 = (0, 4) := by decide +kernel
theorem k45 : K 45 = (1, 3) := by decide +kernel
theorem k46 : K 46 = (1, 3) := by decide +kernel
theorem k47 : K 47 = (1, 3) := by decide +kernel
theorem k48 : K 48 = (1, 3) := by decide +kernel
theorem k49 : K 49 = (1, 8) := by decide +kernel
theorem k50 : K 50 = (1, 8) := by decide +kernel
theorem k51 : K 51 = (1, 8) := by decide +kernel
theorem k52 : K 52 = (0, 4) := by decide +kernel
theorem k53 : K 53 = (1, 3) := by decide +kernel
theorem k54 : K 54 = (1, 3) := by decide +kernel
theorem k55 : K 55 = (1, 3) := by decide +kernel
theorem k56 : K 56 = (1, 3) := by decide +kernel
theorem k57 : K 57 = (1, 8) := by decide +kernel
theorem k58 : K 58 = (1, 8) := by decide +kernel
theorem k59 : K 59 = (1, 8) := by decide +kernel
theorem k60 : K 60 = (5, 11) := by decide +kernel
theorem k61 : K 61 = (6, 4) := by decide +kernel
theorem k62 : K 62 = (7, 2) := by decide +kernel
theorem k63 : K 63 = (5, 2) := by decide +kernel
theorem k64 : K 64 = (3, 2) := by decide +kernel
theorem k65 : K 65 = (0, 10) := by decide +kernel
theorem k66 : K 66 = (0, 0) := by decide +kernel
theorem k67 : K 67 = (0, 10) := by decide +kernel
theorem k68 : K 68 = (0, 3) := by decide +kernel
theorem k69 : K 69 = (1, 8) := by decide +kernel
theorem k70 : K 70 = (1, 8) := by decide +kernel
theorem k71 : K 71 = (0, 10) := by decide +kernel
theorem k72 : K 72 = (0, 5) := by decide +kernel
theorem k73 : K 73 = (0, 10) := by decide +kernel
theorem k74 : K 74 = (0, 7) := by decide +kernel
theorem k75 : K 75 = (1, 12) := by decide +kernel
theorem k76 : K 76 = (0, 10) := by decide +kernel
theorem k77 : K 77 = (0, 4) := by decide +kernel
theorem k78 : K 78 = (1, 3) := by decide +kernel
theorem k79 : K 79 = (1, 3) := by decide +kernel
theorem k80 : K 80 = (1, 3) := by decide +kernel
theorem k81 : K 81 = (1, 3) := by decide +kernel
theorem k82 : K 82 = (1, 8) := by decide +kernel
theorem k83 : K 83 = (1, 8) := by decide +kernel
theorem k84 : K 84 = (1, 8) := by decide +kernel
theorem k85 : K 85 = (0, 4) := by decide +kernel
theorem k86 : K 86 = (1, 3) := by decide +kernel
theorem k87 : K 87 = (1, 3) := by decide +kernel
theorem k88 : K 88 = (1, 3) := by decide +kernel
theorem k89 : K 89 = (1, 3) := by decide +kernel
theorem k90 : K 90 = (1, 8) := by decide +kernel
theorem k91 : K 91 = (1, 8) := by decide +kernel
theorem k92 : K 92 = (1, 8) := by decide +kernel
theorem k93 : K 93 = (0, 4) := by decide +kernel
theorem k94 : K 94 = (1, 3) := by decide +kernel
theorem k95 : K 95 = (1, 3) := by decide +kernel
theorem k96 : K 96 = (1, 3) := by decide +kernel
theorem k97 : K 97 = (1, 3) := by decide +kernel
theorem k98 : K 98 = (1, 8) := by decide +kernel
theorem k99 : K 99 = (1, 8) := by decide +kernel
theorem k100 : K 100 = (1, 8) := by decide +kernel
theorem k101 : K 101 = (0, 4) := by decide +kernel
theorem k102 : K 102 = (1, 3) := by decide +kernel
theorem k103 : K 103 = (1, 3) := by decide +kernel
theorem k104 : K 104 = (1, 3) := by decide +kernel
theorem k105 : K 105 = (1, 3) := by decide +kernel
theorem k106 : K 106 = (1, 8) := by decide +kernel
theorem k107 : K 107 = (1, 8) := by decide +kernel
theorem k108 : K 108 = (1, 8) := by decide +kernel
theorem k109 : K 109 = (0, 4) := by decide +kernel
theorem k110 : K 110 = (1, 3) := by decide +kernel
theorem k111 : K 111 = (1, 3) := by decide +kernel
theorem k112 : K 112 = (1, 3) := by decide +kernel
theorem k113 : K 113 = (1, 3) := by decide +kernel
theorem k114 : K 114 = (1, 8) := by decide +kernel
theorem k115 : K 115 = (1, 8) := by decide +kernel
theorem k116 : K 116 = (1, 8) := by decide +kernel
theorem k117 : K 117 = (0, 4) := by decide +kernel
theorem k118 : K 118 = (1, 3) := by decide +kernel
theorem k119 : K 119 = (1, 3) := by decide +kernel
theorem k120 : K 120 = (1, 3) := by decide +kernel
theorem k121 : K 121 = (1, 3) := by decide +kernel
theorem k122 : K 122 = (1, 8) := by decide +kernel
theorem k123 : K 123 = (1, 8) := by decide +kernel
theorem k124 : K 124 = (1, 8) := by decide +kernel
theorem k125 : K 125 = (0, 4) := by decide +kernel
theorem k126 : K 126 = (1, 3) := by decide +kernel
theorem k127 : K 127 = (1, 3) := by decide +kernel
theorem k128 : K 128 = (1, 3) := by decide +kernel
theorem k129 : K 129 = (1, 3) := by decide +kernel
theorem k130 : K 130 = (1, 8) := by decide +kernel
theorem k131 : K 131 = (1, 8) := by decide +kernel
theorem k132 : K 132 = (1, 8) := by decide +kernel
theorem k133 : K 133 = (0, 4) := by decide +kernel
theorem k134 : K 134 = (1, 3) := by decide +kernel
theorem k135 : K 135 = (1, 3) := by decide +kernel
theorem k136 : K 136 = (1, 3) := by decide +kernel
theorem k137 : K 137 = (1, 3) := by decide +kernel
theorem k138 : K 138 = (1, 8) := by decide +kernel
theorem k139 : K 139 = (1, 8) := by decide +kernel
theorem k140 : K 140 = (1, 8) := by decide +kernel
theorem k141 : K 141 = (0, 4) := by decide +kernel
theorem k142 : K 142 = (1, 3) := by decide +kernel
theorem k143 : K 143 = (1, 3) := by decide +kernel
theorem k144 : K 144 = (1, 3) := by decide +kernel
theorem k145 : K 145 = (1, 3) := by decide +kernel
theorem k146 : K 146 = (1, 8) := by decide +kernel
theorem k147 : K 147 = (1, 8) := by decide +kernel
theorem k148 : K 148 = (1, 8) := by decide +kernel
theorem k149 : K 149 = (0, 4) := by decide +kernel
theorem k150 : K 150 = (1, 3) := by decide +kernel
theorem k151 : K 151 = (1, 3) := by decide +kernel
theorem k152 : K 152 = (1, 3) := by decide +kernel
theorem k153 : K 153 = (1, 3) := by decide +kernel
theorem k154 : K 154 = (1, 8) := by decide +kernel
theorem k155 : K 155 = (1, 8) := by decide +kernel
theorem k156 : K 156 = (1, 8) := by decide +kernel
theorem k157 : K 157 = (0, 4) := by decide +kernel
theorem k158 : K 158 = (1, 3) := by decide +kernel
theorem k159 : K 159 = (1, 3) := by decide +kernel
theorem k160 : K 160 = (1, 3) := by decide +kernel
theorem k161 : K 161 = (1, 3) := by decide +kernel
theorem k162 : K 162 = (1, 8) := by decide +kernel
theorem k163 : K 163 = (1, 8) := by decide +kernel
theorem k164 : K 164 = (1, 8) := by decide +kernel
theorem k165 : K 165 = (0, 9) := by decide +kernel
theorem k166 : K 166 = (4, 40) := by decide +kernel
theorem k167 : K 167 = (0, 9) := by decide +kernel
theorem k168 : K 168 = (4, 40) := by decide +kernel
theorem k169 : K 169 = (0, 9) := by decide +kernel
theorem k170 : K 170 = (4, 40) := by decide +kernel
theorem k171 : K 171 = (0, 9) := by decide +kernel
theorem k172 : K 172 = (4, 40) := by decide +kernel
theorem k173 : K 173 = (0, 1) := by decide +kernel
theorem k174 : K 174 = (1, 12) := by decide +kernel
theorem k175 : K 175 = (1, 3) := by decide +kernel
theorem k176 : K 176 = (1, 8) := by decide +kernel
theorem k177 : K 177 = (1, 8) := by decide +kernel
theorem k178 : K 178 = (1, 8) := by decide +kernel
theorem k179 : K 179 = (1, 8) := by decide +kernel
theorem k180 : K 180 = (1, 96) := by decide +kernel
theorem k181 : K 181 = (1, 96) := by decide +kernel
theorem k182 : K 182 = (1, 96) := by decide +kernel
theorem k183 : K 183 = (1, 432) := by decide +kernel
theorem k184 : K 184 = (0, 4) := by decide +kernel
theorem k185 : K 185 = (1, 3) := by decide +kernel
theorem k186 : K 186 = (1, 3) := by decide +kernel
theorem k187 : K 187 = (1, 3) := by decide +kernel
theorem k188 : K 188 = (1, 3) := by decide +kernel
theorem k189 : K 189 = (1, 8) := by decide +kernel
theorem k190 : K 190 = (1, 8) := by decide +kernel
theorem k191 : K 191 = (1, 8) := by decide +kernel
theorem k192 : K 192 = (0, 1) := by decide +kernel
theorem k193 : K 193 = (1, 12) := by decide +kernel
theorem k194 : K 194 = (1, 3) := by decide +kernel
theorem k195 : K 195 = (1, 8) := by decide +kernel
theorem k196 : K 196 = (1, 8) := by decide +kernel
theorem k197 : K 197 = (1, 8) := by decide +kernel
theorem k198 : K 198 = (1, 8) := by decide +kernel
theorem k199 : K 199 = (1, 96) := by decide +kernel
theorem k200 : K 200 = (1, 96) := by decide +kernel
theorem k201 : K 201 = (1, 96) := by decide +kernel
theorem k202 : K 202 = (1, 432) := by decide +kernel
theorem k203 : K 203 = (0, 4) := by decide +kernel
theorem k204 : K 204 = (1, 3) := by decide +kernel
theorem k205 : K 205 = (1, 3) := by decide +kernel
theorem k206 : K 206 = (1, 3) := by decide +kernel
theorem k207 : K 207 = (1, 3) := by decide +kernel
theorem k208 : K 208 = (1, 8) := by decide +kernel
theorem k209 : K 209 = (1, 8) := by decide +kernel
theorem k210 : K 210 = (1, 8) := by decide +kernel
theorem k211 : K 211 = (0, 12) := by decide +kernel
theorem k212 : K 212 = (1, 4074) := by decide +kernel
theorem k213 : K 213 = (3, 2) := by decide +kernel
theorem k214 : K 214 = (1, 900) := by decide +kernel
theorem k215 : K 215 = (1, 1358) := by decide +kernel
theorem k216 : K 216 = (1, 900) := by decide +kernel
theorem k217 : K 217 = (1, 6) := by decide +kernel
theorem k218 : K 218 = (1, 36) := by decide +kernel
theorem k219 : K 219 = (1, 12) := by decide +kernel
theorem k220 : K 220 = (1, 4) := by decide +kernel
theorem k221 : K 221 = (1, 4) := by decide +kernel
theorem k222 : K 222 = (4, 160) := by decide +kernel
