/-! ===== fields: kinds as the tables have them ===== -/
def tyc (t : FieldType) (c : Nat) : Bool := match t, c with
  | .int, 1 => true
  | .boolean, 3 => true
  | .long, 4 => true
  | .object _, 8 => true
  | .array _, 8 => true
  | .array _, 9 => true
  | _, _ => false
def fchk : Bool := (List.range 13).all fun ci => match vwCl[ci]? with
  | some q => (q.2.2 == nfd ci) && (List.range q.2.2).all (fun k => (match parseFieldDescriptor (q.2.1 k).2.2.1 with
    | some ty => tyc ty (fty ci k)
    | none => false) && ((q.2.1 k).2.2.2 == (fty ci k == 8)))
  | none => false
theorem fchk_ok : fchk = true := by decide +kernel
theorem fld_ok {ci k N : Nat} {C : String} {T : u_T} {ty : FieldType} (hc : vwCl[ci]? = some (C, T, N)) (hk : k < N) (hty : parseFieldDescriptor (T k).2.2.1 = some ty) : N = nfd ci ∧ tyc ty (fty ci k) = true ∧ (T k).2.2.2 = (fty ci k == 8) := by
  have hci : ci < 13 := by
    have := (List.getElem?_eq_some_iff.mp hc).1
    exact this
  have h := List.all_eq_true.mp fchk_ok ci (List.mem_range.mpr hci)
  rw [hc] at h
  simp only [Bool.and_eq_true, beq_iff_eq] at h
  obtain ⟨h1, h2⟩ := h
  have h3 := List.all_eq_true.mp h2 k (List.mem_range.mpr hk)
  simp only [Bool.and_eq_true, beq_iff_eq] at h3
  rw [hty] at h3
  exact ⟨h1, h3.1, h3.2⟩
def isI (c : Nat) : Bool := c == 1 || c == 3
theorem fval_I (Γ : Gm) (S : Nat → Nat → Bool) (m : Mem) (a k : Nat) {c : Nat} (h : isI c = true) : fval Γ S m a k c = .int (Int32.ofInt (m a k)) := by
  unfold isI at h
  simp only [Bool.or_eq_true, beq_iff_eq] at h
  rcases h with rfl | rfl <;> rfl
theorem isJ_obj {a ci k : Nat} (hK : K a = (0, ci)) (h : fty ci k ≠ 4) : isJ a k = false := by
  unfold isJ
  rw [hK]
  simp [h]
theorem isJ_arr {a c n k : Nat} (hK : K a = (c, n)) (h : c ≠ 4) (h0 : c ≠ 0) : isJ a k = false := by
  unfold isJ
  rw [hK]
  simp [h, h0]
theorem S_same {S : Nat → Nat → Bool} {a k : Nat} : (fun b j => if b = a ∧ j = k then S b j else S b j) = S := by
  funext b j
  split <;> rfl
theorem Kl_len : Kl.length = 223 := by decide +kernel
theorem K_lt {a c n : Nat} (h : K a = (c, n)) (hc : c ≠ 99) : a < 223 := by
  rw [← Kl_len]
  apply Classical.byContradiction
  intro z
  have h0 : Kl[a]? = none := List.getElem?_eq_none (by omega)
  unfold K at h
  rw [List.getD_eq_getElem?_getD, h0] at h
  exact hc (congrArg Prod.fst h).symm
theorem conc_cell (Γ : Gm) {a c n : Nat} (h : K a = (c, n)) (hc : c ≠ 99) : conc Γ (rv a) = .ref (gb Γ + a) := by
  have := K_lt h hc
  rw [conc_rv]
  unfold ad
  rw [if_pos (by omega)]
theorem ad_cell (Γ : Gm) {a c n : Nat} (h : K a = (c, n)) (hc : c ≠ 99) : ad Γ a = gb Γ + a := by
  have := K_lt h hc
  unfold ad
  rw [if_pos (by omega)]
theorem WoS.up (Γ : Gm) {g : Gh} {m m' : Mem} {s : State} {b : Bd} {S' : Nat → Nat → Bool} {H1 : Heap} {a : Nat} {e : va_E} {H : Heap} (hW : WoS Γ g m s b H) (hP : va_P (gD Γ) vwCl ((wl Γ g m).set a (gb Γ + a, e)) H1) (ha : cellE Γ S' m' a = e) (ho : ∀ b, b ≠ a → m' b = m b ∧ S' b = g.2 b) : WoS Γ (g.1, S') m' s b H1 := by
  refine ⟨hW.1, ?_⟩
  rw [wl_set Γ g ha (fun b _ hb => cellE_same Γ (ho b hb).1 (ho b hb).2)] at hP
  exact hP
theorem i32_in {x : Int} {n : Nat} (hx : w32 x = x) (h : 0 ≤ x ∧ x < (n : Int)) : vp_in (Int32.ofInt x) n := by
  rw [vp_in_iff, show (Int32.ofInt x).toInt = x from hx]
  exact h
theorem i32_nat {x : Int} (hx : w32 x = x) : (Int32.ofInt x).toNatClampNeg = x.toNat := by
  show (Int32.ofInt x).toInt.toNat = x.toNat
  rw [show (Int32.ofInt x).toInt = x from hx]
theorem upd_eq (m : Mem) (a k : Nat) (x : Int) : upd (fun j => Int32.ofInt (m a j)) k (Int32.ofInt x) = fun j => Int32.ofInt (up m a k x a j) := by
  funext j
  unfold upd up
  by_cases h : j = k
  · simp [h]
  · simp [h]
theorem updL_eq (m : Mem) (a k : Nat) (x : Int) : vp_updL (fun j => Int64.ofInt (m a j)) k (Int64.ofInt x) = fun j => Int64.ofInt (up m a k x a j) := by
  funext j
  unfold vp_updL up
  by_cases h : j = k
  · simp [h]
  · simp [h]
def catS (l : List Vl) : Nat := (l.map fun v => if v.1 = 2 then 2 else 1).sum
theorem catS_eq (Γ : Gm) (l : List Vl) : ((l.map (conc Γ)).map fun v => v.category).sum = catS l := by
  unfold catS
  induction l with
  | nil => rfl
  | cons v l ih =>
    simp only [List.map_cons, List.sum_cons]
    rw [ih]
    congr 1
    by_cases h : v.1 = 2
    · rw [if_pos h]; exact conc_cat2 h
    · rw [if_neg h]; exact conc_cat h
def psh (v : Vl) (l : List Vl) : List Vl := if v.1 = 0 then l else v :: l
theorem psh_map (Γ : Gm) (v : Vl) (l : List Vl) : (rvo Γ v).toList ++ l.map (conc Γ) = (psh v l).map (conc Γ) := by
  unfold rvo psh
  by_cases h : v.1 = 0
  · simp [h]
  · simp [h]
theorem tys_at (Γ : Gm) {c : Nat} (h : 1 ≤ c ∧ c ≤ 7) : (tys Γ)[c - 1]? = some (gA Γ c, ety c) := by
  obtain ⟨h1, h2⟩ := h
  match c, h1, h2 with
  | 1, _, _ => rfl
  | 2, _, _ => rfl
  | 3, _, _ => rfl
  | 4, _, _ => rfl
  | 5, _, _ => rfl
  | 6, _, _ => rfl
  | 7, _, _ => rfl
section RULES2
variable {Γ : Gm} {d : Nat} {M : Mth} {b : Bd} {Po : Pos} {pc q : Nat} {L st : List Vl} {g : Gh} {m : Mem}
theorem Ev.getI {a ci k idx : Nat} (hdg : decode (Mc M) pc = .ok (.getfield idx, 3)) (hf : Gf (Mo M) idx ci k) (ht : isI (fty ci k) = true) (hK : K a = (0, ci)) (hn : a < g.1) (hq : pc + 3 = q) (kk : Ev Γ d M b Po q L (iv (m a k) :: st) g m) : Ev Γ d M b Po pc L (rv a :: st) g m := by
  subst hq
  intro hL hst hm p e s mi args below meth c H locs ls C hS hW hl
  obtain ⟨hx, hb, hr, hlk, hml, hown, hnm, hts, hKs, hSK, hsz⟩ := id C
  obtain ⟨Cn, T, N, ty, ⟨hc, hin, hty, hnms⟩, hkN, hT1, hlink⟩ := hf
  obtain ⟨hN, htc, hfin⟩ := fld_ok hc hkN (hty k hkN)
  have h4 : fty ci k ≠ 4 := by intro z; rw [z] at ht; cases ht
  have hok := (hm a k).1 (isJ_obj hK h4)
  have he := wl_at Γ g m hn
  rw [cellE_obj Γ g.2 m hK] at he
  rw [List.map_cons, conc_cell Γ hK (by decide)]
  refine va_get (D := gD Γ) (ci := ci) (C := Cn) (T := T) (N := N) hx hb hts hin hown hKs hW.2 a he hc k hkN (hts _ hlink) (fun x h => by rw [hT1] at h; exact h) (flds_at Γ g.2 m a ci (by rw [← hN]; exact hkN)) hdg ?_
  rw [fval_I _ _ _ _ _ ht]
  exact kk hL (okL_cons (okV_iv hok) (okL_tl hst)) hm p e s mi args below meth c H locs ls C hS hW hl

theorem Ev.getJ {a ci k idx : Nat} (hdg : decode (Mc M) pc = .ok (.getfield idx, 3)) (hf : Gf (Mo M) idx ci k) (ht : fty ci k = 4) (hK : K a = (0, ci)) (hn : a < g.1) (hq : pc + 3 = q) (kk : Ev Γ d M b Po q L (jv (m a k) :: st) g m) : Ev Γ d M b Po pc L (rv a :: st) g m := by
  subst hq
  intro hL hst hm p e s mi args below meth c H locs ls C hS hW hl
  obtain ⟨hx, hb, hr, hlk, hml, hown, hnm, hts, hKs, hSK, hsz⟩ := id C
  obtain ⟨Cn, T, N, ty, ⟨hc, hin, hty, hnms⟩, hkN, hT1, hlink⟩ := hf
  obtain ⟨hN, htc, hfin⟩ := fld_ok hc hkN (hty k hkN)
  have hok := (hm a k).2
  have he := wl_at Γ g m hn
  rw [cellE_obj Γ g.2 m hK] at he
  rw [List.map_cons, conc_cell Γ hK (by decide)]
  refine va_get (D := gD Γ) (ci := ci) (C := Cn) (T := T) (N := N) hx hb hts hin hown hKs hW.2 a he hc k hkN (hts _ hlink) (fun x h => by rw [hT1] at h; exact h) (flds_at Γ g.2 m a ci (by rw [← hN]; exact hkN)) hdg ?_
  rw [show fval Γ g.2 m a k (fty ci k) = .long (Int64.ofInt (m a k)) by rw [ht]; rfl]
  exact kk hL (okL_cons (okV_jv hok) (okL_tl hst)) hm p e s mi args below meth c H locs ls C hS hW hl
/-- a reference that was made once -/
theorem Ev.getR {a ci k idx r : Nat} (hdg : decode (Mc M) pc = .ok (.getfield idx, 3)) (hf : Gf (Mo M) idx ci k) (ht : fty ci k = 8) (hK : K a = (0, ci)) (hn : a < g.1) (hs : g.2 a k = true) (hr : rf a k = r) (hq : pc + 3 = q) (kk : Ev Γ d M b Po q L (rv r :: st) g m) : Ev Γ d M b Po pc L (rv a :: st) g m := by
  subst hq
  subst hr
  intro hL hst hm p e s mi args below meth c H locs ls C hS hW hl
  obtain ⟨hx, hb, hr, hlk, hml, hown, hnm, hts, hKs, hSK, hsz⟩ := id C
  obtain ⟨Cn, T, N, ty, ⟨hc, hin, hty, hnms⟩, hkN, hT1, hlink⟩ := hf
  obtain ⟨hN, htc, hfin⟩ := fld_ok hc hkN (hty k hkN)
  have he := wl_at Γ g m hn
  rw [cellE_obj Γ g.2 m hK] at he
  rw [List.map_cons, conc_cell Γ hK (by decide)]
  refine va_get (D := gD Γ) (ci := ci) (C := Cn) (T := T) (N := N) hx hb hts hin hown hKs hW.2 a he hc k hkN (hts _ hlink) (fun x h => by rw [hT1] at h; exact h) (flds_at Γ g.2 m a ci (by rw [← hN]; exact hkN)) hdg ?_
  rw [show fval Γ g.2 m a k (fty ci k) = .ref (ad Γ (rf a k)) by rw [ht]; unfold fval; simp [hs]]
  exact kk hL (okL_cons (okV_rv _) (okL_tl hst)) hm p e s mi args below meth c H locs ls C hS hW hl
/-- the one reference that changes -/
theorem Ev.getD {a ci k idx r : Nat} (hdg : decode (Mc M) pc = .ok (.getfield idx, 3)) (hf : Gf (Mo M) idx ci k) (ht : fty ci k = 9) (hK : K a = (0, ci)) (hn : a < g.1) (hr : m a k = (r : Int)) (hq : pc + 3 = q) (kk : Ev Γ d M b Po q L (rv r :: st) g m) : Ev Γ d M b Po pc L (rv a :: st) g m := by
  subst hq
  intro hL hst hm p e s mi args below meth c H locs ls C hS hW hl
  have hmr := hr
  obtain ⟨hx, hb, hr, hlk, hml, hown, hnm, hts, hKs, hSK, hsz⟩ := id C
  obtain ⟨Cn, T, N, ty, ⟨hc, hin, hty, hnms⟩, hkN, hT1, hlink⟩ := hf
  obtain ⟨hN, htc, hfin⟩ := fld_ok hc hkN (hty k hkN)
  have he := wl_at Γ g m hn
  rw [cellE_obj Γ g.2 m hK] at he
  rw [List.map_cons, conc_cell Γ hK (by decide)]
  refine va_get (D := gD Γ) (ci := ci) (C := Cn) (T := T) (N := N) hx hb hts hin hown hKs hW.2 a he hc k hkN (hts _ hlink) (fun x h => by rw [hT1] at h; exact h) (flds_at Γ g.2 m a ci (by rw [← hN]; exact hkN)) hdg ?_
  rw [show fval Γ g.2 m a k (fty ci k) = .ref (ad Γ r) by
    rw [ht]; unfold fval
    rw [hmr]
    simp]
  exact kk hL (okL_cons (okV_rv _) (okL_tl hst)) hm p e s mi args below meth c H locs ls C hS hW hl
theorem Ev.putI {a ci k idx : Nat} {x : Int} (hdg : decode (Mc M) pc = .ok (.putfield idx, 3)) (hf : Gf (Mo M) idx ci k) (ht : fty ci k = 1) (hK : K a = (0, ci)) (hn : a < g.1) (hq : pc + 3 = q) (kk : Ev Γ d M b Po q L st g (up m a k x)) : Ev Γ d M b Po pc L (iv x :: rv a :: st) g m := by
  subst hq
  intro hL hst hm p e s mi args below meth c H locs ls C hS hW hl
  obtain ⟨hxx, hb, hr, hlk, hml, hown, hnm, hts, hKs, hSK, hsz⟩ := id C
  obtain ⟨Cn, T, N, ty, ⟨hc, hin, hty, hnms⟩, hkN, hT1, hlink⟩ := hf
  obtain ⟨hN, htc, hfin⟩ := fld_ok hc hkN (hty k hkN)
  rw [ht] at htc hfin
  have hv := okL_hd hst
  have he := wl_at Γ g m hn
  rw [cellE_obj Γ g.2 m hK] at he
  rw [List.map_cons, List.map_cons, conc_cell Γ hK (by decide), conc_iv]
  obtain ⟨t0, ht0⟩ : ∃ t0, ty k = t0 := ⟨_, rfl⟩
  rw [ht0] at htc
  refine va_put (D := gD Γ) (ci := ci) (C := Cn) (T := T) (N := N) hxx hb hts hin ty hty hnms hown hKs hW.2 (wl_D Γ g m) hS a he hc k hkN (hts _ hlink) (fun x h => by rw [hT1] at h; exact h) hfin (ty := t0) (by rw [← ht0]; exact hty k hkN) ?_ ?_ (by rw [flds_len, ← hN]; exact hkN) hdg (fun H1 locs1 hP1 hD1 hS1 => ?_)
  · cases t0 <;> first | rfl | cases htc
  · cases t0 <;> first | rfl | cases htc
  · refine kk hL (okL_tl (okL_tl hst)) (okM_up hm (fun _ => okV_i hv) (w64_of32 (okV_i hv))) p e s mi args below meth c H1 locs1 ls C hS1 ?_ hl
    refine WoS.up Γ hW hP1 (S' := g.2) ?_ (fun c hc => ⟨up_na m _ hc, rfl⟩)
    rw [cellE_obj Γ g.2 _ hK, flds_set Γ (S' := g.2) (m' := up m a k x) (v := .int (Int32.ofInt x)) ?_ (fun j hj => fval_same Γ (up_ne m _ (Or.inr hj)) rfl)]
    rw [ht]
    unfold fval
    rw [up_eq]
    rfl
theorem Ev.putZ {a ci k idx : Nat} {x : Int} (hdg : decode (Mc M) pc = .ok (.putfield idx, 3)) (hf : Gf (Mo M) idx ci k) (ht : fty ci k = 3) (hK : K a = (0, ci)) (hn : a < g.1) (h01 : x = 0 ∨ x = 1) (hq : pc + 3 = q) (kk : Ev Γ d M b Po q L st g (up m a k x)) : Ev Γ d M b Po pc L (iv x :: rv a :: st) g m := by
  subst hq
  intro hL hst hm p e s mi args below meth c H locs ls C hS hW hl
  obtain ⟨hxx, hb, hr, hlk, hml, hown, hnm, hts, hKs, hSK, hsz⟩ := id C
  obtain ⟨Cn, T, N, ty, ⟨hc, hin, hty, hnms⟩, hkN, hT1, hlink⟩ := hf
  obtain ⟨hN, htc, hfin⟩ := fld_ok hc hkN (hty k hkN)
  rw [ht] at htc hfin
  have hv := okL_hd hst
  have he := wl_at Γ g m hn
  rw [cellE_obj Γ g.2 m hK] at he
  rw [List.map_cons, List.map_cons, conc_cell Γ hK (by decide), conc_iv]
  obtain ⟨t0, ht0⟩ : ∃ t0, ty k = t0 := ⟨_, rfl⟩
  rw [ht0] at htc
  refine va_put (D := gD Γ) (ci := ci) (C := Cn) (T := T) (N := N) hxx hb hts hin ty hty hnms hown hKs hW.2 (wl_D Γ g m) hS a he hc k hkN (hts _ hlink) (fun x h => by rw [hT1] at h; exact h) hfin (ty := t0) (by rw [← ht0]; exact hty k hkN) ?_ ?_ (by rw [flds_len, ← hN]; exact hkN) hdg (fun H1 locs1 hP1 hD1 hS1 => ?_)
  · rcases h01 with rfl | rfl <;> cases t0 <;> first | rfl | cases htc
  · rcases h01 with rfl | rfl <;> cases t0 <;> first | rfl | cases htc
  · refine kk hL (okL_tl (okL_tl hst)) (okM_up hm (fun _ => okV_i hv) (w64_of32 (okV_i hv))) p e s mi args below meth c H1 locs1 ls C hS1 ?_ hl
    refine WoS.up Γ hW hP1 (S' := g.2) ?_ (fun c hc => ⟨up_na m _ hc, rfl⟩)
    rw [cellE_obj Γ g.2 _ hK, flds_set Γ (S' := g.2) (m' := up m a k x) (v := .int (Int32.ofInt x)) ?_ (fun j hj => fval_same Γ (up_ne m _ (Or.inr hj)) rfl)]
    rw [ht]
    unfold fval
    rw [up_eq]
    rfl
theorem Ev.putJ {a ci k idx : Nat} {x : Int} (hdg : decode (Mc M) pc = .ok (.putfield idx, 3)) (hf : Gf (Mo M) idx ci k) (ht : fty ci k = 4) (hK : K a = (0, ci)) (hn : a < g.1) (hq : pc + 3 = q) (kk : Ev Γ d M b Po q L st g (up m a k x)) : Ev Γ d M b Po pc L (jv x :: rv a :: st) g m := by
  subst hq
  intro hL hst hm p e s mi args below meth c H locs ls C hS hW hl
  obtain ⟨hxx, hb, hr, hlk, hml, hown, hnm, hts, hKs, hSK, hsz⟩ := id C
  obtain ⟨Cn, T, N, ty, ⟨hc, hin, hty, hnms⟩, hkN, hT1, hlink⟩ := hf
  obtain ⟨hN, htc, hfin⟩ := fld_ok hc hkN (hty k hkN)
  rw [ht] at htc hfin
  have hv := okL_hd hst
  have he := wl_at Γ g m hn
  rw [cellE_obj Γ g.2 m hK] at he
  rw [List.map_cons, List.map_cons, conc_cell Γ hK (by decide), conc_jv]
  obtain ⟨t0, ht0⟩ : ∃ t0, ty k = t0 := ⟨_, rfl⟩
  rw [ht0] at htc
  refine va_put (D := gD Γ) (ci := ci) (C := Cn) (T := T) (N := N) hxx hb hts hin ty hty hnms hown hKs hW.2 (wl_D Γ g m) hS a he hc k hkN (hts _ hlink) (fun x h => by rw [hT1] at h; exact h) hfin (ty := t0) (by rw [← ht0]; exact hty k hkN) ?_ ?_ (by rw [flds_len, ← hN]; exact hkN) hdg (fun H1 locs1 hP1 hD1 hS1 => ?_)
  · cases t0 <;> first | rfl | cases htc
  · cases t0 <;> first | rfl | cases htc
  · refine kk hL (okL_tl (okL_tl hst)) (okM_up hm (fun z => absurd z (by unfold isJ; rw [hK]; simp [ht])) (okV_j hv)) p e s mi args below meth c H1 locs1 ls C hS1 ?_ hl
    refine WoS.up Γ hW hP1 (S' := g.2) ?_ (fun c hc => ⟨up_na m _ hc, rfl⟩)
    rw [cellE_obj Γ g.2 _ hK, flds_set Γ (S' := g.2) (m' := up m a k x) (v := .long (Int64.ofInt x)) ?_ (fun j hj => fval_same Γ (up_ne m _ (Or.inr hj)) rfl)]
    rw [ht]
    unfold fval
    rw [up_eq]
    rfl
theorem Ev.putD {a ci k idx : Nat} {r : Nat} (hdg : decode (Mc M) pc = .ok (.putfield idx, 3)) (hf : Gf (Mo M) idx ci k) (ht : fty ci k = 9) (hK : K a = (0, ci)) (hn : a < g.1) (hr9 : r < 100000) (hq : pc + 3 = q) (kk : Ev Γ d M b Po q L st g (up m a k (r : Int))) : Ev Γ d M b Po pc L (rv r :: rv a :: st) g m := by
  subst hq
  intro hL hst hm p e s mi args below meth c H locs ls C hS hW hl
  obtain ⟨hxx, hb, hr, hlk, hml, hown, hnm, hts, hKs, hSK, hsz⟩ := id C
  obtain ⟨Cn, T, N, ty, ⟨hc, hin, hty, hnms⟩, hkN, hT1, hlink⟩ := hf
  obtain ⟨hN, htc, hfin⟩ := fld_ok hc hkN (hty k hkN)
  rw [ht] at htc hfin
  have hv := okL_hd hst
  have he := wl_at Γ g m hn
  rw [cellE_obj Γ g.2 m hK] at he
  rw [List.map_cons, List.map_cons, conc_cell Γ hK (by decide), conc_rv]
  obtain ⟨t0, ht0⟩ : ∃ t0, ty k = t0 := ⟨_, rfl⟩
  rw [ht0] at htc
  refine va_put (D := gD Γ) (ci := ci) (C := Cn) (T := T) (N := N) hxx hb hts hin ty hty hnms hown hKs hW.2 (wl_D Γ g m) hS a he hc k hkN (hts _ hlink) (fun x h => by rw [hT1] at h; exact h) hfin (ty := t0) (by rw [← ht0]; exact hty k hkN) ?_ ?_ (by rw [flds_len, ← hN]; exact hkN) hdg (fun H1 locs1 hP1 hD1 hS1 => ?_)
  · cases t0 <;> first | rfl | cases htc
  · cases t0 <;> first | rfl | cases htc
  · refine kk hL (okL_tl (okL_tl hst)) (okM_up hm (fun _ => w32_of (by omega) (by omega)) (w64_of (by omega) (by omega))) p e s mi args below meth c H1 locs1 ls C hS1 ?_ hl
    refine WoS.up Γ hW hP1 (S' := g.2) ?_ (fun c hc => ⟨up_na m _ hc, rfl⟩)
    rw [cellE_obj Γ g.2 _ hK, flds_set Γ (S' := g.2) (m' := up m a k (r : Int)) (v := .ref (ad Γ r)) ?_ (fun j hj => fval_same Γ (up_ne m _ (Or.inr hj)) rfl)]
    rw [ht]
    unfold fval
    rw [up_eq]
    simp
theorem Ev.iald {a n : Nat} {x : Int} (hdg : decode (Mc M) pc = .ok (.iaload, 1)) (hK : K a = (1, n)) (hn : a < g.1) (hin : 0 ≤ x ∧ x < (n : Int)) (hq : pc + 1 = q) (kk : Ev Γ d M b Po q L (iv (m a x.toNat) :: st) g m) : Ev Γ d M b Po pc L (iv x :: rv a :: st) g m := by
  subst hq
  intro hL hst hm p e s mi args below meth c H locs ls C hS hW hl
  have hx := okV_i (okL_hd hst)
  have he := wl_at Γ g m hn
  rw [cellE_arr Γ g.2 m hK (by decide)] at he
  rw [List.map_cons, List.map_cons, conc_cell Γ hK (by decide), conc_iv]
  refine va_iald C.1 C.2.1 C.2.2.2.2.2.2.2.2.1 hW.2 a (1 - 1) he (tys_at Γ (c := 1) (by decide)) (i32_in hx hin) hdg ?_
  rw [i32_nat hx]
  exact kk hL (okL_cons (okV_iv ((hm a x.toNat).1 (isJ_arr hK (by decide) (by decide)))) (okL_tl (okL_tl hst))) hm p e s mi args below meth c H locs ls C hS hW hl
theorem Ev.bald {a n : Nat} {x : Int} (hdg : decode (Mc M) pc = .ok (.baload, 1)) (hK : K a = (2, n)) (hn : a < g.1) (hin : 0 ≤ x ∧ x < (n : Int)) (hq : pc + 1 = q) (kk : Ev Γ d M b Po q L (iv (m a x.toNat) :: st) g m) : Ev Γ d M b Po pc L (iv x :: rv a :: st) g m := by
  subst hq
  intro hL hst hm p e s mi args below meth c H locs ls C hS hW hl
  have hx := okV_i (okL_hd hst)
  have he := wl_at Γ g m hn
  rw [cellE_arr Γ g.2 m hK (by decide)] at he
  rw [List.map_cons, List.map_cons, conc_cell Γ hK (by decide), conc_iv]
  refine va_bald C.1 C.2.1 C.2.2.2.2.2.2.2.2.1 hW.2 a (2 - 1) he (tys_at Γ (c := 2) (by decide)) (i32_in hx hin) hdg ?_
  rw [i32_nat hx]
  exact kk hL (okL_cons (okV_iv ((hm a x.toNat).1 (isJ_arr hK (by decide) (by decide)))) (okL_tl (okL_tl hst))) hm p e s mi args below meth c H locs ls C hS hW hl
theorem Ev.zald {a n : Nat} {x : Int} (hdg : decode (Mc M) pc = .ok (.baload, 1)) (hK : K a = (3, n)) (hn : a < g.1) (hin : 0 ≤ x ∧ x < (n : Int)) (hq : pc + 1 = q) (kk : Ev Γ d M b Po q L (iv (m a x.toNat) :: st) g m) : Ev Γ d M b Po pc L (iv x :: rv a :: st) g m := by
  subst hq
  intro hL hst hm p e s mi args below meth c H locs ls C hS hW hl
  have hx := okV_i (okL_hd hst)
  have he := wl_at Γ g m hn
  rw [cellE_arr Γ g.2 m hK (by decide)] at he
  rw [List.map_cons, List.map_cons, conc_cell Γ hK (by decide), conc_iv]
  refine va_zald C.1 C.2.1 C.2.2.2.2.2.2.2.2.1 hW.2 a (3 - 1) he (tys_at Γ (c := 3) (by decide)) (i32_in hx hin) hdg ?_
  rw [i32_nat hx]
  exact kk hL (okL_cons (okV_iv ((hm a x.toNat).1 (isJ_arr hK (by decide) (by decide)))) (okL_tl (okL_tl hst))) hm p e s mi args below meth c H locs ls C hS hW hl
theorem Ev.lald {a n : Nat} {x : Int} (hdg : decode (Mc M) pc = .ok (.laload, 1)) (hK : K a = (4, n)) (hn : a < g.1) (hin : 0 ≤ x ∧ x < (n : Int)) (hq : pc + 1 = q) (kk : Ev Γ d M b Po q L (jv (m a x.toNat) :: st) g m) : Ev Γ d M b Po pc L (iv x :: rv a :: st) g m := by
  subst hq
  intro hL hst hm p e s mi args below meth c H locs ls C hS hW hl
  have hx := okV_i (okL_hd hst)
  have he := wl_at Γ g m hn
  rw [cellE_arr Γ g.2 m hK (by decide)] at he
  rw [List.map_cons, List.map_cons, conc_cell Γ hK (by decide), conc_iv]
  refine va_lald C.1 C.2.1 C.2.2.2.2.2.2.2.2.1 hW.2 a (4 - 1) he (tys_at Γ (c := 4) (by decide)) (i32_in hx hin) hdg ?_
  rw [i32_nat hx]
  exact kk hL (okL_cons (okV_jv (hm a x.toNat).2) (okL_tl (okL_tl hst))) hm p e s mi args below meth c H locs ls C hS hW hl
theorem Ev.iast {a n : Nat} {x y : Int} (hdg : decode (Mc M) pc = .ok (.iastore, 1)) (hK : K a = (1, n)) (hn : a < g.1) (hin : 0 ≤ x ∧ x < (n : Int)) (hq : pc + 1 = q) (kk : Ev Γ d M b Po q L st g (up m a x.toNat y)) : Ev Γ d M b Po pc L (iv y :: iv x :: rv a :: st) g m := by
  subst hq
  intro hL hst hm p e s mi args below meth c H locs ls C hS hW hl
  have hv := okL_hd hst
  have hx := okV_i (okL_hd (okL_tl hst))
  have he := wl_at Γ g m hn
  rw [cellE_arr Γ g.2 m hK (by decide)] at he
  rw [List.map_cons, List.map_cons, List.map_cons, conc_cell Γ hK (by decide), conc_iv, conc_iv]
  refine va_iast C.1 C.2.1 C.2.2.2.2.2.2.2.2.1 hW.2 (wl_D Γ g m) hS a (1 - 1) he (tys_at Γ (c := 1) (by decide)) (i32_in hx hin) hdg (fun H1 locs1 hP1 hD1 hS1 => ?_)
  rw [i32_nat hx, upd_eq] at hP1
  refine kk hL (okL_tl (okL_tl (okL_tl hst))) (okM_up hm (fun _ => okV_i hv) (w64_of32 (okV_i hv))) p e s mi args below meth c H1 locs1 ls C hS1 ?_ hl
  refine WoS.up Γ hW hP1 (S' := g.2) ?_ (fun c hc => ⟨up_na m _ hc, rfl⟩)
  rw [cellE_arr Γ g.2 _ hK (by decide)]
  rfl
theorem Ev.bast {a n : Nat} {x y : Int} (hdg : decode (Mc M) pc = .ok (.bastore, 1)) (hK : K a = (2, n)) (hn : a < g.1) (hin : 0 ≤ x ∧ x < (n : Int)) (hq : pc + 1 = q) (kk : Ev Γ d M b Po q L st g (up m a x.toNat (i8 y))) : Ev Γ d M b Po pc L (iv y :: iv x :: rv a :: st) g m := by
  subst hq
  intro hL hst hm p e s mi args below meth c H locs ls C hS hW hl
  have hv := okL_hd hst
  have hx := okV_i (okL_hd (okL_tl hst))
  have he := wl_at Γ g m hn
  rw [cellE_arr Γ g.2 m hK (by decide)] at he
  rw [List.map_cons, List.map_cons, List.map_cons, conc_cell Γ hK (by decide), conc_iv, conc_iv]
  refine va_bast C.1 C.2.1 C.2.2.2.2.2.2.2.2.1 hW.2 (wl_D Γ g m) hS a (2 - 1) he (tys_at Γ (c := 2) (by decide)) (i32_in hx hin) hdg (fun H1 locs1 hP1 hD1 hS1 => ?_)
  rw [i32_nat hx, vp_nar_byte, ← Int32.ofInt_toInt (Int32.ofInt y).toInt8.toInt32, upd_eq] at hP1
  refine kk hL (okL_tl (okL_tl (okL_tl hst))) (okM_up hm (fun _ => w32_to _) (w64_of32 (w32_to _))) p e s mi args below meth c H1 locs1 ls C hS1 ?_ hl
  refine WoS.up Γ hW hP1 (S' := g.2) ?_ (fun c hc => ⟨up_na m _ hc, rfl⟩)
  rw [cellE_arr Γ g.2 _ hK (by decide)]
  rfl
theorem Ev.zast {a n : Nat} {x y : Int} (hdg : decode (Mc M) pc = .ok (.bastore, 1)) (hK : K a = (3, n)) (hn : a < g.1) (hin : 0 ≤ x ∧ x < (n : Int)) (h01 : y = 0 ∨ y = 1) (hq : pc + 1 = q) (kk : Ev Γ d M b Po q L st g (up m a x.toNat y)) : Ev Γ d M b Po pc L (iv y :: iv x :: rv a :: st) g m := by
  subst hq
  intro hL hst hm p e s mi args below meth c H locs ls C hS hW hl
  have hv := okL_hd hst
  have hx := okV_i (okL_hd (okL_tl hst))
  have he := wl_at Γ g m hn
  rw [cellE_arr Γ g.2 m hK (by decide)] at he
  rw [List.map_cons, List.map_cons, List.map_cons, conc_cell Γ hK (by decide), conc_iv, conc_iv]
  refine va_zast C.1 C.2.1 C.2.2.2.2.2.2.2.2.1 hW.2 (wl_D Γ g m) hS a (3 - 1) he (tys_at Γ (c := 3) (by decide)) (i32_in hx hin) hdg (fun H1 locs1 hP1 hD1 hS1 => ?_)
  rw [i32_nat hx, show vp_nar .boolean (Int32.ofInt y) = Int32.ofInt y by rcases h01 with rfl | rfl <;> decide, upd_eq] at hP1
  refine kk hL (okL_tl (okL_tl (okL_tl hst))) (okM_up hm (fun _ => okV_i hv) (w64_of32 (okV_i hv))) p e s mi args below meth c H1 locs1 ls C hS1 ?_ hl
  refine WoS.up Γ hW hP1 (S' := g.2) ?_ (fun c hc => ⟨up_na m _ hc, rfl⟩)
  rw [cellE_arr Γ g.2 _ hK (by decide)]
  rfl
theorem Ev.last {a n : Nat} {x y : Int} (hdg : decode (Mc M) pc = .ok (.lastore, 1)) (hK : K a = (4, n)) (hn : a < g.1) (hin : 0 ≤ x ∧ x < (n : Int)) (hq : pc + 1 = q) (kk : Ev Γ d M b Po q L st g (up m a x.toNat y)) : Ev Γ d M b Po pc L (jv y :: iv x :: rv a :: st) g m := by
  subst hq
  intro hL hst hm p e s mi args below meth c H locs ls C hS hW hl
  have hv := okL_hd hst
  have hx := okV_i (okL_hd (okL_tl hst))
  have he := wl_at Γ g m hn
  rw [cellE_arr Γ g.2 m hK (by decide)] at he
  rw [List.map_cons, List.map_cons, List.map_cons, conc_cell Γ hK (by decide), conc_iv, conc_jv]
  refine va_last C.1 C.2.1 C.2.2.2.2.2.2.2.2.1 hW.2 (wl_D Γ g m) hS a (4 - 1) he (tys_at Γ (c := 4) (by decide)) (i32_in hx hin) hdg (fun H1 locs1 hP1 hD1 hS1 => ?_)
  rw [i32_nat hx, updL_eq] at hP1
  refine kk hL (okL_tl (okL_tl (okL_tl hst))) (okM_up hm (fun z => absurd z (by unfold isJ; rw [hK]; simp)) (okV_j hv)) p e s mi args below meth c H1 locs1 ls C hS1 ?_ hl
  refine WoS.up Γ hW hP1 (S' := g.2) ?_ (fun c hc => ⟨up_na m _ hc, rfl⟩)
  rw [cellE_arr Γ g.2 _ hK (by decide)]
  rfl
theorem Ev.alen {a n c0 : Nat} (hdg : decode (Mc M) pc = .ok (.arraylength, 1)) (hK : K a = (c0, n)) (hc0 : 1 ≤ c0 ∧ c0 ≤ 7) (hn : a < g.1) (hs : n < 2147483648) (hq : pc + 1 = q) (kk : Ev Γ d M b Po q L (iv (n : Int) :: st) g m) : Ev Γ d M b Po pc L (rv a :: st) g m := by
  subst hq
  intro hL hst hm p e s mi args below meth c H locs ls C hS hW hl
  have he := wl_at Γ g m hn
  rw [cellE_arr Γ g.2 m hK (by omega)] at he
  rw [List.map_cons, conc_cell Γ hK (by omega)]
  refine va_alen C.1 C.2.1 C.2.2.2.2.2.2.2.2.1 hW.2 a (c0 - 1) he (tys_at Γ hc0) (v := Int32.ofInt (n : Int)) (by simp [Int32.ofInt_eq_ofNat]) hdg ?_
  exact kk hL (okL_cons (okV_iv (w32_of (by omega) (by omega))) (okL_tl hst)) hm p e s mi args below meth c H locs ls C hS hW hl
theorem Ev.aald {a n c0 r : Nat} {x : Int} (hdg : decode (Mc M) pc = .ok (.aaload, 1)) (hK : K a = (c0, n)) (hc0 : 5 ≤ c0 ∧ c0 ≤ 7) (hn : a < g.1) (hin : 0 ≤ x ∧ x < (n : Int)) (hs : g.2 a x.toNat = true) (hr : rf a x.toNat = r) (hq : pc + 1 = q) (kk : Ev Γ d M b Po q L (rv r :: st) g m) : Ev Γ d M b Po pc L (iv x :: rv a :: st) g m := by
  subst hq
  subst hr
  intro hL hst hm p e s mi args below meth c H locs ls C hS hW hl
  have hx := okV_i (okL_hd hst)
  have he := wl_at Γ g m hn
  rw [cellE_arr Γ g.2 m hK (by omega)] at he
  have hcont : cont Γ g.2 m a c0 = .inr (.inr (.inr (.inr (fun j => if g.2 a j = true then some (ad Γ (rf a j)) else none)))) := by
    unfold cont
    rw [if_neg (by omega), if_neg (by omega)]
  rw [hcont] at he
  obtain ⟨E, hE⟩ : ∃ E, ety c0 = .object E := by
    obtain ⟨h1, h2⟩ := hc0
    match c0, h1, h2 with
    | 5, _, _ => exact ⟨_, rfl⟩
    | 6, _, _ => exact ⟨_, rfl⟩
    | 7, _, _ => exact ⟨_, rfl⟩
  have ht := tys_at Γ (c := c0) (by omega)
  rw [hE] at ht
  rw [List.map_cons, List.map_cons, conc_cell Γ hK (by omega), conc_iv]
  refine va_aldq C.1 C.2.1 C.2.2.2.2.2.2.2.2.1 hW.2 a (c0 - 1) he ht (i32_in hx hin) hdg ?_
  have := kk hL (okL_cons (okV_rv _) (okL_tl (okL_tl hst))) hm p e s mi args below meth c H locs ls C hS hW hl
  rw [i32_nat hx]
  simp only [hs, if_true]
  exact this
theorem Ev.iret {x : Int} {rt : FieldType} (hdg : decode (Mc M) pc = .ok (.ireturn, 1)) (hrt : Mr M = some rt) (hnar : narrow rt (.int (Int32.ofInt x)) = .int (Int32.ofInt x) ∧ rtag (some rt) = 1) (hbd : b.2.2.1 ≤ b.1 ∧ b.2.2.2 ≤ b.2.1) (kk : Po (iv x) g m) : Ev Γ d M b Po pc L [iv x] g m := by
  intro hL hst hm p e s mi args below meth c H locs ls C hS hW hl
  obtain ⟨hxx, hb, hr, hlk, hml, hown, hnm, hts, hKs, hSK, hsz⟩ := id C
  refine W.widen hbd.1 hbd.2 ?_
  rw [List.map_cons, List.map_nil, conc_iv]
  exact W.zret (ty := rt) hxx hb (by rw [hr]; exact hrt) hnar.1 (fun t ht hWm => ⟨⟨iv x, g, m, kk, okL_hd hst, hm, by rw [hrt]; exact hnar.2.symm, rfl, by rw [ht]; exact hW.2⟩, hS.F ht⟩) hS.2.2 hdg hlk
theorem Ev.lret {x : Int} (hdg : decode (Mc M) pc = .ok (.lreturn, 1)) (hrt : Mr M = some .long) (hbd : b.2.2.1 ≤ b.1 ∧ b.2.2.2 ≤ b.2.1) (kk : Po (jv x) g m) : Ev Γ d M b Po pc L [jv x] g m := by
  intro hL hst hm p e s mi args below meth c H locs ls C hS hW hl
  obtain ⟨hxx, hb, hr, hlk, hml, hown, hnm, hts, hKs, hSK, hsz⟩ := id C
  refine W.widen hbd.1 hbd.2 ?_
  rw [List.map_cons, List.map_nil, conc_jv]
  exact W.lret hxx hb (by rw [hr]; exact hrt) (fun t ht hWm => ⟨⟨jv x, g, m, kk, okL_hd hst, hm, by rw [hrt]; rfl, rfl, by rw [ht]; exact hW.2⟩, hS.F ht⟩) hS.2.2 hdg hlk
theorem Ev.vret (hdg : decode (Mc M) pc = .ok (.return_, 1)) (hrt : Mr M = none) (hbd : b.2.2.1 ≤ b.1 ∧ b.2.2.2 ≤ b.2.1) (kk : Po uv g m) : Ev Γ d M b Po pc L [] g m := by
  intro hL hst hm p e s mi args below meth c H locs ls C hS hW hl
  obtain ⟨hxx, hb, hr, hlk, hml, hown, hnm, hts, hKs, hSK, hsz⟩ := id C
  refine W.widen hbd.1 hbd.2 ?_
  rw [List.map_nil]
  exact W.vret hxx hb (by rw [hr]; exact hrt) (fun t ht hWm => ⟨⟨uv, g, m, kk, okV_uv, hm, by rw [hrt]; rfl, rfl, by rw [ht]; exact hW.2⟩, hS.F ht⟩) hS.2.2 hdg hlk
end RULES2

