/-! ===== cells are made ===== -/
theorem wl_succ (Γ : Gm) (g : Gh) (m : Mem) : wl Γ (g.1 + 1, g.2) m = wl Γ g m ++ [(gb Γ + g.1, cellE Γ g.2 m g.1)] := by
  unfold wl
  rw [List.range_succ, List.map_append]
  rfl
section MAKE
variable {Γ : Gm} {d : Nat} {M : Mth} {b : Bd} {Po : Pos} {pc q : Nat} {L st : List Vl} {g : Gh} {m : Mem}
/-- one more cell -/
theorem Wo.push {H H1 : Heap} (hW : Wo Γ g m H) (ho : ∀ q, q < H.size → H1[q]? = H[q]?) (hn : va_at (gD Γ) vwCl (gb Γ + g.1, cellE Γ g.2 m g.1) H1) : Wo Γ (g.1 + 1, g.2) m H1 := by
  unfold Wo
  rw [wl_succ]
  refine (va_P.kept hW (fun k x hx => ho x.1 ((hW k x hx).lt))).app (fun k x hx => ?_)
  have hz : k < 1 := (List.getElem?_eq_some_iff.mp hx).1
  rw [show k = 0 by omega] at hx
  cases hx
  exact hn
theorem i32_z : Int32.ofInt 0 = 0 := by decide
theorem i64_z : Int64.ofInt 0 = 0 := by decide
theorem new_cell {Γ : Gm} {S : Nat → Nat → Bool} {m : Mem} {a c n : Nat} {cA : ClassId} (h14 : 1 ≤ c ∧ c ≤ 4) (hz : ∀ j, m a j = 0) : vp_cell cA (n, cont Γ S m a c) = arrV cA n (fun _ => defaultValue (ety c)) := by
  unfold cont
  by_cases h : c ≤ 3
  · rw [if_pos h, vp_cell_i]
    simp only [hz, i32_z]
    rcases (show c = 1 ∨ c = 2 ∨ c = 3 by omega) with rfl | rfl | rfl <;> rfl
  · have h4 : c = 4 := by omega
    subst h4
    rw [if_neg h, if_pos rfl]
    simp only [hz, i64_z]
    rfl
set_option maxHeartbeats 200000 in
theorem Ev.newa {atype : ArrayType} {c n : Nat} {x : Int} (hdg : decode (Mc M) pc = .ok (.newarray atype, 2)) (harr : Cond.arrayClass (newarray.typeOf atype) ∈ tb) (hK : K g.1 = (c, n)) (h14 : 1 ≤ c ∧ c ≤ 4) (ht : ety c = newarray.typeOf atype) (hx : x = (n : Int)) (hn : n < 100000) (hz : ∀ j, m g.1 j = 0) (hb1 : b.2.2.1 + 1 ≤ b.1) (hb2 : b.2.2.2 + n ≤ b.2.1) (hq : pc + 2 = q) (kk : Ev Γ d M (b.1, b.2.1, b.2.2.1 + 1, b.2.2.2 + n) Po q L (rv g.1 :: st) (g.1 + 1, g.2) m) : Ev Γ d M b Po pc L (iv x :: st) g m := by
  subst hq
  subst hx
  intro hL hst hm p e s mi args below meth cd H locs ls C hS hW hl T hT X
  obtain ⟨hxx, hb, hr, hlk, hml, hown, hnm, hts, hKs, hSK, hsz⟩ := id C
  have hz9 := size_of X hT hS hW hsz
  have hw : w32 (n : Int) = n := w32_of (by omega) (by omega)
  have hcb : componentBytes (newarray.typeOf atype) ≤ 8 := by cases atype <;> decide
  suffices key : W p (gl Γ) e (rmm d b.1 b.2.1) s mi args below meth cd H locs b.2.2.1 b.2.2.2 (MQ below (QcE Γ M Po) args s b.1 b.2.1 (bA Γ)) (F0 mi pc ls ((iv (n : Int) :: st).map (conc Γ))) from key T hT X
  refine va_newaK (cc := Mc M) (atype := atype) (N := n) (h := gb Γ + g.1) (n := Int32.ofInt (n : Int)) (rest := st.map (conc Γ)) hxx hb (hts _ harr) rfl hdg rfl ?_ ?_ ?_ hb1 hb2 hz9.symm (fun H1 cA e1 z1 o1 hAr hNm => ?_)
  · rw [← i32_z, i32_lt hw w0]
    omega
  · rw [i32_nat hw, Int.toNat_natCast]
  · have := Nat.mul_le_mul (Nat.le_of_lt hn) hcb
    omega
  · have hRA := (hKs.2 (c - 1) _ (tys_at Γ (show 1 ≤ c ∧ c ≤ 7 by omega))).2
    have hcA : cA = gA Γ c := by
      rw [ht] at hRA
      have h9 : s.vm.findClass ("[" ++ (newarray.typeOf atype).toString) = some (gA Γ c) := by cases atype <;> exact hRA
      exact Option.some.inj (hNm.symm.trans h9)
    subst hcA
    have hk := kk hL (okL_cons (okV_rv _) (okL_tl hst)) hm p e s mi args below meth cd H1 locs ls C ⟨by have := hS.1; omega, fun q h1 h2 => (o1 q (by have := hS.1; omega)).trans (hS.2.1 q h1 h2), hS.2.2⟩ ⟨by have := hW.1; show gb Γ + (g.1 + 1) = s.heap.size + (b.2.2.1 + 1); omega, Wo.push hW.2 (fun q hq => o1 q (by omega)) ?_⟩ hl
    · rw [List.map_cons, conc_cell Γ hK (by omega)] at hk
      exact hk
    · rw [cellE_arr Γ g.2 m hK (by omega)]
      show H1[gb Γ + g.1]? = some (vp_cell (gA Γ c) (n, cont Γ g.2 m g.1 c))
      rw [e1, new_cell h14 hz, ht]
/-- a final field of a constructor's own object -/
theorem Ev.putR {a ci k idx r : Nat} (hdg : decode (Mc M) pc = .ok (.putfield idx, 3)) (hf : Gf (Mo M) idx ci k) (ht : fty ci k = 8) (hK : K a = (0, ci)) (hn : a < g.1) (hr9 : rf a k = r) (hin2 : (My M).name = "<init>") (hdecl : ∀ (C : String) (T : u_T) (N : Nat), vwCl[ci]? = some (C, T, N) → (T k).1 = Mo M) (hq : pc + 3 = q) (kk : Ev Γ d M b Po q L st (g.1, fun x y => if x = a ∧ y = k then true else g.2 x y) m) : Ev Γ d M b Po pc L (rv r :: rv a :: st) g m := by
  subst hq
  intro hL hst hm p e s mi args below meth c H locs ls C hS hW hl
  obtain ⟨hxx, hb, hr, hlk, hml, hown, hnm, hts, hKs, hSK, hsz⟩ := id C
  obtain ⟨Cn, T, N, ty, ⟨hc, hin, hty, hnms⟩, hkN, hT1, hlink⟩ := hf
  obtain ⟨hN, htc, hfin⟩ := fld_ok hc hkN (hty k hkN)
  rw [ht] at htc hfin
  have he := wl_at Γ g m hn
  rw [cellE_obj Γ g.2 m hK] at he
  rw [List.map_cons, List.map_cons, conc_cell Γ hK (by decide), conc_rv]
  obtain ⟨t0, ht0⟩ : ∃ t0, ty k = t0 := ⟨_, rfl⟩
  rw [ht0] at htc
  refine va_putF (D := gD Γ) (ci := ci) (C := Cn) (T := T) (N := N) hxx hb hts hin ty hty hnms hown hKs hW.2 (wl_D Γ g m) hS a he hc k hkN (hts _ hlink) (fun x h => by rw [hT1] at h; exact h) hfin (hnm.trans hin2) (hdecl _ _ _ hc) (ty := t0) (by rw [← ht0]; exact hty k hkN) ?_ ?_ (by rw [flds_len, ← hN]; exact hkN) hdg (fun H1 locs1 hP1 hD1 hS1 => ?_)
  · cases t0 <;> first | rfl | cases htc
  · cases t0 <;> first | rfl | cases htc
  · refine kk hL (okL_tl (okL_tl hst)) hm p e s mi args below meth c H1 locs1 ls C hS1 ?_ hl
    refine WoS.up Γ hW hP1 (S' := fun x y => if x = a ∧ y = k then true else g.2 x y) ?_ (fun c hc => ⟨rfl, funext fun y => if_neg (fun z => hc z.1)⟩)
    rw [cellE_obj Γ _ _ hK, flds_set Γ (S' := fun x y => if x = a ∧ y = k then true else g.2 x y) (m' := m) (v := .ref (ad Γ r)) ?_ (fun j hj => fval_same Γ rfl (if_neg (fun z => hj z.2)))]
    rw [ht]
    unfold fval
    simp [hr9]
end MAKE
