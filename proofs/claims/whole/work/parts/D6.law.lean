/-! ===== the law: its walk ===== -/
def R_law : String := "AllPressedLaw"
def lw_P (b : Addr) (xs : List Int32) (args : Array Value) (s : State) : Prop := args = #[.ref b] ∧ s.IntsAt b xs ∧ xs.length ≤ 3072 ∧ (Jvm.Cond.and given_1 narrow_1).before args s = true
def lw_Q (_ : Array Value) (s : State) (o : Outcome) (t : State) : Prop := o = .returned (some (.int 1)) ∧ Framed s o t [] 600000 7302250
def lw_Z (below : List Frame) (a : Array Value) (s : State) : State → Prop := fun t => ∃ o, t.status = .running ∧ Ended t below o ∧ lw_Q a s o t
/-- the law's own end, with 1 on the stack, nothing written that was there before, its room as the claim has it -/
theorem lw_ret {p : Program} {l : Launch} {e : Env} {R : Room} {s : State} {m : MethodId} {args : Array Value} {below : List Frame} {meth : Method} {c : Code} (hx : p.tables.exec = Jvm.exec) (hb : c.code = code) (hr : meth.sig.returnType = ret) (hlocks : meth.locks = false) {pc : Nat} {H : Heap} {ls : Array Slot} (hdg : decode code pc = .ok (.ireturn, 1)) : W p l e R s m args below meth c H [] 600000 7302250 (lw_Z below args s) (F0 m pc ls [.int 1]) := by
  intro T hT X
  obtain ⟨fs, hret, hrun, hended, hW, hframe⟩ := X.leave (v := some (.int 1)) (hlocks := hlocks) (fun h => by rw [hr] at h; cases h)
  have hmeth' : T.vm.method? m = some meth := X.method'
  refine ⟨T.setFrames fs, ?_, .returned (some (.int 1)), hrun, hended, rfl, ⟨_, rfl⟩, hW, hframe⟩
  jvm_step X.here [X.here.top, hx, hb, hdg, hmeth', hr, ret, narrow_b1]
  (try refine ⟨rfl, ?_⟩); (try refine ⟨rfl, ?_⟩)
  first | (intro acts; rw [hret _ acts rfl rfl rfl]) | rw [hret _ _ rfl rfl rfl]
  exact Steps.refl _
theorem room_le {s : State} {pl : Platform} {R R' : Room} (h : s.hasRoom pl R = true) (h1 : R'.frames ≤ R.frames) (h2 : R'.cells ≤ R.cells) (h3 : R'.slots ≤ R.slots) (h4 : R'.locals ≤ R.locals) : s.hasRoom pl R' = true := by
  simp only [State.hasRoom, Bool.and_eq_true, decide_eq_true_eq] at h ⊢
  obtain ⟨⟨⟨⟨a1, a2, a3, a4, a5, a6⟩, a7⟩, a8⟩, a9⟩ := h
  exact ⟨⟨⟨⟨by omega, by omega, by omega, by omega, by omega, a6⟩, by omega⟩, by omega⟩, a9⟩
theorem W_room {p : Program} {l : Launch} {e : Env} {R R' : Room} {s : State} {m : MethodId} {args : Array Value} {below : List Frame} {meth : Method} {c : Code} {H : Heap} {locs : List Loc} {cells slots : Nat} {Q : State → Prop} {g : JFrame} (h1 : R'.frames ≤ R.frames) (h2 : R'.cells ≤ R.cells) (h3 : R'.slots ≤ R.slots) (h4 : R'.locals ≤ R.locals) (k : W p l e R' s m args below meth c H locs cells slots Q g) : W p l e R s m args below meth c H locs cells slots Q g := fun T hT X => k T hT { X with room := room_le X.room h1 h2 h3 h4 }
def ML : Mth := (RL, x, code, 4, ret, 1)
/-- the script of Ls ints xs at the cell bs -/
def XS (bs Ls : Nat) (xs : Nat → Int32) (Γ : Gm) (s : State) : Prop := va_X bs Ls xs s s.heap ∧ bs < s.heap.size ∧ gb Γ = s.heap.size
/-- the law's walk -/
def Ex (bs Ls : Nat) (xs : Nat → Int32) (Γ : Gm) (d : Nat) (M : Mth) (b : Bd) (pc : Nat) (L st : List Vl) (g : Gh) (m : Mem) : Prop :=
  okL L → okL st → okM m → ∀ (p : Program) (e : Env) (s : State) (mi : MethodId) (args : Array Value) (below : List Frame) (meth : Method) (c : Code) (H : Heap) (locs : List Loc) (ls : Array Slot),
    XS bs Ls xs Γ s → Cx Γ M p s mi args meth c → va_S (bA Γ) s.heap H locs → WoS Γ g m s b H → LOk Γ ls (Mn M) L →
    W p (gl Γ) e (rmm d b.1 b.2.1) s mi args below meth c H locs b.2.2.1 b.2.2.2 (lw_Z below args s) (F0 mi pc ls (st.map (conc Γ)))
section LAW
variable {bs Ls : Nat} {xs : Nat → Int32} {Γ : Gm} {d : Nat} {M : Mth} {b : Bd} {pc q : Nat} {L st : List Vl} {g : Gh} {m : Mem}
theorem Ex.rw {st st' : List Vl} (hok : okL st → okL st') (row : Rw (Mc M) Γ pc q st st') (k : Ex bs Ls xs Γ d M b q L st' g m) : Ex bs Ls xs Γ d M b pc L st g m := by
  intro hL hst hm p e s mi args below meth c H locs ls hX9 C hS hW hl
  exact row p _ e _ s mi args below meth c H locs _ _ _ ls C.1 C.2.1 (k hL (hok hst) hm p e s mi args below meth c H locs ls hX9 C hS hW hl)
theorem Ex.aloadq {i : Fin 4} {a : Nat} (hdg : decode (Mc M) pc = .ok (.aload_n i, 1)) (hi : L[i.val]? = some (qv a)) (hq : pc + 1 = q) (k : Ex bs Ls xs Γ d M b q L (qv a :: st) g m) : Ex bs Ls xs Γ d M b pc L st g m := by
  subst hq
  intro hL hst hm p e s mi args below meth c H locs ls hX9 C hS hW hl
  obtain ⟨hx, hb, hr, hlk, hml, hown, hnm, hts, hK, hSK, hsz⟩ := id C
  exact lv_aload_n hx hb hdg rfl (hl.at hi (by show ¬ (5 : Nat) = 0; decide)) (k hL (okL_cons (okL_at hL hi) hst) hm p e s mi args below meth c H locs ls hX9 C hS hW hl)
theorem Ex.sld {i : Nat} {y : Int} (hdg : decode (Mc M) pc = .ok (.iaload, 1)) (hy : y = (i : Int)) (hi : i < Ls) (hLs : Ls ≤ 3072) (hq : pc + 1 = q) (k : Ex bs Ls xs Γ d M b q L (iv ((xs i).toInt) :: st) g m) : Ex bs Ls xs Γ d M b pc L (iv y :: qv bs :: st) g m := by
  subst hq
  subst hy
  intro hL hst hm p e s mi args below meth c H locs ls hX9 C hS hW hl
  obtain ⟨hx, hb, hr, hlk, hml, hown, hnm, hts, hK, hSK, hsz⟩ := id C
  have hw : w32 (i : Int) = i := w32_of (by omega) (by omega)
  have hn : (Int32.ofInt (i : Int)).toNatClampNeg = i := by rw [i32_nat hw, Int.toNat_natCast]
  have hk := k hL (okL_cons (okV_iv (w32_to _)) (okL_tl (okL_tl hst))) hm p e s mi args below meth c H locs ls hX9 C hS hW hl
  rw [List.map_cons, conc_iv, Int32.ofInt_toInt] at hk
  rw [List.map_cons, List.map_cons, conc_iv, conc_qv]
  refine va_sld hx hb hX9.1 hX9.2.1 (fun z => by have h8 := hX9.2.1; have h9 := hX9.2.2; have z9 : gb Γ ≤ bs := z; omega) hS (i32_in hw ⟨by omega, by omega⟩) hdg ?_
  rw [hn]
  exact hk
theorem Ex.slen (hdg : decode (Mc M) pc = .ok (.arraylength, 1)) (hLs : Ls ≤ 3072) (hq : pc + 1 = q) (k : Ex bs Ls xs Γ d M b q L (iv (Ls : Int) :: st) g m) : Ex bs Ls xs Γ d M b pc L (qv bs :: st) g m := by
  subst hq
  intro hL hst hm p e s mi args below meth c H locs ls hX9 C hS hW hl
  obtain ⟨hx, hb, hr, hlk, hml, hown, hnm, hts, hK, hSK, hsz⟩ := id C
  have hw : w32 (Ls : Int) = Ls := w32_of (by omega) (by omega)
  have hk := k hL (okL_cons (okV_iv hw) (okL_tl hst)) hm p e s mi args below meth c H locs ls hX9 C hS hW hl
  rw [List.map_cons, conc_iv] at hk
  rw [List.map_cons, conc_qv]
  refine va_slen hx hb hX9.1 hX9.2.1 (fun z => by have h8 := hX9.2.1; have h9 := hX9.2.2; have z9 : gb Γ ≤ bs := z; omega) hS hdg ?_
  rw [show Int32.ofNat Ls = Int32.ofInt (Ls : Int) from (Int32.ofInt_eq_ofNat).symm]
  exact hk
theorem Ex.iconst {n : Int} (hdg : decode (Mc M) pc = .ok (.iconst n, 1)) (hv : Int32.ofInt n = Int32.ofInt n ∧ w32 n = n) (hq : pc + 1 = q) (k : Ex bs Ls xs Γ d M b q L (iv n :: st) g m) : Ex bs Ls xs Γ d M b pc L st g m := by
  subst hq
  refine Ex.rw (fun h => okL_cons (okV_iv hv.2) h) (fun p l e R s mi args below meth c H locs cells slots Q ls hx hb k => ?_) k
  exact lv_iconst hx hb hdg hv.1 k
theorem Ex.bipush {n : Int} (hdg : decode (Mc M) pc = .ok (.bipush n, 2)) (hv : (Int8.ofInt n).toInt32 = Int32.ofInt n ∧ w32 n = n) (hq : pc + 2 = q) (k : Ex bs Ls xs Γ d M b q L (iv n :: st) g m) : Ex bs Ls xs Γ d M b pc L st g m := by
  subst hq
  refine Ex.rw (fun h => okL_cons (okV_iv hv.2) h) (fun p l e R s mi args below meth c H locs cells slots Q ls hx hb k => ?_) k
  exact lv_bipush hx hb hdg hv.1 k
theorem Ex.ldc2 {idx : Nat} {v : Int64} {x : Int} (hdg : decode (Mc M) pc = .ok (.ldc2_w idx, 3)) (hw : Cond.constantLong (Mo M) idx v ∈ tb) (hx : v.toInt = x) (hq : pc + 3 = q) (k : Ex bs Ls xs Γ d M b q L (jv x :: st) g m) : Ex bs Ls xs Γ d M b pc L st g m := by
  subst hq
  subst hx
  intro hL hst hm p e s mi args below meth c H locs ls hX9 C hS hW hl
  obtain ⟨hx, hb, hr, hlk, hml, hown, hnm, hts, hK, hSK, hsz⟩ := id C
  refine lv_ldc2 hx hb hown (hts _ hw) hdg ?_
  have := k hL (okL_cons (okV_jv (w64_to v)) hst) hm p e s mi args below meth c H locs ls hX9 C hS hW hl
  rw [List.map_cons, conc_jv, Int64.ofInt_toInt] at this
  exact this
theorem Ex.iload_n {i : Fin 4} {x : Int} (hdg : decode (Mc M) pc = .ok (.iload_n i, 1)) (hi : L[i.val]? = some (iv x)) (hq : pc + 1 = q) (k : Ex bs Ls xs Γ d M b q L (iv x :: st) g m) : Ex bs Ls xs Γ d M b pc L st g m := by
  subst hq
  intro hL hst hm p e s mi args below meth c H locs ls hX9 C hS hW hl
  obtain ⟨hx, hb, hr, hlk, hml, hown, hnm, hts, hK, hSK, hsz⟩ := id C
  exact lv_iload_n hx hb hdg rfl (hl.at hi (by show ¬ (1 : Nat) = 0; decide)) (k hL (okL_cons (okL_at hL hi) hst) hm p e s mi args below meth c H locs ls hX9 C hS hW hl)
theorem Ex.aload_n {i : Fin 4} {x : Nat} (hdg : decode (Mc M) pc = .ok (.aload_n i, 1)) (hi : L[i.val]? = some (rv x)) (hq : pc + 1 = q) (k : Ex bs Ls xs Γ d M b q L (rv x :: st) g m) : Ex bs Ls xs Γ d M b pc L st g m := by
  subst hq
  intro hL hst hm p e s mi args below meth c H locs ls hX9 C hS hW hl
  obtain ⟨hx, hb, hr, hlk, hml, hown, hnm, hts, hK, hSK, hsz⟩ := id C
  exact lv_aload_n hx hb hdg rfl (hl.at hi (by show ¬ (3 : Nat) = 0; decide)) (k hL (okL_cons (okL_at hL hi) hst) hm p e s mi args below meth c H locs ls hX9 C hS hW hl)
theorem Ex.istore_n {i : Fin 4} {x : Int} {L' : List Vl} (hdg : decode (Mc M) pc = .ok (.istore_n i, 1)) (hn : i.val < Mn M) (hs : sto1 L i.val (iv x) = L') (hq : pc + 1 = q) (k : Ex bs Ls xs Γ d M b q L' st g m) : Ex bs Ls xs Γ d M b pc L (iv x :: st) g m := by
  subst hq
  subst hs
  intro hL hst hm p e s mi args below meth c H locs ls hX9 C hS hW hl
  obtain ⟨hx, hb, hr, hlk, hml, hown, hnm, hts, hK, hSK, hsz⟩ := id C
  exact lv_istore_n hx hb hdg rfl hl.has hn rfl (fun ls' hl' => k (okL_sto1 hL (okL_hd hst)) (okL_tl hst) hm p e s mi args below meth c H locs ls' hX9 C hS hW (LOk_st1 (v := iv x) hl hl'))
theorem Ex.astore_n {i : Fin 4} {x : Nat} {L' : List Vl} (hdg : decode (Mc M) pc = .ok (.astore_n i, 1)) (hn : i.val < Mn M) (hs : sto1 L i.val (rv x) = L') (hq : pc + 1 = q) (k : Ex bs Ls xs Γ d M b q L' st g m) : Ex bs Ls xs Γ d M b pc L (rv x :: st) g m := by
  subst hq
  subst hs
  intro hL hst hm p e s mi args below meth c H locs ls hX9 C hS hW hl
  obtain ⟨hx, hb, hr, hlk, hml, hown, hnm, hts, hK, hSK, hsz⟩ := id C
  exact lv_astore_n hx hb hdg rfl hl.has hn rfl (fun ls' hl' => k (okL_sto1 hL (okL_hd hst)) (okL_tl hst) hm p e s mi args below meth c H locs ls' hX9 C hS hW (LOk_st1 (v := rv x) hl hl'))
theorem Ex.iinc {i : Nat} {n x : Int} {L' : List Vl} (hdg : decode (Mc M) pc = .ok (.iinc i n, 3)) (hn : i < Mn M) (hi : L[i]? = some (iv x)) (hs : sto1 L i (iv (w32 (x + n))) = L') (hq : pc + 3 = q) (k : Ex bs Ls xs Γ d M b q L' st g m) : Ex bs Ls xs Γ d M b pc L st g m := by
  subst hq
  subst hs
  intro hL hst hm p e s mi args below meth c H locs ls hX9 C hS hW hl
  obtain ⟨hx, hb, hr, hlk, hml, hown, hnm, hts, hK, hSK, hsz⟩ := id C
  have hmem := lvl_mem (Γ := Γ) hi (by show ¬ (1 : Nat) = 0; decide)
  obtain ⟨j, hj⟩ := List.getElem?_of_mem hmem
  refine lv_iinc (v := Int32.ofInt (w32 (x + n))) hx hb hdg hl.has (k := j) hj (by rw [of_w32, Int32.ofInt_add]) hn rfl (fun ls' hl' => ?_)
  exact k (okL_sto1 hL (okV_iv (w32_w32 _))) hst hm p e s mi args below meth c H locs ls' hX9 C hS hW (LOk_st1 (v := iv (w32 (x + n))) hl hl')
theorem Ex.iadd {x y : Int} (hdg : decode (Mc M) pc = .ok (.iadd, 1)) (hq : pc + 1 = q) (k : Ex bs Ls xs Γ d M b q L (iv (w32 (x + y)) :: st) g m) : Ex bs Ls xs Γ d M b pc L (iv y :: iv x :: st) g m := by
  subst hq
  intro hL hst hm p e s mi args below meth c H locs ls hX9 C hS hW hl
  have hy := okV_i (okL_hd hst)
  have hxx := okV_i (okL_hd (okL_tl hst))
  have := k hL (okL_cons (okV_iv (w32_w32 _)) (okL_tl (okL_tl hst))) hm p e s mi args below meth c H locs ls hX9 C hS hW hl
  rw [List.map_cons, conc_iv] at this
  rw [List.map_cons, List.map_cons, conc_iv, conc_iv]
  refine lv_iadd C.1 C.2.1 hdg ?_
  rw [of_w32, Int32.ofInt_add] at this
  exact this
theorem Ex.isub {x y : Int} (hdg : decode (Mc M) pc = .ok (.isub, 1)) (hq : pc + 1 = q) (k : Ex bs Ls xs Γ d M b q L (iv (w32 (x - y)) :: st) g m) : Ex bs Ls xs Γ d M b pc L (iv y :: iv x :: st) g m := by
  subst hq
  intro hL hst hm p e s mi args below meth c H locs ls hX9 C hS hW hl
  have hy := okV_i (okL_hd hst)
  have hxx := okV_i (okL_hd (okL_tl hst))
  have := k hL (okL_cons (okV_iv (w32_w32 _)) (okL_tl (okL_tl hst))) hm p e s mi args below meth c H locs ls hX9 C hS hW hl
  rw [List.map_cons, conc_iv] at this
  rw [List.map_cons, List.map_cons, conc_iv, conc_iv]
  refine lv_isub C.1 C.2.1 hdg ?_
  rw [of_w32, Int32.ofInt_sub] at this
  exact this
theorem Ex.iand {x y : Int} (hdg : decode (Mc M) pc = .ok (.iand, 1)) (hq : pc + 1 = q) (k : Ex bs Ls xs Γ d M b q L (iv (o_iand x y) :: st) g m) : Ex bs Ls xs Γ d M b pc L (iv y :: iv x :: st) g m := by
  subst hq
  intro hL hst hm p e s mi args below meth c H locs ls hX9 C hS hW hl
  have hy := okV_i (okL_hd hst)
  have hxx := okV_i (okL_hd (okL_tl hst))
  have := k hL (okL_cons (okV_iv (w32_to _)) (okL_tl (okL_tl hst))) hm p e s mi args below meth c H locs ls hX9 C hS hW hl
  rw [List.map_cons, conc_iv] at this
  rw [List.map_cons, List.map_cons, conc_iv, conc_iv]
  refine lv_iand C.1 C.2.1 hdg ?_
  unfold o_iand at this
  rw [Int32.ofInt_toInt] at this
  exact this
theorem Ex.land {x y : Int} (hdg : decode (Mc M) pc = .ok (.land, 1)) (hq : pc + 1 = q) (k : Ex bs Ls xs Γ d M b q L (jv (o_land x y) :: st) g m) : Ex bs Ls xs Γ d M b pc L (jv y :: jv x :: st) g m := by
  subst hq
  intro hL hst hm p e s mi args below meth c H locs ls hX9 C hS hW hl
  have hy := okV_j (okL_hd hst)
  have hxx := okV_j (okL_hd (okL_tl hst))
  have := k hL (okL_cons (okV_jv (w64_to _)) (okL_tl (okL_tl hst))) hm p e s mi args below meth c H locs ls hX9 C hS hW hl
  rw [List.map_cons, conc_jv] at this
  rw [List.map_cons, List.map_cons, conc_jv, conc_jv]
  refine lv_land C.1 C.2.1 hdg ?_
  unfold o_land at this
  rw [Int64.ofInt_toInt] at this
  exact this
theorem Ex.lor {x y : Int} (hdg : decode (Mc M) pc = .ok (.lor, 1)) (hq : pc + 1 = q) (k : Ex bs Ls xs Γ d M b q L (jv (o_lor x y) :: st) g m) : Ex bs Ls xs Γ d M b pc L (jv y :: jv x :: st) g m := by
  subst hq
  intro hL hst hm p e s mi args below meth c H locs ls hX9 C hS hW hl
  have hy := okV_j (okL_hd hst)
  have hxx := okV_j (okL_hd (okL_tl hst))
  have := k hL (okL_cons (okV_jv (w64_to _)) (okL_tl (okL_tl hst))) hm p e s mi args below meth c H locs ls hX9 C hS hW hl
  rw [List.map_cons, conc_jv] at this
  rw [List.map_cons, List.map_cons, conc_jv, conc_jv]
  refine lv_lor C.1 C.2.1 hdg ?_
  unfold o_lor at this
  rw [Int64.ofInt_toInt] at this
  exact this
theorem Ex.lshl {x y : Int} (hdg : decode (Mc M) pc = .ok (.lshl, 1)) (hq : pc + 1 = q) (k : Ex bs Ls xs Γ d M b q L (jv (o_lshl x y) :: st) g m) : Ex bs Ls xs Γ d M b pc L (iv y :: jv x :: st) g m := by
  subst hq
  intro hL hst hm p e s mi args below meth c H locs ls hX9 C hS hW hl
  have hy := okV_i (okL_hd hst)
  have hxx := okV_j (okL_hd (okL_tl hst))
  have := k hL (okL_cons (okV_jv (w64_to _)) (okL_tl (okL_tl hst))) hm p e s mi args below meth c H locs ls hX9 C hS hW hl
  rw [List.map_cons, conc_jv] at this
  rw [List.map_cons, List.map_cons, conc_iv, conc_jv]
  refine lv_lshl C.1 C.2.1 hdg (v := _) rfl ?_
  unfold o_lshl at this
  rw [Int64.ofInt_toInt] at this
  exact this
theorem Ex.i2l {x : Int} (hdg : decode (Mc M) pc = .ok (.i2l, 1)) (hq : pc + 1 = q) (k : Ex bs Ls xs Γ d M b q L (jv (x) :: st) g m) : Ex bs Ls xs Γ d M b pc L (iv x :: st) g m := by
  subst hq
  intro hL hst hm p e s mi args below meth c H locs ls hX9 C hS hW hl
  have hxx := okV_i (okL_hd hst)
  have := k hL (okL_cons (okV_jv (w64_of32 hxx)) (okL_tl hst)) hm p e s mi args below meth c H locs ls hX9 C hS hW hl
  rw [List.map_cons, conc_jv] at this
  rw [List.map_cons, conc_iv]
  refine lv_i2l C.1 C.2.1 hdg (v := Int64.ofInt x) ?_ this
  apply Int64.toInt_inj.mp
  rw [Int32.toInt_toInt64]
  exact hxx.trans (w64_of32 hxx).symm
theorem Ex.lcmp {x y : Int} (hdg : decode (Mc M) pc = .ok (.lcmp, 1)) (hq : pc + 1 = q) (k : Ex bs Ls xs Γ d M b q L (iv (o_lcmp x y) :: st) g m) : Ex bs Ls xs Γ d M b pc L (jv y :: jv x :: st) g m := by
  subst hq
  intro hL hst hm p e s mi args below meth c H locs ls hX9 C hS hW hl
  have := k hL (okL_cons (okV_iv (w32_to _)) (okL_tl (okL_tl hst))) hm p e s mi args below meth c H locs ls hX9 C hS hW hl
  rw [List.map_cons, conc_iv] at this
  rw [List.map_cons, List.map_cons, conc_jv, conc_jv]
  unfold o_lcmp at this
  rw [Int32.ofInt_toInt] at this
  exact W.lcmp C.1 C.2.1 hdg this
theorem Ex.dup {v : Vl} (hdg : decode (Mc M) pc = .ok (.dup, 1)) (hv : v.1 ≠ 2) (hq : pc + 1 = q) (k : Ex bs Ls xs Γ d M b q L (v :: v :: st) g m) : Ex bs Ls xs Γ d M b pc L (v :: st) g m := by
  subst hq
  exact Ex.rw (fun h => okL_cons (okL_hd h) h) (fun p l e R s mi args below meth c H locs cells slots Q ls hx hb k => lv_dup hx hb hdg (conc_cat hv) k) k
theorem Ex.goto {off : Int} (hdg : decode (Mc M) pc = .ok (.goto off, 3)) (hq : (pc : Int) + off = (q : Int)) (k : Ex bs Ls xs Γ d M b q L st g m) : Ex bs Ls xs Γ d M b pc L st g m :=
  Ex.rw id (fun p l e R s mi args below meth c H locs cells slots Q ls hx hb k => lv_goto hx hb hdg hq k) k
theorem Ex.icmp_eq {x y : Int} {off : Int} {tgt : Nat} (hdg : decode (Mc M) pc = .ok (.if_icmp .eq off, 3)) (ht : (pc : Int) + off = (tgt : Int)) (hq : pc + 3 = q) (kt : x = y → Ex bs Ls xs Γ d M b tgt L st g m) (kf : ¬ (x = y) → Ex bs Ls xs Γ d M b q L st g m) : Ex bs Ls xs Γ d M b pc L (iv y :: iv x :: st) g m := by
  subst hq
  intro hL hst hm p e s mi args below meth c H locs ls hX9 C hS hW hl
  have hY := okV_i (okL_hd hst)
  have hX := okV_i (okL_hd (okL_tl hst))
  have hst' := okL_tl (okL_tl hst)
  exact lv_icmp_eq C.1 C.2.1 hdg ht (fun h => kt ((i32_eq hX hY).mp h) hL hst' hm p e s mi args below meth c H locs ls hX9 C hS hW hl) (fun h => kf (fun z => h ((i32_eq hX hY).mpr z)) hL hst' hm p e s mi args below meth c H locs ls hX9 C hS hW hl)
theorem Ex.if_eq {x : Int} {off : Int} {tgt : Nat} (hdg : decode (Mc M) pc = .ok (.ifCond .eq off, 3)) (ht : (pc : Int) + off = (tgt : Int)) (hq : pc + 3 = q) (kt : x = 0 → Ex bs Ls xs Γ d M b tgt L st g m) (kf : ¬ (x = 0) → Ex bs Ls xs Γ d M b q L st g m) : Ex bs Ls xs Γ d M b pc L (iv x :: st) g m := by
  subst hq
  intro hL hst hm p e s mi args below meth c H locs ls hX9 C hS hW hl
  have hX := okV_i (okL_hd hst)
  have hY := w0
  have hst' := okL_tl hst
  exact lv_if_eq C.1 C.2.1 hdg ht (fun h => kt ((i32_eq hX hY).mp h) hL hst' hm p e s mi args below meth c H locs ls hX9 C hS hW hl) (fun h => kf (fun z => h ((i32_eq hX hY).mpr z)) hL hst' hm p e s mi args below meth c H locs ls hX9 C hS hW hl)
theorem Ex.icmp_gt {x y : Int} {off : Int} {tgt : Nat} (hdg : decode (Mc M) pc = .ok (.if_icmp .gt off, 3)) (ht : (pc : Int) + off = (tgt : Int)) (hq : pc + 3 = q) (kt : y < x → Ex bs Ls xs Γ d M b tgt L st g m) (kf : ¬ (y < x) → Ex bs Ls xs Γ d M b q L st g m) : Ex bs Ls xs Γ d M b pc L (iv y :: iv x :: st) g m := by
  subst hq
  intro hL hst hm p e s mi args below meth c H locs ls hX9 C hS hW hl
  have hY := okV_i (okL_hd hst)
  have hX := okV_i (okL_hd (okL_tl hst))
  have hst' := okL_tl (okL_tl hst)
  exact lv_icmp_gt C.1 C.2.1 hdg ht (fun h => kt ((i32_lt hY hX).mp h) hL hst' hm p e s mi args below meth c H locs ls hX9 C hS hW hl) (fun h => kf (fun z => h ((i32_lt hY hX).mpr z)) hL hst' hm p e s mi args below meth c H locs ls hX9 C hS hW hl)
theorem Ex.tabOut {dflt lo hi x : Int} {offs : Array Int} {len : Nat} (hdg : decode (Mc M) pc = .ok (.tableswitch dflt lo hi offs, len)) (h : x < lo ∨ hi < x) (ht : (pc : Int) + dflt = (q : Int)) (k : Ex bs Ls xs Γ d M b q L st g m) : Ex bs Ls xs Γ d M b pc L (iv x :: st) g m := by
  intro hL hst hm p e s mi args below meth c H locs ls hX9 C hS hW hl
  have hX : (Int32.ofInt x).toInt = x := okV_i (okL_hd hst)
  exact lv_tableOut C.1 C.2.1 hdg (by rw [hX]; exact h) ht (k hL (okL_tl hst) hm p e s mi args below meth c H locs ls hX9 C hS hW hl)
theorem Ex.tabIn {dflt lo hi x : Int} {offs : Array Int} {len : Nat} {off : Int} (hdg : decode (Mc M) pc = .ok (.tableswitch dflt lo hi offs, len)) (h1 : ¬ x < lo) (h2 : ¬ hi < x) (ho : offs[(x - lo).toNat]? = some off) (ht : (pc : Int) + off = (q : Int)) (k : Ex bs Ls xs Γ d M b q L st g m) : Ex bs Ls xs Γ d M b pc L (iv x :: st) g m := by
  intro hL hst hm p e s mi args below meth c H locs ls hX9 C hS hW hl
  have hX : (Int32.ofInt x).toInt = x := okV_i (okL_hd hst)
  exact lv_tableIn C.1 C.2.1 hdg (by rw [hX]; exact h1) (by rw [hX]; exact h2) (by rw [hX]; exact ho) ht (k hL (okL_tl hst) hm p e s mi args below meth c H locs ls hX9 C hS hW hl)
theorem run_ex {p : Program} {e : Env} {s : State} {mi : MethodId} {args : Array Value} {below : List Frame} {meth : Method} {c : Code} {H : Heap} {locs : List Loc} {ls : Array Slot} {M' : Mth} {Po' : Pos} {mc' ms' : Nat} {rest : List Vl} {st0 : List Value} {av : Array Value}
    (hL : okL L) (hrest : okL rest) (hX9 : XS bs Ls xs Γ s) (C : Cx Γ M p s mi args meth c) (hS : va_S (bA Γ) s.heap H locs) (hW : WoS Γ g m s b H) (hl : LOk Γ ls (Mn M) L)
    (run : gb Γ + g.1 = H.size → va_Run p (gl Γ) e (rmm d b.1 b.2.1) s mi args below meth c H locs b.2.2.1 b.2.2.2 mc' ms' (F0 mi pc ls st0) (rest.map (conc Γ)) (QcE Γ M' Po' av) (bA Γ))
    (hg : ∀ v g' m', Po' v g' m' → g'.1 = g.1 + mc')
    (k : ∀ v g' m', v.1 = rtag (Mr M') → Po' v g' m' → Ex bs Ls xs Γ d M (b.1, b.2.1, b.2.2.1 + mc', b.2.2.2 + ms') (pc + 3) L (psh v rest) g' m') :
    W p (gl Γ) e (rmm d b.1 b.2.1) s mi args below meth c H locs b.2.2.1 b.2.2.2 (lw_Z below args s) (F0 mi pc ls st0) := by
  intro T hT X
  have hz := size_of X hT hS hW C.2.2.2.2.2.2.2.2.2.2
  obtain ⟨v, st₀, t, T', Lc, h0, X', hLc, e1, e2, ⟨⟨r, g', m', hpo, hokr, hokm, htag, hv, hWo'⟩, hz1, hk1⟩, step⟩ := run hz T hT X
  have hv : v = rvo Γ r := by cases hv; rfl
  subst hv
  rw [h0] at hz1 hk1
  have hg' := hg r g' m' hpo
  have hpsh : okL (psh r rest) := by
    unfold psh
    split
    · exact hrest
    · exact okL_cons hokr hrest
  have hS' : va_S (bA Γ) s.heap T'.heap (locs ++ Lc) := ⟨Nat.le_trans hS.1 (by rw [e1]; exact hz1), fun q h1 h2 => by rw [e1, hk1 q (Nat.lt_of_lt_of_le h1 hS.1) h2]; exact hS.2.1 q h1 h2, fun q hq => by
    rcases List.mem_append.mp hq with h | h
    · exact hS.2.2 q h
    · exact hLc q h⟩
  have hK := k r g' m' htag hpo hL hpsh hokm p e s mi args below meth c T'.heap (locs ++ Lc) ls hX9 C hS' ⟨by have := hW.1; show gb Γ + g'.1 = s.heap.size + (b.2.2.1 + mc'); omega, by rw [e1]; exact hWo'⟩ hl
  rw [← psh_map] at hK
  obtain ⟨t2, a1, b1⟩ := hK T' rfl X'
  exact ⟨t2, step t2 a1, b1⟩
theorem Ex.callV {M' : Mth} {d' a ci idx : Nat} {As rest : List Vl} {Po' : Pos} (hdg : decode (Mc M) pc = .ok (.invokevirtual idx, 3)) (hl : Cond.methodLink (Mo M) idx (My M') ∈ tb) (hok : MOk M') (hv : MVt M') (hK : K a = (0, ci)) (hC : (vwCl[ci]?).map (fun q => q.1) = some (Mo M')) (hn : a < g.1) (hlen : As.length = Mp M') (hst : st = As.reverse ++ rv a :: rest) (hsum : catS rest ≤ 8) (hd : d' + 1 ≤ d) (h45 : Mn M' ≤ 45) (hbd : b.2.2.1 ≤ b.1 ∧ b.2.2.2 ≤ b.2.1)
    (hc : Cl Γ d' M' 0 0 (rv a :: As) g m Po') (hg : ∀ v g' m', Po' v g' m' → g'.1 = g.1) (hq : pc + 3 = q) (k : ∀ v g' m', v.1 = rtag (Mr M') → Po' v g' m' → Ex bs Ls xs Γ d M b q L (psh v rest) g' m') : Ex bs Ls xs Γ d M b pc L st g m := by
  subst hq
  subst hst
  intro hL hst hm p e s mi args below meth c H locs ls hX9 C hS hW hlo
  obtain ⟨hx, hb, hr, hlk, hml, hown, hnm, hts, hKs, hSK, hsz⟩ := id C
  have hrest : okL rest := fun w hw => hst w (List.mem_append_right _ (List.mem_cons_of_mem _ hw))
  have hAs : okL (rv a :: As) := okL_cons (okV_rv a) (fun w hw => hst w (List.mem_append_left _ (List.mem_reverse.mpr hw)))
  have he := wl_at Γ g m hn
  rw [cellE_obj Γ g.2 m hK] at he
  refine run_ex (M' := M') (Po' := Po') (mc' := 0) (ms' := 0) (rest := rest) (av := (Value.ref (ad Γ a) :: As.map (conc Γ)).toArray) hL hrest hX9 C hS hW hlo (fun hz => ?_) hg k
  cases hci : vwCl[ci]? with
  | none => rw [hci] at hC; cases hC
  | some qc =>
    rw [hci] at hC
    have hqc : qc.1 = Mo M' := Option.some.inj hC
    refine va_runV (C := qc.1) (As := As.map (conc Γ)) (b := ad Γ a) (Pc := PcE Γ (rv a :: As) g m) ⟨hx, hb, hml, hown, hts⟩ hc ⟨callB hok hts hl hd h45, hts _ hv.1, by rw [hqc]; exact hts _ hv.2⟩ ⟨PcE.blind _ _ _ _, ?_, pre_of hS hW hKs hSK hAs hm hz⟩ rfl (by rw [List.length_map]; exact hlen) hlo.1 ?_ (lv_room (by rw [catS_eq]; exact hsum)) hdg ⟨hbd.1, hbd.2⟩
    · rw [ad_cell Γ hK (by decide)]
      exact va_recv hKs hW.2 hci he
    · show (As.reverse ++ rv a :: rest).map (conc Γ) = _
      rw [List.map_append, List.map_reverse, List.map_cons, conc_rv]
theorem Ex.newc {ci idx : Nat} {Cn : String} {T : u_T} {N : Nat} {ty : Nat → FieldType} (hdg : decode (Mc M) pc = .ok (.new idx, 3)) (hCK : CK ci Cn T N ty) (hcl : Cond.classLink (Mo M) idx Cn ∈ tb) (hinst : Cond.instantiable Cn N ∈ tb) (hini : Cond.initialized Cn ∈ tb) (hK : K g.1 = (0, ci)) (hz : ∀ j, (fty ci j = 9 → m g.1 j < 0) ∧ (fty ci j ≠ 9 → m g.1 j = 0)) (hS0 : ∀ j, g.2 g.1 j = false) (hb1 : b.2.2.1 + 1 ≤ b.1) (hb2 : b.2.2.2 + N ≤ b.2.1) (hq : pc + 3 = q) (kk : Ex bs Ls xs Γ d M (b.1, b.2.1, b.2.2.1 + 1, b.2.2.2 + N) q L (rv g.1 :: st) (g.1 + 1, g.2) m) : Ex bs Ls xs Γ d M b pc L st g m := by
  subst hq
  intro hL hst hm p e s mi args below meth cd H locs ls hX9 C hS hW hlo T0 hT X
  obtain ⟨hxx, hb, hr, hlk, hml, hown, hnm, hts, hKs, hSK, hsz⟩ := id C
  have hz9 := size_of X hT hS hW hsz
  obtain ⟨hc, hin, hty, hnms⟩ := hCK
  have hKn := hKs.1 ci _ hc
  suffices key : W p (gl Γ) e (rmm d b.1 b.2.1) s mi args below meth cd H locs b.2.2.1 b.2.2.2 (lw_Z below args s) (F0 mi pc ls (st.map (conc Γ))) from key T0 hT X
  refine W.newcK (cc := Mc M) (h := gb Γ + g.1) hxx hb hown (hts _ hcl) (hts _ hinst) (hts _ hini) rfl hdg hb1 hb2 hKn.2.1 hz9.symm (fun H1 kC hkC e1 z1 o1 => ?_)
  have hk := kk hL (okL_cons (okV_rv _) hst) hm p e s mi args below meth cd H1 locs ls hX9 C ⟨by have := hS.1; omega, fun q h1 h2 => (o1 q (by have := hS.1; omega)).trans (hS.2.1 q h1 h2), hS.2.2⟩ ⟨by have := hW.1; show gb Γ + (g.1 + 1) = s.heap.size + (b.2.2.1 + 1); omega, Wo.push hW.2 (fun q hq => o1 q (by omega)) ?_⟩ hlo
  · rw [List.map_cons, conc_cell Γ hK (by decide)] at hk
    exact hk
  · rw [cellE_obj Γ g.2 m hK]
    refine ⟨_, hc, (u_born ty hts hin hKn hkC e1 hty).to (fun j hj => ?_)⟩
    obtain ⟨hN, htc, -⟩ := fld_ok hc hj (hty j hj)
    have hv : vp_V (flds Γ g.2 m g.1 ci) j = fval Γ g.2 m g.1 j (fty ci j) := by
      unfold vp_V flds
      rw [List.getD_eq_getElem?_getD, List.getElem?_map, List.getElem?_range (by rw [← hN]; exact hj)]
      rfl
    rw [hv]
    have hz1 := hz j
    have hs1 := hS0 j
    obtain ⟨t0, ht0⟩ : ∃ t0, ty j = t0 := ⟨_, rfl⟩
    obtain ⟨f0, hf0⟩ : ∃ f0, fty ci j = f0 := ⟨_, rfl⟩
    rw [ht0, hf0] at htc
    rw [hf0] at hz1
    rw [ht0, hf0]
    unfold fval
    by_cases h4 : f0 = 4
    · subst h4
      rw [if_pos rfl, hz1.2 (by decide), i64_z]
      cases t0 <;> first | rfl | cases htc
    · rw [if_neg h4]
      by_cases h8 : f0 = 8
      · subst h8
        rw [if_pos rfl, hs1]
        cases t0 <;> first | rfl | cases htc
      · rw [if_neg h8]
        by_cases h99 : f0 = 9
        · subst h99
          rw [if_pos rfl, if_pos (hz1.1 rfl)]
          cases t0 <;> first | rfl | cases htc
        · rw [if_neg h99, hz1.2 h99, i32_z]
          cases t0 <;> first | rfl | (unfold tyc at htc; split at htc <;> first | contradiction | rfl)
theorem Ex.callI {M' : Mth} {d' a idx mc' ms' : Nat} {As rest : List Vl} {Po' : Pos} (hdg : decode (Mc M) pc = .ok (.invokespecial idx, 3)) (hl : Cond.methodLink (Mo M) idx (My M') ∈ tb) (hok : MOk M') (hv : MIn M') (hret : Mr M' = none) (hlen : As.length = Mp M') (hst : st = As.reverse ++ rv a :: rest) (hsum : catS rest ≤ 8) (hd : d' + 1 ≤ d) (h45 : Mn M' ≤ 45) (hb1 : b.2.2.1 + mc' ≤ b.1) (hb2 : b.2.2.2 + ms' ≤ b.2.1)
    (hc : Cl Γ d' M' mc' ms' (rv a :: As) g m Po') (hg : ∀ v g' m', Po' v g' m' → g'.1 = g.1 + mc') (hq : pc + 3 = q) (k : ∀ v g' m', v.1 = rtag (Mr M') → Po' v g' m' → Ex bs Ls xs Γ d M (b.1, b.2.1, b.2.2.1 + mc', b.2.2.2 + ms') q L (psh v rest) g' m') : Ex bs Ls xs Γ d M b pc L st g m := by
  subst hq
  subst hst
  intro hL hst hm p e s mi args below meth c H locs ls hX9 C hS hW hlo
  obtain ⟨hx, hb, hr, hlk, hml, hown, hnm, hts, hKs, hSK, hsz⟩ := id C
  have hrest : okL rest := fun w hw => hst w (List.mem_append_right _ (List.mem_cons_of_mem _ hw))
  have hAs : okL (rv a :: As) := okL_cons (okV_rv a) (fun w hw => hst w (List.mem_append_left _ (List.mem_reverse.mpr hw)))
  refine run_ex (M' := M') (Po' := Po') (mc' := mc') (ms' := ms') (rest := rest) (av := (Value.ref (ad Γ a) :: As.map (conc Γ)).toArray) hL hrest hX9 C hS hW hlo (fun hz => ?_) hg k
  have hcb := callB (mc' := mc') (ms' := ms') (b := b) (M := M) (M' := M') (d := d) (d' := d') (s := s) (args := args) hok hts hl hd h45
  rw [hret] at hcb
  refine va_runI (As := As.map (conc Γ)) (b := ad Γ a) (Pc := PcE Γ (rv a :: As) g m) ⟨hx, hb, hml, hown, hts⟩ hc ⟨hcb, hv.2, hts _ hv.1⟩ ⟨PcE.blind _ _ _ _, pre_of hS hW hKs hSK hAs hm hz⟩ rfl (by rw [List.length_map]; exact hlen) hlo.1 ?_ (lv_room (by rw [catS_eq]; exact hsum)) hdg ⟨hb1, hb2⟩
  show (As.reverse ++ rv a :: rest).map (conc Γ) = _
  rw [List.map_append, List.map_reverse, List.map_cons, conc_rv]
theorem Ex.end1 (hM : M = ML) (hdg : decode code pc = .ok (.ireturn, 1)) (hbd : b.2.2.1 ≤ 600000 ∧ b.2.2.2 ≤ 7302250) : Ex bs Ls xs Γ d M b pc L [iv 1] g m := by
  subst hM
  intro hL hst hm p e s mi args below meth c H locs ls hX9 C hS hW hl
  obtain ⟨hx, hb, hr, hlk, hml, hown, hnm, hts, hK, hSK, hsz⟩ := id C
  refine W.widen hbd.1 hbd.2 ?_
  refine va_forget (fun q hq => Nat.le_trans (Nat.le_of_eq hX9.2.2.symm) (hS.2.2 q hq)) ?_
  exact lw_ret hx hb hr hlk hdg
theorem Ex.psh1 {v : Vl} {rest : List Vl} (h : v.1 = 1) (k : Ex bs Ls xs Γ d M b pc L (iv v.2 :: rest) g m) : Ex bs Ls xs Γ d M b pc L (psh v rest) g m := by
  have e : psh v rest = iv v.2 :: rest := by
    unfold psh
    rw [if_neg (by omega), ← vl_i h]
  rw [e]
  exact k
theorem Ex.psh2 {v : Vl} {rest : List Vl} (h : v.1 = 2) (k : Ex bs Ls xs Γ d M b pc L (jv v.2 :: rest) g m) : Ex bs Ls xs Γ d M b pc L (psh v rest) g m := by
  have e : psh v rest = jv v.2 :: rest := by
    unfold psh
    rw [if_neg (by omega), ← vl_j h]
  rw [e]
  exact k
theorem Ex.psh0 {v : Vl} {rest : List Vl} (h : v.1 = 0) (k : Ex bs Ls xs Γ d M b pc L rest g m) : Ex bs Ls xs Γ d M b pc L (psh v rest) g m := by
  have e : psh v rest = rest := by
    unfold psh
    rw [if_pos h]
  rw [e]
  exact k
theorem Ex.cg {n : Nat} {S S' : Nat → Nat → Bool} (h : eqS n S S') (kk : Ex bs Ls xs Γ d M b pc L st (n, S') m) : Ex bs Ls xs Γ d M b pc L st (n, S) m := by
  intro hL hst hm p e s mi args below meth cd H locs ls hX9 C hS hW hl
  exact kk hL hst hm p e s mi args below meth cd H locs ls hX9 C hS ⟨hW.1, Wo.cg Γ h hW.2⟩ hl
end LAW
theorem o_lcmp_self (x : Int) : o_lcmp x x = 0 := by
  unfold o_lcmp lg_cmp
  simp
