/-! ===== operations on bits, on 32 and 64 of them ===== -/
def o_iand (x y : Int) : Int := (Int32.ofInt x &&& Int32.ofInt y).toInt
def o_ior (x y : Int) : Int := (Int32.ofInt x ||| Int32.ofInt y).toInt
def o_ixor (x y : Int) : Int := (Int32.ofInt x ^^^ Int32.ofInt y).toInt
def o_ishl (x y : Int) : Int := (Int32.ofInt x <<< (Int32.ofInt y &&& 31)).toInt
def o_ishr (x y : Int) : Int := (Int32.ofInt x >>> (Int32.ofInt y &&& 31)).toInt
def o_iushr (x y : Int) : Int := ((Int32.ofInt x).toUInt32 >>> ((Int32.ofInt y).toUInt32 &&& Int32.toUInt32 31)).toInt32.toInt
def o_idiv (x y : Int) : Int := (Int32.ofInt x / Int32.ofInt y).toInt
def o_irem (x y : Int) : Int := (Int32.ofInt x - Int32.ofInt x / Int32.ofInt y * Int32.ofInt y).toInt
def o_land (x y : Int) : Int := (Int64.ofInt x &&& Int64.ofInt y).toInt
def o_lor (x y : Int) : Int := (Int64.ofInt x ||| Int64.ofInt y).toInt
def o_ldiv (x y : Int) : Int := (Int64.ofInt x / Int64.ofInt y).toInt
def o_lrem (x y : Int) : Int := (Int64.ofInt x - Int64.ofInt x / Int64.ofInt y * Int64.ofInt y).toInt
def o_lshl (x y : Int) : Int := (Int64.ofInt x <<< ((Int32.ofInt y).toInt64 &&& 63)).toInt
def o_lshr (x y : Int) : Int := (Int64.ofInt x >>> ((Int32.ofInt y).toInt64 &&& 63)).toInt
def i8 (x : Int) : Int := ((Int32.ofInt x).toInt8.toInt32).toInt
def i16 (x : Int) : Int := ((Int32.ofInt x).toInt16.toInt32).toInt
def ich (x : Int) : Int := ((Int32.ofInt x).toUInt32 % 65536).toInt32.toInt
def o_lcmp (x y : Int) : Int := (lg_cmp (Int64.ofInt x) (Int64.ofInt y)).toInt
/-! ===== contracts and walks ===== -/
def rvo (Γ : Gm) (v : Vl) : Option Value := if v.1 = 0 then none else some (conc Γ v)
def rtag (r : Option FieldType) : Nat := match r with
  | none => 0
  | some .long => 2
  | some _ => 1
def rmm (d mc ms : Nat) : Room := { frames := d, cells := mc, slots := ms, locals := 64 * d }
abbrev Pos : Type := Vl → Gh → Mem → Prop
def QcE (Γ : Gm) (M : Mth) (Po : Pos) : Array Value → State → Outcome → State → Prop := fun _ st oc t => (∃ (v : Vl) (g : Gh) (m : Mem), Po v g m ∧ okV v ∧ okM m ∧ v.1 = rtag (Mr M) ∧ oc = .returned (rvo Γ v) ∧ Wo Γ g m t.heap) ∧ va_F (bA Γ) st t
def PcE (Γ : Gm) (As : List Vl) (g : Gh) (m : Mem) : Array Value → State → Prop := va_Pc (As.map (conc Γ)) (fun U => gb Γ + g.1 = U.heap.size ∧ Wo Γ g m U.heap ∧ WK Γ U ∧ SK Γ U U.heap ∧ okL As ∧ okM m)
def wsM (M : Mth) : List Cond := Cond.code (My M) (Mc M) (Mn M) (Mr M) :: tb
/-- a method's contract at depth d: from the arguments As and the memory m it returns, and Po holds of its answer and the memory then -/
def Cl (Γ : Gm) (d : Nat) (M : Mth) (mc ms : Nat) (As : List Vl) (g : Gh) (m : Mem) (Po : Pos) : Prop := Met (gl Γ) (My M) (wsM M) (rmm d mc ms) (PcE Γ As g m) (QcE Γ M Po) mc ms (bA Γ)
def Cx (Γ : Gm) (M : Mth) (p : Program) (s : State) (mi : MethodId) (args : Array Value) (meth : Method) (c : Code) : Prop :=
  p.tables.exec = Jvm.exec ∧ c.code = Mc M ∧ meth.sig.returnType = Mr M ∧ meth.locks = false ∧ c.maxLocals = Mn M ∧ s.vm.findClass (Mo M) = some mi.cls ∧ meth.name = (My M).name ∧ (∀ w ∈ tb, w.before args s = true) ∧ WK Γ s ∧ SK Γ s s.heap ∧ gb Γ ≤ s.heap.size
abbrev Bd : Type := Nat × Nat × Nat × Nat
/-- the world in a walk: how many cells came since the method's start is known -/
def WoS (Γ : Gm) (g : Gh) (m : Mem) (s : State) (b : Bd) (H : Heap) : Prop := gb Γ + g.1 = s.heap.size + b.2.2.1 ∧ Wo Γ g m H
/-- the walk: at pc of method M, with locals L, stack st, memory m, it comes to M's end with Po -/
def Ev (Γ : Gm) (d : Nat) (M : Mth) (b : Bd) (Po : Pos) (pc : Nat) (L st : List Vl) (g : Gh) (m : Mem) : Prop :=
  okL L → okL st → okM m → ∀ (p : Program) (e : Env) (s : State) (mi : MethodId) (args : Array Value) (below : List Frame) (meth : Method) (c : Code) (H : Heap) (locs : List Loc) (ls : Array Slot),
    Cx Γ M p s mi args meth c → va_S (bA Γ) s.heap H locs → WoS Γ g m s b H → LOk Γ ls (Mn M) L →
    W p (gl Γ) e (rmm d b.1 b.2.1) s mi args below meth c H locs b.2.2.1 b.2.2.2 (MQ below (QcE Γ M Po) args s b.1 b.2.1 (bA Γ)) (F0 mi pc ls (st.map (conc Γ)))
/-- a row that touches the stack alone -/
def Rw (cc : ByteArray) (Γ : Gm) (pc q : Nat) (st st' : List Vl) : Prop := ∀ (p : Program) (l : Launch) (e : Env) (R : Room) (s : State) (mi : MethodId) (args : Array Value) (below : List Frame) (meth : Method) (c : Code) (H : Heap) (locs : List Loc) (cells slots : Nat) (Q : State → Prop) (ls : Array Slot),
  p.tables.exec = Jvm.exec → c.code = cc → W p l e R s mi args below meth c H locs cells slots Q (F0 mi q ls (st'.map (conc Γ))) → W p l e R s mi args below meth c H locs cells slots Q (F0 mi pc ls (st.map (conc Γ)))
theorem i32_ne0 {y : Int} (hy : w32 y = y) (h : ¬ y = 0) : ¬ Int32.ofInt y = 0 := fun z => h (by
  have z2 : (Int32.ofInt y).toInt = (0 : Int32).toInt := by rw [z]
  exact hy.symm.trans z2)
theorem i64_ne0 {y : Int} (hy : w64 y = y) (h : ¬ y = 0) : ¬ Int64.ofInt y = 0 := fun z => h (by
  have z2 : (Int64.ofInt y).toInt = (0 : Int64).toInt := by rw [z]
  exact hy.symm.trans z2)
section RULES
variable {Γ : Gm} {d : Nat} {M : Mth} {b : Bd} {Po : Pos} {pc q : Nat} {L st : List Vl} {g : Gh} {m : Mem}
theorem Ev.rw {st st' : List Vl} (hok : okL st → okL st') (row : Rw (Mc M) Γ pc q st st') (k : Ev Γ d M b Po q L st' g m) : Ev Γ d M b Po pc L st g m := by
  intro hL hst hm p e s mi args below meth c H locs ls C hS hW hl
  exact row p _ e _ s mi args below meth c H locs _ _ _ ls C.1 C.2.1 (k hL (hok hst) hm p e s mi args below meth c H locs ls C hS hW hl)
theorem Ev.imp {Po' : Pos} (h : ∀ v g m, Po' v g m → Po v g m) (k : Ev Γ d M b Po' pc L st g m) : Ev Γ d M b Po pc L st g m := by
  intro hL hst hm p e s mi args below meth c H locs ls C hS hW hl T hT X
  obtain ⟨t, h1, o, h2, h3, h4, h5⟩ := k hL hst hm p e s mi args below meth c H locs ls C hS hW hl T hT X
  obtain ⟨⟨v, g', m', q1, q2⟩, q3⟩ := h4
  exact ⟨t, h1, o, h2, h3, ⟨⟨v, g', m', h v g' m' q1, q2⟩, q3⟩, h5⟩
theorem Ev.iconst {n : Int} (hdg : decode (Mc M) pc = .ok (.iconst n, 1)) (hv : Int32.ofInt n = Int32.ofInt n ∧ w32 n = n) (hq : pc + 1 = q) (k : Ev Γ d M b Po q L (iv n :: st) g m) : Ev Γ d M b Po pc L st g m := by
  subst hq
  refine Ev.rw (fun h => okL_cons (okV_iv hv.2) h) (fun p l e R s mi args below meth c H locs cells slots Q ls hx hb k => ?_) k
  exact lv_iconst hx hb hdg hv.1 k
theorem Ev.bipush {n : Int} (hdg : decode (Mc M) pc = .ok (.bipush n, 2)) (hv : (Int8.ofInt n).toInt32 = Int32.ofInt n ∧ w32 n = n) (hq : pc + 2 = q) (k : Ev Γ d M b Po q L (iv n :: st) g m) : Ev Γ d M b Po pc L st g m := by
  subst hq
  refine Ev.rw (fun h => okL_cons (okV_iv hv.2) h) (fun p l e R s mi args below meth c H locs cells slots Q ls hx hb k => ?_) k
  exact lv_bipush hx hb hdg hv.1 k
theorem Ev.sipush {n : Int} (hdg : decode (Mc M) pc = .ok (.sipush n, 3)) (hv : (Int16.ofInt n).toInt32 = Int32.ofInt n ∧ w32 n = n) (hq : pc + 3 = q) (k : Ev Γ d M b Po q L (iv n :: st) g m) : Ev Γ d M b Po pc L st g m := by
  subst hq
  refine Ev.rw (fun h => okL_cons (okV_iv hv.2) h) (fun p l e R s mi args below meth c H locs cells slots Q ls hx hb k => ?_) k
  exact lv_sipush hx hb hdg hv.1 k
theorem Ev.lconst {n : Fin 2} {x : Int} (hdg : decode (Mc M) pc = .ok (.lconst n, 1)) (hv : Int64.ofNat n = Int64.ofInt x ∧ w64 x = x) (hq : pc + 1 = q) (k : Ev Γ d M b Po q L (jv x :: st) g m) : Ev Γ d M b Po pc L st g m := by
  subst hq
  refine Ev.rw (fun h => okL_cons (okV_jv hv.2) h) (fun p l e R s mi args below meth c H locs cells slots Q ls hx hb k => ?_) k
  exact lv_lconst hx hb hdg hv.1 k
theorem Ev.ldc {idx : Nat} {v : Int32} {x : Int} (hdg : decode (Mc M) pc = .ok (.ldc idx, 2)) (hw : Cond.constant (Mo M) idx v ∈ tb) (hx : v.toInt = x) (hq : pc + 2 = q) (k : Ev Γ d M b Po q L (iv x :: st) g m) : Ev Γ d M b Po pc L st g m := by
  subst hq
  subst hx
  intro hL hst hm p e s mi args below meth c H locs ls C hS hW hl
  obtain ⟨hx, hb, hr, hlk, hml, hown, hnm, hts, hK, hSK, hsz⟩ := id C
  refine lv_ldc hx hb hown (hts _ hw) hdg ?_
  have := k hL (okL_cons (okV_iv (w32_to v)) hst) hm p e s mi args below meth c H locs ls C hS hW hl
  rw [List.map_cons, conc_iv, Int32.ofInt_toInt] at this
  exact this
theorem Ev.ldc_w {idx : Nat} {v : Int32} {x : Int} (hdg : decode (Mc M) pc = .ok (.ldc_w idx, 3)) (hw : Cond.constant (Mo M) idx v ∈ tb) (hx : v.toInt = x) (hq : pc + 3 = q) (k : Ev Γ d M b Po q L (iv x :: st) g m) : Ev Γ d M b Po pc L st g m := by
  subst hq
  subst hx
  intro hL hst hm p e s mi args below meth c H locs ls C hS hW hl
  obtain ⟨hx, hb, hr, hlk, hml, hown, hnm, hts, hK, hSK, hsz⟩ := id C
  refine lv_ldcw hx hb hown (hts _ hw) hdg ?_
  have := k hL (okL_cons (okV_iv (w32_to v)) hst) hm p e s mi args below meth c H locs ls C hS hW hl
  rw [List.map_cons, conc_iv, Int32.ofInt_toInt] at this
  exact this
theorem Ev.ldc2 {idx : Nat} {v : Int64} {x : Int} (hdg : decode (Mc M) pc = .ok (.ldc2_w idx, 3)) (hw : Cond.constantLong (Mo M) idx v ∈ tb) (hx : v.toInt = x) (hq : pc + 3 = q) (k : Ev Γ d M b Po q L (jv x :: st) g m) : Ev Γ d M b Po pc L st g m := by
  subst hq
  subst hx
  intro hL hst hm p e s mi args below meth c H locs ls C hS hW hl
  obtain ⟨hx, hb, hr, hlk, hml, hown, hnm, hts, hK, hSK, hsz⟩ := id C
  refine lv_ldc2 hx hb hown (hts _ hw) hdg ?_
  have := k hL (okL_cons (okV_jv (w64_to v)) hst) hm p e s mi args below meth c H locs ls C hS hW hl
  rw [List.map_cons, conc_jv, Int64.ofInt_toInt] at this
  exact this
theorem Ev.ldcS {idx i : Nat} {tx : String} (hdg : decode (Mc M) pc = .ok (.ldc idx, 2)) (hw : strT[i]? = some (Mo M, idx, tx)) (hq : pc + 2 = q) (k : Ev Γ d M b Po q L (rv (100000 + i) :: st) g m) : Ev Γ d M b Po pc L st g m := by
  subst hq
  intro hL hst hm p e s mi args below meth c H locs ls C hS hW hl
  obtain ⟨hx, hb, hr, hlk, hml, hown, hnm, hts, hK, hSK, hsz⟩ := id C
  refine va_ldcS hx hb hown (hSK.2.2.2 i _ hw) hdg ?_
  have := k hL (okL_cons (okV_rv _) hst) hm p e s mi args below meth c H locs ls C hS hW hl
  rw [List.map_cons, conc_rv] at this
  have e1 : ad Γ (100000 + i) = gK Γ i := by
    unfold ad
    rw [if_neg (by omega), Nat.add_sub_cancel_left]
  rw [e1] at this
  exact this
theorem Ev.iload_n {i : Fin 4} {x : Int} (hdg : decode (Mc M) pc = .ok (.iload_n i, 1)) (hi : L[i.val]? = some (iv x)) (hq : pc + 1 = q) (k : Ev Γ d M b Po q L (iv x :: st) g m) : Ev Γ d M b Po pc L st g m := by
  subst hq
  intro hL hst hm p e s mi args below meth c H locs ls C hS hW hl
  obtain ⟨hx, hb, hr, hlk, hml, hown, hnm, hts, hK, hSK, hsz⟩ := id C
  exact lv_iload_n hx hb hdg rfl (hl.at hi (by show ¬ (1 : Nat) = 0; decide)) (k hL (okL_cons (okL_at hL hi) hst) hm p e s mi args below meth c H locs ls C hS hW hl)
theorem Ev.iload {i : Nat} {x : Int} (hdg : decode (Mc M) pc = .ok (.iload i, 2)) (hi : L[i]? = some (iv x)) (hq : pc + 2 = q) (k : Ev Γ d M b Po q L (iv x :: st) g m) : Ev Γ d M b Po pc L st g m := by
  subst hq
  intro hL hst hm p e s mi args below meth c H locs ls C hS hW hl
  obtain ⟨hx, hb, hr, hlk, hml, hown, hnm, hts, hK, hSK, hsz⟩ := id C
  exact lv_iload hx hb hdg (hl.at hi (by show ¬ (1 : Nat) = 0; decide)) (k hL (okL_cons (okL_at hL hi) hst) hm p e s mi args below meth c H locs ls C hS hW hl)
theorem Ev.lload_n {i : Fin 4} {x : Int} (hdg : decode (Mc M) pc = .ok (.lload_n i, 1)) (hi : L[i.val]? = some (jv x)) (hq : pc + 1 = q) (k : Ev Γ d M b Po q L (jv x :: st) g m) : Ev Γ d M b Po pc L st g m := by
  subst hq
  intro hL hst hm p e s mi args below meth c H locs ls C hS hW hl
  obtain ⟨hx, hb, hr, hlk, hml, hown, hnm, hts, hK, hSK, hsz⟩ := id C
  exact lv_lload_n hx hb hdg rfl (hl.at hi (by show ¬ (2 : Nat) = 0; decide)) (k hL (okL_cons (okL_at hL hi) hst) hm p e s mi args below meth c H locs ls C hS hW hl)
theorem Ev.lload {i : Nat} {x : Int} (hdg : decode (Mc M) pc = .ok (.lload i, 2)) (hi : L[i]? = some (jv x)) (hq : pc + 2 = q) (k : Ev Γ d M b Po q L (jv x :: st) g m) : Ev Γ d M b Po pc L st g m := by
  subst hq
  intro hL hst hm p e s mi args below meth c H locs ls C hS hW hl
  obtain ⟨hx, hb, hr, hlk, hml, hown, hnm, hts, hK, hSK, hsz⟩ := id C
  exact lv_lload hx hb hdg (hl.at hi (by show ¬ (2 : Nat) = 0; decide)) (k hL (okL_cons (okL_at hL hi) hst) hm p e s mi args below meth c H locs ls C hS hW hl)
theorem Ev.aload_n {i : Fin 4} {x : Nat} (hdg : decode (Mc M) pc = .ok (.aload_n i, 1)) (hi : L[i.val]? = some (rv x)) (hq : pc + 1 = q) (k : Ev Γ d M b Po q L (rv x :: st) g m) : Ev Γ d M b Po pc L st g m := by
  subst hq
  intro hL hst hm p e s mi args below meth c H locs ls C hS hW hl
  obtain ⟨hx, hb, hr, hlk, hml, hown, hnm, hts, hK, hSK, hsz⟩ := id C
  exact lv_aload_n hx hb hdg rfl (hl.at hi (by show ¬ (3 : Nat) = 0; decide)) (k hL (okL_cons (okL_at hL hi) hst) hm p e s mi args below meth c H locs ls C hS hW hl)
theorem Ev.aload {i : Nat} {x : Nat} (hdg : decode (Mc M) pc = .ok (.aload i, 2)) (hi : L[i]? = some (rv x)) (hq : pc + 2 = q) (k : Ev Γ d M b Po q L (rv x :: st) g m) : Ev Γ d M b Po pc L st g m := by
  subst hq
  intro hL hst hm p e s mi args below meth c H locs ls C hS hW hl
  obtain ⟨hx, hb, hr, hlk, hml, hown, hnm, hts, hK, hSK, hsz⟩ := id C
  exact lv_aload hx hb hdg (hl.at hi (by show ¬ (3 : Nat) = 0; decide)) (k hL (okL_cons (okL_at hL hi) hst) hm p e s mi args below meth c H locs ls C hS hW hl)
theorem okL_sto1 {i : Nat} {v : Vl} (h : okL L) (hv : okV v) : okL (sto1 L i v) := by
  unfold sto1
  split
  · exact okL_set h hv
  · refine okL_set ?_ hv
    unfold clr
    split
    · split
      · exact okL_set h okV_uv
      · exact h
    · exact h
theorem okL_sto2 {i : Nat} {v : Vl} (h : okL L) (hv : okV v) : okL (sto2 L i v) := okL_set (okL_sto1 h hv) okV_uv
theorem Ev.istore_n {i : Fin 4} {x : Int} {L' : List Vl} (hdg : decode (Mc M) pc = .ok (.istore_n i, 1)) (hn : i.val < Mn M) (hs : sto1 L i.val (iv x) = L') (hq : pc + 1 = q) (k : Ev Γ d M b Po q L' st g m) : Ev Γ d M b Po pc L (iv x :: st) g m := by
  subst hq
  subst hs
  intro hL hst hm p e s mi args below meth c H locs ls C hS hW hl
  obtain ⟨hx, hb, hr, hlk, hml, hown, hnm, hts, hK, hSK, hsz⟩ := id C
  exact lv_istore_n hx hb hdg rfl hl.has hn rfl (fun ls' hl' => k (okL_sto1 hL (okL_hd hst)) (okL_tl hst) hm p e s mi args below meth c H locs ls' C hS hW (LOk_st1 (v := iv x) hl hl'))
theorem Ev.istore {i : Nat} {x : Int} {L' : List Vl} (hdg : decode (Mc M) pc = .ok (.istore i, 2)) (hn : i < Mn M) (hs : sto1 L i (iv x) = L') (hq : pc + 2 = q) (k : Ev Γ d M b Po q L' st g m) : Ev Γ d M b Po pc L (iv x :: st) g m := by
  subst hq
  subst hs
  intro hL hst hm p e s mi args below meth c H locs ls C hS hW hl
  obtain ⟨hx, hb, hr, hlk, hml, hown, hnm, hts, hK, hSK, hsz⟩ := id C
  exact lv_istore hx hb hdg hl.has hn rfl (fun ls' hl' => k (okL_sto1 hL (okL_hd hst)) (okL_tl hst) hm p e s mi args below meth c H locs ls' C hS hW (LOk_st1 (v := iv x) hl hl'))
theorem Ev.astore_n {i : Fin 4} {x : Nat} {L' : List Vl} (hdg : decode (Mc M) pc = .ok (.astore_n i, 1)) (hn : i.val < Mn M) (hs : sto1 L i.val (rv x) = L') (hq : pc + 1 = q) (k : Ev Γ d M b Po q L' st g m) : Ev Γ d M b Po pc L (rv x :: st) g m := by
  subst hq
  subst hs
  intro hL hst hm p e s mi args below meth c H locs ls C hS hW hl
  obtain ⟨hx, hb, hr, hlk, hml, hown, hnm, hts, hK, hSK, hsz⟩ := id C
  exact lv_astore_n hx hb hdg rfl hl.has hn rfl (fun ls' hl' => k (okL_sto1 hL (okL_hd hst)) (okL_tl hst) hm p e s mi args below meth c H locs ls' C hS hW (LOk_st1 (v := rv x) hl hl'))
theorem Ev.astore {i : Nat} {x : Nat} {L' : List Vl} (hdg : decode (Mc M) pc = .ok (.astore i, 2)) (hn : i < Mn M) (hs : sto1 L i (rv x) = L') (hq : pc + 2 = q) (k : Ev Γ d M b Po q L' st g m) : Ev Γ d M b Po pc L (rv x :: st) g m := by
  subst hq
  subst hs
  intro hL hst hm p e s mi args below meth c H locs ls C hS hW hl
  obtain ⟨hx, hb, hr, hlk, hml, hown, hnm, hts, hK, hSK, hsz⟩ := id C
  exact lv_astore hx hb hdg hl.has hn rfl (fun ls' hl' => k (okL_sto1 hL (okL_hd hst)) (okL_tl hst) hm p e s mi args below meth c H locs ls' C hS hW (LOk_st1 (v := rv x) hl hl'))
theorem Ev.lstore_n {i : Fin 4} {x : Int} {L' : List Vl} (hdg : decode (Mc M) pc = .ok (.lstore_n i, 1)) (hn : i.val + 1 < Mn M) (hs : sto2 L i.val (jv x) = L') (hq : pc + 1 = q) (k : Ev Γ d M b Po q L' st g m) : Ev Γ d M b Po pc L (jv x :: st) g m := by
  subst hq
  subst hs
  intro hL hst hm p e s mi args below meth c H locs ls C hS hW hl
  obtain ⟨hx, hb, hr, hlk, hml, hown, hnm, hts, hK, hSK, hsz⟩ := id C
  exact lv_lstore_n hx hb hdg rfl hl.has hn rfl (fun ls' hl' => k (okL_sto2 hL (okL_hd hst)) (okL_tl hst) hm p e s mi args below meth c H locs ls' C hS hW (LOk_st2 (v := jv x) hl hl'))
theorem Ev.lstore {i : Nat} {x : Int} {L' : List Vl} (hdg : decode (Mc M) pc = .ok (.lstore i, 2)) (hn : i + 1 < Mn M) (hs : sto2 L i (jv x) = L') (hq : pc + 2 = q) (k : Ev Γ d M b Po q L' st g m) : Ev Γ d M b Po pc L (jv x :: st) g m := by
  subst hq
  subst hs
  intro hL hst hm p e s mi args below meth c H locs ls C hS hW hl
  obtain ⟨hx, hb, hr, hlk, hml, hown, hnm, hts, hK, hSK, hsz⟩ := id C
  exact lv_lstore hx hb hdg hl.has hn rfl (fun ls' hl' => k (okL_sto2 hL (okL_hd hst)) (okL_tl hst) hm p e s mi args below meth c H locs ls' C hS hW (LOk_st2 (v := jv x) hl hl'))
theorem Ev.iinc {i : Nat} {n x : Int} {L' : List Vl} (hdg : decode (Mc M) pc = .ok (.iinc i n, 3)) (hn : i < Mn M) (hi : L[i]? = some (iv x)) (hs : sto1 L i (iv (w32 (x + n))) = L') (hq : pc + 3 = q) (k : Ev Γ d M b Po q L' st g m) : Ev Γ d M b Po pc L st g m := by
  subst hq
  subst hs
  intro hL hst hm p e s mi args below meth c H locs ls C hS hW hl
  obtain ⟨hx, hb, hr, hlk, hml, hown, hnm, hts, hK, hSK, hsz⟩ := id C
  have hmem := lvl_mem (Γ := Γ) hi (by show ¬ (1 : Nat) = 0; decide)
  obtain ⟨j, hj⟩ := List.getElem?_of_mem hmem
  refine lv_iinc (v := Int32.ofInt (w32 (x + n))) hx hb hdg hl.has (k := j) hj (by rw [of_w32, Int32.ofInt_add]) hn rfl (fun ls' hl' => ?_)
  exact k (okL_sto1 hL (okV_iv (w32_w32 _))) hst hm p e s mi args below meth c H locs ls' C hS hW (LOk_st1 (v := iv (w32 (x + n))) hl hl')
theorem Ev.iadd {x y : Int} (hdg : decode (Mc M) pc = .ok (.iadd, 1)) (hq : pc + 1 = q) (k : Ev Γ d M b Po q L (iv (w32 (x + y)) :: st) g m) : Ev Γ d M b Po pc L (iv y :: iv x :: st) g m := by
  subst hq
  intro hL hst hm p e s mi args below meth c H locs ls C hS hW hl
  have hy := okV_i (okL_hd hst)
  have hxx := okV_i (okL_hd (okL_tl hst))
  have := k hL (okL_cons (okV_iv (w32_w32 _)) (okL_tl (okL_tl hst))) hm p e s mi args below meth c H locs ls C hS hW hl
  rw [List.map_cons, conc_iv] at this
  rw [List.map_cons, List.map_cons, conc_iv, conc_iv]
  refine lv_iadd C.1 C.2.1 hdg ?_
  rw [of_w32, Int32.ofInt_add] at this
  exact this
theorem Ev.isub {x y : Int} (hdg : decode (Mc M) pc = .ok (.isub, 1)) (hq : pc + 1 = q) (k : Ev Γ d M b Po q L (iv (w32 (x - y)) :: st) g m) : Ev Γ d M b Po pc L (iv y :: iv x :: st) g m := by
  subst hq
  intro hL hst hm p e s mi args below meth c H locs ls C hS hW hl
  have hy := okV_i (okL_hd hst)
  have hxx := okV_i (okL_hd (okL_tl hst))
  have := k hL (okL_cons (okV_iv (w32_w32 _)) (okL_tl (okL_tl hst))) hm p e s mi args below meth c H locs ls C hS hW hl
  rw [List.map_cons, conc_iv] at this
  rw [List.map_cons, List.map_cons, conc_iv, conc_iv]
  refine lv_isub C.1 C.2.1 hdg ?_
  rw [of_w32, Int32.ofInt_sub] at this
  exact this
theorem Ev.imul {x y : Int} (hdg : decode (Mc M) pc = .ok (.imul, 1)) (hq : pc + 1 = q) (k : Ev Γ d M b Po q L (iv (w32 (x * y)) :: st) g m) : Ev Γ d M b Po pc L (iv y :: iv x :: st) g m := by
  subst hq
  intro hL hst hm p e s mi args below meth c H locs ls C hS hW hl
  have hy := okV_i (okL_hd hst)
  have hxx := okV_i (okL_hd (okL_tl hst))
  have := k hL (okL_cons (okV_iv (w32_w32 _)) (okL_tl (okL_tl hst))) hm p e s mi args below meth c H locs ls C hS hW hl
  rw [List.map_cons, conc_iv] at this
  rw [List.map_cons, List.map_cons, conc_iv, conc_iv]
  refine lv_imul C.1 C.2.1 hdg ?_
  rw [of_w32, Int32.ofInt_mul] at this
  exact this
theorem Ev.iand {x y : Int} (hdg : decode (Mc M) pc = .ok (.iand, 1)) (hq : pc + 1 = q) (k : Ev Γ d M b Po q L (iv (o_iand x y) :: st) g m) : Ev Γ d M b Po pc L (iv y :: iv x :: st) g m := by
  subst hq
  intro hL hst hm p e s mi args below meth c H locs ls C hS hW hl
  have hy := okV_i (okL_hd hst)
  have hxx := okV_i (okL_hd (okL_tl hst))
  have := k hL (okL_cons (okV_iv (w32_to _)) (okL_tl (okL_tl hst))) hm p e s mi args below meth c H locs ls C hS hW hl
  rw [List.map_cons, conc_iv] at this
  rw [List.map_cons, List.map_cons, conc_iv, conc_iv]
  refine lv_iand C.1 C.2.1 hdg ?_
  unfold o_iand at this
  rw [Int32.ofInt_toInt] at this
  exact this
theorem Ev.ior {x y : Int} (hdg : decode (Mc M) pc = .ok (.ior, 1)) (hq : pc + 1 = q) (k : Ev Γ d M b Po q L (iv (o_ior x y) :: st) g m) : Ev Γ d M b Po pc L (iv y :: iv x :: st) g m := by
  subst hq
  intro hL hst hm p e s mi args below meth c H locs ls C hS hW hl
  have hy := okV_i (okL_hd hst)
  have hxx := okV_i (okL_hd (okL_tl hst))
  have := k hL (okL_cons (okV_iv (w32_to _)) (okL_tl (okL_tl hst))) hm p e s mi args below meth c H locs ls C hS hW hl
  rw [List.map_cons, conc_iv] at this
  rw [List.map_cons, List.map_cons, conc_iv, conc_iv]
  refine lv_ior C.1 C.2.1 hdg ?_
  unfold o_ior at this
  rw [Int32.ofInt_toInt] at this
  exact this
theorem Ev.ixor {x y : Int} (hdg : decode (Mc M) pc = .ok (.ixor, 1)) (hq : pc + 1 = q) (k : Ev Γ d M b Po q L (iv (o_ixor x y) :: st) g m) : Ev Γ d M b Po pc L (iv y :: iv x :: st) g m := by
  subst hq
  intro hL hst hm p e s mi args below meth c H locs ls C hS hW hl
  have hy := okV_i (okL_hd hst)
  have hxx := okV_i (okL_hd (okL_tl hst))
  have := k hL (okL_cons (okV_iv (w32_to _)) (okL_tl (okL_tl hst))) hm p e s mi args below meth c H locs ls C hS hW hl
  rw [List.map_cons, conc_iv] at this
  rw [List.map_cons, List.map_cons, conc_iv, conc_iv]
  refine lv_ixor C.1 C.2.1 hdg ?_
  unfold o_ixor at this
  rw [Int32.ofInt_toInt] at this
  exact this
theorem Ev.ishl {x y : Int} (hdg : decode (Mc M) pc = .ok (.ishl, 1)) (hq : pc + 1 = q) (k : Ev Γ d M b Po q L (iv (o_ishl x y) :: st) g m) : Ev Γ d M b Po pc L (iv y :: iv x :: st) g m := by
  subst hq
  intro hL hst hm p e s mi args below meth c H locs ls C hS hW hl
  have hy := okV_i (okL_hd hst)
  have hxx := okV_i (okL_hd (okL_tl hst))
  have := k hL (okL_cons (okV_iv (w32_to _)) (okL_tl (okL_tl hst))) hm p e s mi args below meth c H locs ls C hS hW hl
  rw [List.map_cons, conc_iv] at this
  rw [List.map_cons, List.map_cons, conc_iv, conc_iv]
  refine lv_ishl C.1 C.2.1 hdg ?_
  unfold o_ishl at this
  rw [Int32.ofInt_toInt] at this
  exact this
theorem Ev.ishr {x y : Int} (hdg : decode (Mc M) pc = .ok (.ishr, 1)) (hq : pc + 1 = q) (k : Ev Γ d M b Po q L (iv (o_ishr x y) :: st) g m) : Ev Γ d M b Po pc L (iv y :: iv x :: st) g m := by
  subst hq
  intro hL hst hm p e s mi args below meth c H locs ls C hS hW hl
  have hy := okV_i (okL_hd hst)
  have hxx := okV_i (okL_hd (okL_tl hst))
  have := k hL (okL_cons (okV_iv (w32_to _)) (okL_tl (okL_tl hst))) hm p e s mi args below meth c H locs ls C hS hW hl
  rw [List.map_cons, conc_iv] at this
  rw [List.map_cons, List.map_cons, conc_iv, conc_iv]
  refine lv_ishr C.1 C.2.1 hdg ?_
  unfold o_ishr at this
  rw [Int32.ofInt_toInt] at this
  exact this
theorem Ev.iushr {x y : Int} (hdg : decode (Mc M) pc = .ok (.iushr, 1)) (hq : pc + 1 = q) (k : Ev Γ d M b Po q L (iv (o_iushr x y) :: st) g m) : Ev Γ d M b Po pc L (iv y :: iv x :: st) g m := by
  subst hq
  intro hL hst hm p e s mi args below meth c H locs ls C hS hW hl
  have hy := okV_i (okL_hd hst)
  have hxx := okV_i (okL_hd (okL_tl hst))
  have := k hL (okL_cons (okV_iv (w32_to _)) (okL_tl (okL_tl hst))) hm p e s mi args below meth c H locs ls C hS hW hl
  rw [List.map_cons, conc_iv] at this
  rw [List.map_cons, List.map_cons, conc_iv, conc_iv]
  refine lv_iushr C.1 C.2.1 hdg (v := _) rfl ?_
  unfold o_iushr at this
  rw [Int32.ofInt_toInt] at this
  exact this
theorem Ev.idiv {x y : Int} (hdg : decode (Mc M) pc = .ok (.idiv, 1)) (hne : ¬ y = 0) (hq : pc + 1 = q) (k : Ev Γ d M b Po q L (iv (o_idiv x y) :: st) g m) : Ev Γ d M b Po pc L (iv y :: iv x :: st) g m := by
  subst hq
  intro hL hst hm p e s mi args below meth c H locs ls C hS hW hl
  have hy := okV_i (okL_hd hst)
  have hxx := okV_i (okL_hd (okL_tl hst))
  have := k hL (okL_cons (okV_iv (w32_to _)) (okL_tl (okL_tl hst))) hm p e s mi args below meth c H locs ls C hS hW hl
  rw [List.map_cons, conc_iv] at this
  rw [List.map_cons, List.map_cons, conc_iv, conc_iv]
  refine lv_idiv C.1 C.2.1 hdg (i32_ne0 hy hne) ?_
  unfold o_idiv at this
  rw [Int32.ofInt_toInt] at this
  exact this
theorem Ev.irem {x y : Int} (hdg : decode (Mc M) pc = .ok (.irem, 1)) (hne : ¬ y = 0) (hq : pc + 1 = q) (k : Ev Γ d M b Po q L (iv (o_irem x y) :: st) g m) : Ev Γ d M b Po pc L (iv y :: iv x :: st) g m := by
  subst hq
  intro hL hst hm p e s mi args below meth c H locs ls C hS hW hl
  have hy := okV_i (okL_hd hst)
  have hxx := okV_i (okL_hd (okL_tl hst))
  have := k hL (okL_cons (okV_iv (w32_to _)) (okL_tl (okL_tl hst))) hm p e s mi args below meth c H locs ls C hS hW hl
  rw [List.map_cons, conc_iv] at this
  rw [List.map_cons, List.map_cons, conc_iv, conc_iv]
  refine lv_irem C.1 C.2.1 hdg (i32_ne0 hy hne) ?_
  unfold o_irem at this
  rw [Int32.ofInt_toInt] at this
  exact this
theorem Ev.ladd {x y : Int} (hdg : decode (Mc M) pc = .ok (.ladd, 1)) (hq : pc + 1 = q) (k : Ev Γ d M b Po q L (jv (w64 (x + y)) :: st) g m) : Ev Γ d M b Po pc L (jv y :: jv x :: st) g m := by
  subst hq
  intro hL hst hm p e s mi args below meth c H locs ls C hS hW hl
  have hy := okV_j (okL_hd hst)
  have hxx := okV_j (okL_hd (okL_tl hst))
  have := k hL (okL_cons (okV_jv (w64_w64 _)) (okL_tl (okL_tl hst))) hm p e s mi args below meth c H locs ls C hS hW hl
  rw [List.map_cons, conc_jv] at this
  rw [List.map_cons, List.map_cons, conc_jv, conc_jv]
  refine lv_ladd C.1 C.2.1 hdg ?_
  rw [of_w64, Int64.ofInt_add] at this
  exact this
theorem Ev.lsub {x y : Int} (hdg : decode (Mc M) pc = .ok (.lsub, 1)) (hq : pc + 1 = q) (k : Ev Γ d M b Po q L (jv (w64 (x - y)) :: st) g m) : Ev Γ d M b Po pc L (jv y :: jv x :: st) g m := by
  subst hq
  intro hL hst hm p e s mi args below meth c H locs ls C hS hW hl
  have hy := okV_j (okL_hd hst)
  have hxx := okV_j (okL_hd (okL_tl hst))
  have := k hL (okL_cons (okV_jv (w64_w64 _)) (okL_tl (okL_tl hst))) hm p e s mi args below meth c H locs ls C hS hW hl
  rw [List.map_cons, conc_jv] at this
  rw [List.map_cons, List.map_cons, conc_jv, conc_jv]
  refine lv_lsub C.1 C.2.1 hdg ?_
  rw [of_w64, Int64.ofInt_sub] at this
  exact this
theorem Ev.lmul {x y : Int} (hdg : decode (Mc M) pc = .ok (.lmul, 1)) (hq : pc + 1 = q) (k : Ev Γ d M b Po q L (jv (w64 (x * y)) :: st) g m) : Ev Γ d M b Po pc L (jv y :: jv x :: st) g m := by
  subst hq
  intro hL hst hm p e s mi args below meth c H locs ls C hS hW hl
  have hy := okV_j (okL_hd hst)
  have hxx := okV_j (okL_hd (okL_tl hst))
  have := k hL (okL_cons (okV_jv (w64_w64 _)) (okL_tl (okL_tl hst))) hm p e s mi args below meth c H locs ls C hS hW hl
  rw [List.map_cons, conc_jv] at this
  rw [List.map_cons, List.map_cons, conc_jv, conc_jv]
  refine lv_lmul C.1 C.2.1 hdg ?_
  rw [of_w64, Int64.ofInt_mul] at this
  exact this
theorem Ev.land {x y : Int} (hdg : decode (Mc M) pc = .ok (.land, 1)) (hq : pc + 1 = q) (k : Ev Γ d M b Po q L (jv (o_land x y) :: st) g m) : Ev Γ d M b Po pc L (jv y :: jv x :: st) g m := by
  subst hq
  intro hL hst hm p e s mi args below meth c H locs ls C hS hW hl
  have hy := okV_j (okL_hd hst)
  have hxx := okV_j (okL_hd (okL_tl hst))
  have := k hL (okL_cons (okV_jv (w64_to _)) (okL_tl (okL_tl hst))) hm p e s mi args below meth c H locs ls C hS hW hl
  rw [List.map_cons, conc_jv] at this
  rw [List.map_cons, List.map_cons, conc_jv, conc_jv]
  refine lv_land C.1 C.2.1 hdg ?_
  unfold o_land at this
  rw [Int64.ofInt_toInt] at this
  exact this
theorem Ev.lor {x y : Int} (hdg : decode (Mc M) pc = .ok (.lor, 1)) (hq : pc + 1 = q) (k : Ev Γ d M b Po q L (jv (o_lor x y) :: st) g m) : Ev Γ d M b Po pc L (jv y :: jv x :: st) g m := by
  subst hq
  intro hL hst hm p e s mi args below meth c H locs ls C hS hW hl
  have hy := okV_j (okL_hd hst)
  have hxx := okV_j (okL_hd (okL_tl hst))
  have := k hL (okL_cons (okV_jv (w64_to _)) (okL_tl (okL_tl hst))) hm p e s mi args below meth c H locs ls C hS hW hl
  rw [List.map_cons, conc_jv] at this
  rw [List.map_cons, List.map_cons, conc_jv, conc_jv]
  refine lv_lor C.1 C.2.1 hdg ?_
  unfold o_lor at this
  rw [Int64.ofInt_toInt] at this
  exact this
theorem Ev.ldiv {x y : Int} (hdg : decode (Mc M) pc = .ok (.ldiv, 1)) (hne : ¬ y = 0) (hq : pc + 1 = q) (k : Ev Γ d M b Po q L (jv (o_ldiv x y) :: st) g m) : Ev Γ d M b Po pc L (jv y :: jv x :: st) g m := by
  subst hq
  intro hL hst hm p e s mi args below meth c H locs ls C hS hW hl
  have hy := okV_j (okL_hd hst)
  have hxx := okV_j (okL_hd (okL_tl hst))
  have := k hL (okL_cons (okV_jv (w64_to _)) (okL_tl (okL_tl hst))) hm p e s mi args below meth c H locs ls C hS hW hl
  rw [List.map_cons, conc_jv] at this
  rw [List.map_cons, List.map_cons, conc_jv, conc_jv]
  refine lv_ldiv C.1 C.2.1 hdg (i64_ne0 hy hne) ?_
  unfold o_ldiv at this
  rw [Int64.ofInt_toInt] at this
  exact this
theorem Ev.lrem {x y : Int} (hdg : decode (Mc M) pc = .ok (.lrem, 1)) (hne : ¬ y = 0) (hq : pc + 1 = q) (k : Ev Γ d M b Po q L (jv (o_lrem x y) :: st) g m) : Ev Γ d M b Po pc L (jv y :: jv x :: st) g m := by
  subst hq
  intro hL hst hm p e s mi args below meth c H locs ls C hS hW hl
  have hy := okV_j (okL_hd hst)
  have hxx := okV_j (okL_hd (okL_tl hst))
  have := k hL (okL_cons (okV_jv (w64_to _)) (okL_tl (okL_tl hst))) hm p e s mi args below meth c H locs ls C hS hW hl
  rw [List.map_cons, conc_jv] at this
  rw [List.map_cons, List.map_cons, conc_jv, conc_jv]
  refine lv_lrem C.1 C.2.1 hdg (i64_ne0 hy hne) ?_
  unfold o_lrem at this
  rw [Int64.ofInt_toInt] at this
  exact this
theorem Ev.lshl {x y : Int} (hdg : decode (Mc M) pc = .ok (.lshl, 1)) (hq : pc + 1 = q) (k : Ev Γ d M b Po q L (jv (o_lshl x y) :: st) g m) : Ev Γ d M b Po pc L (iv y :: jv x :: st) g m := by
  subst hq
  intro hL hst hm p e s mi args below meth c H locs ls C hS hW hl
  have hy := okV_i (okL_hd hst)
  have hxx := okV_j (okL_hd (okL_tl hst))
  have := k hL (okL_cons (okV_jv (w64_to _)) (okL_tl (okL_tl hst))) hm p e s mi args below meth c H locs ls C hS hW hl
  rw [List.map_cons, conc_jv] at this
  rw [List.map_cons, List.map_cons, conc_iv, conc_jv]
  refine lv_lshl C.1 C.2.1 hdg (v := _) rfl ?_
  unfold o_lshl at this
  rw [Int64.ofInt_toInt] at this
  exact this
theorem Ev.lshr {x y : Int} (hdg : decode (Mc M) pc = .ok (.lshr, 1)) (hq : pc + 1 = q) (k : Ev Γ d M b Po q L (jv (o_lshr x y) :: st) g m) : Ev Γ d M b Po pc L (iv y :: jv x :: st) g m := by
  subst hq
  intro hL hst hm p e s mi args below meth c H locs ls C hS hW hl
  have hy := okV_i (okL_hd hst)
  have hxx := okV_j (okL_hd (okL_tl hst))
  have := k hL (okL_cons (okV_jv (w64_to _)) (okL_tl (okL_tl hst))) hm p e s mi args below meth c H locs ls C hS hW hl
  rw [List.map_cons, conc_jv] at this
  rw [List.map_cons, List.map_cons, conc_iv, conc_jv]
  refine lv_lshr C.1 C.2.1 hdg (v := _) rfl ?_
  unfold o_lshr at this
  rw [Int64.ofInt_toInt] at this
  exact this
theorem Ev.ineg {x : Int} (hdg : decode (Mc M) pc = .ok (.ineg, 1)) (hq : pc + 1 = q) (k : Ev Γ d M b Po q L (iv (w32 (-x)) :: st) g m) : Ev Γ d M b Po pc L (iv x :: st) g m := by
  subst hq
  intro hL hst hm p e s mi args below meth c H locs ls C hS hW hl
  have hxx := okV_i (okL_hd hst)
  have := k hL (okL_cons (okV_iv (w32_w32 _)) (okL_tl hst)) hm p e s mi args below meth c H locs ls C hS hW hl
  rw [List.map_cons, conc_iv] at this
  rw [List.map_cons, conc_iv]
  refine lv_ineg C.1 C.2.1 hdg ?_
  rw [of_w32, Int32.ofInt_neg] at this
  exact this
theorem Ev.lneg {x : Int} (hdg : decode (Mc M) pc = .ok (.lneg, 1)) (hq : pc + 1 = q) (k : Ev Γ d M b Po q L (jv (w64 (-x)) :: st) g m) : Ev Γ d M b Po pc L (jv x :: st) g m := by
  subst hq
  intro hL hst hm p e s mi args below meth c H locs ls C hS hW hl
  have hxx := okV_j (okL_hd hst)
  have := k hL (okL_cons (okV_jv (w64_w64 _)) (okL_tl hst)) hm p e s mi args below meth c H locs ls C hS hW hl
  rw [List.map_cons, conc_jv] at this
  rw [List.map_cons, conc_jv]
  refine lv_lneg C.1 C.2.1 hdg ?_
  rw [of_w64, Int64.ofInt_neg] at this
  exact this
theorem Ev.i2l {x : Int} (hdg : decode (Mc M) pc = .ok (.i2l, 1)) (hq : pc + 1 = q) (k : Ev Γ d M b Po q L (jv (x) :: st) g m) : Ev Γ d M b Po pc L (iv x :: st) g m := by
  subst hq
  intro hL hst hm p e s mi args below meth c H locs ls C hS hW hl
  have hxx := okV_i (okL_hd hst)
  have := k hL (okL_cons (okV_jv (w64_of32 hxx)) (okL_tl hst)) hm p e s mi args below meth c H locs ls C hS hW hl
  rw [List.map_cons, conc_jv] at this
  rw [List.map_cons, conc_iv]
  refine lv_i2l C.1 C.2.1 hdg (v := Int64.ofInt x) ?_ this
  apply Int64.toInt_inj.mp
  rw [Int32.toInt_toInt64]
  exact hxx.trans (w64_of32 hxx).symm
theorem Ev.l2i {x : Int} (hdg : decode (Mc M) pc = .ok (.l2i, 1)) (hq : pc + 1 = q) (k : Ev Γ d M b Po q L (iv (w32 x) :: st) g m) : Ev Γ d M b Po pc L (jv x :: st) g m := by
  subst hq
  intro hL hst hm p e s mi args below meth c H locs ls C hS hW hl
  have hxx := okV_j (okL_hd hst)
  have := k hL (okL_cons (okV_iv (w32_w32 _)) (okL_tl hst)) hm p e s mi args below meth c H locs ls C hS hW hl
  rw [List.map_cons, conc_iv] at this
  rw [List.map_cons, conc_jv]
  refine lv_l2i C.1 C.2.1 hdg (v := Int32.ofInt (w32 x)) ?_ this
  rw [of_w32]
  exact Int64.toInt32_ofInt
theorem Ev.i2b {x : Int} (hdg : decode (Mc M) pc = .ok (.i2b, 1)) (hq : pc + 1 = q) (k : Ev Γ d M b Po q L (iv (i8 x) :: st) g m) : Ev Γ d M b Po pc L (iv x :: st) g m := by
  subst hq
  intro hL hst hm p e s mi args below meth c H locs ls C hS hW hl
  have hxx := okV_i (okL_hd hst)
  have := k hL (okL_cons (okV_iv (w32_to _)) (okL_tl hst)) hm p e s mi args below meth c H locs ls C hS hW hl
  rw [List.map_cons, conc_iv] at this
  rw [List.map_cons, conc_iv]
  refine lv_i2b C.1 C.2.1 hdg (v := _) rfl ?_
  unfold i8 at this
  rw [Int32.ofInt_toInt] at this
  exact this
theorem Ev.i2s {x : Int} (hdg : decode (Mc M) pc = .ok (.i2s, 1)) (hq : pc + 1 = q) (k : Ev Γ d M b Po q L (iv (i16 x) :: st) g m) : Ev Γ d M b Po pc L (iv x :: st) g m := by
  subst hq
  intro hL hst hm p e s mi args below meth c H locs ls C hS hW hl
  have hxx := okV_i (okL_hd hst)
  have := k hL (okL_cons (okV_iv (w32_to _)) (okL_tl hst)) hm p e s mi args below meth c H locs ls C hS hW hl
  rw [List.map_cons, conc_iv] at this
  rw [List.map_cons, conc_iv]
  refine lv_i2s C.1 C.2.1 hdg (v := _) rfl ?_
  unfold i16 at this
  rw [Int32.ofInt_toInt] at this
  exact this
theorem Ev.i2c {x : Int} (hdg : decode (Mc M) pc = .ok (.i2c, 1)) (hq : pc + 1 = q) (k : Ev Γ d M b Po q L (iv (ich x) :: st) g m) : Ev Γ d M b Po pc L (iv x :: st) g m := by
  subst hq
  intro hL hst hm p e s mi args below meth c H locs ls C hS hW hl
  have hxx := okV_i (okL_hd hst)
  have := k hL (okL_cons (okV_iv (w32_to _)) (okL_tl hst)) hm p e s mi args below meth c H locs ls C hS hW hl
  rw [List.map_cons, conc_iv] at this
  rw [List.map_cons, conc_iv]
  refine lv_i2c C.1 C.2.1 hdg (v := _) rfl ?_
  unfold ich at this
  rw [Int32.ofInt_toInt] at this
  exact this
theorem Ev.lcmp {x y : Int} (hdg : decode (Mc M) pc = .ok (.lcmp, 1)) (hq : pc + 1 = q) (k : Ev Γ d M b Po q L (iv (o_lcmp x y) :: st) g m) : Ev Γ d M b Po pc L (jv y :: jv x :: st) g m := by
  subst hq
  intro hL hst hm p e s mi args below meth c H locs ls C hS hW hl
  have := k hL (okL_cons (okV_iv (w32_to _)) (okL_tl (okL_tl hst))) hm p e s mi args below meth c H locs ls C hS hW hl
  rw [List.map_cons, conc_iv] at this
  rw [List.map_cons, List.map_cons, conc_jv, conc_jv]
  unfold o_lcmp at this
  rw [Int32.ofInt_toInt] at this
  exact W.lcmp C.1 C.2.1 hdg this
theorem Ev.dup {v : Vl} (hdg : decode (Mc M) pc = .ok (.dup, 1)) (hv : v.1 ≠ 2) (hq : pc + 1 = q) (k : Ev Γ d M b Po q L (v :: v :: st) g m) : Ev Γ d M b Po pc L (v :: st) g m := by
  subst hq
  exact Ev.rw (fun h => okL_cons (okL_hd h) h) (fun p l e R s mi args below meth c H locs cells slots Q ls hx hb k => lv_dup hx hb hdg (conc_cat hv) k) k
theorem Ev.pop {v : Vl} (hdg : decode (Mc M) pc = .ok (.pop, 1)) (hv : v.1 ≠ 2) (hq : pc + 1 = q) (k : Ev Γ d M b Po q L st g m) : Ev Γ d M b Po pc L (v :: st) g m := by
  subst hq
  exact Ev.rw (fun h => okL_tl h) (fun p l e R s mi args below meth c H locs cells slots Q ls hx hb k => lv_pop hx hb hdg (conc_cat hv) k) k
theorem Ev.pop2 {v : Vl} (hdg : decode (Mc M) pc = .ok (.pop2, 1)) (hv : v.1 = 2) (hq : pc + 1 = q) (k : Ev Γ d M b Po q L st g m) : Ev Γ d M b Po pc L (v :: st) g m := by
  subst hq
  exact Ev.rw (fun h => okL_tl h) (fun p l e R s mi args below meth c H locs cells slots Q ls hx hb k => lv_pop2_2 hx hb hdg (conc_cat2 hv) k) k
theorem Ev.dup_x1 {v w : Vl} (hdg : decode (Mc M) pc = .ok (.dup_x1, 1)) (hv : v.1 ≠ 2) (hw : w.1 ≠ 2) (hq : pc + 1 = q) (k : Ev Γ d M b Po q L (v :: w :: v :: st) g m) : Ev Γ d M b Po pc L (v :: w :: st) g m := by
  subst hq
  exact Ev.rw (fun h => okL_cons (okL_hd h) (okL_cons (okL_hd (okL_tl h)) (okL_cons (okL_hd h) (okL_tl (okL_tl h))))) (fun p l e R s mi args below meth c H locs cells slots Q ls hx hb k => lv_dup_x1 hx hb hdg (conc_cat hv) (conc_cat hw) k) k
theorem Ev.dup2 {v w : Vl} (hdg : decode (Mc M) pc = .ok (.dup2, 1)) (hv : v.1 ≠ 2) (hw : w.1 ≠ 2) (hq : pc + 1 = q) (k : Ev Γ d M b Po q L (v :: w :: v :: w :: st) g m) : Ev Γ d M b Po pc L (v :: w :: st) g m := by
  subst hq
  exact Ev.rw (fun h => okL_cons (okL_hd h) (okL_cons (okL_hd (okL_tl h)) h)) (fun p l e R s mi args below meth c H locs cells slots Q ls hx hb k => lv_dup2_11 hx hb hdg (conc_cat hv) (conc_cat hw) k) k
theorem Ev.goto {off : Int} (hdg : decode (Mc M) pc = .ok (.goto off, 3)) (hq : (pc : Int) + off = (q : Int)) (k : Ev Γ d M b Po q L st g m) : Ev Γ d M b Po pc L st g m :=
  Ev.rw id (fun p l e R s mi args below meth c H locs cells slots Q ls hx hb k => lv_goto hx hb hdg hq k) k
theorem i32_eq {x y : Int} (hx : w32 x = x) (hy : w32 y = y) : Int32.ofInt x = Int32.ofInt y ↔ x = y := ⟨fun h => by have := congrArg Int32.toInt h; exact hx.symm.trans (Eq.trans this hy), fun h => by rw [h]⟩
theorem i32_lt {x y : Int} (hx : w32 x = x) (hy : w32 y = y) : Int32.ofInt x < Int32.ofInt y ↔ x < y := by
  rw [Int32.lt_iff_toInt_lt, show (Int32.ofInt x).toInt = x from hx, show (Int32.ofInt y).toInt = y from hy]
theorem i32_le {x y : Int} (hx : w32 x = x) (hy : w32 y = y) : Int32.ofInt x ≤ Int32.ofInt y ↔ x ≤ y := by
  rw [Int32.le_iff_toInt_le, show (Int32.ofInt x).toInt = x from hx, show (Int32.ofInt y).toInt = y from hy]
theorem Ev.icmp_eq {x y : Int} {off : Int} {tgt : Nat} (hdg : decode (Mc M) pc = .ok (.if_icmp .eq off, 3)) (ht : (pc : Int) + off = (tgt : Int)) (hq : pc + 3 = q) (kt : x = y → Ev Γ d M b Po tgt L st g m) (kf : ¬ (x = y) → Ev Γ d M b Po q L st g m) : Ev Γ d M b Po pc L (iv y :: iv x :: st) g m := by
  subst hq
  intro hL hst hm p e s mi args below meth c H locs ls C hS hW hl
  have hY := okV_i (okL_hd hst)
  have hX := okV_i (okL_hd (okL_tl hst))
  have hst' := okL_tl (okL_tl hst)
  exact lv_icmp_eq C.1 C.2.1 hdg ht (fun h => kt ((i32_eq hX hY).mp h) hL hst' hm p e s mi args below meth c H locs ls C hS hW hl) (fun h => kf (fun z => h ((i32_eq hX hY).mpr z)) hL hst' hm p e s mi args below meth c H locs ls C hS hW hl)
theorem Ev.if_eq {x : Int} {off : Int} {tgt : Nat} (hdg : decode (Mc M) pc = .ok (.ifCond .eq off, 3)) (ht : (pc : Int) + off = (tgt : Int)) (hq : pc + 3 = q) (kt : x = 0 → Ev Γ d M b Po tgt L st g m) (kf : ¬ (x = 0) → Ev Γ d M b Po q L st g m) : Ev Γ d M b Po pc L (iv x :: st) g m := by
  subst hq
  intro hL hst hm p e s mi args below meth c H locs ls C hS hW hl
  have hX := okV_i (okL_hd hst)
  have hY := w0
  have hst' := okL_tl hst
  exact lv_if_eq C.1 C.2.1 hdg ht (fun h => kt ((i32_eq hX hY).mp h) hL hst' hm p e s mi args below meth c H locs ls C hS hW hl) (fun h => kf (fun z => h ((i32_eq hX hY).mpr z)) hL hst' hm p e s mi args below meth c H locs ls C hS hW hl)
theorem Ev.icmp_ne {x y : Int} {off : Int} {tgt : Nat} (hdg : decode (Mc M) pc = .ok (.if_icmp .ne off, 3)) (ht : (pc : Int) + off = (tgt : Int)) (hq : pc + 3 = q) (kt : ¬ x = y → Ev Γ d M b Po tgt L st g m) (kf : x = y → Ev Γ d M b Po q L st g m) : Ev Γ d M b Po pc L (iv y :: iv x :: st) g m := by
  subst hq
  intro hL hst hm p e s mi args below meth c H locs ls C hS hW hl
  have hY := okV_i (okL_hd hst)
  have hX := okV_i (okL_hd (okL_tl hst))
  have hst' := okL_tl (okL_tl hst)
  exact lv_icmp_ne C.1 C.2.1 hdg ht (fun h => kt ((not_congr (i32_eq hX hY)).mp h) hL hst' hm p e s mi args below meth c H locs ls C hS hW hl) (fun h => kf ((i32_eq hX hY).mp h) hL hst' hm p e s mi args below meth c H locs ls C hS hW hl)
theorem Ev.if_ne {x : Int} {off : Int} {tgt : Nat} (hdg : decode (Mc M) pc = .ok (.ifCond .ne off, 3)) (ht : (pc : Int) + off = (tgt : Int)) (hq : pc + 3 = q) (kt : ¬ x = 0 → Ev Γ d M b Po tgt L st g m) (kf : x = 0 → Ev Γ d M b Po q L st g m) : Ev Γ d M b Po pc L (iv x :: st) g m := by
  subst hq
  intro hL hst hm p e s mi args below meth c H locs ls C hS hW hl
  have hX := okV_i (okL_hd hst)
  have hY := w0
  have hst' := okL_tl hst
  exact lv_if_ne C.1 C.2.1 hdg ht (fun h => kt ((not_congr (i32_eq hX hY)).mp h) hL hst' hm p e s mi args below meth c H locs ls C hS hW hl) (fun h => kf ((i32_eq hX hY).mp h) hL hst' hm p e s mi args below meth c H locs ls C hS hW hl)
theorem Ev.icmp_lt {x y : Int} {off : Int} {tgt : Nat} (hdg : decode (Mc M) pc = .ok (.if_icmp .lt off, 3)) (ht : (pc : Int) + off = (tgt : Int)) (hq : pc + 3 = q) (kt : x < y → Ev Γ d M b Po tgt L st g m) (kf : ¬ (x < y) → Ev Γ d M b Po q L st g m) : Ev Γ d M b Po pc L (iv y :: iv x :: st) g m := by
  subst hq
  intro hL hst hm p e s mi args below meth c H locs ls C hS hW hl
  have hY := okV_i (okL_hd hst)
  have hX := okV_i (okL_hd (okL_tl hst))
  have hst' := okL_tl (okL_tl hst)
  exact lv_icmp_lt C.1 C.2.1 hdg ht (fun h => kt ((i32_lt hX hY).mp h) hL hst' hm p e s mi args below meth c H locs ls C hS hW hl) (fun h => kf (fun z => h ((i32_lt hX hY).mpr z)) hL hst' hm p e s mi args below meth c H locs ls C hS hW hl)
theorem Ev.if_lt {x : Int} {off : Int} {tgt : Nat} (hdg : decode (Mc M) pc = .ok (.ifCond .lt off, 3)) (ht : (pc : Int) + off = (tgt : Int)) (hq : pc + 3 = q) (kt : x < 0 → Ev Γ d M b Po tgt L st g m) (kf : ¬ (x < 0) → Ev Γ d M b Po q L st g m) : Ev Γ d M b Po pc L (iv x :: st) g m := by
  subst hq
  intro hL hst hm p e s mi args below meth c H locs ls C hS hW hl
  have hX := okV_i (okL_hd hst)
  have hY := w0
  have hst' := okL_tl hst
  exact lv_if_lt C.1 C.2.1 hdg ht (fun h => kt ((i32_lt hX hY).mp h) hL hst' hm p e s mi args below meth c H locs ls C hS hW hl) (fun h => kf (fun z => h ((i32_lt hX hY).mpr z)) hL hst' hm p e s mi args below meth c H locs ls C hS hW hl)
theorem Ev.icmp_ge {x y : Int} {off : Int} {tgt : Nat} (hdg : decode (Mc M) pc = .ok (.if_icmp .ge off, 3)) (ht : (pc : Int) + off = (tgt : Int)) (hq : pc + 3 = q) (kt : y ≤ x → Ev Γ d M b Po tgt L st g m) (kf : ¬ (y ≤ x) → Ev Γ d M b Po q L st g m) : Ev Γ d M b Po pc L (iv y :: iv x :: st) g m := by
  subst hq
  intro hL hst hm p e s mi args below meth c H locs ls C hS hW hl
  have hY := okV_i (okL_hd hst)
  have hX := okV_i (okL_hd (okL_tl hst))
  have hst' := okL_tl (okL_tl hst)
  exact lv_icmp_ge C.1 C.2.1 hdg ht (fun h => kt ((i32_le hY hX).mp h) hL hst' hm p e s mi args below meth c H locs ls C hS hW hl) (fun h => kf (fun z => h ((i32_le hY hX).mpr z)) hL hst' hm p e s mi args below meth c H locs ls C hS hW hl)
theorem Ev.if_ge {x : Int} {off : Int} {tgt : Nat} (hdg : decode (Mc M) pc = .ok (.ifCond .ge off, 3)) (ht : (pc : Int) + off = (tgt : Int)) (hq : pc + 3 = q) (kt : 0 ≤ x → Ev Γ d M b Po tgt L st g m) (kf : ¬ (0 ≤ x) → Ev Γ d M b Po q L st g m) : Ev Γ d M b Po pc L (iv x :: st) g m := by
  subst hq
  intro hL hst hm p e s mi args below meth c H locs ls C hS hW hl
  have hX := okV_i (okL_hd hst)
  have hY := w0
  have hst' := okL_tl hst
  exact lv_if_ge C.1 C.2.1 hdg ht (fun h => kt ((i32_le hY hX).mp h) hL hst' hm p e s mi args below meth c H locs ls C hS hW hl) (fun h => kf (fun z => h ((i32_le hY hX).mpr z)) hL hst' hm p e s mi args below meth c H locs ls C hS hW hl)
theorem Ev.icmp_gt {x y : Int} {off : Int} {tgt : Nat} (hdg : decode (Mc M) pc = .ok (.if_icmp .gt off, 3)) (ht : (pc : Int) + off = (tgt : Int)) (hq : pc + 3 = q) (kt : y < x → Ev Γ d M b Po tgt L st g m) (kf : ¬ (y < x) → Ev Γ d M b Po q L st g m) : Ev Γ d M b Po pc L (iv y :: iv x :: st) g m := by
  subst hq
  intro hL hst hm p e s mi args below meth c H locs ls C hS hW hl
  have hY := okV_i (okL_hd hst)
  have hX := okV_i (okL_hd (okL_tl hst))
  have hst' := okL_tl (okL_tl hst)
  exact lv_icmp_gt C.1 C.2.1 hdg ht (fun h => kt ((i32_lt hY hX).mp h) hL hst' hm p e s mi args below meth c H locs ls C hS hW hl) (fun h => kf (fun z => h ((i32_lt hY hX).mpr z)) hL hst' hm p e s mi args below meth c H locs ls C hS hW hl)
theorem Ev.if_gt {x : Int} {off : Int} {tgt : Nat} (hdg : decode (Mc M) pc = .ok (.ifCond .gt off, 3)) (ht : (pc : Int) + off = (tgt : Int)) (hq : pc + 3 = q) (kt : 0 < x → Ev Γ d M b Po tgt L st g m) (kf : ¬ (0 < x) → Ev Γ d M b Po q L st g m) : Ev Γ d M b Po pc L (iv x :: st) g m := by
  subst hq
  intro hL hst hm p e s mi args below meth c H locs ls C hS hW hl
  have hX := okV_i (okL_hd hst)
  have hY := w0
  have hst' := okL_tl hst
  exact lv_if_gt C.1 C.2.1 hdg ht (fun h => kt ((i32_lt hY hX).mp h) hL hst' hm p e s mi args below meth c H locs ls C hS hW hl) (fun h => kf (fun z => h ((i32_lt hY hX).mpr z)) hL hst' hm p e s mi args below meth c H locs ls C hS hW hl)
theorem Ev.icmp_le {x y : Int} {off : Int} {tgt : Nat} (hdg : decode (Mc M) pc = .ok (.if_icmp .le off, 3)) (ht : (pc : Int) + off = (tgt : Int)) (hq : pc + 3 = q) (kt : x ≤ y → Ev Γ d M b Po tgt L st g m) (kf : ¬ (x ≤ y) → Ev Γ d M b Po q L st g m) : Ev Γ d M b Po pc L (iv y :: iv x :: st) g m := by
  subst hq
  intro hL hst hm p e s mi args below meth c H locs ls C hS hW hl
  have hY := okV_i (okL_hd hst)
  have hX := okV_i (okL_hd (okL_tl hst))
  have hst' := okL_tl (okL_tl hst)
  exact lv_icmp_le C.1 C.2.1 hdg ht (fun h => kt ((i32_le hX hY).mp h) hL hst' hm p e s mi args below meth c H locs ls C hS hW hl) (fun h => kf (fun z => h ((i32_le hX hY).mpr z)) hL hst' hm p e s mi args below meth c H locs ls C hS hW hl)
theorem Ev.if_le {x : Int} {off : Int} {tgt : Nat} (hdg : decode (Mc M) pc = .ok (.ifCond .le off, 3)) (ht : (pc : Int) + off = (tgt : Int)) (hq : pc + 3 = q) (kt : x ≤ 0 → Ev Γ d M b Po tgt L st g m) (kf : ¬ (x ≤ 0) → Ev Γ d M b Po q L st g m) : Ev Γ d M b Po pc L (iv x :: st) g m := by
  subst hq
  intro hL hst hm p e s mi args below meth c H locs ls C hS hW hl
  have hX := okV_i (okL_hd hst)
  have hY := w0
  have hst' := okL_tl hst
  exact lv_if_le C.1 C.2.1 hdg ht (fun h => kt ((i32_le hX hY).mp h) hL hst' hm p e s mi args below meth c H locs ls C hS hW hl) (fun h => kf (fun z => h ((i32_le hX hY).mpr z)) hL hst' hm p e s mi args below meth c H locs ls C hS hW hl)
theorem Ev.tabOut {dflt lo hi x : Int} {offs : Array Int} {len : Nat} (hdg : decode (Mc M) pc = .ok (.tableswitch dflt lo hi offs, len)) (h : x < lo ∨ hi < x) (ht : (pc : Int) + dflt = (q : Int)) (k : Ev Γ d M b Po q L st g m) : Ev Γ d M b Po pc L (iv x :: st) g m := by
  intro hL hst hm p e s mi args below meth c H locs ls C hS hW hl
  have hX : (Int32.ofInt x).toInt = x := okV_i (okL_hd hst)
  exact lv_tableOut C.1 C.2.1 hdg (by rw [hX]; exact h) ht (k hL (okL_tl hst) hm p e s mi args below meth c H locs ls C hS hW hl)
theorem Ev.tabIn {dflt lo hi x : Int} {offs : Array Int} {len : Nat} {off : Int} (hdg : decode (Mc M) pc = .ok (.tableswitch dflt lo hi offs, len)) (h1 : ¬ x < lo) (h2 : ¬ hi < x) (ho : offs[(x - lo).toNat]? = some off) (ht : (pc : Int) + off = (q : Int)) (k : Ev Γ d M b Po q L st g m) : Ev Γ d M b Po pc L (iv x :: st) g m := by
  intro hL hst hm p e s mi args below meth c H locs ls C hS hW hl
  have hX : (Int32.ofInt x).toInt = x := okV_i (okL_hd hst)
  exact lv_tableIn C.1 C.2.1 hdg (by rw [hX]; exact h1) (by rw [hX]; exact h2) (by rw [hX]; exact ho) ht (k hL (okL_tl hst) hm p e s mi args below meth c H locs ls C hS hW hl)
theorem Ev.look {dflt x : Int} {ps : Array (Int × Int)} {len : Nat} {off : Int} (hdg : decode (Mc M) pc = .ok (.lookupswitch dflt ps, len)) (hp : (ps.toList.zip (ps.toList.drop 1)).all (fun (a, next) => a.1 < next.1) = true) (ho : Op.lookupswitch.offset ps.toList dflt x = off) (ht : (pc : Int) + off = (q : Int)) (k : Ev Γ d M b Po q L st g m) : Ev Γ d M b Po pc L (iv x :: st) g m := by
  intro hL hst hm p e s mi args below meth c H locs ls C hS hW hl
  have hX : (Int32.ofInt x).toInt = x := okV_i (okL_hd hst)
  exact lv_lookup C.1 C.2.1 hdg hp (by rw [hX]; exact ho) ht (k hL (okL_tl hst) hm p e s mi args below meth c H locs ls C hS hW hl)
end RULES
