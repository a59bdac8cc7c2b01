/-! ===== numbers as integers, values, memory ===== -/
def w32 (z : Int) : Int := (Int32.ofInt z).toInt
def w64 (z : Int) : Int := (Int64.ofInt z).toInt
abbrev Vl : Type := Nat × Int
def uv : Vl := (0, 0)
def iv (x : Int) : Vl := (1, x)
def jv (x : Int) : Vl := (2, x)
def rv (a : Nat) : Vl := (3, (a : Int))
def nv : Vl := (4, 0)
/-- a reference by its place -/
def qv (a : Nat) : Vl := (5, (a : Int))
abbrev Mem : Type := Nat → Nat → Int
abbrev Gh : Type := Nat × (Nat → Nat → Bool)
abbrev Gm : Type := Launch × Nat × va_G × (Nat → ClassId) × (Nat → Nat) × (Nat → Nat)
def gl (Γ : Gm) : Launch := Γ.1
def gb (Γ : Gm) : Nat := Γ.2.1
def gD (Γ : Gm) : va_G := Γ.2.2.1
def gA (Γ : Gm) : Nat → ClassId := Γ.2.2.2.1
def gK (Γ : Gm) : Nat → Nat := Γ.2.2.2.2.1
def gV (Γ : Gm) : Nat → Nat := Γ.2.2.2.2.2
/-- where a cell lies: the cells that are made from the start on; String constants from 100000 on -/
def ad (Γ : Gm) (a : Nat) : Nat := if a < 100000 then gb Γ + a else gK Γ (a - 100000)
def conc (Γ : Gm) (v : Vl) : Value := match v with
  | (1, x) => .int (Int32.ofInt x)
  | (2, x) => .long (Int64.ofInt x)
  | (3, x) => .ref (ad Γ x.toNat)
  | (5, x) => .ref x.toNat
  | _ => .null
theorem conc_iv (Γ : Gm) (x : Int) : conc Γ (iv x) = .int (Int32.ofInt x) := rfl
theorem conc_jv (Γ : Gm) (x : Int) : conc Γ (jv x) = .long (Int64.ofInt x) := rfl
theorem conc_rv (Γ : Gm) (a : Nat) : conc Γ (rv a) = .ref (ad Γ a) := rfl
theorem conc_nv (Γ : Gm) : conc Γ nv = .null := rfl
def okV (v : Vl) : Prop := (v.1 = 1 → w32 v.2 = v.2) ∧ (v.1 = 2 → w64 v.2 = v.2)
def okL (L : List Vl) : Prop := ∀ v ∈ L, okV v
theorem w32_w32 (z : Int) : w32 (w32 z) = w32 z := by unfold w32; rw [Int32.ofInt_toInt]
theorem w64_w64 (z : Int) : w64 (w64 z) = w64 z := by unfold w64; rw [Int64.ofInt_toInt]
theorem of_w32 (z : Int) : Int32.ofInt (w32 z) = Int32.ofInt z := Int32.ofInt_toInt _
theorem of_w64 (z : Int) : Int64.ofInt (w64 z) = Int64.ofInt z := Int64.ofInt_toInt _
theorem w32_to (x : Int32) : w32 x.toInt = x.toInt := by unfold w32; rw [Int32.ofInt_toInt]
theorem w64_to (x : Int64) : w64 x.toInt = x.toInt := by unfold w64; rw [Int64.ofInt_toInt]
theorem w32_of {z : Int} (h1 : -2147483648 ≤ z) (h2 : z < 2147483648) : w32 z = z := Int32.toInt_ofInt_of_le (by simpa using h1) (by simpa using h2)
theorem w64_of {z : Int} (h1 : -9223372036854775808 ≤ z) (h2 : z < 9223372036854775808) : w64 z = z := Int64.toInt_ofInt_of_le (by simpa using h1) (by simpa using h2)
theorem w32_lo (z : Int) : -2147483648 ≤ w32 z := by have := (Int32.ofInt z).le_toInt; unfold w32; simpa using this
theorem w32_hi (z : Int) : w32 z < 2147483648 := by have := (Int32.ofInt z).toInt_lt; unfold w32; simpa using this
theorem w64_lo (z : Int) : -9223372036854775808 ≤ w64 z := by have := (Int64.ofInt z).le_toInt; unfold w64; simpa using this
theorem w64_hi (z : Int) : w64 z < 9223372036854775808 := by have := (Int64.ofInt z).toInt_lt; unfold w64; simpa using this
theorem w32_rng {z : Int} (h : w32 z = z) : -2147483648 ≤ z ∧ z < 2147483648 := ⟨h ▸ w32_lo z, h ▸ w32_hi z⟩
theorem w64_of32 {z : Int} (h : w32 z = z) : w64 z = z := w64_of (by have := w32_rng h; omega) (by have := w32_rng h; omega)
theorem okV_iv {x : Int} (h : w32 x = x) : okV (iv x) := ⟨fun _ => h, fun q => absurd q (by show ¬ (1 : Nat) = 2; decide)⟩
theorem okV_jv {x : Int} (h : w64 x = x) : okV (jv x) := ⟨fun q => absurd q (by show ¬ (2 : Nat) = 1; decide), fun _ => h⟩
theorem okV_rv (a : Nat) : okV (rv a) := ⟨fun q => absurd q (by show ¬ (3 : Nat) = 1; decide), fun q => absurd q (by show ¬ (3 : Nat) = 2; decide)⟩
theorem okV_uv : okV uv := ⟨fun q => absurd q (by decide), fun q => absurd q (by decide)⟩
theorem okV_qv (a : Nat) : okV (qv a) := ⟨fun q => absurd q (by show ¬ (5 : Nat) = 1; decide), fun q => absurd q (by show ¬ (5 : Nat) = 2; decide)⟩
theorem conc_qv (Γ : Gm) (a : Nat) : conc Γ (qv a) = .ref a := rfl
theorem okV_nv : okV nv := ⟨fun q => absurd q (by decide), fun q => absurd q (by decide)⟩
theorem okV_i {x : Int} (h : okV (iv x)) : w32 x = x := h.1 rfl
theorem okV_j {x : Int} (h : okV (jv x)) : w64 x = x := h.2 rfl
theorem okL_nil : okL [] := fun _ h => absurd h List.not_mem_nil
theorem okL_cons {v : Vl} {L : List Vl} (h : okV v) (hL : okL L) : okL (v :: L) := fun w hw => (List.mem_cons.mp hw).elim (fun e => e ▸ h) (hL w)
theorem okL_hd {v : Vl} {L : List Vl} (h : okL (v :: L)) : okV v := h v List.mem_cons_self
theorem okL_tl {v : Vl} {L : List Vl} (h : okL (v :: L)) : okL L := fun w hw => h w (List.mem_cons_of_mem _ hw)
theorem okL_at {L : List Vl} {i : Nat} {v : Vl} (h : okL L) (hi : L[i]? = some v) : okV v := h v (List.mem_of_getElem? hi)
theorem okL_set {L : List Vl} {i : Nat} {v : Vl} (h : okL L) (hv : okV v) : okL (L.set i v) := fun w hw => (List.mem_or_eq_of_mem_set hw).elim (h w) (fun e => e ▸ hv)
theorem okL_app {A B : List Vl} (ha : okL A) (hb : okL B) : okL (A ++ B) := fun w hw => (List.mem_append.mp hw).elim (ha w) (hb w)
/-! ===== memory: one function; what may stand where ===== -/
def isJ (a k : Nat) : Bool := (K a).1 == 4 || ((K a).1 == 0 && fty (K a).2 k == 4)
def okM (m : Mem) : Prop := ∀ a k, (isJ a k = false → w32 (m a k) = m a k) ∧ w64 (m a k) = m a k
def up (m : Mem) (a k : Nat) (x : Int) : Mem := fun b j => if b = a ∧ j = k then x else m b j
theorem up_eq (m : Mem) (a k : Nat) (x : Int) : up m a k x a k = x := by simp [up]
theorem up_ne (m : Mem) {a k b j : Nat} (x : Int) (h : b ≠ a ∨ j ≠ k) : up m a k x b j = m b j := by
  unfold up
  rw [if_neg]
  intro q
  rcases h with h | h
  · exact h q.1
  · exact h q.2
theorem up_na (m : Mem) {a k b : Nat} (x : Int) (h : b ≠ a) : up m a k x b = m b := funext fun j => up_ne m x (Or.inl h)
theorem okM_up {m : Mem} (h : okM m) {a k : Nat} {x : Int} (h1 : isJ a k = false → w32 x = x) (h2 : w64 x = x) : okM (up m a k x) := by
  intro b j
  by_cases q : b = a ∧ j = k
  · obtain ⟨rfl, rfl⟩ := q
    rw [up_eq]
    exact ⟨h1, h2⟩
  · have : up m a k x b j = m b j := by unfold up; rw [if_neg q]
    rw [this]
    exact h b j
/-- n places of cell a from sp on, into cell b from dp on -/
def cpm (m : Mem) (a sp b dp n : Nat) : Mem := fun c j => if c = b ∧ dp ≤ j ∧ j < dp + n then m a (sp + (j - dp)) else m c j
/-- cell a emptied -/
def clm (m : Mem) (a : Nat) : Mem := fun c j => if c = a then 0 else m c j
theorem w0 : w32 0 = 0 := by decide
theorem w0' : w64 0 = 0 := by decide
theorem okM_clm {m : Mem} (h : okM m) (a : Nat) : okM (clm m a) := by
  intro b j
  by_cases q : b = a
  · have : clm m a b j = 0 := by unfold clm; rw [if_pos q]
    rw [this]
    exact ⟨fun _ => w0, w0'⟩
  · have : clm m a b j = m b j := by unfold clm; rw [if_neg q]
    rw [this]
    exact h b j
/-! ===== the world: all cells in their order ===== -/
def fval (Γ : Gm) (S : Nat → Nat → Bool) (m : Mem) (a k c : Nat) : Value :=
  if c = 4 then .long (Int64.ofInt (m a k)) else if c = 8 then (if S a k = true then .ref (ad Γ (rf a k)) else .null) else if c = 9 then (if m a k < 0 then .null else .ref (ad Γ (m a k).toNat)) else .int (Int32.ofInt (m a k))
def flds (Γ : Gm) (S : Nat → Nat → Bool) (m : Mem) (a ci : Nat) : List Value := (List.range (nfd ci)).map fun k => fval Γ S m a k (fty ci k)
def cont (Γ : Gm) (S : Nat → Nat → Bool) (m : Mem) (a c : Nat) : (Nat → Int32) ⊕ (Nat → Int64) ⊕ (Nat → UInt32) ⊕ (Nat → UInt64) ⊕ (Nat → Option Nat) :=
  if c ≤ 3 then .inl (fun j => Int32.ofInt (m a j)) else if c = 4 then .inr (.inl (fun j => Int64.ofInt (m a j))) else .inr (.inr (.inr (.inr (fun j => if S a j = true then some (ad Γ (rf a j)) else none))))
def cellE (Γ : Gm) (S : Nat → Nat → Bool) (m : Mem) (a : Nat) : va_E :=
  if (K a).1 = 0 then .inr ((K a).2, flds Γ S m a (K a).2) else .inl (gA Γ (K a).1, (K a).2, cont Γ S m a (K a).1)
def wl (Γ : Gm) (g : Gh) (m : Mem) : va_W := (List.range g.1).map fun a => (gb Γ + a, cellE Γ g.2 m a)
def ety (c : Nat) : FieldType := match c with
  | 1 => .int
  | 2 => .byte
  | 3 => .boolean
  | 4 => .long
  | 5 => .object RX4
  | 6 => .object RX9
  | _ => .object RX1
def tys (Γ : Gm) : List (ClassId × FieldType) := [(gA Γ 1, ety 1), (gA Γ 2, ety 2), (gA Γ 3, ety 3), (gA Γ 4, ety 4), (gA Γ 5, ety 5), (gA Γ 6, ety 6), (gA Γ 7, ety 7)]
def WK (Γ : Gm) (U : State) : Prop := va_K (gD Γ) vwCl (tys Γ) U
def bA (Γ : Gm) : Nat → Prop := fun q => gb Γ ≤ q
/-- String constants -/
def nSt : Nat := strT.length
def bytS : List (List Int32) := strT.map fun q => q.2.2.toList.map fun ch => (Int8.ofNat ch.toNat).toInt32
def lenS : List Nat := strT.map fun q => q.2.2.length
/-- what the tables say that isn't carried as a word -/
def NK (U : State) : Prop := (∀ q ∈ nws, va_Nw (.methodLinkNest q.1 q.2.1 q.2.2.1 q.2.2.2) U) ∧ va_AO RX4 U ∧ va_AO RX9 U ∧ va_AO RX1 U
def SK (Γ : Gm) (U : State) (H : Heap) : Prop := vk_S nSt lenS bytS (gK Γ) (gV Γ) (bA Γ) U H ∧ (va_Z "java/lang/String" "COMPACT_STRINGS" "Z" (.int 1) (bA Γ) U H ∧ va_Zq "jdk/internal/util/Preconditions" "SIOOBE_FORMATTER" "Ljava/util/function/BiFunction;" (bA Γ) U H) ∧ NK U ∧ ∀ (i : Nat) (q : String × Nat × String), strT[i]? = some q → vk_R q.1 q.2.1 q.2.2 (gK Γ i) U
def Wo (Γ : Gm) (g : Gh) (m : Mem) (H : Heap) : Prop := va_P (gD Γ) vwCl (wl Γ g m) H
theorem wl_at (Γ : Gm) (g : Gh) (m : Mem) {a : Nat} (h : a < g.1) : (wl Γ g m)[a]? = some (gb Γ + a, cellE Γ g.2 m a) := by
  unfold wl
  rw [List.getElem?_map, List.getElem?_range h]
  rfl
theorem wl_D (Γ : Gm) (g : Gh) (m : Mem) : va_D (bA Γ) (wl Γ g m) := by
  have key : ∀ (i : Nat) (q : Nat × va_E), (wl Γ g m)[i]? = some q → q.1 = gb Γ + i := by
    intro i q h
    unfold wl at h
    rw [List.getElem?_map] at h
    cases hi : (List.range g.1)[i]? with
    | none => rw [hi] at h; cases h
    | some j =>
      rw [hi] at h
      cases h
      have := (List.getElem?_eq_some_iff.mp hi)
      obtain ⟨h1, h2⟩ := this
      rw [List.getElem_range] at h2
      show gb Γ + j = gb Γ + i
      omega
  refine ⟨fun i j p q h1 h2 e => ?_, fun k q h => ?_⟩
  · have a1 := key i p h1
    have a2 := key j q h2
    omega
  · have := key k q h
    show gb Γ ≤ q.1
    omega
theorem wl_set (Γ : Gm) (g : Gh) {S' : Nat → Nat → Bool} {m m' : Mem} {a : Nat} {e : va_E} (ha : cellE Γ S' m' a = e) (ho : ∀ b, b < g.1 → b ≠ a → cellE Γ S' m' b = cellE Γ g.2 m b) : (wl Γ g m).set a (gb Γ + a, e) = wl Γ (g.1, S') m' := by
  unfold wl
  apply List.ext_getElem
  · simp
  · intro i h1 h2
    simp at h1
    rw [List.getElem_set]
    by_cases q : a = i
    · subst q
      simp [ha]
    · simp [q]
      exact (ho i h1 (fun z => q z.symm)).symm
theorem wl_push (Γ : Gm) (g : Gh) {S' : Nat → Nat → Bool} {m m' : Mem} {e : va_E} (ha : cellE Γ S' m' g.1 = e) (ho : ∀ b, b < g.1 → cellE Γ S' m' b = cellE Γ g.2 m b) : wl Γ g m ++ [(gb Γ + g.1, e)] = wl Γ (g.1 + 1, S') m' := by
  unfold wl
  rw [List.range_succ, List.map_append]
  congr 1
  · apply List.map_congr_left
    intro b hb
    rw [ho b (List.mem_range.mp hb)]
  · simp [ha]
theorem flds_at (Γ : Gm) (S : Nat → Nat → Bool) (m : Mem) (a ci : Nat) {k : Nat} (h : k < nfd ci) : (flds Γ S m a ci)[k]? = some (fval Γ S m a k (fty ci k)) := by
  unfold flds
  rw [List.getElem?_map, List.getElem?_range h]
  rfl
theorem flds_len (Γ : Gm) (S : Nat → Nat → Bool) (m : Mem) (a ci : Nat) : (flds Γ S m a ci).length = nfd ci := by simp [flds]
theorem flds_set (Γ : Gm) {S S' : Nat → Nat → Bool} {m m' : Mem} {a ci k : Nat} {v : Value} (hv : fval Γ S' m' a k (fty ci k) = v) (ho : ∀ j, j ≠ k → fval Γ S' m' a j (fty ci j) = fval Γ S m a j (fty ci j)) : (flds Γ S m a ci).set k v = flds Γ S' m' a ci := by
  unfold flds
  apply List.ext_getElem
  · simp
  · intro i h1 h2
    rw [List.getElem_set]
    by_cases q : k = i
    · subst q
      simp [hv]
    · simp [q]
      exact (ho i (fun z => q z.symm)).symm
theorem cellE_obj (Γ : Gm) (S : Nat → Nat → Bool) (m : Mem) {a ci : Nat} (h : K a = (0, ci)) : cellE Γ S m a = .inr (ci, flds Γ S m a ci) := by
  unfold cellE
  rw [h]
  rfl
theorem cellE_arr (Γ : Gm) (S : Nat → Nat → Bool) (m : Mem) {a c n : Nat} (h : K a = (c, n)) (hc : c ≠ 0) : cellE Γ S m a = .inl (gA Γ c, n, cont Γ S m a c) := by
  unfold cellE
  rw [h]
  rw [if_neg hc]
theorem fval_same (Γ : Gm) {S S' : Nat → Nat → Bool} {m m' : Mem} {a k c : Nat} (hm : m' a k = m a k) (hS : S' a k = S a k) : fval Γ S' m' a k c = fval Γ S m a k c := by
  unfold fval
  rw [hm, hS]
theorem flds_same (Γ : Gm) {S S' : Nat → Nat → Bool} {m m' : Mem} {a ci : Nat} (hm : m' a = m a) (hS : S' a = S a) : flds Γ S' m' a ci = flds Γ S m a ci := by
  unfold flds
  apply List.map_congr_left
  intro k _
  exact fval_same Γ (by rw [hm]) (by rw [hS])
theorem cellE_same (Γ : Gm) {S S' : Nat → Nat → Bool} {m m' : Mem} {a : Nat} (hm : m' a = m a) (hS : S' a = S a) : cellE Γ S' m' a = cellE Γ S m a := by
  unfold cellE
  rw [flds_same Γ hm hS]
  unfold cont
  rw [hm, hS]
/-! ===== locals ===== -/
def LOk (Γ : Gm) (ls : Array Slot) (nL : Nat) (L : List Vl) : Prop := ls.size = nL ∧ lv_wf ls ∧ L.length = nL ∧ ∀ (i : Nat) (v : Vl), L[i]? = some v → v.1 ≠ 0 → ls[i]? = some (.val (conc Γ v))
def lvl (Γ : Gm) (L : List Vl) : List (Nat × Value) := (List.range L.length).filterMap fun i => match L[i]? with
  | some v => if v.1 = 0 then none else some (i, conc Γ v)
  | none => none
theorem lvl_mem {Γ : Gm} {L : List Vl} {i : Nat} {v : Vl} (h : L[i]? = some v) (hv : v.1 ≠ 0) : (i, conc Γ v) ∈ lvl Γ L := by
  unfold lvl
  refine List.mem_filterMap.mpr ⟨i, List.mem_range.mpr (List.getElem?_eq_some_iff.mp h).1, ?_⟩
  simp only [h]
  rw [if_neg hv]
theorem lvl_of {Γ : Gm} {L : List Vl} {q : Nat × Value} (h : q ∈ lvl Γ L) : ∃ v : Vl, L[q.1]? = some v ∧ v.1 ≠ 0 ∧ q.2 = conc Γ v := by
  unfold lvl at h
  obtain ⟨i, -, hi⟩ := List.mem_filterMap.mp h
  cases hL : L[i]? with
  | none => simp [hL] at hi
  | some v =>
    simp only [hL] at hi
    by_cases hv : v.1 = 0
    · rw [if_pos hv] at hi; cases hi
    · rw [if_neg hv] at hi
      cases hi
      exact ⟨v, hL, hv, rfl⟩
theorem LOk.has {Γ : Gm} {ls : Array Slot} {nL : Nat} {L : List Vl} (h : LOk Γ ls nL L) : lv_has ls nL (lvl Γ L) := by
  refine ⟨h.1, h.2.1, fun q hq => ?_⟩
  obtain ⟨v, h1, h2, h3⟩ := lvl_of hq
  rw [h3]
  exact h.2.2.2 q.1 v h1 h2
theorem LOk.at {Γ : Gm} {ls : Array Slot} {nL : Nat} {L : List Vl} (h : LOk Γ ls nL L) {i : Nat} {v : Vl} (hi : L[i]? = some v) (hv : v.1 ≠ 0) : ls[i]? = some (.val (conc Γ v)) := h.2.2.2 i v hi hv
def clr (L : List Vl) (k : Nat) : List Vl := match L[k]? with
  | some w => if w.1 = 2 then L.set k uv else L
  | none => L
/-- a store of one word at place i -/
def sto1 (L : List Vl) (i : Nat) (v : Vl) : List Vl := match i with
  | 0 => L.set 0 v
  | k + 1 => (clr L k).set (k + 1) v
def sto2 (L : List Vl) (i : Nat) (v : Vl) : List Vl := (sto1 L i v).set (i + 1) uv
theorem clr_len (L : List Vl) (k : Nat) : (clr L k).length = L.length := by
  unfold clr
  split
  · split <;> simp
  · rfl
theorem sto1_len (L : List Vl) (i : Nat) (v : Vl) : (sto1 L i v).length = L.length := by
  unfold sto1
  split
  · simp
  · simp [clr_len]
theorem clr_get {L : List Vl} {k j : Nat} {w : Vl} (h : (clr L k)[j]? = some w) (hw : w.1 ≠ 0) : L[j]? = some w ∧ ¬ (j = k ∧ w.1 = 2) := by
  unfold clr at h
  split at h
  · rename_i x hx
    split at h
    · rename_i h2
      rw [List.getElem?_set] at h
      by_cases q : k = j
      · subst q
        simp at h
        obtain ⟨-, h⟩ := h
        exact absurd (by rw [← h]; rfl) hw
      · simp [q] at h
        exact ⟨h, fun z => q z.1.symm⟩
    · rename_i h2
      refine ⟨h, fun z => ?_⟩
      obtain ⟨rfl, z2⟩ := z
      rw [hx] at h
      cases h
      exact h2 z2
  · rename_i hx
    refine ⟨h, fun z => ?_⟩
    obtain ⟨rfl, z2⟩ := z
    rw [hx] at h
    cases h
theorem sto1_get {L : List Vl} {i j : Nat} {v w : Vl} (h : (sto1 L i v)[j]? = some w) (hw : w.1 ≠ 0) : (j = i ∧ w = v) ∨ (j ≠ i ∧ L[j]? = some w ∧ ¬ (j + 1 = i ∧ w.1 = 2)) := by
  unfold sto1 at h
  split at h
  · rw [List.getElem?_set] at h
    by_cases q : 0 = j
    · subst q
      simp at h
      exact Or.inl ⟨rfl, h.2.symm⟩
    · simp [q] at h
      exact Or.inr ⟨fun z => q z.symm, h, fun z => by omega⟩
  · rename_i k
    rw [List.getElem?_set] at h
    by_cases q : k + 1 = j
    · subst q
      simp at h
      exact Or.inl ⟨rfl, h.2.symm⟩
    · simp [q] at h
      obtain ⟨h1, h2⟩ := clr_get h hw
      exact Or.inr ⟨fun z => q z.symm, h1, fun z => h2 ⟨by omega, z.2⟩⟩
theorem conc_cat {Γ : Gm} {v : Vl} (h : v.1 ≠ 2) : (conc Γ v).category = 1 := by
  obtain ⟨t, x⟩ := v
  match t, h with
  | 0, _ => rfl
  | 1, _ => rfl
  | 3, _ => rfl
  | 4, _ => rfl
  | 5, _ => rfl
  | t + 6, _ => rfl
theorem conc_cat2 {Γ : Gm} {v : Vl} (h : v.1 = 2) : (conc Γ v).category = 2 := by
  obtain ⟨t, x⟩ := v
  have : t = 2 := h
  subst this
  rfl
theorem LOk_st1 {Γ : Gm} {ls ls' : Array Slot} {nL : Nat} {L : List Vl} {i : Nat} {v : Vl} (h : LOk Γ ls nL L) (h' : lv_has ls' nL ((i, conc Γ v) :: (lvl Γ L).filter (fun q => !(q.1 == i) && !(q.1 + 1 == i && q.2.category == 2)))) : LOk Γ ls' nL (sto1 L i v) := by
  refine ⟨h'.1, h'.2.1, by rw [sto1_len]; exact h.2.2.1, fun j w hj hw => ?_⟩
  rcases sto1_get hj hw with ⟨rfl, rfl⟩ | ⟨h1, h2, h3⟩
  · exact h'.2.2 _ List.mem_cons_self
  · refine h'.2.2 (j, conc Γ w) (List.mem_cons_of_mem _ (List.mem_filter.mpr ⟨lvl_mem h2 hw, ?_⟩))
    by_cases h4 : j + 1 = i
    · have : w.1 ≠ 2 := fun z => h3 ⟨h4, z⟩
      simp [h1, conc_cat this]
    · simp [h1, h4]
theorem LOk_st2 {Γ : Gm} {ls ls' : Array Slot} {nL : Nat} {L : List Vl} {i : Nat} {v : Vl} (h : LOk Γ ls nL L) (h' : lv_has ls' nL ((i, conc Γ v) :: (lvl Γ L).filter (fun q => !(q.1 == i) && (!(q.1 == i + 1) && !(q.1 + 1 == i && q.2.category == 2))))) : LOk Γ ls' nL (sto2 L i v) := by
  refine ⟨h'.1, h'.2.1, by unfold sto2; rw [List.length_set, sto1_len]; exact h.2.2.1, fun j w hj hw => ?_⟩
  unfold sto2 at hj
  rw [List.getElem?_set] at hj
  by_cases q : i + 1 = j
  · subst q
    simp at hj
    obtain ⟨-, hj⟩ := hj
    exact absurd (by rw [← hj]; rfl) hw
  · simp [q] at hj
    rcases sto1_get hj hw with ⟨rfl, rfl⟩ | ⟨h1, h2, h3⟩
    · exact h'.2.2 _ List.mem_cons_self
    · refine h'.2.2 (j, conc Γ w) (List.mem_cons_of_mem _ (List.mem_filter.mpr ⟨lvl_mem h2 hw, ?_⟩))
      have q' : ¬ j = i + 1 := fun z => q z.symm
      by_cases h4 : j + 1 = i
      · have : w.1 ≠ 2 := fun z => h3 ⟨h4, z⟩
        simp [h1, q', conc_cat this]
      · simp [h1, h4, q']
