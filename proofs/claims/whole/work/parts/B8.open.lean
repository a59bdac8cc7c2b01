/-! ===== making cells, with what is still open ===== -/
def nin (o : List (Nat × Nat)) (a k : Nat) : Prop := (a, k) ∉ o
theorem nin_nil {a k : Nat} : nin [] a k := by unfold nin; simp
theorem nin_cons {o : List (Nat × Nat)} {a k b j : Nat} (h : a ≠ b ∨ k ≠ j) (ho : nin o a k) : nin ((b, j) :: o) a k := by
  unfold nin at *
  intro z
  rcases List.mem_cons.mp z with z | z
  · cases z; omega
  · exact ho z
theorem nin_lo {o : List (Nat × Nat)} {a k n : Nat} (h : ∀ p ∈ o, p.1 < n) (ha : n ≤ a) : nin o a k := fun z => by have := h _ z; dsimp only at this; omega
theorem opS_v (n : Nat) (o : List (Nat × Nat)) (x y : Nat) : opS n o x y = true ↔ x < n ∧ (x, y) ∉ o := by unfold opS; simp
theorem bool_eq {p q : Bool} (h : p = true ↔ q = true) : p = q := by cases p <;> cases q <;> simp_all
section OPEN
variable {Γ : Gm} {d : Nat} {M : Mth} {b : Bd} {Po : Pos} {pc q : Nat} {L st : List Vl} {m : Mem} {n : Nat} {o : List (Nat × Nat)}
theorem eqS_put {a k : Nat} (ha : a < n) (hni : nin o a k) : eqS n (fun x y => if x = a ∧ y = k then true else opS n ((a, k) :: o) x y) (opS n o) := by
  intro x hx y _
  apply bool_eq
  by_cases e : x = a ∧ y = k
  · obtain ⟨rfl, rfl⟩ := e
    simp only [and_self, if_true, true_iff]
    exact (opS_v _ _ _ _).mpr ⟨ha, hni⟩
  · dsimp only
    rw [if_neg e, opS_v, opS_v]
    constructor
    · exact fun z => ⟨z.1, fun w => z.2 (List.mem_cons_of_mem _ w)⟩
    · refine fun z => ⟨z.1, fun w => ?_⟩
      rcases List.mem_cons.mp w with w | w
      · cases w; exact e ⟨rfl, rfl⟩
      · exact z.2 w
theorem eqS_new {l : List (Nat × Nat)} (h1 : ∀ p ∈ l, p.1 = n) (h2 : ∀ y, isR n y = true → (n, y) ∈ l) : eqS (n + 1) (opS n o) (opS (n + 1) (l ++ o)) := by
  intro x hx y hy
  apply bool_eq
  rw [opS_v, opS_v]
  by_cases e : x = n
  · subst e
    constructor
    · exact fun z => absurd z.1 (by omega)
    · exact fun z => absurd (List.mem_append_left _ (h2 y hy)) z.2
  · constructor
    · refine fun z => ⟨by omega, fun w => ?_⟩
      rcases List.mem_append.mp w with w | w
      · exact e (h1 _ w)
      · exact z.2 w
    · exact fun z => ⟨by omega, fun w => z.2 (List.mem_append_right _ w)⟩
theorem Ev.putO {a ci k idx r : Nat} (hdg : decode (Mc M) pc = .ok (.putfield idx, 3)) (hf : Gf (Mo M) idx ci k) (ht : fty ci k = 8) (hK : K a = (0, ci)) (hn : a < n) (hr9 : rf a k = r) (hin2 : (My M).name = "<init>") (hdecl : ∀ (C : String) (T : u_T) (N : Nat), vwCl[ci]? = some (C, T, N) → (T k).1 = Mo M) (hni : nin o a k) (hq : pc + 3 = q) (kk : Ev Γ d M b Po q L st (n, opS n o) m) : Ev Γ d M b Po pc L (rv r :: rv a :: st) (n, opS n ((a, k) :: o)) m :=
  Ev.putR hdg hf ht hK hn hr9 hin2 hdecl hq (Ev.cg (eqS_put hn hni) kk)
theorem Ev.newaO {atype : ArrayType} {c N : Nat} {x : Int} (hdg : decode (Mc M) pc = .ok (.newarray atype, 2)) (harr : Cond.arrayClass (newarray.typeOf atype) ∈ tb) (hK : K n = (c, N)) (h14 : 1 ≤ c ∧ c ≤ 4) (ht : ety c = newarray.typeOf atype) (hx : x = (N : Int)) (hN : N < 100000) (hz : ∀ j, m n j = 0) (hb1 : b.2.2.1 + 1 ≤ b.1) (hb2 : b.2.2.2 + N ≤ b.2.1) (hq : pc + 2 = q) (kk : Ev Γ d M (b.1, b.2.1, b.2.2.1 + 1, b.2.2.2 + N) Po q L (rv n :: st) (n + 1, opS (n + 1) o) m) : Ev Γ d M b Po pc L (iv x :: st) (n, opS n o) m :=
  Ev.newa (g := (n, opS n o)) hdg harr hK h14 ht hx hN hz hb1 hb2 hq (Ev.cg (eqS_new (l := []) (fun p h => absurd h List.not_mem_nil) (fun y hy => by
    unfold isR at hy
    rw [hK] at hy
    simp at hy
    omega)) kk)
theorem Ev.newO {ci idx : Nat} {Cn : String} {T : u_T} {N : Nat} {ty : Nat → FieldType} {l : List (Nat × Nat)} (hdg : decode (Mc M) pc = .ok (.new idx, 3)) (hCK : CK ci Cn T N ty) (hcl : Cond.classLink (Mo M) idx Cn ∈ tb) (hinst : Cond.instantiable Cn N ∈ tb) (hini : Cond.initialized Cn ∈ tb) (hK : K n = (0, ci)) (hz : ∀ j, (fty ci j = 9 → m n j < 0) ∧ (fty ci j ≠ 9 → m n j = 0)) (h1 : ∀ p ∈ l, p.1 = n) (h2 : ∀ y, isR n y = true → (n, y) ∈ l) (hb1 : b.2.2.1 + 1 ≤ b.1) (hb2 : b.2.2.2 + N ≤ b.2.1) (hq : pc + 3 = q) (kk : Ev Γ d M (b.1, b.2.1, b.2.2.1 + 1, b.2.2.2 + N) Po q L (rv n :: st) (n + 1, opS (n + 1) (l ++ o)) m) : Ev Γ d M b Po pc L st (n, opS n o) m :=
  Ev.newc (g := (n, opS n o)) hdg hCK hcl hinst hini hK hz (opS_new n o) hb1 hb2 hq (Ev.cg (eqS_new h1 h2) kk)
theorem Ev.newqO {idx c N : Nat} {x : Int} {Cn : String} {l : List (Nat × Nat)} (hdg : decode (Mc M) pc = .ok (.anewarray idx, 3)) (hcl : Cond.classLink (Mo M) idx Cn ∈ tb) (hAO : ∀ U, NK U → va_AO Cn U) (hK : K n = (c, N)) (h57 : 5 ≤ c ∧ c ≤ 7) (ht : ety c = .object Cn) (hx : x = (N : Int)) (hN : N < 100000) (h1 : ∀ p ∈ l, p.1 = n) (h2 : ∀ y, isR n y = true → (n, y) ∈ l) (hb1 : b.2.2.1 + 1 ≤ b.1) (hb2 : b.2.2.2 + N ≤ b.2.1) (hq : pc + 3 = q) (kk : Ev Γ d M (b.1, b.2.1, b.2.2.1 + 1, b.2.2.2 + N) Po q L (rv n :: st) (n + 1, opS (n + 1) (l ++ o)) m) : Ev Γ d M b Po pc L (iv x :: st) (n, opS n o) m :=
  Ev.newq (g := (n, opS n o)) hdg hcl hAO hK h57 ht hx hN (opS_new n o) hb1 hb2 hq (Ev.cg (eqS_new h1 h2) kk)
theorem Ev.aastO {a c N k ci r : Nat} {x : Int} {rc : vw_C} (hdg : decode (Mc M) pc = .ok (.aastore, 1)) (hK : K a = (c, N)) (h57 : 5 ≤ c ∧ c ≤ 7) (hn : a < n) (hKr : K r = (0, ci)) (hnr : r < n) (hc : vwCl[ci]? = some rc) (ht : ety c = .object rc.1) (hx : x = (k : Int)) (hk : k < N) (hr : rf a k = r) (hni : nin o a k) (hq : pc + 1 = q) (kk : Ev Γ d M b Po q L st (n, opS n o) m) : Ev Γ d M b Po pc L (rv r :: iv x :: rv a :: st) (n, opS n ((a, k) :: o)) m :=
  Ev.aast (g := (n, opS n ((a, k) :: o))) hdg hK h57 hn hKr hnr hc ht hx hk hr hq (Ev.cg (eqS_put hn hni) kk)
end OPEN
