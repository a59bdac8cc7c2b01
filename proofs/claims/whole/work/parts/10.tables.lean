/-! ===== stores at a place of a list that is written out ===== -/
def nl (v : Vl) : Bool := v.1 != 2
section STO
variable {Γ : Gm} {d : Nat} {M : Mth} {b : Bd} {Po : Pos} {pc q : Nat} {st : List Vl} {g : Gh} {m : Mem}
theorem sto1_0 {a0 v : Vl} {t : List Vl} : sto1 (a0 :: t) 0 v = v :: t := by simp [sto1]
theorem sto2_0 {a0 a1 v : Vl} {t : List Vl} : sto2 (a0 :: a1 :: t) 0 v = v :: uv :: t := by unfold sto2; rw [sto1_0]; simp
theorem istore_0 {a0 : Vl} {t : List Vl} {x : Int} (hdg : decode (Mc M) pc = .ok (.istore 0, 2)) (hn : Nat.ble 1 (Mn M) = true) (hq : pc + 2 = q) (k : Ev Γ d M b Po q (iv x :: t) st g m) : Ev Γ d M b Po pc (a0 :: t) (iv x :: st) g m := Ev.istore hdg (Nat.le_of_ble_eq_true hn) (sto1_0) hq k
theorem istore_n_0 {a0 : Vl} {t : List Vl} {x : Int} (hdg : decode (Mc M) pc = .ok (.istore_n 0, 1)) (hn : Nat.ble 1 (Mn M) = true) (hq : pc + 1 = q) (k : Ev Γ d M b Po q (iv x :: t) st g m) : Ev Γ d M b Po pc (a0 :: t) (iv x :: st) g m := Ev.istore_n hdg (Nat.le_of_ble_eq_true hn) (sto1_0) hq k
theorem astore_0 {a0 : Vl} {t : List Vl} {x : Nat} (hdg : decode (Mc M) pc = .ok (.astore 0, 2)) (hn : Nat.ble 1 (Mn M) = true) (hq : pc + 2 = q) (k : Ev Γ d M b Po q (rv x :: t) st g m) : Ev Γ d M b Po pc (a0 :: t) (rv x :: st) g m := Ev.astore hdg (Nat.le_of_ble_eq_true hn) (sto1_0) hq k
theorem astore_n_0 {a0 : Vl} {t : List Vl} {x : Nat} (hdg : decode (Mc M) pc = .ok (.astore_n 0, 1)) (hn : Nat.ble 1 (Mn M) = true) (hq : pc + 1 = q) (k : Ev Γ d M b Po q (rv x :: t) st g m) : Ev Γ d M b Po pc (a0 :: t) (rv x :: st) g m := Ev.astore_n hdg (Nat.le_of_ble_eq_true hn) (sto1_0) hq k
theorem lstore_0 {a0 a1 : Vl} {t : List Vl} {x : Int} (hdg : decode (Mc M) pc = .ok (.lstore 0, 2)) (hn : Nat.ble 2 (Mn M) = true) (hq : pc + 2 = q) (k : Ev Γ d M b Po q (jv x :: uv :: t) st g m) : Ev Γ d M b Po pc (a0 :: a1 :: t) (jv x :: st) g m := Ev.lstore hdg (Nat.le_of_ble_eq_true hn) (sto2_0) hq k
theorem lstore_n_0 {a0 a1 : Vl} {t : List Vl} {x : Int} (hdg : decode (Mc M) pc = .ok (.lstore_n 0, 1)) (hn : Nat.ble 2 (Mn M) = true) (hq : pc + 1 = q) (k : Ev Γ d M b Po q (jv x :: uv :: t) st g m) : Ev Γ d M b Po pc (a0 :: a1 :: t) (jv x :: st) g m := Ev.lstore_n hdg (Nat.le_of_ble_eq_true hn) (sto2_0) hq k
theorem iinc_0 {t : List Vl} {n x : Int} (hdg : decode (Mc M) pc = .ok (.iinc 0 n, 3)) (hn : Nat.ble 1 (Mn M) = true) (hq : pc + 3 = q) (k : Ev Γ d M b Po q (iv (w32 (x + n)) :: t) st g m) : Ev Γ d M b Po pc (iv x :: t) st g m := Ev.iinc hdg (Nat.le_of_ble_eq_true hn) rfl (sto1_0) hq k
theorem sto1_1 {a0 a1 v : Vl} {t : List Vl} (hl : nl a0 = true) : sto1 (a0 :: a1 :: t) 1 v = a0 :: v :: t := by simp [sto1, clr, show ¬ a0.1 = 2 by simpa [nl] using hl]
theorem sto2_1 {a0 a1 a2 v : Vl} {t : List Vl} (hl : nl a0 = true) : sto2 (a0 :: a1 :: a2 :: t) 1 v = a0 :: v :: uv :: t := by unfold sto2; rw [sto1_1 hl]; simp
theorem istore_1 {a0 a1 : Vl} {t : List Vl} {x : Int} (hdg : decode (Mc M) pc = .ok (.istore 1, 2)) (hn : Nat.ble 2 (Mn M) = true) (hl : nl a0 = true) (hq : pc + 2 = q) (k : Ev Γ d M b Po q (a0 :: iv x :: t) st g m) : Ev Γ d M b Po pc (a0 :: a1 :: t) (iv x :: st) g m := Ev.istore hdg (Nat.le_of_ble_eq_true hn) (sto1_1 hl) hq k
theorem istore_n_1 {a0 a1 : Vl} {t : List Vl} {x : Int} (hdg : decode (Mc M) pc = .ok (.istore_n 1, 1)) (hn : Nat.ble 2 (Mn M) = true) (hl : nl a0 = true) (hq : pc + 1 = q) (k : Ev Γ d M b Po q (a0 :: iv x :: t) st g m) : Ev Γ d M b Po pc (a0 :: a1 :: t) (iv x :: st) g m := Ev.istore_n hdg (Nat.le_of_ble_eq_true hn) (sto1_1 hl) hq k
theorem astore_1 {a0 a1 : Vl} {t : List Vl} {x : Nat} (hdg : decode (Mc M) pc = .ok (.astore 1, 2)) (hn : Nat.ble 2 (Mn M) = true) (hl : nl a0 = true) (hq : pc + 2 = q) (k : Ev Γ d M b Po q (a0 :: rv x :: t) st g m) : Ev Γ d M b Po pc (a0 :: a1 :: t) (rv x :: st) g m := Ev.astore hdg (Nat.le_of_ble_eq_true hn) (sto1_1 hl) hq k
theorem astore_n_1 {a0 a1 : Vl} {t : List Vl} {x : Nat} (hdg : decode (Mc M) pc = .ok (.astore_n 1, 1)) (hn : Nat.ble 2 (Mn M) = true) (hl : nl a0 = true) (hq : pc + 1 = q) (k : Ev Γ d M b Po q (a0 :: rv x :: t) st g m) : Ev Γ d M b Po pc (a0 :: a1 :: t) (rv x :: st) g m := Ev.astore_n hdg (Nat.le_of_ble_eq_true hn) (sto1_1 hl) hq k
theorem lstore_1 {a0 a1 a2 : Vl} {t : List Vl} {x : Int} (hdg : decode (Mc M) pc = .ok (.lstore 1, 2)) (hn : Nat.ble 3 (Mn M) = true) (hl : nl a0 = true) (hq : pc + 2 = q) (k : Ev Γ d M b Po q (a0 :: jv x :: uv :: t) st g m) : Ev Γ d M b Po pc (a0 :: a1 :: a2 :: t) (jv x :: st) g m := Ev.lstore hdg (Nat.le_of_ble_eq_true hn) (sto2_1 hl) hq k
theorem lstore_n_1 {a0 a1 a2 : Vl} {t : List Vl} {x : Int} (hdg : decode (Mc M) pc = .ok (.lstore_n 1, 1)) (hn : Nat.ble 3 (Mn M) = true) (hl : nl a0 = true) (hq : pc + 1 = q) (k : Ev Γ d M b Po q (a0 :: jv x :: uv :: t) st g m) : Ev Γ d M b Po pc (a0 :: a1 :: a2 :: t) (jv x :: st) g m := Ev.lstore_n hdg (Nat.le_of_ble_eq_true hn) (sto2_1 hl) hq k
theorem iinc_1 {a0 : Vl} {t : List Vl} {n x : Int} (hdg : decode (Mc M) pc = .ok (.iinc 1 n, 3)) (hn : Nat.ble 2 (Mn M) = true) (hl : nl a0 = true) (hq : pc + 3 = q) (k : Ev Γ d M b Po q (a0 :: iv (w32 (x + n)) :: t) st g m) : Ev Γ d M b Po pc (a0 :: iv x :: t) st g m := Ev.iinc hdg (Nat.le_of_ble_eq_true hn) rfl (sto1_1 hl) hq k
theorem sto1_2 {a0 a1 a2 v : Vl} {t : List Vl} (hl : nl a1 = true) : sto1 (a0 :: a1 :: a2 :: t) 2 v = a0 :: a1 :: v :: t := by simp [sto1, clr, show ¬ a1.1 = 2 by simpa [nl] using hl]
theorem sto2_2 {a0 a1 a2 a3 v : Vl} {t : List Vl} (hl : nl a1 = true) : sto2 (a0 :: a1 :: a2 :: a3 :: t) 2 v = a0 :: a1 :: v :: uv :: t := by unfold sto2; rw [sto1_2 hl]; simp
theorem istore_2 {a0 a1 a2 : Vl} {t : List Vl} {x : Int} (hdg : decode (Mc M) pc = .ok (.istore 2, 2)) (hn : Nat.ble 3 (Mn M) = true) (hl : nl a1 = true) (hq : pc + 2 = q) (k : Ev Γ d M b Po q (a0 :: a1 :: iv x :: t) st g m) : Ev Γ d M b Po pc (a0 :: a1 :: a2 :: t) (iv x :: st) g m := Ev.istore hdg (Nat.le_of_ble_eq_true hn) (sto1_2 hl) hq k
theorem istore_n_2 {a0 a1 a2 : Vl} {t : List Vl} {x : Int} (hdg : decode (Mc M) pc = .ok (.istore_n 2, 1)) (hn : Nat.ble 3 (Mn M) = true) (hl : nl a1 = true) (hq : pc + 1 = q) (k : Ev Γ d M b Po q (a0 :: a1 :: iv x :: t) st g m) : Ev Γ d M b Po pc (a0 :: a1 :: a2 :: t) (iv x :: st) g m := Ev.istore_n hdg (Nat.le_of_ble_eq_true hn) (sto1_2 hl) hq k
theorem astore_2 {a0 a1 a2 : Vl} {t : List Vl} {x : Nat} (hdg : decode (Mc M) pc = .ok (.astore 2, 2)) (hn : Nat.ble 3 (Mn M) = true) (hl : nl a1 = true) (hq : pc + 2 = q) (k : Ev Γ d M b Po q (a0 :: a1 :: rv x :: t) st g m) : Ev Γ d M b Po pc (a0 :: a1 :: a2 :: t) (rv x :: st) g m := Ev.astore hdg (Nat.le_of_ble_eq_true hn) (sto1_2 hl) hq k
theorem astore_n_2 {a0 a1 a2 : Vl} {t : List Vl} {x : Nat} (hdg : decode (Mc M) pc = .ok (.astore_n 2, 1)) (hn : Nat.ble 3 (Mn M) = true) (hl : nl a1 = true) (hq : pc + 1 = q) (k : Ev Γ d M b Po q (a0 :: a1 :: rv x :: t) st g m) : Ev Γ d M b Po pc (a0 :: a1 :: a2 :: t) (rv x :: st) g m := Ev.astore_n hdg (Nat.le_of_ble_eq_true hn) (sto1_2 hl) hq k
theorem lstore_2 {a0 a1 a2 a3 : Vl} {t : List Vl} {x : Int} (hdg : decode (Mc M) pc = .ok (.lstore 2, 2)) (hn : Nat.ble 4 (Mn M) = true) (hl : nl a1 = true) (hq : pc + 2 = q) (k : Ev Γ d M b Po q (a0 :: a1 :: jv x :: uv :: t) st g m) : Ev Γ d M b Po pc (a0 :: a1 :: a2 :: a3 :: t) (jv x :: st) g m := Ev.lstore hdg (Nat.le_of_ble_eq_true hn) (sto2_2 hl) hq k
theorem lstore_n_2 {a0 a1 a2 a3 : Vl} {t : List Vl} {x : Int} (hdg : decode (Mc M) pc = .ok (.lstore_n 2, 1)) (hn : Nat.ble 4 (Mn M) = true) (hl : nl a1 = true) (hq : pc + 1 = q) (k : Ev Γ d M b Po q (a0 :: a1 :: jv x :: uv :: t) st g m) : Ev Γ d M b Po pc (a0 :: a1 :: a2 :: a3 :: t) (jv x :: st) g m := Ev.lstore_n hdg (Nat.le_of_ble_eq_true hn) (sto2_2 hl) hq k
theorem iinc_2 {a0 a1 : Vl} {t : List Vl} {n x : Int} (hdg : decode (Mc M) pc = .ok (.iinc 2 n, 3)) (hn : Nat.ble 3 (Mn M) = true) (hl : nl a1 = true) (hq : pc + 3 = q) (k : Ev Γ d M b Po q (a0 :: a1 :: iv (w32 (x + n)) :: t) st g m) : Ev Γ d M b Po pc (a0 :: a1 :: iv x :: t) st g m := Ev.iinc hdg (Nat.le_of_ble_eq_true hn) rfl (sto1_2 hl) hq k
theorem sto1_3 {a0 a1 a2 a3 v : Vl} {t : List Vl} (hl : nl a2 = true) : sto1 (a0 :: a1 :: a2 :: a3 :: t) 3 v = a0 :: a1 :: a2 :: v :: t := by simp [sto1, clr, show ¬ a2.1 = 2 by simpa [nl] using hl]
theorem sto2_3 {a0 a1 a2 a3 a4 v : Vl} {t : List Vl} (hl : nl a2 = true) : sto2 (a0 :: a1 :: a2 :: a3 :: a4 :: t) 3 v = a0 :: a1 :: a2 :: v :: uv :: t := by unfold sto2; rw [sto1_3 hl]; simp
theorem istore_3 {a0 a1 a2 a3 : Vl} {t : List Vl} {x : Int} (hdg : decode (Mc M) pc = .ok (.istore 3, 2)) (hn : Nat.ble 4 (Mn M) = true) (hl : nl a2 = true) (hq : pc + 2 = q) (k : Ev Γ d M b Po q (a0 :: a1 :: a2 :: iv x :: t) st g m) : Ev Γ d M b Po pc (a0 :: a1 :: a2 :: a3 :: t) (iv x :: st) g m := Ev.istore hdg (Nat.le_of_ble_eq_true hn) (sto1_3 hl) hq k
theorem istore_n_3 {a0 a1 a2 a3 : Vl} {t : List Vl} {x : Int} (hdg : decode (Mc M) pc = .ok (.istore_n 3, 1)) (hn : Nat.ble 4 (Mn M) = true) (hl : nl a2 = true) (hq : pc + 1 = q) (k : Ev Γ d M b Po q (a0 :: a1 :: a2 :: iv x :: t) st g m) : Ev Γ d M b Po pc (a0 :: a1 :: a2 :: a3 :: t) (iv x :: st) g m := Ev.istore_n hdg (Nat.le_of_ble_eq_true hn) (sto1_3 hl) hq k
theorem astore_3 {a0 a1 a2 a3 : Vl} {t : List Vl} {x : Nat} (hdg : decode (Mc M) pc = .ok (.astore 3, 2)) (hn : Nat.ble 4 (Mn M) = true) (hl : nl a2 = true) (hq : pc + 2 = q) (k : Ev Γ d M b Po q (a0 :: a1 :: a2 :: rv x :: t) st g m) : Ev Γ d M b Po pc (a0 :: a1 :: a2 :: a3 :: t) (rv x :: st) g m := Ev.astore hdg (Nat.le_of_ble_eq_true hn) (sto1_3 hl) hq k
theorem astore_n_3 {a0 a1 a2 a3 : Vl} {t : List Vl} {x : Nat} (hdg : decode (Mc M) pc = .ok (.astore_n 3, 1)) (hn : Nat.ble 4 (Mn M) = true) (hl : nl a2 = true) (hq : pc + 1 = q) (k : Ev Γ d M b Po q (a0 :: a1 :: a2 :: rv x :: t) st g m) : Ev Γ d M b Po pc (a0 :: a1 :: a2 :: a3 :: t) (rv x :: st) g m := Ev.astore_n hdg (Nat.le_of_ble_eq_true hn) (sto1_3 hl) hq k
theorem lstore_3 {a0 a1 a2 a3 a4 : Vl} {t : List Vl} {x : Int} (hdg : decode (Mc M) pc = .ok (.lstore 3, 2)) (hn : Nat.ble 5 (Mn M) = true) (hl : nl a2 = true) (hq : pc + 2 = q) (k : Ev Γ d M b Po q (a0 :: a1 :: a2 :: jv x :: uv :: t) st g m) : Ev Γ d M b Po pc (a0 :: a1 :: a2 :: a3 :: a4 :: t) (jv x :: st) g m := Ev.lstore hdg (Nat.le_of_ble_eq_true hn) (sto2_3 hl) hq k
theorem lstore_n_3 {a0 a1 a2 a3 a4 : Vl} {t : List Vl} {x : Int} (hdg : decode (Mc M) pc = .ok (.lstore_n 3, 1)) (hn : Nat.ble 5 (Mn M) = true) (hl : nl a2 = true) (hq : pc + 1 = q) (k : Ev Γ d M b Po q (a0 :: a1 :: a2 :: jv x :: uv :: t) st g m) : Ev Γ d M b Po pc (a0 :: a1 :: a2 :: a3 :: a4 :: t) (jv x :: st) g m := Ev.lstore_n hdg (Nat.le_of_ble_eq_true hn) (sto2_3 hl) hq k
theorem iinc_3 {a0 a1 a2 : Vl} {t : List Vl} {n x : Int} (hdg : decode (Mc M) pc = .ok (.iinc 3 n, 3)) (hn : Nat.ble 4 (Mn M) = true) (hl : nl a2 = true) (hq : pc + 3 = q) (k : Ev Γ d M b Po q (a0 :: a1 :: a2 :: iv (w32 (x + n)) :: t) st g m) : Ev Γ d M b Po pc (a0 :: a1 :: a2 :: iv x :: t) st g m := Ev.iinc hdg (Nat.le_of_ble_eq_true hn) rfl (sto1_3 hl) hq k
theorem sto1_4 {a0 a1 a2 a3 a4 v : Vl} {t : List Vl} (hl : nl a3 = true) : sto1 (a0 :: a1 :: a2 :: a3 :: a4 :: t) 4 v = a0 :: a1 :: a2 :: a3 :: v :: t := by simp [sto1, clr, show ¬ a3.1 = 2 by simpa [nl] using hl]
theorem sto2_4 {a0 a1 a2 a3 a4 a5 v : Vl} {t : List Vl} (hl : nl a3 = true) : sto2 (a0 :: a1 :: a2 :: a3 :: a4 :: a5 :: t) 4 v = a0 :: a1 :: a2 :: a3 :: v :: uv :: t := by unfold sto2; rw [sto1_4 hl]; simp
theorem istore_4 {a0 a1 a2 a3 a4 : Vl} {t : List Vl} {x : Int} (hdg : decode (Mc M) pc = .ok (.istore 4, 2)) (hn : Nat.ble 5 (Mn M) = true) (hl : nl a3 = true) (hq : pc + 2 = q) (k : Ev Γ d M b Po q (a0 :: a1 :: a2 :: a3 :: iv x :: t) st g m) : Ev Γ d M b Po pc (a0 :: a1 :: a2 :: a3 :: a4 :: t) (iv x :: st) g m := Ev.istore hdg (Nat.le_of_ble_eq_true hn) (sto1_4 hl) hq k
theorem astore_4 {a0 a1 a2 a3 a4 : Vl} {t : List Vl} {x : Nat} (hdg : decode (Mc M) pc = .ok (.astore 4, 2)) (hn : Nat.ble 5 (Mn M) = true) (hl : nl a3 = true) (hq : pc + 2 = q) (k : Ev Γ d M b Po q (a0 :: a1 :: a2 :: a3 :: rv x :: t) st g m) : Ev Γ d M b Po pc (a0 :: a1 :: a2 :: a3 :: a4 :: t) (rv x :: st) g m := Ev.astore hdg (Nat.le_of_ble_eq_true hn) (sto1_4 hl) hq k
theorem lstore_4 {a0 a1 a2 a3 a4 a5 : Vl} {t : List Vl} {x : Int} (hdg : decode (Mc M) pc = .ok (.lstore 4, 2)) (hn : Nat.ble 6 (Mn M) = true) (hl : nl a3 = true) (hq : pc + 2 = q) (k : Ev Γ d M b Po q (a0 :: a1 :: a2 :: a3 :: jv x :: uv :: t) st g m) : Ev Γ d M b Po pc (a0 :: a1 :: a2 :: a3 :: a4 :: a5 :: t) (jv x :: st) g m := Ev.lstore hdg (Nat.le_of_ble_eq_true hn) (sto2_4 hl) hq k
theorem iinc_4 {a0 a1 a2 a3 : Vl} {t : List Vl} {n x : Int} (hdg : decode (Mc M) pc = .ok (.iinc 4 n, 3)) (hn : Nat.ble 5 (Mn M) = true) (hl : nl a3 = true) (hq : pc + 3 = q) (k : Ev Γ d M b Po q (a0 :: a1 :: a2 :: a3 :: iv (w32 (x + n)) :: t) st g m) : Ev Γ d M b Po pc (a0 :: a1 :: a2 :: a3 :: iv x :: t) st g m := Ev.iinc hdg (Nat.le_of_ble_eq_true hn) rfl (sto1_4 hl) hq k
theorem sto1_5 {a0 a1 a2 a3 a4 a5 v : Vl} {t : List Vl} (hl : nl a4 = true) : sto1 (a0 :: a1 :: a2 :: a3 :: a4 :: a5 :: t) 5 v = a0 :: a1 :: a2 :: a3 :: a4 :: v :: t := by simp [sto1, clr, show ¬ a4.1 = 2 by simpa [nl] using hl]
theorem sto2_5 {a0 a1 a2 a3 a4 a5 a6 v : Vl} {t : List Vl} (hl : nl a4 = true) : sto2 (a0 :: a1 :: a2 :: a3 :: a4 :: a5 :: a6 :: t) 5 v = a0 :: a1 :: a2 :: a3 :: a4 :: v :: uv :: t := by unfold sto2; rw [sto1_5 hl]; simp
theorem istore_5 {a0 a1 a2 a3 a4 a5 : Vl} {t : List Vl} {x : Int} (hdg : decode (Mc M) pc = .ok (.istore 5, 2)) (hn : Nat.ble 6 (Mn M) = true) (hl : nl a4 = true) (hq : pc + 2 = q) (k : Ev Γ d M b Po q (a0 :: a1 :: a2 :: a3 :: a4 :: iv x :: t) st g m) : Ev Γ d M b Po pc (a0 :: a1 :: a2 :: a3 :: a4 :: a5 :: t) (iv x :: st) g m := Ev.istore hdg (Nat.le_of_ble_eq_true hn) (sto1_5 hl) hq k
theorem astore_5 {a0 a1 a2 a3 a4 a5 : Vl} {t : List Vl} {x : Nat} (hdg : decode (Mc M) pc = .ok (.astore 5, 2)) (hn : Nat.ble 6 (Mn M) = true) (hl : nl a4 = true) (hq : pc + 2 = q) (k : Ev Γ d M b Po q (a0 :: a1 :: a2 :: a3 :: a4 :: rv x :: t) st g m) : Ev Γ d M b Po pc (a0 :: a1 :: a2 :: a3 :: a4 :: a5 :: t) (rv x :: st) g m := Ev.astore hdg (Nat.le_of_ble_eq_true hn) (sto1_5 hl) hq k
theorem lstore_5 {a0 a1 a2 a3 a4 a5 a6 : Vl} {t : List Vl} {x : Int} (hdg : decode (Mc M) pc = .ok (.lstore 5, 2)) (hn : Nat.ble 7 (Mn M) = true) (hl : nl a4 = true) (hq : pc + 2 = q) (k : Ev Γ d M b Po q (a0 :: a1 :: a2 :: a3 :: a4 :: jv x :: uv :: t) st g m) : Ev Γ d M b Po pc (a0 :: a1 :: a2 :: a3 :: a4 :: a5 :: a6 :: t) (jv x :: st) g m := Ev.lstore hdg (Nat.le_of_ble_eq_true hn) (sto2_5 hl) hq k
theorem iinc_5 {a0 a1 a2 a3 a4 : Vl} {t : List Vl} {n x : Int} (hdg : decode (Mc M) pc = .ok (.iinc 5 n, 3)) (hn : Nat.ble 6 (Mn M) = true) (hl : nl a4 = true) (hq : pc + 3 = q) (k : Ev Γ d M b Po q (a0 :: a1 :: a2 :: a3 :: a4 :: iv (w32 (x + n)) :: t) st g m) : Ev Γ d M b Po pc (a0 :: a1 :: a2 :: a3 :: a4 :: iv x :: t) st g m := Ev.iinc hdg (Nat.le_of_ble_eq_true hn) rfl (sto1_5 hl) hq k
theorem sto1_6 {a0 a1 a2 a3 a4 a5 a6 v : Vl} {t : List Vl} (hl : nl a5 = true) : sto1 (a0 :: a1 :: a2 :: a3 :: a4 :: a5 :: a6 :: t) 6 v = a0 :: a1 :: a2 :: a3 :: a4 :: a5 :: v :: t := by simp [sto1, clr, show ¬ a5.1 = 2 by simpa [nl] using hl]
theorem sto2_6 {a0 a1 a2 a3 a4 a5 a6 a7 v : Vl} {t : List Vl} (hl : nl a5 = true) : sto2 (a0 :: a1 :: a2 :: a3 :: a4 :: a5 :: a6 :: a7 :: t) 6 v = a0 :: a1 :: a2 :: a3 :: a4 :: a5 :: v :: uv :: t := by unfold sto2; rw [sto1_6 hl]; simp
theorem istore_6 {a0 a1 a2 a3 a4 a5 a6 : Vl} {t : List Vl} {x : Int} (hdg : decode (Mc M) pc = .ok (.istore 6, 2)) (hn : Nat.ble 7 (Mn M) = true) (hl : nl a5 = true) (hq : pc + 2 = q) (k : Ev Γ d M b Po q (a0 :: a1 :: a2 :: a3 :: a4 :: a5 :: iv x :: t) st g m) : Ev Γ d M b Po pc (a0 :: a1 :: a2 :: a3 :: a4 :: a5 :: a6 :: t) (iv x :: st) g m := Ev.istore hdg (Nat.le_of_ble_eq_true hn) (sto1_6 hl) hq k
theorem astore_6 {a0 a1 a2 a3 a4 a5 a6 : Vl} {t : List Vl} {x : Nat} (hdg : decode (Mc M) pc = .ok (.astore 6, 2)) (hn : Nat.ble 7 (Mn M) = true) (hl : nl a5 = true) (hq : pc + 2 = q) (k : Ev Γ d M b Po q (a0 :: a1 :: a2 :: a3 :: a4 :: a5 :: rv x :: t) st g m) : Ev Γ d M b Po pc (a0 :: a1 :: a2 :: a3 :: a4 :: a5 :: a6 :: t) (rv x :: st) g m := Ev.astore hdg (Nat.le_of_ble_eq_true hn) (sto1_6 hl) hq k
theorem lstore_6 {a0 a1 a2 a3 a4 a5 a6 a7 : Vl} {t : List Vl} {x : Int} (hdg : decode (Mc M) pc = .ok (.lstore 6, 2)) (hn : Nat.ble 8 (Mn M) = true) (hl : nl a5 = true) (hq : pc + 2 = q) (k : Ev Γ d M b Po q (a0 :: a1 :: a2 :: a3 :: a4 :: a5 :: jv x :: uv :: t) st g m) : Ev Γ d M b Po pc (a0 :: a1 :: a2 :: a3 :: a4 :: a5 :: a6 :: a7 :: t) (jv x :: st) g m := Ev.lstore hdg (Nat.le_of_ble_eq_true hn) (sto2_6 hl) hq k
theorem iinc_6 {a0 a1 a2 a3 a4 a5 : Vl} {t : List Vl} {n x : Int} (hdg : decode (Mc M) pc = .ok (.iinc 6 n, 3)) (hn : Nat.ble 7 (Mn M) = true) (hl : nl a5 = true) (hq : pc + 3 = q) (k : Ev Γ d M b Po q (a0 :: a1 :: a2 :: a3 :: a4 :: a5 :: iv (w32 (x + n)) :: t) st g m) : Ev Γ d M b Po pc (a0 :: a1 :: a2 :: a3 :: a4 :: a5 :: iv x :: t) st g m := Ev.iinc hdg (Nat.le_of_ble_eq_true hn) rfl (sto1_6 hl) hq k
theorem sto1_7 {a0 a1 a2 a3 a4 a5 a6 a7 v : Vl} {t : List Vl} (hl : nl a6 = true) : sto1 (a0 :: a1 :: a2 :: a3 :: a4 :: a5 :: a6 :: a7 :: t) 7 v = a0 :: a1 :: a2 :: a3 :: a4 :: a5 :: a6 :: v :: t := by simp [sto1, clr, show ¬ a6.1 = 2 by simpa [nl] using hl]
theorem sto2_7 {a0 a1 a2 a3 a4 a5 a6 a7 a8 v : Vl} {t : List Vl} (hl : nl a6 = true) : sto2 (a0 :: a1 :: a2 :: a3 :: a4 :: a5 :: a6 :: a7 :: a8 :: t) 7 v = a0 :: a1 :: a2 :: a3 :: a4 :: a5 :: a6 :: v :: uv :: t := by unfold sto2; rw [sto1_7 hl]; simp
theorem istore_7 {a0 a1 a2 a3 a4 a5 a6 a7 : Vl} {t : List Vl} {x : Int} (hdg : decode (Mc M) pc = .ok (.istore 7, 2)) (hn : Nat.ble 8 (Mn M) = true) (hl : nl a6 = true) (hq : pc + 2 = q) (k : Ev Γ d M b Po q (a0 :: a1 :: a2 :: a3 :: a4 :: a5 :: a6 :: iv x :: t) st g m) : Ev Γ d M b Po pc (a0 :: a1 :: a2 :: a3 :: a4 :: a5 :: a6 :: a7 :: t) (iv x :: st) g m := Ev.istore hdg (Nat.le_of_ble_eq_true hn) (sto1_7 hl) hq k
theorem astore_7 {a0 a1 a2 a3 a4 a5 a6 a7 : Vl} {t : List Vl} {x : Nat} (hdg : decode (Mc M) pc = .ok (.astore 7, 2)) (hn : Nat.ble 8 (Mn M) = true) (hl : nl a6 = true) (hq : pc + 2 = q) (k : Ev Γ d M b Po q (a0 :: a1 :: a2 :: a3 :: a4 :: a5 :: a6 :: rv x :: t) st g m) : Ev Γ d M b Po pc (a0 :: a1 :: a2 :: a3 :: a4 :: a5 :: a6 :: a7 :: t) (rv x :: st) g m := Ev.astore hdg (Nat.le_of_ble_eq_true hn) (sto1_7 hl) hq k
theorem lstore_7 {a0 a1 a2 a3 a4 a5 a6 a7 a8 : Vl} {t : List Vl} {x : Int} (hdg : decode (Mc M) pc = .ok (.lstore 7, 2)) (hn : Nat.ble 9 (Mn M) = true) (hl : nl a6 = true) (hq : pc + 2 = q) (k : Ev Γ d M b Po q (a0 :: a1 :: a2 :: a3 :: a4 :: a5 :: a6 :: jv x :: uv :: t) st g m) : Ev Γ d M b Po pc (a0 :: a1 :: a2 :: a3 :: a4 :: a5 :: a6 :: a7 :: a8 :: t) (jv x :: st) g m := Ev.lstore hdg (Nat.le_of_ble_eq_true hn) (sto2_7 hl) hq k
theorem iinc_7 {a0 a1 a2 a3 a4 a5 a6 : Vl} {t : List Vl} {n x : Int} (hdg : decode (Mc M) pc = .ok (.iinc 7 n, 3)) (hn : Nat.ble 8 (Mn M) = true) (hl : nl a6 = true) (hq : pc + 3 = q) (k : Ev Γ d M b Po q (a0 :: a1 :: a2 :: a3 :: a4 :: a5 :: a6 :: iv (w32 (x + n)) :: t) st g m) : Ev Γ d M b Po pc (a0 :: a1 :: a2 :: a3 :: a4 :: a5 :: a6 :: iv x :: t) st g m := Ev.iinc hdg (Nat.le_of_ble_eq_true hn) rfl (sto1_7 hl) hq k
theorem sto1_8 {a0 a1 a2 a3 a4 a5 a6 a7 a8 v : Vl} {t : List Vl} (hl : nl a7 = true) : sto1 (a0 :: a1 :: a2 :: a3 :: a4 :: a5 :: a6 :: a7 :: a8 :: t) 8 v = a0 :: a1 :: a2 :: a3 :: a4 :: a5 :: a6 :: a7 :: v :: t := by simp [sto1, clr, show ¬ a7.1 = 2 by simpa [nl] using hl]
theorem sto2_8 {a0 a1 a2 a3 a4 a5 a6 a7 a8 a9 v : Vl} {t : List Vl} (hl : nl a7 = true) : sto2 (a0 :: a1 :: a2 :: a3 :: a4 :: a5 :: a6 :: a7 :: a8 :: a9 :: t) 8 v = a0 :: a1 :: a2 :: a3 :: a4 :: a5 :: a6 :: a7 :: v :: uv :: t := by unfold sto2; rw [sto1_8 hl]; simp
theorem istore_8 {a0 a1 a2 a3 a4 a5 a6 a7 a8 : Vl} {t : List Vl} {x : Int} (hdg : decode (Mc M) pc = .ok (.istore 8, 2)) (hn : Nat.ble 9 (Mn M) = true) (hl : nl a7 = true) (hq : pc + 2 = q) (k : Ev Γ d M b Po q (a0 :: a1 :: a2 :: a3 :: a4 :: a5 :: a6 :: a7 :: iv x :: t) st g m) : Ev Γ d M b Po pc (a0 :: a1 :: a2 :: a3 :: a4 :: a5 :: a6 :: a7 :: a8 :: t) (iv x :: st) g m := Ev.istore hdg (Nat.le_of_ble_eq_true hn) (sto1_8 hl) hq k
theorem astore_8 {a0 a1 a2 a3 a4 a5 a6 a7 a8 : Vl} {t : List Vl} {x : Nat} (hdg : decode (Mc M) pc = .ok (.astore 8, 2)) (hn : Nat.ble 9 (Mn M) = true) (hl : nl a7 = true) (hq : pc + 2 = q) (k : Ev Γ d M b Po q (a0 :: a1 :: a2 :: a3 :: a4 :: a5 :: a6 :: a7 :: rv x :: t) st g m) : Ev Γ d M b Po pc (a0 :: a1 :: a2 :: a3 :: a4 :: a5 :: a6 :: a7 :: a8 :: t) (rv x :: st) g m := Ev.astore hdg (Nat.le_of_ble_eq_true hn) (sto1_8 hl) hq k
theorem lstore_8 {a0 a1 a2 a3 a4 a5 a6 a7 a8 a9 : Vl} {t : List Vl} {x : Int} (hdg : decode (Mc M) pc = .ok (.lstore 8, 2)) (hn : Nat.ble 10 (Mn M) = true) (hl : nl a7 = true) (hq : pc + 2 = q) (k : Ev Γ d M b Po q (a0 :: a1 :: a2 :: a3 :: a4 :: a5 :: a6 :: a7 :: jv x :: uv :: t) st g m) : Ev Γ d M b Po pc (a0 :: a1 :: a2 :: a3 :: a4 :: a5 :: a6 :: a7 :: a8 :: a9 :: t) (jv x :: st) g m := Ev.lstore hdg (Nat.le_of_ble_eq_true hn) (sto2_8 hl) hq k
theorem iinc_8 {a0 a1 a2 a3 a4 a5 a6 a7 : Vl} {t : List Vl} {n x : Int} (hdg : decode (Mc M) pc = .ok (.iinc 8 n, 3)) (hn : Nat.ble 9 (Mn M) = true) (hl : nl a7 = true) (hq : pc + 3 = q) (k : Ev Γ d M b Po q (a0 :: a1 :: a2 :: a3 :: a4 :: a5 :: a6 :: a7 :: iv (w32 (x + n)) :: t) st g m) : Ev Γ d M b Po pc (a0 :: a1 :: a2 :: a3 :: a4 :: a5 :: a6 :: a7 :: iv x :: t) st g m := Ev.iinc hdg (Nat.le_of_ble_eq_true hn) rfl (sto1_8 hl) hq k
theorem sto1_9 {a0 a1 a2 a3 a4 a5 a6 a7 a8 a9 v : Vl} {t : List Vl} (hl : nl a8 = true) : sto1 (a0 :: a1 :: a2 :: a3 :: a4 :: a5 :: a6 :: a7 :: a8 :: a9 :: t) 9 v = a0 :: a1 :: a2 :: a3 :: a4 :: a5 :: a6 :: a7 :: a8 :: v :: t := by simp [sto1, clr, show ¬ a8.1 = 2 by simpa [nl] using hl]
theorem sto2_9 {a0 a1 a2 a3 a4 a5 a6 a7 a8 a9 a10 v : Vl} {t : List Vl} (hl : nl a8 = true) : sto2 (a0 :: a1 :: a2 :: a3 :: a4 :: a5 :: a6 :: a7 :: a8 :: a9 :: a10 :: t) 9 v = a0 :: a1 :: a2 :: a3 :: a4 :: a5 :: a6 :: a7 :: a8 :: v :: uv :: t := by unfold sto2; rw [sto1_9 hl]; simp
theorem istore_9 {a0 a1 a2 a3 a4 a5 a6 a7 a8 a9 : Vl} {t : List Vl} {x : Int} (hdg : decode (Mc M) pc = .ok (.istore 9, 2)) (hn : Nat.ble 10 (Mn M) = true) (hl : nl a8 = true) (hq : pc + 2 = q) (k : Ev Γ d M b Po q (a0 :: a1 :: a2 :: a3 :: a4 :: a5 :: a6 :: a7 :: a8 :: iv x :: t) st g m) : Ev Γ d M b Po pc (a0 :: a1 :: a2 :: a3 :: a4 :: a5 :: a6 :: a7 :: a8 :: a9 :: t) (iv x :: st) g m := Ev.istore hdg (Nat.le_of_ble_eq_true hn) (sto1_9 hl) hq k
theorem astore_9 {a0 a1 a2 a3 a4 a5 a6 a7 a8 a9 : Vl} {t : List Vl} {x : Nat} (hdg : decode (Mc M) pc = .ok (.astore 9, 2)) (hn : Nat.ble 10 (Mn M) = true) (hl : nl a8 = true) (hq : pc + 2 = q) (k : Ev Γ d M b Po q (a0 :: a1 :: a2 :: a3 :: a4 :: a5 :: a6 :: a7 :: a8 :: rv x :: t) st g m) : Ev Γ d M b Po pc (a0 :: a1 :: a2 :: a3 :: a4 :: a5 :: a6 :: a7 :: a8 :: a9 :: t) (rv x :: st) g m := Ev.astore hdg (Nat.le_of_ble_eq_true hn) (sto1_9 hl) hq k
theorem lstore_9 {a0 a1 a2 a3 a4 a5 a6 a7 a8 a9 a10 : Vl} {t : List Vl} {x : Int} (hdg : decode (Mc M) pc = .ok (.lstore 9, 2)) (hn : Nat.ble 11 (Mn M) = true) (hl : nl a8 = true) (hq : pc + 2 = q) (k : Ev Γ d M b Po q (a0 :: a1 :: a2 :: a3 :: a4 :: a5 :: a6 :: a7 :: a8 :: jv x :: uv :: t) st g m) : Ev Γ d M b Po pc (a0 :: a1 :: a2 :: a3 :: a4 :: a5 :: a6 :: a7 :: a8 :: a9 :: a10 :: t) (jv x :: st) g m := Ev.lstore hdg (Nat.le_of_ble_eq_true hn) (sto2_9 hl) hq k
theorem iinc_9 {a0 a1 a2 a3 a4 a5 a6 a7 a8 : Vl} {t : List Vl} {n x : Int} (hdg : decode (Mc M) pc = .ok (.iinc 9 n, 3)) (hn : Nat.ble 10 (Mn M) = true) (hl : nl a8 = true) (hq : pc + 3 = q) (k : Ev Γ d M b Po q (a0 :: a1 :: a2 :: a3 :: a4 :: a5 :: a6 :: a7 :: a8 :: iv (w32 (x + n)) :: t) st g m) : Ev Γ d M b Po pc (a0 :: a1 :: a2 :: a3 :: a4 :: a5 :: a6 :: a7 :: a8 :: iv x :: t) st g m := Ev.iinc hdg (Nat.le_of_ble_eq_true hn) rfl (sto1_9 hl) hq k
theorem sto1_10 {a0 a1 a2 a3 a4 a5 a6 a7 a8 a9 a10 v : Vl} {t : List Vl} (hl : nl a9 = true) : sto1 (a0 :: a1 :: a2 :: a3 :: a4 :: a5 :: a6 :: a7 :: a8 :: a9 :: a10 :: t) 10 v = a0 :: a1 :: a2 :: a3 :: a4 :: a5 :: a6 :: a7 :: a8 :: a9 :: v :: t := by simp [sto1, clr, show ¬ a9.1 = 2 by simpa [nl] using hl]
theorem sto2_10 {a0 a1 a2 a3 a4 a5 a6 a7 a8 a9 a10 a11 v : Vl} {t : List Vl} (hl : nl a9 = true) : sto2 (a0 :: a1 :: a2 :: a3 :: a4 :: a5 :: a6 :: a7 :: a8 :: a9 :: a10 :: a11 :: t) 10 v = a0 :: a1 :: a2 :: a3 :: a4 :: a5 :: a6 :: a7 :: a8 :: a9 :: v :: uv :: t := by unfold sto2; rw [sto1_10 hl]; simp
theorem istore_10 {a0 a1 a2 a3 a4 a5 a6 a7 a8 a9 a10 : Vl} {t : List Vl} {x : Int} (hdg : decode (Mc M) pc = .ok (.istore 10, 2)) (hn : Nat.ble 11 (Mn M) = true) (hl : nl a9 = true) (hq : pc + 2 = q) (k : Ev Γ d M b Po q (a0 :: a1 :: a2 :: a3 :: a4 :: a5 :: a6 :: a7 :: a8 :: a9 :: iv x :: t) st g m) : Ev Γ d M b Po pc (a0 :: a1 :: a2 :: a3 :: a4 :: a5 :: a6 :: a7 :: a8 :: a9 :: a10 :: t) (iv x :: st) g m := Ev.istore hdg (Nat.le_of_ble_eq_true hn) (sto1_10 hl) hq k
theorem astore_10 {a0 a1 a2 a3 a4 a5 a6 a7 a8 a9 a10 : Vl} {t : List Vl} {x : Nat} (hdg : decode (Mc M) pc = .ok (.astore 10, 2)) (hn : Nat.ble 11 (Mn M) = true) (hl : nl a9 = true) (hq : pc + 2 = q) (k : Ev Γ d M b Po q (a0 :: a1 :: a2 :: a3 :: a4 :: a5 :: a6 :: a7 :: a8 :: a9 :: rv x :: t) st g m) : Ev Γ d M b Po pc (a0 :: a1 :: a2 :: a3 :: a4 :: a5 :: a6 :: a7 :: a8 :: a9 :: a10 :: t) (rv x :: st) g m := Ev.astore hdg (Nat.le_of_ble_eq_true hn) (sto1_10 hl) hq k
theorem lstore_10 {a0 a1 a2 a3 a4 a5 a6 a7 a8 a9 a10 a11 : Vl} {t : List Vl} {x : Int} (hdg : decode (Mc M) pc = .ok (.lstore 10, 2)) (hn : Nat.ble 12 (Mn M) = true) (hl : nl a9 = true) (hq : pc + 2 = q) (k : Ev Γ d M b Po q (a0 :: a1 :: a2 :: a3 :: a4 :: a5 :: a6 :: a7 :: a8 :: a9 :: jv x :: uv :: t) st g m) : Ev Γ d M b Po pc (a0 :: a1 :: a2 :: a3 :: a4 :: a5 :: a6 :: a7 :: a8 :: a9 :: a10 :: a11 :: t) (jv x :: st) g m := Ev.lstore hdg (Nat.le_of_ble_eq_true hn) (sto2_10 hl) hq k
theorem iinc_10 {a0 a1 a2 a3 a4 a5 a6 a7 a8 a9 : Vl} {t : List Vl} {n x : Int} (hdg : decode (Mc M) pc = .ok (.iinc 10 n, 3)) (hn : Nat.ble 11 (Mn M) = true) (hl : nl a9 = true) (hq : pc + 3 = q) (k : Ev Γ d M b Po q (a0 :: a1 :: a2 :: a3 :: a4 :: a5 :: a6 :: a7 :: a8 :: a9 :: iv (w32 (x + n)) :: t) st g m) : Ev Γ d M b Po pc (a0 :: a1 :: a2 :: a3 :: a4 :: a5 :: a6 :: a7 :: a8 :: a9 :: iv x :: t) st g m := Ev.iinc hdg (Nat.le_of_ble_eq_true hn) rfl (sto1_10 hl) hq k
theorem sto1_11 {a0 a1 a2 a3 a4 a5 a6 a7 a8 a9 a10 a11 v : Vl} {t : List Vl} (hl : nl a10 = true) : sto1 (a0 :: a1 :: a2 :: a3 :: a4 :: a5 :: a6 :: a7 :: a8 :: a9 :: a10 :: a11 :: t) 11 v = a0 :: a1 :: a2 :: a3 :: a4 :: a5 :: a6 :: a7 :: a8 :: a9 :: a10 :: v :: t := by simp [sto1, clr, show ¬ a10.1 = 2 by simpa [nl] using hl]
theorem sto2_11 {a0 a1 a2 a3 a4 a5 a6 a7 a8 a9 a10 a11 a12 v : Vl} {t : List Vl} (hl : nl a10 = true) : sto2 (a0 :: a1 :: a2 :: a3 :: a4 :: a5 :: a6 :: a7 :: a8 :: a9 :: a10 :: a11 :: a12 :: t) 11 v = a0 :: a1 :: a2 :: a3 :: a4 :: a5 :: a6 :: a7 :: a8 :: a9 :: a10 :: v :: uv :: t := by unfold sto2; rw [sto1_11 hl]; simp
theorem istore_11 {a0 a1 a2 a3 a4 a5 a6 a7 a8 a9 a10 a11 : Vl} {t : List Vl} {x : Int} (hdg : decode (Mc M) pc = .ok (.istore 11, 2)) (hn : Nat.ble 12 (Mn M) = true) (hl : nl a10 = true) (hq : pc + 2 = q) (k : Ev Γ d M b Po q (a0 :: a1 :: a2 :: a3 :: a4 :: a5 :: a6 :: a7 :: a8 :: a9 :: a10 :: iv x :: t) st g m) : Ev Γ d M b Po pc (a0 :: a1 :: a2 :: a3 :: a4 :: a5 :: a6 :: a7 :: a8 :: a9 :: a10 :: a11 :: t) (iv x :: st) g m := Ev.istore hdg (Nat.le_of_ble_eq_true hn) (sto1_11 hl) hq k
theorem astore_11 {a0 a1 a2 a3 a4 a5 a6 a7 a8 a9 a10 a11 : Vl} {t : List Vl} {x : Nat} (hdg : decode (Mc M) pc = .ok (.astore 11, 2)) (hn : Nat.ble 12 (Mn M) = true) (hl : nl a10 = true) (hq : pc + 2 = q) (k : Ev Γ d M b Po q (a0 :: a1 :: a2 :: a3 :: a4 :: a5 :: a6 :: a7 :: a8 :: a9 :: a10 :: rv x :: t) st g m) : Ev Γ d M b Po pc (a0 :: a1 :: a2 :: a3 :: a4 :: a5 :: a6 :: a7 :: a8 :: a9 :: a10 :: a11 :: t) (rv x :: st) g m := Ev.astore hdg (Nat.le_of_ble_eq_true hn) (sto1_11 hl) hq k
theorem lstore_11 {a0 a1 a2 a3 a4 a5 a6 a7 a8 a9 a10 a11 a12 : Vl} {t : List Vl} {x : Int} (hdg : decode (Mc M) pc = .ok (.lstore 11, 2)) (hn : Nat.ble 13 (Mn M) = true) (hl : nl a10 = true) (hq : pc + 2 = q) (k : Ev Γ d M b Po q (a0 :: a1 :: a2 :: a3 :: a4 :: a5 :: a6 :: a7 :: a8 :: a9 :: a10 :: jv x :: uv :: t) st g m) : Ev Γ d M b Po pc (a0 :: a1 :: a2 :: a3 :: a4 :: a5 :: a6 :: a7 :: a8 :: a9 :: a10 :: a11 :: a12 :: t) (jv x :: st) g m := Ev.lstore hdg (Nat.le_of_ble_eq_true hn) (sto2_11 hl) hq k
theorem iinc_11 {a0 a1 a2 a3 a4 a5 a6 a7 a8 a9 a10 : Vl} {t : List Vl} {n x : Int} (hdg : decode (Mc M) pc = .ok (.iinc 11 n, 3)) (hn : Nat.ble 12 (Mn M) = true) (hl : nl a10 = true) (hq : pc + 3 = q) (k : Ev Γ d M b Po q (a0 :: a1 :: a2 :: a3 :: a4 :: a5 :: a6 :: a7 :: a8 :: a9 :: a10 :: iv (w32 (x + n)) :: t) st g m) : Ev Γ d M b Po pc (a0 :: a1 :: a2 :: a3 :: a4 :: a5 :: a6 :: a7 :: a8 :: a9 :: a10 :: iv x :: t) st g m := Ev.iinc hdg (Nat.le_of_ble_eq_true hn) rfl (sto1_11 hl) hq k
theorem sto1_12 {a0 a1 a2 a3 a4 a5 a6 a7 a8 a9 a10 a11 a12 v : Vl} {t : List Vl} (hl : nl a11 = true) : sto1 (a0 :: a1 :: a2 :: a3 :: a4 :: a5 :: a6 :: a7 :: a8 :: a9 :: a10 :: a11 :: a12 :: t) 12 v = a0 :: a1 :: a2 :: a3 :: a4 :: a5 :: a6 :: a7 :: a8 :: a9 :: a10 :: a11 :: v :: t := by simp [sto1, clr, show ¬ a11.1 = 2 by simpa [nl] using hl]
theorem sto2_12 {a0 a1 a2 a3 a4 a5 a6 a7 a8 a9 a10 a11 a12 a13 v : Vl} {t : List Vl} (hl : nl a11 = true) : sto2 (a0 :: a1 :: a2 :: a3 :: a4 :: a5 :: a6 :: a7 :: a8 :: a9 :: a10 :: a11 :: a12 :: a13 :: t) 12 v = a0 :: a1 :: a2 :: a3 :: a4 :: a5 :: a6 :: a7 :: a8 :: a9 :: a10 :: a11 :: v :: uv :: t := by unfold sto2; rw [sto1_12 hl]; simp
theorem istore_12 {a0 a1 a2 a3 a4 a5 a6 a7 a8 a9 a10 a11 a12 : Vl} {t : List Vl} {x : Int} (hdg : decode (Mc M) pc = .ok (.istore 12, 2)) (hn : Nat.ble 13 (Mn M) = true) (hl : nl a11 = true) (hq : pc + 2 = q) (k : Ev Γ d M b Po q (a0 :: a1 :: a2 :: a3 :: a4 :: a5 :: a6 :: a7 :: a8 :: a9 :: a10 :: a11 :: iv x :: t) st g m) : Ev Γ d M b Po pc (a0 :: a1 :: a2 :: a3 :: a4 :: a5 :: a6 :: a7 :: a8 :: a9 :: a10 :: a11 :: a12 :: t) (iv x :: st) g m := Ev.istore hdg (Nat.le_of_ble_eq_true hn) (sto1_12 hl) hq k
theorem astore_12 {a0 a1 a2 a3 a4 a5 a6 a7 a8 a9 a10 a11 a12 : Vl} {t : List Vl} {x : Nat} (hdg : decode (Mc M) pc = .ok (.astore 12, 2)) (hn : Nat.ble 13 (Mn M) = true) (hl : nl a11 = true) (hq : pc + 2 = q) (k : Ev Γ d M b Po q (a0 :: a1 :: a2 :: a3 :: a4 :: a5 :: a6 :: a7 :: a8 :: a9 :: a10 :: a11 :: rv x :: t) st g m) : Ev Γ d M b Po pc (a0 :: a1 :: a2 :: a3 :: a4 :: a5 :: a6 :: a7 :: a8 :: a9 :: a10 :: a11 :: a12 :: t) (rv x :: st) g m := Ev.astore hdg (Nat.le_of_ble_eq_true hn) (sto1_12 hl) hq k
theorem lstore_12 {a0 a1 a2 a3 a4 a5 a6 a7 a8 a9 a10 a11 a12 a13 : Vl} {t : List Vl} {x : Int} (hdg : decode (Mc M) pc = .ok (.lstore 12, 2)) (hn : Nat.ble 14 (Mn M) = true) (hl : nl a11 = true) (hq : pc + 2 = q) (k : Ev Γ d M b Po q (a0 :: a1 :: a2 :: a3 :: a4 :: a5 :: a6 :: a7 :: a8 :: a9 :: a10 :: a11 :: jv x :: uv :: t) st g m) : Ev Γ d M b Po pc (a0 :: a1 :: a2 :: a3 :: a4 :: a5 :: a6 :: a7 :: a8 :: a9 :: a10 :: a11 :: a12 :: a13 :: t) (jv x :: st) g m := Ev.lstore hdg (Nat.le_of_ble_eq_true hn) (sto2_12 hl) hq k
theorem iinc_12 {a0 a1 a2 a3 a4 a5 a6 a7 a8 a9 a10 a11 : Vl} {t : List Vl} {n x : Int} (hdg : decode (Mc M) pc = .ok (.iinc 12 n, 3)) (hn : Nat.ble 13 (Mn M) = true) (hl : nl a11 = true) (hq : pc + 3 = q) (k : Ev Γ d M b Po q (a0 :: a1 :: a2 :: a3 :: a4 :: a5 :: a6 :: a7 :: a8 :: a9 :: a10 :: a11 :: iv (w32 (x + n)) :: t) st g m) : Ev Γ d M b Po pc (a0 :: a1 :: a2 :: a3 :: a4 :: a5 :: a6 :: a7 :: a8 :: a9 :: a10 :: a11 :: iv x :: t) st g m := Ev.iinc hdg (Nat.le_of_ble_eq_true hn) rfl (sto1_12 hl) hq k
theorem sto1_13 {a0 a1 a2 a3 a4 a5 a6 a7 a8 a9 a10 a11 a12 a13 v : Vl} {t : List Vl} (hl : nl a12 = true) : sto1 (a0 :: a1 :: a2 :: a3 :: a4 :: a5 :: a6 :: a7 :: a8 :: a9 :: a10 :: a11 :: a12 :: a13 :: t) 13 v = a0 :: a1 :: a2 :: a3 :: a4 :: a5 :: a6 :: a7 :: a8 :: a9 :: a10 :: a11 :: a12 :: v :: t := by simp [sto1, clr, show ¬ a12.1 = 2 by simpa [nl] using hl]
theorem sto2_13 {a0 a1 a2 a3 a4 a5 a6 a7 a8 a9 a10 a11 a12 a13 a14 v : Vl} {t : List Vl} (hl : nl a12 = true) : sto2 (a0 :: a1 :: a2 :: a3 :: a4 :: a5 :: a6 :: a7 :: a8 :: a9 :: a10 :: a11 :: a12 :: a13 :: a14 :: t) 13 v = a0 :: a1 :: a2 :: a3 :: a4 :: a5 :: a6 :: a7 :: a8 :: a9 :: a10 :: a11 :: a12 :: v :: uv :: t := by unfold sto2; rw [sto1_13 hl]; simp
theorem istore_13 {a0 a1 a2 a3 a4 a5 a6 a7 a8 a9 a10 a11 a12 a13 : Vl} {t : List Vl} {x : Int} (hdg : decode (Mc M) pc = .ok (.istore 13, 2)) (hn : Nat.ble 14 (Mn M) = true) (hl : nl a12 = true) (hq : pc + 2 = q) (k : Ev Γ d M b Po q (a0 :: a1 :: a2 :: a3 :: a4 :: a5 :: a6 :: a7 :: a8 :: a9 :: a10 :: a11 :: a12 :: iv x :: t) st g m) : Ev Γ d M b Po pc (a0 :: a1 :: a2 :: a3 :: a4 :: a5 :: a6 :: a7 :: a8 :: a9 :: a10 :: a11 :: a12 :: a13 :: t) (iv x :: st) g m := Ev.istore hdg (Nat.le_of_ble_eq_true hn) (sto1_13 hl) hq k
theorem astore_13 {a0 a1 a2 a3 a4 a5 a6 a7 a8 a9 a10 a11 a12 a13 : Vl} {t : List Vl} {x : Nat} (hdg : decode (Mc M) pc = .ok (.astore 13, 2)) (hn : Nat.ble 14 (Mn M) = true) (hl : nl a12 = true) (hq : pc + 2 = q) (k : Ev Γ d M b Po q (a0 :: a1 :: a2 :: a3 :: a4 :: a5 :: a6 :: a7 :: a8 :: a9 :: a10 :: a11 :: a12 :: rv x :: t) st g m) : Ev Γ d M b Po pc (a0 :: a1 :: a2 :: a3 :: a4 :: a5 :: a6 :: a7 :: a8 :: a9 :: a10 :: a11 :: a12 :: a13 :: t) (rv x :: st) g m := Ev.astore hdg (Nat.le_of_ble_eq_true hn) (sto1_13 hl) hq k
theorem lstore_13 {a0 a1 a2 a3 a4 a5 a6 a7 a8 a9 a10 a11 a12 a13 a14 : Vl} {t : List Vl} {x : Int} (hdg : decode (Mc M) pc = .ok (.lstore 13, 2)) (hn : Nat.ble 15 (Mn M) = true) (hl : nl a12 = true) (hq : pc + 2 = q) (k : Ev Γ d M b Po q (a0 :: a1 :: a2 :: a3 :: a4 :: a5 :: a6 :: a7 :: a8 :: a9 :: a10 :: a11 :: a12 :: jv x :: uv :: t) st g m) : Ev Γ d M b Po pc (a0 :: a1 :: a2 :: a3 :: a4 :: a5 :: a6 :: a7 :: a8 :: a9 :: a10 :: a11 :: a12 :: a13 :: a14 :: t) (jv x :: st) g m := Ev.lstore hdg (Nat.le_of_ble_eq_true hn) (sto2_13 hl) hq k
theorem iinc_13 {a0 a1 a2 a3 a4 a5 a6 a7 a8 a9 a10 a11 a12 : Vl} {t : List Vl} {n x : Int} (hdg : decode (Mc M) pc = .ok (.iinc 13 n, 3)) (hn : Nat.ble 14 (Mn M) = true) (hl : nl a12 = true) (hq : pc + 3 = q) (k : Ev Γ d M b Po q (a0 :: a1 :: a2 :: a3 :: a4 :: a5 :: a6 :: a7 :: a8 :: a9 :: a10 :: a11 :: a12 :: iv (w32 (x + n)) :: t) st g m) : Ev Γ d M b Po pc (a0 :: a1 :: a2 :: a3 :: a4 :: a5 :: a6 :: a7 :: a8 :: a9 :: a10 :: a11 :: a12 :: iv x :: t) st g m := Ev.iinc hdg (Nat.le_of_ble_eq_true hn) rfl (sto1_13 hl) hq k
theorem sto1_14 {a0 a1 a2 a3 a4 a5 a6 a7 a8 a9 a10 a11 a12 a13 a14 v : Vl} {t : List Vl} (hl : nl a13 = true) : sto1 (a0 :: a1 :: a2 :: a3 :: a4 :: a5 :: a6 :: a7 :: a8 :: a9 :: a10 :: a11 :: a12 :: a13 :: a14 :: t) 14 v = a0 :: a1 :: a2 :: a3 :: a4 :: a5 :: a6 :: a7 :: a8 :: a9 :: a10 :: a11 :: a12 :: a13 :: v :: t := by simp [sto1, clr, show ¬ a13.1 = 2 by simpa [nl] using hl]
theorem sto2_14 {a0 a1 a2 a3 a4 a5 a6 a7 a8 a9 a10 a11 a12 a13 a14 a15 v : Vl} {t : List Vl} (hl : nl a13 = true) : sto2 (a0 :: a1 :: a2 :: a3 :: a4 :: a5 :: a6 :: a7 :: a8 :: a9 :: a10 :: a11 :: a12 :: a13 :: a14 :: a15 :: t) 14 v = a0 :: a1 :: a2 :: a3 :: a4 :: a5 :: a6 :: a7 :: a8 :: a9 :: a10 :: a11 :: a12 :: a13 :: v :: uv :: t := by unfold sto2; rw [sto1_14 hl]; simp
theorem istore_14 {a0 a1 a2 a3 a4 a5 a6 a7 a8 a9 a10 a11 a12 a13 a14 : Vl} {t : List Vl} {x : Int} (hdg : decode (Mc M) pc = .ok (.istore 14, 2)) (hn : Nat.ble 15 (Mn M) = true) (hl : nl a13 = true) (hq : pc + 2 = q) (k : Ev Γ d M b Po q (a0 :: a1 :: a2 :: a3 :: a4 :: a5 :: a6 :: a7 :: a8 :: a9 :: a10 :: a11 :: a12 :: a13 :: iv x :: t) st g m) : Ev Γ d M b Po pc (a0 :: a1 :: a2 :: a3 :: a4 :: a5 :: a6 :: a7 :: a8 :: a9 :: a10 :: a11 :: a12 :: a13 :: a14 :: t) (iv x :: st) g m := Ev.istore hdg (Nat.le_of_ble_eq_true hn) (sto1_14 hl) hq k
theorem astore_14 {a0 a1 a2 a3 a4 a5 a6 a7 a8 a9 a10 a11 a12 a13 a14 : Vl} {t : List Vl} {x : Nat} (hdg : decode (Mc M) pc = .ok (.astore 14, 2)) (hn : Nat.ble 15 (Mn M) = true) (hl : nl a13 = true) (hq : pc + 2 = q) (k : Ev Γ d M b Po q (a0 :: a1 :: a2 :: a3 :: a4 :: a5 :: a6 :: a7 :: a8 :: a9 :: a10 :: a11 :: a12 :: a13 :: rv x :: t) st g m) : Ev Γ d M b Po pc (a0 :: a1 :: a2 :: a3 :: a4 :: a5 :: a6 :: a7 :: a8 :: a9 :: a10 :: a11 :: a12 :: a13 :: a14 :: t) (rv x :: st) g m := Ev.astore hdg (Nat.le_of_ble_eq_true hn) (sto1_14 hl) hq k
theorem lstore_14 {a0 a1 a2 a3 a4 a5 a6 a7 a8 a9 a10 a11 a12 a13 a14 a15 : Vl} {t : List Vl} {x : Int} (hdg : decode (Mc M) pc = .ok (.lstore 14, 2)) (hn : Nat.ble 16 (Mn M) = true) (hl : nl a13 = true) (hq : pc + 2 = q) (k : Ev Γ d M b Po q (a0 :: a1 :: a2 :: a3 :: a4 :: a5 :: a6 :: a7 :: a8 :: a9 :: a10 :: a11 :: a12 :: a13 :: jv x :: uv :: t) st g m) : Ev Γ d M b Po pc (a0 :: a1 :: a2 :: a3 :: a4 :: a5 :: a6 :: a7 :: a8 :: a9 :: a10 :: a11 :: a12 :: a13 :: a14 :: a15 :: t) (jv x :: st) g m := Ev.lstore hdg (Nat.le_of_ble_eq_true hn) (sto2_14 hl) hq k
theorem iinc_14 {a0 a1 a2 a3 a4 a5 a6 a7 a8 a9 a10 a11 a12 a13 : Vl} {t : List Vl} {n x : Int} (hdg : decode (Mc M) pc = .ok (.iinc 14 n, 3)) (hn : Nat.ble 15 (Mn M) = true) (hl : nl a13 = true) (hq : pc + 3 = q) (k : Ev Γ d M b Po q (a0 :: a1 :: a2 :: a3 :: a4 :: a5 :: a6 :: a7 :: a8 :: a9 :: a10 :: a11 :: a12 :: a13 :: iv (w32 (x + n)) :: t) st g m) : Ev Γ d M b Po pc (a0 :: a1 :: a2 :: a3 :: a4 :: a5 :: a6 :: a7 :: a8 :: a9 :: a10 :: a11 :: a12 :: a13 :: iv x :: t) st g m := Ev.iinc hdg (Nat.le_of_ble_eq_true hn) rfl (sto1_14 hl) hq k
theorem sto1_15 {a0 a1 a2 a3 a4 a5 a6 a7 a8 a9 a10 a11 a12 a13 a14 a15 v : Vl} {t : List Vl} (hl : nl a14 = true) : sto1 (a0 :: a1 :: a2 :: a3 :: a4 :: a5 :: a6 :: a7 :: a8 :: a9 :: a10 :: a11 :: a12 :: a13 :: a14 :: a15 :: t) 15 v = a0 :: a1 :: a2 :: a3 :: a4 :: a5 :: a6 :: a7 :: a8 :: a9 :: a10 :: a11 :: a12 :: a13 :: a14 :: v :: t := by simp [sto1, clr, show ¬ a14.1 = 2 by simpa [nl] using hl]
theorem sto2_15 {a0 a1 a2 a3 a4 a5 a6 a7 a8 a9 a10 a11 a12 a13 a14 a15 a16 v : Vl} {t : List Vl} (hl : nl a14 = true) : sto2 (a0 :: a1 :: a2 :: a3 :: a4 :: a5 :: a6 :: a7 :: a8 :: a9 :: a10 :: a11 :: a12 :: a13 :: a14 :: a15 :: a16 :: t) 15 v = a0 :: a1 :: a2 :: a3 :: a4 :: a5 :: a6 :: a7 :: a8 :: a9 :: a10 :: a11 :: a12 :: a13 :: a14 :: v :: uv :: t := by unfold sto2; rw [sto1_15 hl]; simp
theorem istore_15 {a0 a1 a2 a3 a4 a5 a6 a7 a8 a9 a10 a11 a12 a13 a14 a15 : Vl} {t : List Vl} {x : Int} (hdg : decode (Mc M) pc = .ok (.istore 15, 2)) (hn : Nat.ble 16 (Mn M) = true) (hl : nl a14 = true) (hq : pc + 2 = q) (k : Ev Γ d M b Po q (a0 :: a1 :: a2 :: a3 :: a4 :: a5 :: a6 :: a7 :: a8 :: a9 :: a10 :: a11 :: a12 :: a13 :: a14 :: iv x :: t) st g m) : Ev Γ d M b Po pc (a0 :: a1 :: a2 :: a3 :: a4 :: a5 :: a6 :: a7 :: a8 :: a9 :: a10 :: a11 :: a12 :: a13 :: a14 :: a15 :: t) (iv x :: st) g m := Ev.istore hdg (Nat.le_of_ble_eq_true hn) (sto1_15 hl) hq k
theorem astore_15 {a0 a1 a2 a3 a4 a5 a6 a7 a8 a9 a10 a11 a12 a13 a14 a15 : Vl} {t : List Vl} {x : Nat} (hdg : decode (Mc M) pc = .ok (.astore 15, 2)) (hn : Nat.ble 16 (Mn M) = true) (hl : nl a14 = true) (hq : pc + 2 = q) (k : Ev Γ d M b Po q (a0 :: a1 :: a2 :: a3 :: a4 :: a5 :: a6 :: a7 :: a8 :: a9 :: a10 :: a11 :: a12 :: a13 :: a14 :: rv x :: t) st g m) : Ev Γ d M b Po pc (a0 :: a1 :: a2 :: a3 :: a4 :: a5 :: a6 :: a7 :: a8 :: a9 :: a10 :: a11 :: a12 :: a13 :: a14 :: a15 :: t) (rv x :: st) g m := Ev.astore hdg (Nat.le_of_ble_eq_true hn) (sto1_15 hl) hq k
theorem lstore_15 {a0 a1 a2 a3 a4 a5 a6 a7 a8 a9 a10 a11 a12 a13 a14 a15 a16 : Vl} {t : List Vl} {x : Int} (hdg : decode (Mc M) pc = .ok (.lstore 15, 2)) (hn : Nat.ble 17 (Mn M) = true) (hl : nl a14 = true) (hq : pc + 2 = q) (k : Ev Γ d M b Po q (a0 :: a1 :: a2 :: a3 :: a4 :: a5 :: a6 :: a7 :: a8 :: a9 :: a10 :: a11 :: a12 :: a13 :: a14 :: jv x :: uv :: t) st g m) : Ev Γ d M b Po pc (a0 :: a1 :: a2 :: a3 :: a4 :: a5 :: a6 :: a7 :: a8 :: a9 :: a10 :: a11 :: a12 :: a13 :: a14 :: a15 :: a16 :: t) (jv x :: st) g m := Ev.lstore hdg (Nat.le_of_ble_eq_true hn) (sto2_15 hl) hq k
theorem iinc_15 {a0 a1 a2 a3 a4 a5 a6 a7 a8 a9 a10 a11 a12 a13 a14 : Vl} {t : List Vl} {n x : Int} (hdg : decode (Mc M) pc = .ok (.iinc 15 n, 3)) (hn : Nat.ble 16 (Mn M) = true) (hl : nl a14 = true) (hq : pc + 3 = q) (k : Ev Γ d M b Po q (a0 :: a1 :: a2 :: a3 :: a4 :: a5 :: a6 :: a7 :: a8 :: a9 :: a10 :: a11 :: a12 :: a13 :: a14 :: iv (w32 (x + n)) :: t) st g m) : Ev Γ d M b Po pc (a0 :: a1 :: a2 :: a3 :: a4 :: a5 :: a6 :: a7 :: a8 :: a9 :: a10 :: a11 :: a12 :: a13 :: a14 :: iv x :: t) st g m := Ev.iinc hdg (Nat.le_of_ble_eq_true hn) rfl (sto1_15 hl) hq k
theorem sto1_16 {a0 a1 a2 a3 a4 a5 a6 a7 a8 a9 a10 a11 a12 a13 a14 a15 a16 v : Vl} {t : List Vl} (hl : nl a15 = true) : sto1 (a0 :: a1 :: a2 :: a3 :: a4 :: a5 :: a6 :: a7 :: a8 :: a9 :: a10 :: a11 :: a12 :: a13 :: a14 :: a15 :: a16 :: t) 16 v = a0 :: a1 :: a2 :: a3 :: a4 :: a5 :: a6 :: a7 :: a8 :: a9 :: a10 :: a11 :: a12 :: a13 :: a14 :: a15 :: v :: t := by simp [sto1, clr, show ¬ a15.1 = 2 by simpa [nl] using hl]
theorem sto2_16 {a0 a1 a2 a3 a4 a5 a6 a7 a8 a9 a10 a11 a12 a13 a14 a15 a16 a17 v : Vl} {t : List Vl} (hl : nl a15 = true) : sto2 (a0 :: a1 :: a2 :: a3 :: a4 :: a5 :: a6 :: a7 :: a8 :: a9 :: a10 :: a11 :: a12 :: a13 :: a14 :: a15 :: a16 :: a17 :: t) 16 v = a0 :: a1 :: a2 :: a3 :: a4 :: a5 :: a6 :: a7 :: a8 :: a9 :: a10 :: a11 :: a12 :: a13 :: a14 :: a15 :: v :: uv :: t := by unfold sto2; rw [sto1_16 hl]; simp
theorem istore_16 {a0 a1 a2 a3 a4 a5 a6 a7 a8 a9 a10 a11 a12 a13 a14 a15 a16 : Vl} {t : List Vl} {x : Int} (hdg : decode (Mc M) pc = .ok (.istore 16, 2)) (hn : Nat.ble 17 (Mn M) = true) (hl : nl a15 = true) (hq : pc + 2 = q) (k : Ev Γ d M b Po q (a0 :: a1 :: a2 :: a3 :: a4 :: a5 :: a6 :: a7 :: a8 :: a9 :: a10 :: a11 :: a12 :: a13 :: a14 :: a15 :: iv x :: t) st g m) : Ev Γ d M b Po pc (a0 :: a1 :: a2 :: a3 :: a4 :: a5 :: a6 :: a7 :: a8 :: a9 :: a10 :: a11 :: a12 :: a13 :: a14 :: a15 :: a16 :: t) (iv x :: st) g m := Ev.istore hdg (Nat.le_of_ble_eq_true hn) (sto1_16 hl) hq k
theorem astore_16 {a0 a1 a2 a3 a4 a5 a6 a7 a8 a9 a10 a11 a12 a13 a14 a15 a16 : Vl} {t : List Vl} {x : Nat} (hdg : decode (Mc M) pc = .ok (.astore 16, 2)) (hn : Nat.ble 17 (Mn M) = true) (hl : nl a15 = true) (hq : pc + 2 = q) (k : Ev Γ d M b Po q (a0 :: a1 :: a2 :: a3 :: a4 :: a5 :: a6 :: a7 :: a8 :: a9 :: a10 :: a11 :: a12 :: a13 :: a14 :: a15 :: rv x :: t) st g m) : Ev Γ d M b Po pc (a0 :: a1 :: a2 :: a3 :: a4 :: a5 :: a6 :: a7 :: a8 :: a9 :: a10 :: a11 :: a12 :: a13 :: a14 :: a15 :: a16 :: t) (rv x :: st) g m := Ev.astore hdg (Nat.le_of_ble_eq_true hn) (sto1_16 hl) hq k
theorem lstore_16 {a0 a1 a2 a3 a4 a5 a6 a7 a8 a9 a10 a11 a12 a13 a14 a15 a16 a17 : Vl} {t : List Vl} {x : Int} (hdg : decode (Mc M) pc = .ok (.lstore 16, 2)) (hn : Nat.ble 18 (Mn M) = true) (hl : nl a15 = true) (hq : pc + 2 = q) (k : Ev Γ d M b Po q (a0 :: a1 :: a2 :: a3 :: a4 :: a5 :: a6 :: a7 :: a8 :: a9 :: a10 :: a11 :: a12 :: a13 :: a14 :: a15 :: jv x :: uv :: t) st g m) : Ev Γ d M b Po pc (a0 :: a1 :: a2 :: a3 :: a4 :: a5 :: a6 :: a7 :: a8 :: a9 :: a10 :: a11 :: a12 :: a13 :: a14 :: a15 :: a16 :: a17 :: t) (jv x :: st) g m := Ev.lstore hdg (Nat.le_of_ble_eq_true hn) (sto2_16 hl) hq k
theorem iinc_16 {a0 a1 a2 a3 a4 a5 a6 a7 a8 a9 a10 a11 a12 a13 a14 a15 : Vl} {t : List Vl} {n x : Int} (hdg : decode (Mc M) pc = .ok (.iinc 16 n, 3)) (hn : Nat.ble 17 (Mn M) = true) (hl : nl a15 = true) (hq : pc + 3 = q) (k : Ev Γ d M b Po q (a0 :: a1 :: a2 :: a3 :: a4 :: a5 :: a6 :: a7 :: a8 :: a9 :: a10 :: a11 :: a12 :: a13 :: a14 :: a15 :: iv (w32 (x + n)) :: t) st g m) : Ev Γ d M b Po pc (a0 :: a1 :: a2 :: a3 :: a4 :: a5 :: a6 :: a7 :: a8 :: a9 :: a10 :: a11 :: a12 :: a13 :: a14 :: a15 :: iv x :: t) st g m := Ev.iinc hdg (Nat.le_of_ble_eq_true hn) rfl (sto1_16 hl) hq k
theorem sto1_17 {a0 a1 a2 a3 a4 a5 a6 a7 a8 a9 a10 a11 a12 a13 a14 a15 a16 a17 v : Vl} {t : List Vl} (hl : nl a16 = true) : sto1 (a0 :: a1 :: a2 :: a3 :: a4 :: a5 :: a6 :: a7 :: a8 :: a9 :: a10 :: a11 :: a12 :: a13 :: a14 :: a15 :: a16 :: a17 :: t) 17 v = a0 :: a1 :: a2 :: a3 :: a4 :: a5 :: a6 :: a7 :: a8 :: a9 :: a10 :: a11 :: a12 :: a13 :: a14 :: a15 :: a16 :: v :: t := by simp [sto1, clr, show ¬ a16.1 = 2 by simpa [nl] using hl]
theorem sto2_17 {a0 a1 a2 a3 a4 a5 a6 a7 a8 a9 a10 a11 a12 a13 a14 a15 a16 a17 a18 v : Vl} {t : List Vl} (hl : nl a16 = true) : sto2 (a0 :: a1 :: a2 :: a3 :: a4 :: a5 :: a6 :: a7 :: a8 :: a9 :: a10 :: a11 :: a12 :: a13 :: a14 :: a15 :: a16 :: a17 :: a18 :: t) 17 v = a0 :: a1 :: a2 :: a3 :: a4 :: a5 :: a6 :: a7 :: a8 :: a9 :: a10 :: a11 :: a12 :: a13 :: a14 :: a15 :: a16 :: v :: uv :: t := by unfold sto2; rw [sto1_17 hl]; simp
theorem istore_17 {a0 a1 a2 a3 a4 a5 a6 a7 a8 a9 a10 a11 a12 a13 a14 a15 a16 a17 : Vl} {t : List Vl} {x : Int} (hdg : decode (Mc M) pc = .ok (.istore 17, 2)) (hn : Nat.ble 18 (Mn M) = true) (hl : nl a16 = true) (hq : pc + 2 = q) (k : Ev Γ d M b Po q (a0 :: a1 :: a2 :: a3 :: a4 :: a5 :: a6 :: a7 :: a8 :: a9 :: a10 :: a11 :: a12 :: a13 :: a14 :: a15 :: a16 :: iv x :: t) st g m) : Ev Γ d M b Po pc (a0 :: a1 :: a2 :: a3 :: a4 :: a5 :: a6 :: a7 :: a8 :: a9 :: a10 :: a11 :: a12 :: a13 :: a14 :: a15 :: a16 :: a17 :: t) (iv x :: st) g m := Ev.istore hdg (Nat.le_of_ble_eq_true hn) (sto1_17 hl) hq k
theorem astore_17 {a0 a1 a2 a3 a4 a5 a6 a7 a8 a9 a10 a11 a12 a13 a14 a15 a16 a17 : Vl} {t : List Vl} {x : Nat} (hdg : decode (Mc M) pc = .ok (.astore 17, 2)) (hn : Nat.ble 18 (Mn M) = true) (hl : nl a16 = true) (hq : pc + 2 = q) (k : Ev Γ d M b Po q (a0 :: a1 :: a2 :: a3 :: a4 :: a5 :: a6 :: a7 :: a8 :: a9 :: a10 :: a11 :: a12 :: a13 :: a14 :: a15 :: a16 :: rv x :: t) st g m) : Ev Γ d M b Po pc (a0 :: a1 :: a2 :: a3 :: a4 :: a5 :: a6 :: a7 :: a8 :: a9 :: a10 :: a11 :: a12 :: a13 :: a14 :: a15 :: a16 :: a17 :: t) (rv x :: st) g m := Ev.astore hdg (Nat.le_of_ble_eq_true hn) (sto1_17 hl) hq k
theorem lstore_17 {a0 a1 a2 a3 a4 a5 a6 a7 a8 a9 a10 a11 a12 a13 a14 a15 a16 a17 a18 : Vl} {t : List Vl} {x : Int} (hdg : decode (Mc M) pc = .ok (.lstore 17, 2)) (hn : Nat.ble 19 (Mn M) = true) (hl : nl a16 = true) (hq : pc + 2 = q) (k : Ev Γ d M b Po q (a0 :: a1 :: a2 :: a3 :: a4 :: a5 :: a6 :: a7 :: a8 :: a9 :: a10 :: a11 :: a12 :: a13 :: a14 :: a15 :: a16 :: jv x :: uv :: t) st g m) : Ev Γ d M b Po pc (a0 :: a1 :: a2 :: a3 :: a4 :: a5 :: a6 :: a7 :: a8 :: a9 :: a10 :: a11 :: a12 :: a13 :: a14 :: a15 :: a16 :: a17 :: a18 :: t) (jv x :: st) g m := Ev.lstore hdg (Nat.le_of_ble_eq_true hn) (sto2_17 hl) hq k
theorem iinc_17 {a0 a1 a2 a3 a4 a5 a6 a7 a8 a9 a10 a11 a12 a13 a14 a15 a16 : Vl} {t : List Vl} {n x : Int} (hdg : decode (Mc M) pc = .ok (.iinc 17 n, 3)) (hn : Nat.ble 18 (Mn M) = true) (hl : nl a16 = true) (hq : pc + 3 = q) (k : Ev Γ d M b Po q (a0 :: a1 :: a2 :: a3 :: a4 :: a5 :: a6 :: a7 :: a8 :: a9 :: a10 :: a11 :: a12 :: a13 :: a14 :: a15 :: a16 :: iv (w32 (x + n)) :: t) st g m) : Ev Γ d M b Po pc (a0 :: a1 :: a2 :: a3 :: a4 :: a5 :: a6 :: a7 :: a8 :: a9 :: a10 :: a11 :: a12 :: a13 :: a14 :: a15 :: a16 :: iv x :: t) st g m := Ev.iinc hdg (Nat.le_of_ble_eq_true hn) rfl (sto1_17 hl) hq k
theorem sto1_18 {a0 a1 a2 a3 a4 a5 a6 a7 a8 a9 a10 a11 a12 a13 a14 a15 a16 a17 a18 v : Vl} {t : List Vl} (hl : nl a17 = true) : sto1 (a0 :: a1 :: a2 :: a3 :: a4 :: a5 :: a6 :: a7 :: a8 :: a9 :: a10 :: a11 :: a12 :: a13 :: a14 :: a15 :: a16 :: a17 :: a18 :: t) 18 v = a0 :: a1 :: a2 :: a3 :: a4 :: a5 :: a6 :: a7 :: a8 :: a9 :: a10 :: a11 :: a12 :: a13 :: a14 :: a15 :: a16 :: a17 :: v :: t := by simp [sto1, clr, show ¬ a17.1 = 2 by simpa [nl] using hl]
theorem sto2_18 {a0 a1 a2 a3 a4 a5 a6 a7 a8 a9 a10 a11 a12 a13 a14 a15 a16 a17 a18 a19 v : Vl} {t : List Vl} (hl : nl a17 = true) : sto2 (a0 :: a1 :: a2 :: a3 :: a4 :: a5 :: a6 :: a7 :: a8 :: a9 :: a10 :: a11 :: a12 :: a13 :: a14 :: a15 :: a16 :: a17 :: a18 :: a19 :: t) 18 v = a0 :: a1 :: a2 :: a3 :: a4 :: a5 :: a6 :: a7 :: a8 :: a9 :: a10 :: a11 :: a12 :: a13 :: a14 :: a15 :: a16 :: a17 :: v :: uv :: t := by unfold sto2; rw [sto1_18 hl]; simp
theorem istore_18 {a0 a1 a2 a3 a4 a5 a6 a7 a8 a9 a10 a11 a12 a13 a14 a15 a16 a17 a18 : Vl} {t : List Vl} {x : Int} (hdg : decode (Mc M) pc = .ok (.istore 18, 2)) (hn : Nat.ble 19 (Mn M) = true) (hl : nl a17 = true) (hq : pc + 2 = q) (k : Ev Γ d M b Po q (a0 :: a1 :: a2 :: a3 :: a4 :: a5 :: a6 :: a7 :: a8 :: a9 :: a10 :: a11 :: a12 :: a13 :: a14 :: a15 :: a16 :: a17 :: iv x :: t) st g m) : Ev Γ d M b Po pc (a0 :: a1 :: a2 :: a3 :: a4 :: a5 :: a6 :: a7 :: a8 :: a9 :: a10 :: a11 :: a12 :: a13 :: a14 :: a15 :: a16 :: a17 :: a18 :: t) (iv x :: st) g m := Ev.istore hdg (Nat.le_of_ble_eq_true hn) (sto1_18 hl) hq k
theorem astore_18 {a0 a1 a2 a3 a4 a5 a6 a7 a8 a9 a10 a11 a12 a13 a14 a15 a16 a17 a18 : Vl} {t : List Vl} {x : Nat} (hdg : decode (Mc M) pc = .ok (.astore 18, 2)) (hn : Nat.ble 19 (Mn M) = true) (hl : nl a17 = true) (hq : pc + 2 = q) (k : Ev Γ d M b Po q (a0 :: a1 :: a2 :: a3 :: a4 :: a5 :: a6 :: a7 :: a8 :: a9 :: a10 :: a11 :: a12 :: a13 :: a14 :: a15 :: a16 :: a17 :: rv x :: t) st g m) : Ev Γ d M b Po pc (a0 :: a1 :: a2 :: a3 :: a4 :: a5 :: a6 :: a7 :: a8 :: a9 :: a10 :: a11 :: a12 :: a13 :: a14 :: a15 :: a16 :: a17 :: a18 :: t) (rv x :: st) g m := Ev.astore hdg (Nat.le_of_ble_eq_true hn) (sto1_18 hl) hq k
theorem lstore_18 {a0 a1 a2 a3 a4 a5 a6 a7 a8 a9 a10 a11 a12 a13 a14 a15 a16 a17 a18 a19 : Vl} {t : List Vl} {x : Int} (hdg : decode (Mc M) pc = .ok (.lstore 18, 2)) (hn : Nat.ble 20 (Mn M) = true) (hl : nl a17 = true) (hq : pc + 2 = q) (k : Ev Γ d M b Po q (a0 :: a1 :: a2 :: a3 :: a4 :: a5 :: a6 :: a7 :: a8 :: a9 :: a10 :: a11 :: a12 :: a13 :: a14 :: a15 :: a16 :: a17 :: jv x :: uv :: t) st g m) : Ev Γ d M b Po pc (a0 :: a1 :: a2 :: a3 :: a4 :: a5 :: a6 :: a7 :: a8 :: a9 :: a10 :: a11 :: a12 :: a13 :: a14 :: a15 :: a16 :: a17 :: a18 :: a19 :: t) (jv x :: st) g m := Ev.lstore hdg (Nat.le_of_ble_eq_true hn) (sto2_18 hl) hq k
theorem iinc_18 {a0 a1 a2 a3 a4 a5 a6 a7 a8 a9 a10 a11 a12 a13 a14 a15 a16 a17 : Vl} {t : List Vl} {n x : Int} (hdg : decode (Mc M) pc = .ok (.iinc 18 n, 3)) (hn : Nat.ble 19 (Mn M) = true) (hl : nl a17 = true) (hq : pc + 3 = q) (k : Ev Γ d M b Po q (a0 :: a1 :: a2 :: a3 :: a4 :: a5 :: a6 :: a7 :: a8 :: a9 :: a10 :: a11 :: a12 :: a13 :: a14 :: a15 :: a16 :: a17 :: iv (w32 (x + n)) :: t) st g m) : Ev Γ d M b Po pc (a0 :: a1 :: a2 :: a3 :: a4 :: a5 :: a6 :: a7 :: a8 :: a9 :: a10 :: a11 :: a12 :: a13 :: a14 :: a15 :: a16 :: a17 :: iv x :: t) st g m := Ev.iinc hdg (Nat.le_of_ble_eq_true hn) rfl (sto1_18 hl) hq k
theorem sto1_19 {a0 a1 a2 a3 a4 a5 a6 a7 a8 a9 a10 a11 a12 a13 a14 a15 a16 a17 a18 a19 v : Vl} {t : List Vl} (hl : nl a18 = true) : sto1 (a0 :: a1 :: a2 :: a3 :: a4 :: a5 :: a6 :: a7 :: a8 :: a9 :: a10 :: a11 :: a12 :: a13 :: a14 :: a15 :: a16 :: a17 :: a18 :: a19 :: t) 19 v = a0 :: a1 :: a2 :: a3 :: a4 :: a5 :: a6 :: a7 :: a8 :: a9 :: a10 :: a11 :: a12 :: a13 :: a14 :: a15 :: a16 :: a17 :: a18 :: v :: t := by simp [sto1, clr, show ¬ a18.1 = 2 by simpa [nl] using hl]
theorem sto2_19 {a0 a1 a2 a3 a4 a5 a6 a7 a8 a9 a10 a11 a12 a13 a14 a15 a16 a17 a18 a19 a20 v : Vl} {t : List Vl} (hl : nl a18 = true) : sto2 (a0 :: a1 :: a2 :: a3 :: a4 :: a5 :: a6 :: a7 :: a8 :: a9 :: a10 :: a11 :: a12 :: a13 :: a14 :: a15 :: a16 :: a17 :: a18 :: a19 :: a20 :: t) 19 v = a0 :: a1 :: a2 :: a3 :: a4 :: a5 :: a6 :: a7 :: a8 :: a9 :: a10 :: a11 :: a12 :: a13 :: a14 :: a15 :: a16 :: a17 :: a18 :: v :: uv :: t := by unfold sto2; rw [sto1_19 hl]; simp
theorem istore_19 {a0 a1 a2 a3 a4 a5 a6 a7 a8 a9 a10 a11 a12 a13 a14 a15 a16 a17 a18 a19 : Vl} {t : List Vl} {x : Int} (hdg : decode (Mc M) pc = .ok (.istore 19, 2)) (hn : Nat.ble 20 (Mn M) = true) (hl : nl a18 = true) (hq : pc + 2 = q) (k : Ev Γ d M b Po q (a0 :: a1 :: a2 :: a3 :: a4 :: a5 :: a6 :: a7 :: a8 :: a9 :: a10 :: a11 :: a12 :: a13 :: a14 :: a15 :: a16 :: a17 :: a18 :: iv x :: t) st g m) : Ev Γ d M b Po pc (a0 :: a1 :: a2 :: a3 :: a4 :: a5 :: a6 :: a7 :: a8 :: a9 :: a10 :: a11 :: a12 :: a13 :: a14 :: a15 :: a16 :: a17 :: a18 :: a19 :: t) (iv x :: st) g m := Ev.istore hdg (Nat.le_of_ble_eq_true hn) (sto1_19 hl) hq k
theorem astore_19 {a0 a1 a2 a3 a4 a5 a6 a7 a8 a9 a10 a11 a12 a13 a14 a15 a16 a17 a18 a19 : Vl} {t : List Vl} {x : Nat} (hdg : decode (Mc M) pc = .ok (.astore 19, 2)) (hn : Nat.ble 20 (Mn M) = true) (hl : nl a18 = true) (hq : pc + 2 = q) (k : Ev Γ d M b Po q (a0 :: a1 :: a2 :: a3 :: a4 :: a5 :: a6 :: a7 :: a8 :: a9 :: a10 :: a11 :: a12 :: a13 :: a14 :: a15 :: a16 :: a17 :: a18 :: rv x :: t) st g m) : Ev Γ d M b Po pc (a0 :: a1 :: a2 :: a3 :: a4 :: a5 :: a6 :: a7 :: a8 :: a9 :: a10 :: a11 :: a12 :: a13 :: a14 :: a15 :: a16 :: a17 :: a18 :: a19 :: t) (rv x :: st) g m := Ev.astore hdg (Nat.le_of_ble_eq_true hn) (sto1_19 hl) hq k
theorem lstore_19 {a0 a1 a2 a3 a4 a5 a6 a7 a8 a9 a10 a11 a12 a13 a14 a15 a16 a17 a18 a19 a20 : Vl} {t : List Vl} {x : Int} (hdg : decode (Mc M) pc = .ok (.lstore 19, 2)) (hn : Nat.ble 21 (Mn M) = true) (hl : nl a18 = true) (hq : pc + 2 = q) (k : Ev Γ d M b Po q (a0 :: a1 :: a2 :: a3 :: a4 :: a5 :: a6 :: a7 :: a8 :: a9 :: a10 :: a11 :: a12 :: a13 :: a14 :: a15 :: a16 :: a17 :: a18 :: jv x :: uv :: t) st g m) : Ev Γ d M b Po pc (a0 :: a1 :: a2 :: a3 :: a4 :: a5 :: a6 :: a7 :: a8 :: a9 :: a10 :: a11 :: a12 :: a13 :: a14 :: a15 :: a16 :: a17 :: a18 :: a19 :: a20 :: t) (jv x :: st) g m := Ev.lstore hdg (Nat.le_of_ble_eq_true hn) (sto2_19 hl) hq k
theorem iinc_19 {a0 a1 a2 a3 a4 a5 a6 a7 a8 a9 a10 a11 a12 a13 a14 a15 a16 a17 a18 : Vl} {t : List Vl} {n x : Int} (hdg : decode (Mc M) pc = .ok (.iinc 19 n, 3)) (hn : Nat.ble 20 (Mn M) = true) (hl : nl a18 = true) (hq : pc + 3 = q) (k : Ev Γ d M b Po q (a0 :: a1 :: a2 :: a3 :: a4 :: a5 :: a6 :: a7 :: a8 :: a9 :: a10 :: a11 :: a12 :: a13 :: a14 :: a15 :: a16 :: a17 :: a18 :: iv (w32 (x + n)) :: t) st g m) : Ev Γ d M b Po pc (a0 :: a1 :: a2 :: a3 :: a4 :: a5 :: a6 :: a7 :: a8 :: a9 :: a10 :: a11 :: a12 :: a13 :: a14 :: a15 :: a16 :: a17 :: a18 :: iv x :: t) st g m := Ev.iinc hdg (Nat.le_of_ble_eq_true hn) rfl (sto1_19 hl) hq k
end STO
theorem ki_m1 : Int32.ofInt (-1) = Int32.ofInt (-1) ∧ w32 (-1) = -1 := by decide +kernel
theorem ki_0 : Int32.ofInt (0) = Int32.ofInt (0) ∧ w32 (0) = 0 := by decide +kernel
theorem ki_1 : Int32.ofInt (1) = Int32.ofInt (1) ∧ w32 (1) = 1 := by decide +kernel
theorem ki_2 : Int32.ofInt (2) = Int32.ofInt (2) ∧ w32 (2) = 2 := by decide +kernel
theorem ki_3 : Int32.ofInt (3) = Int32.ofInt (3) ∧ w32 (3) = 3 := by decide +kernel
theorem ki_4 : Int32.ofInt (4) = Int32.ofInt (4) ∧ w32 (4) = 4 := by decide +kernel
theorem ki_5 : Int32.ofInt (5) = Int32.ofInt (5) ∧ w32 (5) = 5 := by decide +kernel
theorem kb_m30 : (Int8.ofInt (-30)).toInt32 = Int32.ofInt (-30) ∧ w32 (-30) = -30 := by decide +kernel
theorem kb_m14 : (Int8.ofInt (-14)).toInt32 = Int32.ofInt (-14) ∧ w32 (-14) = -14 := by decide +kernel
theorem kb_m13 : (Int8.ofInt (-13)).toInt32 = Int32.ofInt (-13) ∧ w32 (-13) = -13 := by decide +kernel
theorem kb_m12 : (Int8.ofInt (-12)).toInt32 = Int32.ofInt (-12) ∧ w32 (-12) = -12 := by decide +kernel
theorem kb_m11 : (Int8.ofInt (-11)).toInt32 = Int32.ofInt (-11) ∧ w32 (-11) = -11 := by decide +kernel
theorem kb_m10 : (Int8.ofInt (-10)).toInt32 = Int32.ofInt (-10) ∧ w32 (-10) = -10 := by decide +kernel
theorem kb_m8 : (Int8.ofInt (-8)).toInt32 = Int32.ofInt (-8) ∧ w32 (-8) = -8 := by decide +kernel
theorem kb_m6 : (Int8.ofInt (-6)).toInt32 = Int32.ofInt (-6) ∧ w32 (-6) = -6 := by decide +kernel
theorem kb_m5 : (Int8.ofInt (-5)).toInt32 = Int32.ofInt (-5) ∧ w32 (-5) = -5 := by decide +kernel
theorem kb_m4 : (Int8.ofInt (-4)).toInt32 = Int32.ofInt (-4) ∧ w32 (-4) = -4 := by decide +kernel
theorem kb_m3 : (Int8.ofInt (-3)).toInt32 = Int32.ofInt (-3) ∧ w32 (-3) = -3 := by decide +kernel
theorem kb_m2 : (Int8.ofInt (-2)).toInt32 = Int32.ofInt (-2) ∧ w32 (-2) = -2 := by decide +kernel
theorem kb_6 : (Int8.ofInt (6)).toInt32 = Int32.ofInt (6) ∧ w32 (6) = 6 := by decide +kernel
theorem kb_8 : (Int8.ofInt (8)).toInt32 = Int32.ofInt (8) ∧ w32 (8) = 8 := by decide +kernel
theorem kb_9 : (Int8.ofInt (9)).toInt32 = Int32.ofInt (9) ∧ w32 (9) = 9 := by decide +kernel
theorem kb_10 : (Int8.ofInt (10)).toInt32 = Int32.ofInt (10) ∧ w32 (10) = 10 := by decide +kernel
theorem kb_11 : (Int8.ofInt (11)).toInt32 = Int32.ofInt (11) ∧ w32 (11) = 11 := by decide +kernel
theorem kb_12 : (Int8.ofInt (12)).toInt32 = Int32.ofInt (12) ∧ w32 (12) = 12 := by decide +kernel
theorem kb_13 : (Int8.ofInt (13)).toInt32 = Int32.ofInt (13) ∧ w32 (13) = 13 := by decide +kernel
theorem kb_16 : (Int8.ofInt (16)).toInt32 = Int32.ofInt (16) ∧ w32 (16) = 16 := by decide +kernel
theorem kb_17 : (Int8.ofInt (17)).toInt32 = Int32.ofInt (17) ∧ w32 (17) = 17 := by decide +kernel
theorem kb_18 : (Int8.ofInt (18)).toInt32 = Int32.ofInt (18) ∧ w32 (18) = 18 := by decide +kernel
theorem kb_20 : (Int8.ofInt (20)).toInt32 = Int32.ofInt (20) ∧ w32 (20) = 20 := by decide +kernel
theorem kb_22 : (Int8.ofInt (22)).toInt32 = Int32.ofInt (22) ∧ w32 (22) = 22 := by decide +kernel
theorem kb_23 : (Int8.ofInt (23)).toInt32 = Int32.ofInt (23) ∧ w32 (23) = 23 := by decide +kernel
theorem kb_24 : (Int8.ofInt (24)).toInt32 = Int32.ofInt (24) ∧ w32 (24) = 24 := by decide +kernel
theorem kb_25 : (Int8.ofInt (25)).toInt32 = Int32.ofInt (25) ∧ w32 (25) = 25 := by decide +kernel
theorem kb_28 : (Int8.ofInt (28)).toInt32 = Int32.ofInt (28) ∧ w32 (28) = 28 := by decide +kernel
theorem kb_30 : (Int8.ofInt (30)).toInt32 = Int32.ofInt (30) ∧ w32 (30) = 30 := by decide +kernel
theorem kb_31 : (Int8.ofInt (31)).toInt32 = Int32.ofInt (31) ∧ w32 (31) = 31 := by decide +kernel
theorem kb_32 : (Int8.ofInt (32)).toInt32 = Int32.ofInt (32) ∧ w32 (32) = 32 := by decide +kernel
theorem kb_33 : (Int8.ofInt (33)).toInt32 = Int32.ofInt (33) ∧ w32 (33) = 33 := by decide +kernel
theorem kb_34 : (Int8.ofInt (34)).toInt32 = Int32.ofInt (34) ∧ w32 (34) = 34 := by decide +kernel
theorem kb_35 : (Int8.ofInt (35)).toInt32 = Int32.ofInt (35) ∧ w32 (35) = 35 := by decide +kernel
theorem kb_36 : (Int8.ofInt (36)).toInt32 = Int32.ofInt (36) ∧ w32 (36) = 36 := by decide +kernel
theorem kb_40 : (Int8.ofInt (40)).toInt32 = Int32.ofInt (40) ∧ w32 (40) = 40 := by decide +kernel
theorem kb_41 : (Int8.ofInt (41)).toInt32 = Int32.ofInt (41) ∧ w32 (41) = 41 := by decide +kernel
theorem kb_42 : (Int8.ofInt (42)).toInt32 = Int32.ofInt (42) ∧ w32 (42) = 42 := by decide +kernel
theorem kb_43 : (Int8.ofInt (43)).toInt32 = Int32.ofInt (43) ∧ w32 (43) = 43 := by decide +kernel
theorem kb_44 : (Int8.ofInt (44)).toInt32 = Int32.ofInt (44) ∧ w32 (44) = 44 := by decide +kernel
theorem kb_45 : (Int8.ofInt (45)).toInt32 = Int32.ofInt (45) ∧ w32 (45) = 45 := by decide +kernel
theorem kb_48 : (Int8.ofInt (48)).toInt32 = Int32.ofInt (48) ∧ w32 (48) = 48 := by decide +kernel
theorem kb_52 : (Int8.ofInt (52)).toInt32 = Int32.ofInt (52) ∧ w32 (52) = 52 := by decide +kernel
theorem kb_57 : (Int8.ofInt (57)).toInt32 = Int32.ofInt (57) ∧ w32 (57) = 57 := by decide +kernel
theorem kb_58 : (Int8.ofInt (58)).toInt32 = Int32.ofInt (58) ∧ w32 (58) = 58 := by decide +kernel
theorem kb_59 : (Int8.ofInt (59)).toInt32 = Int32.ofInt (59) ∧ w32 (59) = 59 := by decide +kernel
theorem kb_60 : (Int8.ofInt (60)).toInt32 = Int32.ofInt (60) ∧ w32 (60) = 60 := by decide +kernel
theorem kb_63 : (Int8.ofInt (63)).toInt32 = Int32.ofInt (63) ∧ w32 (63) = 63 := by decide +kernel
theorem kb_66 : (Int8.ofInt (66)).toInt32 = Int32.ofInt (66) ∧ w32 (66) = 66 := by decide +kernel
theorem kb_69 : (Int8.ofInt (69)).toInt32 = Int32.ofInt (69) ∧ w32 (69) = 69 := by decide +kernel
theorem kb_72 : (Int8.ofInt (72)).toInt32 = Int32.ofInt (72) ∧ w32 (72) = 72 := by decide +kernel
theorem kb_80 : (Int8.ofInt (80)).toInt32 = Int32.ofInt (80) ∧ w32 (80) = 80 := by decide +kernel
theorem kb_88 : (Int8.ofInt (88)).toInt32 = Int32.ofInt (88) ∧ w32 (88) = 88 := by decide +kernel
theorem kb_96 : (Int8.ofInt (96)).toInt32 = Int32.ofInt (96) ∧ w32 (96) = 96 := by decide +kernel
theorem kb_97 : (Int8.ofInt (97)).toInt32 = Int32.ofInt (97) ∧ w32 (97) = 97 := by decide +kernel
theorem kb_99 : (Int8.ofInt (99)).toInt32 = Int32.ofInt (99) ∧ w32 (99) = 99 := by decide +kernel
theorem kb_100 : (Int8.ofInt (100)).toInt32 = Int32.ofInt (100) ∧ w32 (100) = 100 := by decide +kernel
theorem kb_122 : (Int8.ofInt (122)).toInt32 = Int32.ofInt (122) ∧ w32 (122) = 122 := by decide +kernel
theorem kh_133 : (Int16.ofInt (133)).toInt32 = Int32.ofInt (133) ∧ w32 (133) = 133 := by decide +kernel
theorem kh_160 : (Int16.ofInt (160)).toInt32 = Int32.ofInt (160) ∧ w32 (160) = 160 := by decide +kernel
theorem kh_200 : (Int16.ofInt (200)).toInt32 = Int32.ofInt (200) ∧ w32 (200) = 200 := by decide +kernel
theorem kh_255 : (Int16.ofInt (255)).toInt32 = Int32.ofInt (255) ∧ w32 (255) = 255 := by decide +kernel
theorem kh_324 : (Int16.ofInt (324)).toInt32 = Int32.ofInt (324) ∧ w32 (324) = 324 := by decide +kernel
theorem kh_432 : (Int16.ofInt (432)).toInt32 = Int32.ofInt (432) ∧ w32 (432) = 432 := by decide +kernel
theorem kh_457 : (Int16.ofInt (457)).toInt32 = Int32.ofInt (457) ∧ w32 (457) = 457 := by decide +kernel
theorem kh_458 : (Int16.ofInt (458)).toInt32 = Int32.ofInt (458) ∧ w32 (458) = 458 := by decide +kernel
theorem kh_900 : (Int16.ofInt (900)).toInt32 = Int32.ofInt (900) ∧ w32 (900) = 900 := by decide +kernel
theorem kh_999 : (Int16.ofInt (999)).toInt32 = Int32.ofInt (999) ∧ w32 (999) = 999 := by decide +kernel
theorem kh_1000 : (Int16.ofInt (1000)).toInt32 = Int32.ofInt (1000) ∧ w32 (1000) = 1000 := by decide +kernel
theorem kh_1358 : (Int16.ofInt (1358)).toInt32 = Int32.ofInt (1358) ∧ w32 (1358) = 1358 := by decide +kernel
theorem kh_2000 : (Int16.ofInt (2000)).toInt32 = Int32.ofInt (2000) ∧ w32 (2000) = 2000 := by decide +kernel
theorem kh_3000 : (Int16.ofInt (3000)).toInt32 = Int32.ofInt (3000) ∧ w32 (3000) = 3000 := by decide +kernel
theorem kh_3001 : (Int16.ofInt (3001)).toInt32 = Int32.ofInt (3001) ∧ w32 (3001) = 3001 := by decide +kernel
theorem kh_3002 : (Int16.ofInt (3002)).toInt32 = Int32.ofInt (3002) ∧ w32 (3002) = 3002 := by decide +kernel
theorem kh_4000 : (Int16.ofInt (4000)).toInt32 = Int32.ofInt (4000) ∧ w32 (4000) = 4000 := by decide +kernel
theorem kh_4074 : (Int16.ofInt (4074)).toInt32 = Int32.ofInt (4074) ∧ w32 (4074) = 4074 := by decide +kernel
theorem kh_5000 : (Int16.ofInt (5000)).toInt32 = Int32.ofInt (5000) ∧ w32 (5000) = 5000 := by decide +kernel
theorem kh_12345 : (Int16.ofInt (12345)).toInt32 = Int32.ofInt (12345) ∧ w32 (12345) = 12345 := by decide +kernel
theorem kj_0 : Int64.ofNat (0 : Fin 2) = Int64.ofInt 0 ∧ w64 0 = 0 := by decide +kernel
theorem kj_1 : Int64.ofNat (1 : Fin 2) = Int64.ofInt 1 ∧ w64 1 = 1 := by decide +kernel
theorem klvX2_64 : (-1000000 : Int64).toInt = -1000000 := by decide +kernel
theorem klvX2_66 : (1000000 : Int64).toInt = 1000000 := by decide +kernel
theorem klvX2_58 : (999 : Int64).toInt = 999 := by decide +kernel
theorem kcvJ6_265 : (1431655765 : Int32).toInt = 1431655765 := by decide +kernel
theorem kcvJ6_266 : (858993459 : Int32).toInt = 858993459 := by decide +kernel
theorem kcvJ6_267 : (252645135 : Int32).toInt = 252645135 := by decide +kernel
theorem klvX0_118 : (5799 : Int64).toInt = 5799 := by decide +kernel
theorem klvX0_120 : (1000 : Int64).toInt = 1000 := by decide +kernel
theorem kcvX0_156 : (1103515245 : Int32).toInt = 1103515245 := by decide +kernel
theorem klvX11_306 : (-2 : Int64).toInt = -2 := by decide +kernel
theorem klvX11_322 : (-2000000000 : Int64).toInt = -2000000000 := by decide +kernel
theorem klvX11_340 : (-5 : Int64).toInt = -5 := by decide +kernel
theorem klvX11_378 : (-6 : Int64).toInt = -6 := by decide +kernel
theorem klvX11_383 : (-7 : Int64).toInt = -7 := by decide +kernel
theorem klvX12_180 : (1000000 : Int64).toInt = 1000000 := by decide +kernel
theorem klvX12_182 : (-1000000 : Int64).toInt = -1000000 := by decide +kernel
theorem klvX12_249 : (11 : Int64).toInt = 11 := by decide +kernel
theorem klvX12_288 : (10 : Int64).toInt = 10 := by decide +kernel
theorem klvX12_323 : (3 : Int64).toInt = 3 := by decide +kernel
theorem klvX12_290 : (299 : Int64).toInt = 299 := by decide +kernel
theorem klvX12_292 : (100 : Int64).toInt = 100 := by decide +kernel
theorem klvX12_294 : (1000 : Int64).toInt = 1000 := by decide +kernel
theorem klvX12_296 : (1299 : Int64).toInt = 1299 := by decide +kernel
theorem klvX12_298 : (2000 : Int64).toInt = 2000 := by decide +kernel
theorem klvX12_300 : (2099 : Int64).toInt = 2099 := by decide +kernel
theorem klvX12_302 : (3000 : Int64).toInt = 3000 := by decide +kernel
theorem klvX12_304 : (3099 : Int64).toInt = 3099 := by decide +kernel
theorem klvX12_306 : (4000 : Int64).toInt = 4000 := by decide +kernel
theorem klvX12_308 : (4099 : Int64).toInt = 4099 := by decide +kernel
theorem klvX12_310 : (5000 : Int64).toInt = 5000 := by decide +kernel
theorem klvX12_312 : (5799 : Int64).toInt = 5799 := by decide +kernel
theorem klvX12_347 : (40 : Int64).toInt = 40 := by decide +kernel
theorem kcvX12_340 : (1103515245 : Int32).toInt = 1103515245 := by decide +kernel
theorem klvX12_368 : (-2 : Int64).toInt = -2 := by decide +kernel
theorem klvX12_376 : (1000000000000000 : Int64).toInt = 1000000000000000 := by decide +kernel
theorem klvX12_386 : (-2000000000 : Int64).toInt = -2000000000 := by decide +kernel
theorem klvX12_406 : (-5 : Int64).toInt = -5 := by decide +kernel
theorem klvX12_414 : (2 : Int64).toInt = 2 := by decide +kernel
theorem klvX12_416 : (16 : Int64).toInt = 16 := by decide +kernel
theorem klvX12_435 : (-7 : Int64).toInt = -7 := by decide +kernel
theorem klvL_197 : (4294967295 : Int64).toInt = 4294967295 := by decide +kernel
theorem r0_0 : rf 0 0 = 1 := by decide +kernel
theorem r0_2 : rf 0 2 = 2 := by decide +kernel
theorem r0_3 : rf 0 3 = 33 := by decide +kernel
theorem r0_4 : rf 0 4 = 44 := by decide +kernel
theorem r0_5 : rf 0 5 = 52 := by decide +kernel
theorem r0_6 : rf 0 6 = 60 := by decide +kernel
theorem r0_9 : rf 0 9 = 61 := by decide +kernel
theorem r0_10 : rf 0 10 = 62 := by decide +kernel
theorem r0_11 : rf 0 11 = 63 := by decide +kernel
theorem r0_12 : rf 0 12 = 64 := by decide +kernel
theorem r0_13 : rf 0 13 = 65 := by decide +kernel
theorem r0_14 : rf 0 14 = 66 := by decide +kernel
theorem r0_15 : rf 0 15 = 68 := by decide +kernel
theorem r0_16 : rf 0 16 = 72 := by decide +kernel
theorem r0_17 : rf 0 17 = 74 := by decide +kernel
theorem r2_0 : rf 2 0 = 3 := by decide +kernel
theorem r2_1 : rf 2 1 = 14 := by decide +kernel
theorem r2_4 : rf 2 4 = 22 := by decide +kernel
theorem r2_5 : rf 2 5 = 24 := by decide +kernel
theorem r2_6 : rf 2 6 = 25 := by decide +kernel
theorem r2_7 : rf 2 7 = 29 := by decide +kernel
theorem r3_4 : rf 3 4 = 4 := by decide +kernel
theorem r3_5 : rf 3 5 = 5 := by decide +kernel
theorem r3_6 : rf 3 6 = 6 := by decide +kernel
theorem r3_7 : rf 3 7 = 7 := by decide +kernel
theorem r3_8 : rf 3 8 = 8 := by decide +kernel
theorem r3_9 : rf 3 9 = 9 := by decide +kernel
theorem r3_10 : rf 3 10 = 10 := by decide +kernel
theorem r3_11 : rf 3 11 = 11 := by decide +kernel
theorem r3_12 : rf 3 12 = 12 := by decide +kernel
theorem r3_13 : rf 3 13 = 13 := by decide +kernel
theorem r14_0 : rf 14 0 = 15 := by decide +kernel
theorem r14_1 : rf 14 1 = 16 := by decide +kernel
theorem r14_2 : rf 14 2 = 17 := by decide +kernel
theorem r14_3 : rf 14 3 = 18 := by decide +kernel
theorem r14_4 : rf 14 4 = 19 := by decide +kernel
theorem r14_5 : rf 14 5 = 20 := by decide +kernel
theorem r14_6 : rf 14 6 = 21 := by decide +kernel
theorem r25_2 : rf 25 2 = 26 := by decide +kernel
theorem r25_3 : rf 25 3 = 27 := by decide +kernel
theorem r25_5 : rf 25 5 = 28 := by decide +kernel
theorem r29_2 : rf 29 2 = 30 := by decide +kernel
theorem r29_3 : rf 29 3 = 31 := by decide +kernel
theorem r29_5 : rf 29 5 = 32 := by decide +kernel
theorem r33_4 : rf 33 4 = 34 := by decide +kernel
theorem r33_5 : rf 33 5 = 35 := by decide +kernel
theorem r33_6 : rf 33 6 = 36 := by decide +kernel
theorem r33_7 : rf 33 7 = 37 := by decide +kernel
theorem r33_8 : rf 33 8 = 38 := by decide +kernel
theorem r33_9 : rf 33 9 = 39 := by decide +kernel
theorem r33_10 : rf 33 10 = 40 := by decide +kernel
theorem r33_11 : rf 33 11 = 41 := by decide +kernel
theorem r33_12 : rf 33 12 = 42 := by decide +kernel
theorem r33_13 : rf 33 13 = 43 := by decide +kernel
theorem r44_0 : rf 44 0 = 45 := by decide +kernel
theorem r44_1 : rf 44 1 = 46 := by decide +kernel
theorem r44_2 : rf 44 2 = 47 := by decide +kernel
theorem r44_3 : rf 44 3 = 48 := by decide +kernel
theorem r44_4 : rf 44 4 = 49 := by decide +kernel
theorem r44_5 : rf 44 5 = 50 := by decide +kernel
theorem r44_6 : rf 44 6 = 51 := by decide +kernel
theorem r52_0 : rf 52 0 = 53 := by decide +kernel
theorem r52_1 : rf 52 1 = 54 := by decide +kernel
theorem r52_2 : rf 52 2 = 55 := by decide +kernel
theorem r52_3 : rf 52 3 = 56 := by decide +kernel
theorem r52_4 : rf 52 4 = 57 := by decide +kernel
theorem r52_5 : rf 52 5 = 58 := by decide +kernel
theorem r52_6 : rf 52 6 = 59 := by decide +kernel
theorem r65_0 : rf 65 0 = 33 := by decide +kernel
theorem r66_0 : rf 66 0 = 33 := by decide +kernel
theorem r66_1 : rf 66 1 = 67 := by decide +kernel
theorem r67_0 : rf 67 0 = 33 := by decide +kernel
theorem r68_0 : rf 68 0 = 33 := by decide +kernel
theorem r68_1 : rf 68 1 = 44 := by decide +kernel
theorem r68_2 : rf 68 2 = 71 := by decide +kernel
theorem r68_3 : rf 68 3 = 69 := by decide +kernel
theorem r68_4 : rf 68 4 = 70 := by decide +kernel
theorem r71_0 : rf 71 0 = 33 := by decide +kernel
theorem r72_0 : rf 72 0 = 33 := by decide +kernel
theorem r72_1 : rf 72 1 = 44 := by decide +kernel
theorem r72_2 : rf 72 2 = 73 := by decide +kernel
theorem r73_0 : rf 73 0 = 33 := by decide +kernel
theorem r74_0 : rf 74 0 = 33 := by decide +kernel
theorem r74_1 : rf 74 1 = 44 := by decide +kernel
theorem r74_2 : rf 74 2 = 76 := by decide +kernel
theorem r74_5 : rf 74 5 = 75 := by decide +kernel
theorem r76_0 : rf 76 0 = 33 := by decide +kernel
theorem r77_0 : rf 77 0 = 78 := by decide +kernel
theorem r77_1 : rf 77 1 = 79 := by decide +kernel
theorem r77_2 : rf 77 2 = 80 := by decide +kernel
theorem r77_3 : rf 77 3 = 81 := by decide +kernel
theorem r77_4 : rf 77 4 = 82 := by decide +kernel
theorem r77_5 : rf 77 5 = 83 := by decide +kernel
theorem r77_6 : rf 77 6 = 84 := by decide +kernel
theorem r85_0 : rf 85 0 = 86 := by decide +kernel
theorem r85_1 : rf 85 1 = 87 := by decide +kernel
theorem r85_2 : rf 85 2 = 88 := by decide +kernel
theorem r85_3 : rf 85 3 = 89 := by decide +kernel
theorem r85_4 : rf 85 4 = 90 := by decide +kernel
theorem r85_5 : rf 85 5 = 91 := by decide +kernel
theorem r85_6 : rf 85 6 = 92 := by decide +kernel
theorem r93_0 : rf 93 0 = 94 := by decide +kernel
theorem r93_1 : rf 93 1 = 95 := by decide +kernel
theorem r93_2 : rf 93 2 = 96 := by decide +kernel
theorem r93_3 : rf 93 3 = 97 := by decide +kernel
theorem r93_4 : rf 93 4 = 98 := by decide +kernel
theorem r93_5 : rf 93 5 = 99 := by decide +kernel
theorem r93_6 : rf 93 6 = 100 := by decide +kernel
theorem r101_0 : rf 101 0 = 102 := by decide +kernel
theorem r101_1 : rf 101 1 = 103 := by decide +kernel
theorem r101_2 : rf 101 2 = 104 := by decide +kernel
theorem r101_3 : rf 101 3 = 105 := by decide +kernel
theorem r101_4 : rf 101 4 = 106 := by decide +kernel
theorem r101_5 : rf 101 5 = 107 := by decide +kernel
theorem r101_6 : rf 101 6 = 108 := by decide +kernel
theorem r109_0 : rf 109 0 = 110 := by decide +kernel
theorem r109_1 : rf 109 1 = 111 := by decide +kernel
theorem r109_2 : rf 109 2 = 112 := by decide +kernel
theorem r109_3 : rf 109 3 = 113 := by decide +kernel
theorem r109_4 : rf 109 4 = 114 := by decide +kernel
theorem r109_5 : rf 109 5 = 115 := by decide +kernel
theorem r109_6 : rf 109 6 = 116 := by decide +kernel
theorem r117_0 : rf 117 0 = 118 := by decide +kernel
theorem r117_1 : rf 117 1 = 119 := by decide +kernel
theorem r117_2 : rf 117 2 = 120 := by decide +kernel
theorem r117_3 : rf 117 3 = 121 := by decide +kernel
theorem r117_4 : rf 117 4 = 122 := by decide +kernel
theorem r117_5 : rf 117 5 = 123 := by decide +kernel
theorem r117_6 : rf 117 6 = 124 := by decide +kernel
theorem r125_0 : rf 125 0 = 126 := by decide +kernel
theorem r125_1 : rf 125 1 = 127 := by decide +kernel
theorem r125_2 : rf 125 2 = 128 := by decide +kernel
theorem r125_3 : rf 125 3 = 129 := by decide +kernel
theorem r125_4 : rf 125 4 = 130 := by decide +kernel
theorem r125_5 : rf 125 5 = 131 := by decide +kernel
theorem r125_6 : rf 125 6 = 132 := by decide +kernel
theorem r133_0 : rf 133 0 = 134 := by decide +kernel
theorem r133_1 : rf 133 1 = 135 := by decide +kernel
theorem r133_2 : rf 133 2 = 136 := by decide +kernel
theorem r133_3 : rf 133 3 = 137 := by decide +kernel
theorem r133_4 : rf 133 4 = 138 := by decide +kernel
theorem r133_5 : rf 133 5 = 139 := by decide +kernel
theorem r133_6 : rf 133 6 = 140 := by decide +kernel
theorem r141_0 : rf 141 0 = 142 := by decide +kernel
theorem r141_1 : rf 141 1 = 143 := by decide +kernel
theorem r141_2 : rf 141 2 = 144 := by decide +kernel
theorem r141_3 : rf 141 3 = 145 := by decide +kernel
theorem r141_4 : rf 141 4 = 146 := by decide +kernel
theorem r141_5 : rf 141 5 = 147 := by decide +kernel
theorem r141_6 : rf 141 6 = 148 := by decide +kernel
theorem r149_0 : rf 149 0 = 150 := by decide +kernel
theorem r149_1 : rf 149 1 = 151 := by decide +kernel
theorem r149_2 : rf 149 2 = 152 := by decide +kernel
theorem r149_3 : rf 149 3 = 153 := by decide +kernel
theorem r149_4 : rf 149 4 = 154 := by decide +kernel
theorem r149_5 : rf 149 5 = 155 := by decide +kernel
theorem r149_6 : rf 149 6 = 156 := by decide +kernel
theorem r157_0 : rf 157 0 = 158 := by decide +kernel
theorem r157_1 : rf 157 1 = 159 := by decide +kernel
theorem r157_2 : rf 157 2 = 160 := by decide +kernel
theorem r157_3 : rf 157 3 = 161 := by decide +kernel
theorem r157_4 : rf 157 4 = 162 := by decide +kernel
theorem r157_5 : rf 157 5 = 163 := by decide +kernel
theorem r157_6 : rf 157 6 = 164 := by decide +kernel
theorem r165_2 : rf 165 2 = 166 := by decide +kernel
theorem r167_2 : rf 167 2 = 168 := by decide +kernel
theorem r169_2 : rf 169 2 = 170 := by decide +kernel
theorem r171_2 : rf 171 2 = 172 := by decide +kernel
theorem r173_4 : rf 173 4 = 174 := by decide +kernel
theorem r173_5 : rf 173 5 = 175 := by decide +kernel
theorem r173_6 : rf 173 6 = 176 := by decide +kernel
theorem r173_7 : rf 173 7 = 177 := by decide +kernel
theorem r173_8 : rf 173 8 = 178 := by decide +kernel
theorem r173_9 : rf 173 9 = 179 := by decide +kernel
theorem r173_10 : rf 173 10 = 180 := by decide +kernel
theorem r173_11 : rf 173 11 = 181 := by decide +kernel
theorem r173_12 : rf 173 12 = 182 := by decide +kernel
theorem r173_13 : rf 173 13 = 183 := by decide +kernel
theorem r184_0 : rf 184 0 = 185 := by decide +kernel
theorem r184_1 : rf 184 1 = 186 := by decide +kernel
theorem r184_2 : rf 184 2 = 187 := by decide +kernel
theorem r184_3 : rf 184 3 = 188 := by decide +kernel
theorem r184_4 : rf 184 4 = 189 := by decide +kernel
theorem r184_5 : rf 184 5 = 190 := by decide +kernel
theorem r184_6 : rf 184 6 = 191 := by decide +kernel
theorem r192_4 : rf 192 4 = 193 := by decide +kernel
theorem r192_5 : rf 192 5 = 194 := by decide +kernel
theorem r192_6 : rf 192 6 = 195 := by decide +kernel
theorem r192_7 : rf 192 7 = 196 := by decide +kernel
theorem r192_8 : rf 192 8 = 197 := by decide +kernel
theorem r192_9 : rf 192 9 = 198 := by decide +kernel
theorem r192_10 : rf 192 10 = 199 := by decide +kernel
theorem r192_11 : rf 192 11 = 200 := by decide +kernel
theorem r192_12 : rf 192 12 = 201 := by decide +kernel
theorem r192_13 : rf 192 13 = 202 := by decide +kernel
theorem r203_0 : rf 203 0 = 204 := by decide +kernel
theorem r203_1 : rf 203 1 = 205 := by decide +kernel
theorem r203_2 : rf 203 2 = 206 := by decide +kernel
theorem r203_3 : rf 203 3 = 207 := by decide +kernel
theorem r203_4 : rf 203 4 = 208 := by decide +kernel
theorem r203_5 : rf 203 5 = 209 := by decide +kernel
theorem r203_6 : rf 203 6 = 210 := by decide +kernel
theorem r211_1 : rf 211 1 = 212 := by decide +kernel
theorem r211_2 : rf 211 2 = 213 := by decide +kernel
theorem r211_3 : rf 211 3 = 214 := by decide +kernel
theorem r211_4 : rf 211 4 = 215 := by decide +kernel
theorem r211_16 : rf 211 16 = 216 := by decide +kernel
theorem r211_17 : rf 211 17 = 217 := by decide +kernel
theorem r211_24 : rf 211 24 = 218 := by decide +kernel
theorem r211_29 : rf 211 29 = 219 := by decide +kernel
theorem r211_32 : rf 211 32 = 220 := by decide +kernel
theorem r211_33 : rf 211 33 = 221 := by decide +kernel
theorem r211_34 : rf 211 34 = 222 := by decide +kernel
