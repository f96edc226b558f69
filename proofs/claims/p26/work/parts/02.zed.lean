/-! Ints by the whole numbers that they stand for; a walk's state as a picture, a place, the held locals and the stack -/
def iZ (z : Int) : Int32 := Int32.ofInt z
theorem iZ_add (a b : Int) : iZ a + iZ b = iZ (a + b) := (Int32.ofInt_add a b).symm
theorem iZ_sub (a b : Int) : iZ a - iZ b = iZ (a - b) := (Int32.ofInt_sub a b).symm
theorem iZ_mul (a b : Int) : iZ a * iZ b = iZ (a * b) := (Int32.ofInt_mul a b).symm
theorem iZ_toInt {a : Int} (h : -2147483648 ≤ a ∧ a ≤ 2147483647) : (iZ a).toInt = a := Int32.toInt_ofInt_of_le (by omega) (by omega)
theorem iZ_of (x : Int32) : iZ x.toInt = x := Int32.ofInt_toInt x
theorem iZ_rng (x : Int32) : -2147483648 ≤ x.toInt ∧ x.toInt ≤ 2147483647 := by
  have h1 := x.le_toInt
  have h2 := x.toInt_lt
  omega
theorem iZ_ex (x : Int32) : ∃ z : Int, x = iZ z ∧ -2147483648 ≤ z ∧ z ≤ 2147483647 := ⟨x.toInt, (iZ_of x).symm, (iZ_rng x).1, (iZ_rng x).2⟩
theorem iZ_lt {a b : Int} (ha : -2147483648 ≤ a ∧ a ≤ 2147483647) (hb : -2147483648 ≤ b ∧ b ≤ 2147483647) : iZ a < iZ b ↔ a < b := by
  rw [Int32.lt_iff_toInt_lt, iZ_toInt ha, iZ_toInt hb]
theorem iZ_le {a b : Int} (ha : -2147483648 ≤ a ∧ a ≤ 2147483647) (hb : -2147483648 ≤ b ∧ b ≤ 2147483647) : iZ a ≤ iZ b ↔ a ≤ b := by
  rw [Int32.le_iff_toInt_le, iZ_toInt ha, iZ_toInt hb]
theorem iZ_eq {a b : Int} (ha : -2147483648 ≤ a ∧ a ≤ 2147483647) (hb : -2147483648 ≤ b ∧ b ≤ 2147483647) : iZ a = iZ b ↔ a = b := by
  rw [← Int32.toInt_inj, iZ_toInt ha, iZ_toInt hb]
theorem iZ_0 : iZ 0 = 0 := by decide +kernel
theorem iZ_1 : iZ 1 = 1 := by decide +kernel
theorem iZ_clamp {a : Int} (h0 : 0 ≤ a) (h1 : a ≤ 2147483647) : (iZ a).toNatClampNeg = a.toNat := Int32.toNatClampNeg_ofInt_of_le (by omega) (by omega)
theorem iZ_nI (n : Nat) : iZ (n : Int) = nI n := Int32.ofInt_eq_ofNat
theorem iZ_nn {a : Int} (h : 0 ≤ a) : iZ a = nI a.toNat := by
  rw [← iZ_nI, Int.toNat_of_nonneg h]
theorem iZ_div {a b : Int} (ha : 0 ≤ a ∧ a ≤ 2147483647) (hb : 0 < b ∧ b ≤ 2147483647) : iZ a / iZ b = iZ (a / b) := by
  have h0 : 0 ≤ a / b := Int.ediv_nonneg ha.1 (by omega)
  rw [iZ_nn ha.1, iZ_nn (show 0 ≤ b by omega), iZ_nn h0, pk_div (by omega) (by omega) (by omega)]
  congr 1
  have e1 : a = (a.toNat : Int) := (Int.toNat_of_nonneg ha.1).symm
  have e2 : b = (b.toNat : Int) := (Int.toNat_of_nonneg (by omega)).symm
  rw [e1, e2]
  simp only [Int.toNat_natCast]
  norm_cast
theorem iZ_rem {a b : Int} (ha : 0 ≤ a ∧ a ≤ 2147483647) (hb : 0 < b ∧ b ≤ 2147483647) : iZ a - iZ a / iZ b * iZ b = iZ (a % b) := by
  rw [iZ_div ha hb, iZ_mul, iZ_sub]
  congr 1
  rw [Int.emod_def, Int.mul_comm]
def lZ (z : Int) : Int64 := Int64.ofInt z
theorem lZ_add (a b : Int) : lZ a + lZ b = lZ (a + b) := (Int64.ofInt_add a b).symm
theorem lZ_mul (a b : Int) : lZ a * lZ b = lZ (a * b) := (Int64.ofInt_mul a b).symm
theorem lZ_i {a : Int} (h : -2147483648 ≤ a ∧ a ≤ 2147483647) : (iZ a).toInt64 = lZ a := Int32.toInt64_ofInt (by rw [Int32.toInt_minValue]; omega) (by rw [Int32.toInt_maxValue]; omega)
/-- an array's numbers -/
def zA (f : Int → Int) : Nat → Int32 := fun j => iZ (f j)
def zu (f : Int → Int) (i x : Int) : Int → Int := fun j => if j = i then x else f j
theorem zu_s (f : Int → Int) (i x : Int) : zu f i x i = x := by simp [zu]
theorem zu_n {f : Int → Int} {i x j : Int} (h : j ≠ i) : zu f i x j = f j := by simp [zu, h]
theorem zA_at {f : Int → Int} {i : Int} (h0 : 0 ≤ i) (h1 : i ≤ 2147483647) : zA f (iZ i).toNatClampNeg = iZ (f i) := by
  unfold zA
  rw [iZ_clamp h0 h1, Int.toNat_of_nonneg h0]
theorem zA_up {f : Int → Int} {i x : Int} (h0 : 0 ≤ i) (h1 : i ≤ 2147483647) : upd (zA f) (iZ i).toNatClampNeg (iZ x) = zA (zu f i x) := by
  funext j
  rw [iZ_clamp h0 h1]
  unfold zA zu upd
  by_cases h : j = i.toNat
  · subst h
    simp [Int.toNat_of_nonneg h0]
  · have h2 : ¬ (j : Int) = i := by omega
    simp [h, h2]
theorem zin {i : Int} {n : Nat} (h : 0 ≤ i ∧ i < (n : Int)) (hn : n ≤ 2147483647) : vp_in (iZ i) n := by
  rw [vp_in_iff, iZ_toInt (by omega)]
  exact h
theorem zA_ext {cA : ClassId} {n : Nat} {f g : Nat → Int32} (h : ∀ j, j < n → f j = g j) : vp_cell cA (n, .inl f) = vp_cell cA (n, .inl g) := by
  rw [vp_cell_i, vp_cell_i]
  unfold arrV
  congr 1
  apply Array.ext
  · simp
  · intro i h1 h2
    simp at h1 ⊢
    exact h i h1
def b2z (P : Prop) [Decidable P] : Int := if P then 1 else 0
theorem b2z_t {P : Prop} [Decidable P] (h : P) : b2z P = 1 := if_pos h
theorem b2z_f {P : Prop} [Decidable P] (h : ¬ P) : b2z P = 0 := if_neg h
theorem b2z_01 (P : Prop) [Decidable P] : b2z P = 0 ∨ b2z P = 1 := by unfold b2z; split <;> simp
theorem b2z_ne {P : Prop} [Decidable P] (h : b2z P ≠ 0) : P := by unfold b2z at h; split at h <;> simp_all
theorem b2z_e {P : Prop} [Decidable P] (h : b2z P = 0) : ¬ P := by unfold b2z at h; split at h <;> simp_all
theorem narrow_z {z : Int} (h : z = 0 ∨ z = 1) : narrow .boolean (.int (iZ z)) = .int (iZ z) := by
  rcases h with rfl | rfl <;> decide +kernel
def Gz (p : Program) (l : Launch) (e : Env) (R : Room) (s : State) (m : MethodId) (args : Array Value) (below : List Frame) (meth : Method) (c : Code) (nL k n : Nat) (Q : State → Prop) (I : Heap → List Loc → Prop) (pc : Nat) (lv : List (Nat × Value)) (stk : List Value) : Prop :=
  ∀ (H : Heap) (locs : List Loc) (ls : Array Slot), I H locs → lv_has ls nL lv → W p l e R s m args below meth c H locs k n Q (F0 m pc ls stk)
/-- nothing written -/
def Zp (s : State) : Heap → List Loc → Prop := fun H locs => H = s.heap ∧ locs = []
/-- a world's cells -/
def Zw (D : va_G) (cl : List vw_C) (A : Nat → Prop) (s : State) (ws : va_W) : Heap → List Loc → Prop := fun H locs => va_P D cl ws H ∧ va_D A ws ∧ va_S A s.heap H locs
theorem zgp {D : va_G} {cl : List vw_C} {s : State} {ws : va_W} (h : va_P D cl ws s.heap) : ∀ H locs, Zp s H locs → va_P D cl ws H := fun _ _ q => by rw [q.1]; exact h
theorem zgw {D : va_G} {cl : List vw_C} {A : Nat → Prop} {s : State} {ws : va_W} : ∀ H locs, Zw D cl A s ws H locs → va_P D cl ws H := fun _ _ q => q.1
section ZR
variable {p : Program} {l : Launch} {e : Env} {R : Room} {s : State} {m : MethodId} {args : Array Value} {below : List Frame} {meth : Method} {c : Code} {nL k n : Nat} {Q : State → Prop} {I : Heap → List Loc → Prop} {cc : ByteArray} {pc : Nat} {lv lv' : List (Nat × Value)} {rest : List Value}
theorem z_lv (ks : List Nat) (h : lv_pick lv ks = lv') (K : Gz p l e R s m args below meth c nL k n Q I pc lv' rest) : Gz p l e R s m args below meth c nL k n Q I pc lv rest := fun H locs ls hI hl => K H locs ls hI (lv_sub hl ks h)
theorem z_I {I' : Heap → List Loc → Prop} (h : ∀ H locs, I H locs → I' H locs) (K : Gz p l e R s m args below meth c nL k n Q I' pc lv rest) : Gz p l e R s m args below meth c nL k n Q I pc lv rest := fun H locs ls hI hl => K H locs ls (h H locs hI) hl
theorem z_iconst (hx : p.tables.exec = Jvm.exec) (hb : c.code = cc) {z : Int} (hdg : decode cc pc = .ok (.iconst z, 1)) (K : Gz p l e R s m args below meth c nL k n Q I (pc + 1) lv (.int (iZ z) :: rest)) : Gz p l e R s m args below meth c nL k n Q I pc lv rest := fun H locs ls hI hl => lv_iconst hx hb hdg rfl (K H locs ls hI hl)
theorem z_bipush (hx : p.tables.exec = Jvm.exec) (hb : c.code = cc) {z : Int} (hdg : decode cc pc = .ok (.bipush z, 2)) (hz : (Int8.ofInt z).toInt32 = iZ z) (K : Gz p l e R s m args below meth c nL k n Q I (pc + 2) lv (.int (iZ z) :: rest)) : Gz p l e R s m args below meth c nL k n Q I pc lv rest := fun H locs ls hI hl => lv_bipush hx hb hdg hz (K H locs ls hI hl)
theorem z_sipush (hx : p.tables.exec = Jvm.exec) (hb : c.code = cc) {z : Int} (hdg : decode cc pc = .ok (.sipush z, 3)) (hz : (Int16.ofInt z).toInt32 = iZ z) (K : Gz p l e R s m args below meth c nL k n Q I (pc + 3) lv (.int (iZ z) :: rest)) : Gz p l e R s m args below meth c nL k n Q I pc lv rest := fun H locs ls hI hl => lv_sipush hx hb hdg hz (K H locs ls hI hl)
theorem z_ldc (hx : p.tables.exec = Jvm.exec) (hb : c.code = cc) {own : String} {index : Nat} {v : Int32} {z : Int} (hown : s.vm.findClass own = some m.cls) (hconst : (Jvm.Cond.constant own index v).before args s = true) (hz : v = iZ z) (hdg : decode cc pc = .ok (.ldc index, 2)) (K : Gz p l e R s m args below meth c nL k n Q I (pc + 2) lv (.int (iZ z) :: rest)) : Gz p l e R s m args below meth c nL k n Q I pc lv rest := fun H locs ls hI hl => lv_ldc hx hb hown hconst hdg (by rw [hz]; exact K H locs ls hI hl)
theorem z_iload_n (hx : p.tables.exec = Jvm.exec) (hb : c.code = cc) {i4 : Fin 4} {i : Nat} {x : Int32} (hdg : decode cc pc = .ok (.iload_n i4, 1)) (hi : (i4 : Nat) = i) (j : Nat) (hj : lv[j]? = some (i, .int x)) (K : Gz p l e R s m args below meth c nL k n Q I (pc + 1) lv (.int x :: rest)) : Gz p l e R s m args below meth c nL k n Q I pc lv rest := fun H locs ls hI hl => lv_iload_n hx hb hdg hi (lv_at hl j hj) (K H locs ls hI hl)
theorem z_iload (hx : p.tables.exec = Jvm.exec) (hb : c.code = cc) {i : Nat} {x : Int32} (hdg : decode cc pc = .ok (.iload i, 2)) (j : Nat) (hj : lv[j]? = some (i, .int x)) (K : Gz p l e R s m args below meth c nL k n Q I (pc + 2) lv (.int x :: rest)) : Gz p l e R s m args below meth c nL k n Q I pc lv rest := fun H locs ls hI hl => lv_iload hx hb hdg (lv_at hl j hj) (K H locs ls hI hl)
theorem z_aload_n (hx : p.tables.exec = Jvm.exec) (hb : c.code = cc) {i4 : Fin 4} {i : Nat} {x : Nat} (hdg : decode cc pc = .ok (.aload_n i4, 1)) (hi : (i4 : Nat) = i) (j : Nat) (hj : lv[j]? = some (i, .ref x)) (K : Gz p l e R s m args below meth c nL k n Q I (pc + 1) lv (.ref x :: rest)) : Gz p l e R s m args below meth c nL k n Q I pc lv rest := fun H locs ls hI hl => lv_aload_n hx hb hdg hi (lv_at hl j hj) (K H locs ls hI hl)
theorem z_lload_n (hx : p.tables.exec = Jvm.exec) (hb : c.code = cc) {i4 : Fin 4} {i : Nat} {x : Int64} (hdg : decode cc pc = .ok (.lload_n i4, 1)) (hi : (i4 : Nat) = i) (j : Nat) (hj : lv[j]? = some (i, .long x)) (K : Gz p l e R s m args below meth c nL k n Q I (pc + 1) lv (.long x :: rest)) : Gz p l e R s m args below meth c nL k n Q I pc lv rest := fun H locs ls hI hl => lv_lload_n hx hb hdg hi (lv_at hl j hj) (K H locs ls hI hl)
theorem z_istore_n (hx : p.tables.exec = Jvm.exec) (hb : c.code = cc) {i4 : Fin 4} {i : Nat} {x : Int32} (hdg : decode cc pc = .ok (.istore_n i4, 1)) (hi : (i4 : Nat) = i) (hn : i < nL) (lv' : List (Nat × Value)) (hl' : (i, Value.int x) :: lv.filter (fun q => !(q.1 == i) && !(q.1 + 1 == i && q.2.category == 2)) = lv') (K : Gz p l e R s m args below meth c nL k n Q I (pc + 1) lv' rest) : Gz p l e R s m args below meth c nL k n Q I pc lv (.int x :: rest) := fun H locs ls hI hl => lv_istore_n hx hb hdg hi hl hn hl' (fun ls2 hl2 => K H locs ls2 hI hl2)
theorem z_istore (hx : p.tables.exec = Jvm.exec) (hb : c.code = cc) {i : Nat} {x : Int32} (hdg : decode cc pc = .ok (.istore i, 2)) (hn : i < nL) (lv' : List (Nat × Value)) (hl' : (i, Value.int x) :: lv.filter (fun q => !(q.1 == i) && !(q.1 + 1 == i && q.2.category == 2)) = lv') (K : Gz p l e R s m args below meth c nL k n Q I (pc + 2) lv' rest) : Gz p l e R s m args below meth c nL k n Q I pc lv (.int x :: rest) := fun H locs ls hI hl => lv_istore hx hb hdg hl hn hl' (fun ls2 hl2 => K H locs ls2 hI hl2)
theorem z_astore_n (hx : p.tables.exec = Jvm.exec) (hb : c.code = cc) {i4 : Fin 4} {i : Nat} {x : Nat} (hdg : decode cc pc = .ok (.astore_n i4, 1)) (hi : (i4 : Nat) = i) (hn : i < nL) (lv' : List (Nat × Value)) (hl' : (i, Value.ref x) :: lv.filter (fun q => !(q.1 == i) && !(q.1 + 1 == i && q.2.category == 2)) = lv') (K : Gz p l e R s m args below meth c nL k n Q I (pc + 1) lv' rest) : Gz p l e R s m args below meth c nL k n Q I pc lv (.ref x :: rest) := fun H locs ls hI hl => lv_astore_n hx hb hdg hi hl hn hl' (fun ls2 hl2 => K H locs ls2 hI hl2)
theorem z_lstore_n (hx : p.tables.exec = Jvm.exec) (hb : c.code = cc) {i4 : Fin 4} {i : Nat} {x : Int64} (hdg : decode cc pc = .ok (.lstore_n i4, 1)) (hi : (i4 : Nat) = i) (hn : i + 1 < nL) (lv' : List (Nat × Value)) (hl' : (i, Value.long x) :: lv.filter (fun q => !(q.1 == i) && (!(q.1 == i + 1) && !(q.1 + 1 == i && q.2.category == 2))) = lv') (K : Gz p l e R s m args below meth c nL k n Q I (pc + 1) lv' rest) : Gz p l e R s m args below meth c nL k n Q I pc lv (.long x :: rest) := fun H locs ls hI hl => lv_lstore_n hx hb hdg hi hl hn hl' (fun ls2 hl2 => K H locs ls2 hI hl2)
theorem z_iinc (hx : p.tables.exec = Jvm.exec) (hb : c.code = cc) {i : Nat} {d a : Int} (hdg : decode cc pc = .ok (.iinc i d, 3)) (j : Nat) (hj : lv[j]? = some (i, .int (iZ a))) (hn : i < nL) (lv' : List (Nat × Value)) (hl' : (i, Value.int (iZ (a + d))) :: lv.filter (fun q => !(q.1 == i) && !(q.1 + 1 == i && q.2.category == 2)) = lv') (K : Gz p l e R s m args below meth c nL k n Q I (pc + 3) lv' rest) : Gz p l e R s m args below meth c nL k n Q I pc lv rest := fun H locs ls hI hl => lv_iinc hx hb hdg hl hj (show iZ a + Int32.ofInt d = iZ (a + d) from iZ_add a d) hn hl' (fun ls2 hl2 => K H locs ls2 hI hl2)
theorem z_iadd (hx : p.tables.exec = Jvm.exec) (hb : c.code = cc) {a b : Int} (hdg : decode cc pc = .ok (.iadd, 1)) (K : Gz p l e R s m args below meth c nL k n Q I (pc + 1) lv (.int (iZ (a + b)) :: rest)) : Gz p l e R s m args below meth c nL k n Q I pc lv (.int (iZ b) :: .int (iZ a) :: rest) := fun H locs ls hI hl => lv_iadd hx hb hdg (by rw [iZ_add]; exact K H locs ls hI hl)
theorem z_isub (hx : p.tables.exec = Jvm.exec) (hb : c.code = cc) {a b : Int} (hdg : decode cc pc = .ok (.isub, 1)) (K : Gz p l e R s m args below meth c nL k n Q I (pc + 1) lv (.int (iZ (a - b)) :: rest)) : Gz p l e R s m args below meth c nL k n Q I pc lv (.int (iZ b) :: .int (iZ a) :: rest) := fun H locs ls hI hl => lv_isub hx hb hdg (by rw [iZ_sub]; exact K H locs ls hI hl)
theorem z_imul (hx : p.tables.exec = Jvm.exec) (hb : c.code = cc) {a b : Int} (hdg : decode cc pc = .ok (.imul, 1)) (K : Gz p l e R s m args below meth c nL k n Q I (pc + 1) lv (.int (iZ (a * b)) :: rest)) : Gz p l e R s m args below meth c nL k n Q I pc lv (.int (iZ b) :: .int (iZ a) :: rest) := fun H locs ls hI hl => lv_imul hx hb hdg (by rw [iZ_mul]; exact K H locs ls hI hl)
theorem z_idiv (hx : p.tables.exec = Jvm.exec) (hb : c.code = cc) {a b : Int} (ha : 0 ≤ a ∧ a ≤ 2147483647) (hb2 : 0 < b ∧ b ≤ 2147483647) (hdg : decode cc pc = .ok (.idiv, 1)) (K : Gz p l e R s m args below meth c nL k n Q I (pc + 1) lv (.int (iZ (a / b)) :: rest)) : Gz p l e R s m args below meth c nL k n Q I pc lv (.int (iZ b) :: .int (iZ a) :: rest) := fun H locs ls hI hl => lv_idiv hx hb hdg (by rw [← iZ_0, iZ_eq (by omega) (by omega)]; omega) (by rw [iZ_div ha hb2]; exact K H locs ls hI hl)
theorem z_irem (hx : p.tables.exec = Jvm.exec) (hb : c.code = cc) {a b : Int} (ha : 0 ≤ a ∧ a ≤ 2147483647) (hb2 : 0 < b ∧ b ≤ 2147483647) (hdg : decode cc pc = .ok (.irem, 1)) (K : Gz p l e R s m args below meth c nL k n Q I (pc + 1) lv (.int (iZ (a % b)) :: rest)) : Gz p l e R s m args below meth c nL k n Q I pc lv (.int (iZ b) :: .int (iZ a) :: rest) := fun H locs ls hI hl => lv_irem hx hb hdg (by rw [← iZ_0, iZ_eq (by omega) (by omega)]; omega) (by rw [iZ_rem ha hb2]; exact K H locs ls hI hl)
theorem z_i2l (hx : p.tables.exec = Jvm.exec) (hb : c.code = cc) {a : Int} (ha : -2147483648 ≤ a ∧ a ≤ 2147483647) (hdg : decode cc pc = .ok (.i2l, 1)) (K : Gz p l e R s m args below meth c nL k n Q I (pc + 1) lv (.long (lZ a) :: rest)) : Gz p l e R s m args below meth c nL k n Q I pc lv (.int (iZ a) :: rest) := fun H locs ls hI hl => lv_i2l hx hb hdg (lZ_i ha) (K H locs ls hI hl)
theorem z_ladd (hx : p.tables.exec = Jvm.exec) (hb : c.code = cc) {a b : Int} (hdg : decode cc pc = .ok (.ladd, 1)) (K : Gz p l e R s m args below meth c nL k n Q I (pc + 1) lv (.long (lZ (a + b)) :: rest)) : Gz p l e R s m args below meth c nL k n Q I pc lv (.long (lZ b) :: .long (lZ a) :: rest) := fun H locs ls hI hl => lv_ladd hx hb hdg (by rw [lZ_add]; exact K H locs ls hI hl)
theorem z_lmul (hx : p.tables.exec = Jvm.exec) (hb : c.code = cc) {a b : Int} (hdg : decode cc pc = .ok (.lmul, 1)) (K : Gz p l e R s m args below meth c nL k n Q I (pc + 1) lv (.long (lZ (a * b)) :: rest)) : Gz p l e R s m args below meth c nL k n Q I pc lv (.long (lZ b) :: .long (lZ a) :: rest) := fun H locs ls hI hl => lv_lmul hx hb hdg (by rw [lZ_mul]; exact K H locs ls hI hl)
theorem z_dup (hx : p.tables.exec = Jvm.exec) (hb : c.code = cc) {v : Value} (hdg : decode cc pc = .ok (.dup, 1)) (hv : v.category = 1) (K : Gz p l e R s m args below meth c nL k n Q I (pc + 1) lv (v :: v :: rest)) : Gz p l e R s m args below meth c nL k n Q I pc lv (v :: rest) := fun H locs ls hI hl => lv_dup hx hb hdg hv (K H locs ls hI hl)
theorem z_dup2 (hx : p.tables.exec = Jvm.exec) (hb : c.code = cc) {v w : Value} (hdg : decode cc pc = .ok (.dup2, 1)) (hv : v.category = 1) (hw : w.category = 1) (K : Gz p l e R s m args below meth c nL k n Q I (pc + 1) lv (v :: w :: v :: w :: rest)) : Gz p l e R s m args below meth c nL k n Q I pc lv (v :: w :: rest) := fun H locs ls hI hl => lv_dup2_11 hx hb hdg hv hw (K H locs ls hI hl)
theorem z_goto (hx : p.tables.exec = Jvm.exec) (hb : c.code = cc) {off : Int} {tgt : Nat} (hdg : decode cc pc = .ok (.goto off, 3)) (ht : (pc : Int) + off = (tgt : Int)) (K : Gz p l e R s m args below meth c nL k n Q I tgt lv rest) : Gz p l e R s m args below meth c nL k n Q I pc lv rest := fun H locs ls hI hl => lv_goto hx hb hdg ht (K H locs ls hI hl)
theorem z_icmp_lt (hx : p.tables.exec = Jvm.exec) (hb : c.code = cc) {a b : Int} {off : Int} {tgt : Nat} (ha : -2147483648 ≤ a ∧ a ≤ 2147483647) (hb2 : -2147483648 ≤ b ∧ b ≤ 2147483647) (hdg : decode cc pc = .ok (.if_icmp .lt off, 3)) (ht : (pc : Int) + off = (tgt : Int)) (kt : a < b → Gz p l e R s m args below meth c nL k n Q I tgt lv rest) (kf : b ≤ a → Gz p l e R s m args below meth c nL k n Q I (pc + 3) lv rest) : Gz p l e R s m args below meth c nL k n Q I pc lv (.int (iZ b) :: .int (iZ a) :: rest) := fun H locs ls hI hl => lv_icmp_lt hx hb hdg ht (fun h => kt ((iZ_lt ha hb2).mp h) H locs ls hI hl) (fun h => kf (Int.not_lt.mp (fun q => h ((iZ_lt ha hb2).mpr q))) H locs ls hI hl)
theorem z_if_lt (hx : p.tables.exec = Jvm.exec) (hb : c.code = cc) {a : Int} {off : Int} {tgt : Nat} (ha : -2147483648 ≤ a ∧ a ≤ 2147483647) (hdg : decode cc pc = .ok (.ifCond .lt off, 3)) (ht : (pc : Int) + off = (tgt : Int)) (kt : a < 0 → Gz p l e R s m args below meth c nL k n Q I tgt lv rest) (kf : 0 ≤ a → Gz p l e R s m args below meth c nL k n Q I (pc + 3) lv rest) : Gz p l e R s m args below meth c nL k n Q I pc lv (.int (iZ a) :: rest) :=
  have hz : -2147483648 ≤ (0 : Int) ∧ (0 : Int) ≤ 2147483647 := by decide
  fun H locs ls hI hl => lv_if_lt hx hb hdg ht (fun h => kt ((iZ_lt ha hz).mp (by rw [iZ_0]; exact h)) H locs ls hI hl) (fun h => kf (Int.not_lt.mp (fun q => h (by have h9 := (iZ_lt ha hz).mpr q; rw [iZ_0] at h9; exact h9))) H locs ls hI hl)
theorem z_icmp_ge (hx : p.tables.exec = Jvm.exec) (hb : c.code = cc) {a b : Int} {off : Int} {tgt : Nat} (ha : -2147483648 ≤ a ∧ a ≤ 2147483647) (hb2 : -2147483648 ≤ b ∧ b ≤ 2147483647) (hdg : decode cc pc = .ok (.if_icmp .ge off, 3)) (ht : (pc : Int) + off = (tgt : Int)) (kt : b ≤ a → Gz p l e R s m args below meth c nL k n Q I tgt lv rest) (kf : a < b → Gz p l e R s m args below meth c nL k n Q I (pc + 3) lv rest) : Gz p l e R s m args below meth c nL k n Q I pc lv (.int (iZ b) :: .int (iZ a) :: rest) := fun H locs ls hI hl => lv_icmp_ge hx hb hdg ht (fun h => kt ((iZ_le hb2 ha).mp h) H locs ls hI hl) (fun h => kf (Int.not_le.mp (fun q => h ((iZ_le hb2 ha).mpr q))) H locs ls hI hl)
theorem z_if_ge (hx : p.tables.exec = Jvm.exec) (hb : c.code = cc) {a : Int} {off : Int} {tgt : Nat} (ha : -2147483648 ≤ a ∧ a ≤ 2147483647) (hdg : decode cc pc = .ok (.ifCond .ge off, 3)) (ht : (pc : Int) + off = (tgt : Int)) (kt : 0 ≤ a → Gz p l e R s m args below meth c nL k n Q I tgt lv rest) (kf : a < 0 → Gz p l e R s m args below meth c nL k n Q I (pc + 3) lv rest) : Gz p l e R s m args below meth c nL k n Q I pc lv (.int (iZ a) :: rest) :=
  have hz : -2147483648 ≤ (0 : Int) ∧ (0 : Int) ≤ 2147483647 := by decide
  fun H locs ls hI hl => lv_if_ge hx hb hdg ht (fun h => kt ((iZ_le hz ha).mp (by rw [iZ_0]; exact h)) H locs ls hI hl) (fun h => kf (Int.not_le.mp (fun q => h (by have h9 := (iZ_le hz ha).mpr q; rw [iZ_0] at h9; exact h9))) H locs ls hI hl)
theorem z_icmp_gt (hx : p.tables.exec = Jvm.exec) (hb : c.code = cc) {a b : Int} {off : Int} {tgt : Nat} (ha : -2147483648 ≤ a ∧ a ≤ 2147483647) (hb2 : -2147483648 ≤ b ∧ b ≤ 2147483647) (hdg : decode cc pc = .ok (.if_icmp .gt off, 3)) (ht : (pc : Int) + off = (tgt : Int)) (kt : b < a → Gz p l e R s m args below meth c nL k n Q I tgt lv rest) (kf : a ≤ b → Gz p l e R s m args below meth c nL k n Q I (pc + 3) lv rest) : Gz p l e R s m args below meth c nL k n Q I pc lv (.int (iZ b) :: .int (iZ a) :: rest) := fun H locs ls hI hl => lv_icmp_gt hx hb hdg ht (fun h => kt ((iZ_lt hb2 ha).mp h) H locs ls hI hl) (fun h => kf (Int.not_lt.mp (fun q => h ((iZ_lt hb2 ha).mpr q))) H locs ls hI hl)
theorem z_if_gt (hx : p.tables.exec = Jvm.exec) (hb : c.code = cc) {a : Int} {off : Int} {tgt : Nat} (ha : -2147483648 ≤ a ∧ a ≤ 2147483647) (hdg : decode cc pc = .ok (.ifCond .gt off, 3)) (ht : (pc : Int) + off = (tgt : Int)) (kt : 0 < a → Gz p l e R s m args below meth c nL k n Q I tgt lv rest) (kf : a ≤ 0 → Gz p l e R s m args below meth c nL k n Q I (pc + 3) lv rest) : Gz p l e R s m args below meth c nL k n Q I pc lv (.int (iZ a) :: rest) :=
  have hz : -2147483648 ≤ (0 : Int) ∧ (0 : Int) ≤ 2147483647 := by decide
  fun H locs ls hI hl => lv_if_gt hx hb hdg ht (fun h => kt ((iZ_lt hz ha).mp (by rw [iZ_0]; exact h)) H locs ls hI hl) (fun h => kf (Int.not_lt.mp (fun q => h (by have h9 := (iZ_lt hz ha).mpr q; rw [iZ_0] at h9; exact h9))) H locs ls hI hl)
theorem z_icmp_le (hx : p.tables.exec = Jvm.exec) (hb : c.code = cc) {a b : Int} {off : Int} {tgt : Nat} (ha : -2147483648 ≤ a ∧ a ≤ 2147483647) (hb2 : -2147483648 ≤ b ∧ b ≤ 2147483647) (hdg : decode cc pc = .ok (.if_icmp .le off, 3)) (ht : (pc : Int) + off = (tgt : Int)) (kt : a ≤ b → Gz p l e R s m args below meth c nL k n Q I tgt lv rest) (kf : b < a → Gz p l e R s m args below meth c nL k n Q I (pc + 3) lv rest) : Gz p l e R s m args below meth c nL k n Q I pc lv (.int (iZ b) :: .int (iZ a) :: rest) := fun H locs ls hI hl => lv_icmp_le hx hb hdg ht (fun h => kt ((iZ_le ha hb2).mp h) H locs ls hI hl) (fun h => kf (Int.not_le.mp (fun q => h ((iZ_le ha hb2).mpr q))) H locs ls hI hl)
theorem z_if_le (hx : p.tables.exec = Jvm.exec) (hb : c.code = cc) {a : Int} {off : Int} {tgt : Nat} (ha : -2147483648 ≤ a ∧ a ≤ 2147483647) (hdg : decode cc pc = .ok (.ifCond .le off, 3)) (ht : (pc : Int) + off = (tgt : Int)) (kt : a ≤ 0 → Gz p l e R s m args below meth c nL k n Q I tgt lv rest) (kf : 0 < a → Gz p l e R s m args below meth c nL k n Q I (pc + 3) lv rest) : Gz p l e R s m args below meth c nL k n Q I pc lv (.int (iZ a) :: rest) :=
  have hz : -2147483648 ≤ (0 : Int) ∧ (0 : Int) ≤ 2147483647 := by decide
  fun H locs ls hI hl => lv_if_le hx hb hdg ht (fun h => kt ((iZ_le ha hz).mp (by rw [iZ_0]; exact h)) H locs ls hI hl) (fun h => kf (Int.not_le.mp (fun q => h (by have h9 := (iZ_le ha hz).mpr q; rw [iZ_0] at h9; exact h9))) H locs ls hI hl)
theorem z_icmp_eq (hx : p.tables.exec = Jvm.exec) (hb : c.code = cc) {a b : Int} {off : Int} {tgt : Nat} (ha : -2147483648 ≤ a ∧ a ≤ 2147483647) (hb2 : -2147483648 ≤ b ∧ b ≤ 2147483647) (hdg : decode cc pc = .ok (.if_icmp .eq off, 3)) (ht : (pc : Int) + off = (tgt : Int)) (kt : a = b → Gz p l e R s m args below meth c nL k n Q I tgt lv rest) (kf : ¬ a = b → Gz p l e R s m args below meth c nL k n Q I (pc + 3) lv rest) : Gz p l e R s m args below meth c nL k n Q I pc lv (.int (iZ b) :: .int (iZ a) :: rest) := fun H locs ls hI hl => lv_icmp_eq hx hb hdg ht (fun h => kt ((iZ_eq ha hb2).mp h) H locs ls hI hl) (fun h => kf (id (fun q => h ((iZ_eq ha hb2).mpr q))) H locs ls hI hl)
theorem z_if_eq (hx : p.tables.exec = Jvm.exec) (hb : c.code = cc) {a : Int} {off : Int} {tgt : Nat} (ha : -2147483648 ≤ a ∧ a ≤ 2147483647) (hdg : decode cc pc = .ok (.ifCond .eq off, 3)) (ht : (pc : Int) + off = (tgt : Int)) (kt : a = 0 → Gz p l e R s m args below meth c nL k n Q I tgt lv rest) (kf : ¬ a = 0 → Gz p l e R s m args below meth c nL k n Q I (pc + 3) lv rest) : Gz p l e R s m args below meth c nL k n Q I pc lv (.int (iZ a) :: rest) :=
  have hz : -2147483648 ≤ (0 : Int) ∧ (0 : Int) ≤ 2147483647 := by decide
  fun H locs ls hI hl => lv_if_eq hx hb hdg ht (fun h => kt ((iZ_eq ha hz).mp (by rw [iZ_0]; exact h)) H locs ls hI hl) (fun h => kf (id (fun q => h (by have h9 := (iZ_eq ha hz).mpr q; rw [iZ_0] at h9; exact h9))) H locs ls hI hl)
theorem z_icmp_ne (hx : p.tables.exec = Jvm.exec) (hb : c.code = cc) {a b : Int} {off : Int} {tgt : Nat} (ha : -2147483648 ≤ a ∧ a ≤ 2147483647) (hb2 : -2147483648 ≤ b ∧ b ≤ 2147483647) (hdg : decode cc pc = .ok (.if_icmp .ne off, 3)) (ht : (pc : Int) + off = (tgt : Int)) (kt : ¬ a = b → Gz p l e R s m args below meth c nL k n Q I tgt lv rest) (kf : a = b → Gz p l e R s m args below meth c nL k n Q I (pc + 3) lv rest) : Gz p l e R s m args below meth c nL k n Q I pc lv (.int (iZ b) :: .int (iZ a) :: rest) := fun H locs ls hI hl => lv_icmp_ne hx hb hdg ht (fun h => kt (fun q => h ((iZ_eq ha hb2).mpr q)) H locs ls hI hl) (fun h => kf ((iZ_eq ha hb2).mp h) H locs ls hI hl)
theorem z_if_ne (hx : p.tables.exec = Jvm.exec) (hb : c.code = cc) {a : Int} {off : Int} {tgt : Nat} (ha : -2147483648 ≤ a ∧ a ≤ 2147483647) (hdg : decode cc pc = .ok (.ifCond .ne off, 3)) (ht : (pc : Int) + off = (tgt : Int)) (kt : ¬ a = 0 → Gz p l e R s m args below meth c nL k n Q I tgt lv rest) (kf : a = 0 → Gz p l e R s m args below meth c nL k n Q I (pc + 3) lv rest) : Gz p l e R s m args below meth c nL k n Q I pc lv (.int (iZ a) :: rest) :=
  fun H locs ls hI hl => lv_if_ne hx hb hdg ht (fun h => kt (fun q => h (by rw [q, iZ_0])) H locs ls hI hl) (fun h => kf ((iZ_eq ha (by omega)).mp (h.trans iZ_0.symm)) H locs ls hI hl)
end ZR
