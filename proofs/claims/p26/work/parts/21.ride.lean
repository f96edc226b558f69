/-! The class's ride: its cells, and what they hold of the row -/
section ZM
variable {p : Program} {l : Launch} {e : Env} {R : Room} {s : State} {m : MethodId} {args : Array Value} {below : List Frame} {meth : Method} {c : Code} {nL k n : Nat} {Q : State → Prop} {I : Heap → List Loc → Prop} {cc : ByteArray} {pc : Nat} {lv : List (Nat × Value)} {rest : List Value} {D : va_G} {cl : List vw_C} {tys : List (ClassId × FieldType)} {ws : va_W} {A : Nat → Prop} {a : Nat}
theorem z_mmin (hx : p.tables.exec = Jvm.exec) (hb : c.code = cc) (hml : c.maxLocals = nL) {own : String} {index : Nat} (hown : s.vm.findClass own = some m.cls) (hlink : (Cond.methodLink own index Lib.Math.min.name).before args s = true) (hstat : (Cond.static Lib.Math.min.name).before args s = true) (hini : (Cond.initialized "java/lang/Math").before args s = true) (hcode : (Cond.code Lib.Math.min.name Lib.Math.min.code 2 (some .int)).before args s = true) (hframes : 1 ≤ R.frames) (hlocals : (rest.map fun v => v.category).sum + 13 ≤ R.locals) (hkn : k ≤ R.cells ∧ n ≤ R.slots) {x y : Int} (hrx : -2147483648 ≤ x ∧ x ≤ 2147483647) (hry : -2147483648 ≤ y ∧ y ≤ 2147483647) (hdg : decode cc pc = .ok (.invokestatic index, 3))
    (K : Gz p l e R s m args below meth c nL k n Q I (pc + 3) lv (.int (iZ (if y < x then y else x)) :: rest)) : Gz p l e R s m args below meth c nL k n Q I pc lv (.int (iZ y) :: .int (iZ x) :: rest) := fun H locs ls hI hl => by
  have e : (if iZ y < iZ x then iZ y else iZ x) = iZ (if y < x then y else x) := by
    by_cases q : y < x
    · rw [if_pos q, if_pos ((iZ_lt hry hrx).mpr q)]
    · rw [if_neg q, if_neg (fun z => q ((iZ_lt hry hrx).mp z))]
  exact va_mmin hx hb (hml.trans hl.1.symm) hown hlink hstat hini hcode hframes hlocals hkn.1 hkn.2 hdg (by rw [e]; exact K H locs ls hI hl)
theorem z_mmax (hx : p.tables.exec = Jvm.exec) (hb : c.code = cc) (hml : c.maxLocals = nL) {own : String} {index : Nat} (hown : s.vm.findClass own = some m.cls) (hlink : (Cond.methodLink own index Lib.Math.max.name).before args s = true) (hstat : (Cond.static Lib.Math.max.name).before args s = true) (hini : (Cond.initialized "java/lang/Math").before args s = true) (hcode : (Cond.code Lib.Math.max.name Lib.Math.max.code 2 (some .int)).before args s = true) (hframes : 1 ≤ R.frames) (hlocals : (rest.map fun v => v.category).sum + 13 ≤ R.locals) (hkn : k ≤ R.cells ∧ n ≤ R.slots) {x y : Int} (hrx : -2147483648 ≤ x ∧ x ≤ 2147483647) (hry : -2147483648 ≤ y ∧ y ≤ 2147483647) (hdg : decode cc pc = .ok (.invokestatic index, 3))
    (K : Gz p l e R s m args below meth c nL k n Q I (pc + 3) lv (.int (iZ (if x < y then y else x)) :: rest)) : Gz p l e R s m args below meth c nL k n Q I pc lv (.int (iZ y) :: .int (iZ x) :: rest) := fun H locs ls hI hl => by
  have e : (if iZ x < iZ y then iZ y else iZ x) = iZ (if x < y then y else x) := by
    by_cases q : x < y
    · rw [if_pos q, if_pos ((iZ_lt hrx hry).mpr q)]
    · rw [if_neg q, if_neg (fun z => q ((iZ_lt hrx hry).mp z))]
  exact va_mmax hx hb (hml.trans hl.1.symm) hown hlink hstat hini hcode hframes hlocals hkn.1 hkn.2 hdg (by rw [e]; exact K H locs ls hI hl)
/-- a row of references, whose place is a number of its own -/
theorem z_aald (hx : p.tables.exec = Jvm.exec) (hb : c.code = cc) (hK : va_K D cl tys s) (hg : ∀ H locs, I H locs → va_P D cl ws H) (q0 t0 : Nat) {cA : ClassId} {C : String} {N : Nat} {g : Nat → Nat} (he : ws[q0]? = some (a, .inl (cA, N, .inr (.inr (.inr (.inr (fun j => some (g j)))))))) (ht : tys[t0]? = some (cA, .object C)) {i : Nat} (hN : N ≤ 2147483647) (hi : i < N) (hdg : decode cc pc = .ok (.aaload, 1))
    (K : Gz p l e R s m args below meth c nL k n Q I (pc + 1) lv (.ref (g i) :: rest)) : Gz p l e R s m args below meth c nL k n Q I pc lv (.int (iZ (i : Int)) :: .ref a :: rest) := fun H locs ls hI hl => va_aldq hx hb hK (hg H locs hI) q0 t0 he ht (zin (by omega) hN) hdg (by
      rw [iZ_clamp (by omega) (by omega), Int.toNat_natCast]
      exact K H locs ls hI hl)
end ZM
/-- a train's fields -/
def tF (v : Int → Int) : List Value := [.int (iZ (v 0)), .int (iZ (v 1)), .int (iZ (v 2)), .int (iZ (v 3)), .int (iZ (v 4)), .int (iZ (v 5)), .int (iZ (v 6)), .int (iZ (v 7))]
def wT (a : Nat) (v : Int → Int) : va_W := [(a, .inr (3, tF v))]
/-- one part of the numbers changed -/
def uc (R : Nat → Int → Int) (c : Nat) (g : Int → Int) : Nat → Int → Int := fun j => cond (Nat.beq j c) g (R j)
theorem uc_s (R : Nat → Int → Int) (c : Nat) (g : Int → Int) : uc R c g c = g := by simp [uc]
theorem uc_n {R : Nat → Int → Int} {c j : Nat} {g : Int → Int} (h : j ≠ c) : uc R c g j = R j := by
  have : Nat.beq j c = false := by cases q : Nat.beq j c with
    | false => rfl
    | true => exact absurd (Nat.eq_of_beq_eq_true q) h
  simp [uc, this]
/-- a ride: 0 itself, 1 the track, 2 heights, 3 kinds, 4 blocks, 5 brakes, 6 the row of trains, 7 what is set, 8 to 11 the trains, 12 held up, 13 and 14 the log -/
def wR (y : Nat → ClassId) (a : Nat → Nat) (R : Nat → Int → Int) : va_W :=
  [(a 0, .inr (0, [.ref (a 1), .ref (a 6), .ref (a 7), .ref (a 12), .ref (a 13), .ref (a 14), .int (iZ (R 0 0)), .int (iZ (R 0 1)), .int (iZ (R 0 2))])),
   (a 1, .inr (1, [.ref (a 2), .ref (a 3), .ref (a 4), .ref (a 5), .int (iZ (R 1 0)), .int (iZ (R 1 1))])),
   (a 2, .inl (y 0, 30, .inl (zA (R 2)))), (a 3, .inl (y 0, 30, .inl (zA (R 3)))), (a 4, .inl (y 0, 30, .inl (zA (R 4)))), (a 5, .inl (y 0, 8, .inl (zA (R 5)))),
   (a 6, .inl (y 1, 4, .inr (.inr (.inr (.inr (fun j => some (a (8 + j)))))))), (a 7, .inl (y 0, 4, .inl (zA (R 7)))),
   (a 8, .inr (3, tF (R 8))), (a 9, .inr (3, tF (R 9))), (a 10, .inr (3, tF (R 10))), (a 11, .inr (3, tF (R 11))),
   (a 12, .inl (y 0, 8, .inl (zA (R 12)))), (a 13, .inl (y 0, 30, .inl (zA (R 13)))), (a 14, .inl (y 0, 30, .inl (zA (R 14))))]
section WR
variable {y : Nat → ClassId} {a : Nat → Nat} {R : Nat → Int → Int} {g v : Int → Int} {x : Int} {t b : Nat}
theorem wR_0 : (wR y a R)[0]? = some (a 0, .inr (0, [.ref (a 1), .ref (a 6), .ref (a 7), .ref (a 12), .ref (a 13), .ref (a 14), .int (iZ (R 0 0)), .int (iZ (R 0 1)), .int (iZ (R 0 2))])) := rfl
theorem wR_1 : (wR y a R)[1]? = some (a 1, .inr (1, [.ref (a 2), .ref (a 3), .ref (a 4), .ref (a 5), .int (iZ (R 1 0)), .int (iZ (R 1 1))])) := rfl
theorem wR_2 : (wR y a R)[2]? = some (a 2, .inl (y 0, 30, .inl (zA (R 2)))) := rfl
theorem wR_3 : (wR y a R)[3]? = some (a 3, .inl (y 0, 30, .inl (zA (R 3)))) := rfl
theorem wR_4 : (wR y a R)[4]? = some (a 4, .inl (y 0, 30, .inl (zA (R 4)))) := rfl
theorem wR_5 : (wR y a R)[5]? = some (a 5, .inl (y 0, 8, .inl (zA (R 5)))) := rfl
theorem wR_6 : (wR y a R)[6]? = some (a 6, .inl (y 1, 4, .inr (.inr (.inr (.inr (fun j => some (a (8 + j)))))))) := rfl
theorem wR_7 : (wR y a R)[7]? = some (a 7, .inl (y 0, 4, .inl (zA (R 7)))) := rfl
theorem wR_12 : (wR y a R)[12]? = some (a 12, .inl (y 0, 8, .inl (zA (R 12)))) := rfl
theorem wR_13 : (wR y a R)[13]? = some (a 13, .inl (y 0, 30, .inl (zA (R 13)))) := rfl
theorem wR_14 : (wR y a R)[14]? = some (a 14, .inl (y 0, 30, .inl (zA (R 14)))) := rfl
theorem wR_t (h : t < 4) : (wR y a R)[8 + t]? = some (a (8 + t), .inr (3, tF (R (8 + t)))) := by
  rcases (show t = 0 ∨ t = 1 ∨ t = 2 ∨ t = 3 by omega) with rfl | rfl | rfl | rfl <;> rfl
theorem wR_s0_0 : (wR y a R).set 0 (a 0, .inr (0, [.ref (a 1), .ref (a 6), .ref (a 7), .ref (a 12), .ref (a 13), .ref (a 14), .int (iZ x), .int (iZ (R 0 1)), .int (iZ (R 0 2))])) = wR y a (uc R 0 (zu (R 0) 0 x)) := rfl
theorem wR_s0_1 : (wR y a R).set 0 (a 0, .inr (0, [.ref (a 1), .ref (a 6), .ref (a 7), .ref (a 12), .ref (a 13), .ref (a 14), .int (iZ (R 0 0)), .int (iZ x), .int (iZ (R 0 2))])) = wR y a (uc R 0 (zu (R 0) 1 x)) := rfl
theorem wR_s0_2 : (wR y a R).set 0 (a 0, .inr (0, [.ref (a 1), .ref (a 6), .ref (a 7), .ref (a 12), .ref (a 13), .ref (a 14), .int (iZ (R 0 0)), .int (iZ (R 0 1)), .int (iZ x)])) = wR y a (uc R 0 (zu (R 0) 2 x)) := rfl
theorem wR_s1_0 : (wR y a R).set 1 (a 1, .inr (1, [.ref (a 2), .ref (a 3), .ref (a 4), .ref (a 5), .int (iZ x), .int (iZ (R 1 1))])) = wR y a (uc R 1 (zu (R 1) 0 x)) := rfl
theorem wR_s1_1 : (wR y a R).set 1 (a 1, .inr (1, [.ref (a 2), .ref (a 3), .ref (a 4), .ref (a 5), .int (iZ (R 1 0)), .int (iZ x)])) = wR y a (uc R 1 (zu (R 1) 1 x)) := rfl
theorem wR_s2 : (wR y a R).set 2 (a 2, .inl (y 0, 30, .inl (zA g))) = wR y a (uc R 2 g) := rfl
theorem wR_s3 : (wR y a R).set 3 (a 3, .inl (y 0, 30, .inl (zA g))) = wR y a (uc R 3 g) := rfl
theorem wR_s4 : (wR y a R).set 4 (a 4, .inl (y 0, 30, .inl (zA g))) = wR y a (uc R 4 g) := rfl
theorem wR_s5 : (wR y a R).set 5 (a 5, .inl (y 0, 8, .inl (zA g))) = wR y a (uc R 5 g) := rfl
theorem wR_s7 : (wR y a R).set 7 (a 7, .inl (y 0, 4, .inl (zA g))) = wR y a (uc R 7 g) := rfl
theorem wR_s12 : (wR y a R).set 12 (a 12, .inl (y 0, 8, .inl (zA g))) = wR y a (uc R 12 g) := rfl
theorem wR_s13 : (wR y a R).set 13 (a 13, .inl (y 0, 30, .inl (zA g))) = wR y a (uc R 13 g) := rfl
theorem wR_s14 : (wR y a R).set 14 (a 14, .inl (y 0, 30, .inl (zA g))) = wR y a (uc R 14 g) := rfl
theorem tF_set (k : Nat) (hk : k < 8) : (tF v).set k (.int (iZ x)) = tF (zu v k x) := by
  rcases (show k = 0 ∨ k = 1 ∨ k = 2 ∨ k = 3 ∨ k = 4 ∨ k = 5 ∨ k = 6 ∨ k = 7 by omega) with rfl | rfl | rfl | rfl | rfl | rfl | rfl | rfl <;> rfl
theorem wR_st (h : t < 4) : (wR y a R).set (8 + t) (a (8 + t), .inr (3, tF g)) = wR y a (uc R (8 + t) g) := by
  rcases (show t = 0 ∨ t = 1 ∨ t = 2 ∨ t = 3 by omega) with rfl | rfl | rfl | rfl <;> rfl
theorem wR_stk (h : t < 4) (k : Nat) (hk : k < 8) : (wR y a R).set (8 + t) (a (8 + t), .inr (3, (tF (R (8 + t))).set k (.int (iZ x)))) = wR y a (uc R (8 + t) (zu (R (8 + t)) k x)) := by
  rw [tF_set k hk, wR_st h]
theorem wT_0 : (wT b v)[0]? = some (b, .inr (3, tF v)) := rfl
theorem wT_s (k : Nat) (hk : k < 8) : (wT b v).set 0 (b, .inr (3, (tF v).set k (.int (iZ x)))) = wT b (zu v k x) := by
  rw [tF_set k hk]; rfl
theorem wR_split (h : t < 4) : ∃ wa wb : va_W, (∀ g : Int → Int, wR y a (uc R (8 + t) g) = wa ++ wT (a (8 + t)) g ++ wb) := by
  rcases (show t = 0 ∨ t = 1 ∨ t = 2 ∨ t = 3 by omega) with rfl | rfl | rfl | rfl
  · exact ⟨(wR y a R).take 8, (wR y a R).drop 9, fun g => rfl⟩
  · exact ⟨(wR y a R).take 9, (wR y a R).drop 10, fun g => rfl⟩
  · exact ⟨(wR y a R).take 10, (wR y a R).drop 11, fun g => rfl⟩
  · exact ⟨(wR y a R).take 11, (wR y a R).drop 12, fun g => rfl⟩
theorem uc_id (c : Nat) : uc R c (R c) = R := by
  funext j; by_cases h : j = c
  · subst h; rw [uc_s]
  · rw [uc_n h]
theorem wT_in (h : t < 4) : ∀ q ∈ wT (a (8 + t)) (R (8 + t)), q ∈ wR y a R := by
  intro q hq
  rw [show q = (a (8 + t), .inr (3, tF (R (8 + t)))) from List.mem_singleton.mp hq]
  exact List.mem_of_getElem? (wR_t h)
end WR
/-- what a ride's numbers are of the row -/
def Rel (f : Int → Int) (R : Nat → Int → Int) : Prop :=
  (R 1 0 = f 0 ∧ R 1 1 = f 1 ∧ R 0 0 = f 2 ∧ R 0 1 = f 3 ∧ R 0 2 = f 8) ∧
  (∀ c : Int, 0 ≤ c → c < f 0 → R 2 c = f (11 + c) ∧ R 3 c = f (41 + c) ∧ R 4 c = blockAt f c) ∧
  (∀ b : Int, 0 ≤ b → b < f 1 → R 5 b = brakeOf f b ∧ R 12 b = f (71 + b)) ∧
  (R 7 0 = f 4 ∧ R 7 1 = f 5 ∧ R 7 2 = f 6 ∧ R 7 3 = f 7) ∧
  (∀ t : Nat, (t : Int) < f 2 → ∀ k : Int, 0 ≤ k → k < 8 → R (8 + t) k = f (79 + 8 * (t : Int) + k)) ∧
  (∀ i : Int, 0 ≤ i → i < f 10 → R 13 ((f 8 - 1 - i) % 30) = f (111 + 2 * (f 10 - 1 - i)) ∧ R 14 ((f 8 - 1 - i) % 30) = f (111 + 2 * (f 10 - 1 - i) + 1))
/-- what holds of the row itself: the log, the standing, and that the trains are apart -/
def Lg (f : Int → Int) : Prop := f 10 = (if f 8 < 30 then f 8 else 30) ∧ (f 8 = 0 → f 9 = -1) ∧ (0 < f 8 → f 9 = f (111 + 2 * (f 10 - 1)) ∧ 0 ≤ f 9)
def Sd (f : Int → Int) : Prop := ∀ t : Int, 0 ≤ t → t < f 2 → f (79 + 8 * t + 4) ≠ 1 → f (79 + 8 * t + 5) = 0
def Ap (f : Int → Int) : Prop := (∀ t u : Int, 0 ≤ t → t < f 2 → 0 ≤ u → u < f 2 → blockAt f (f (79 + 8 * t + 0)) = blockAt f (f (79 + 8 * u + 0)) → t = u) ∧
  (∀ t u : Int, 0 ≤ t → t < f 2 → 0 ≤ u → u < f 2 → f (79 + 8 * t + 4) = 0 → f (41 + f (79 + 8 * t + 0)) = 2 → blockAt f (f (79 + 8 * u + 0)) ≠ nextB f (blockAt f (f (79 + 8 * t + 0))))
