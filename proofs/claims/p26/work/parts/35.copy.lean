/-! Rows of numbers copied; two rides -/
section ZK
variable {p : Program} {l : Launch} {e : Env} {R : Room} {s : State} {m : MethodId} {args : Array Value} {below : List Frame} {meth : Method} {c : Code} {nL k n : Nat} {Q : State → Prop} {cc : ByteArray} {pc : Nat} {lv : List (Nat × Value)} {rest : List Value} {D : va_G} {cl : List vw_C} {tys : List (ClassId × FieldType)} {ws : va_W} {A : Nat → Prop} {I : Heap → List Loc → Prop}
theorem z_acopy (hx : p.tables.exec = Jvm.exec) (hb : c.code = cc) (hml : c.maxLocals = nL) {own : String} {index : Nat} (hown : s.vm.findClass own = some m.cls) (hlink : (Cond.methodLink own index arraycopyName).before args s = true) (hnat : (Cond.native arraycopyName).before args s = true) (hstat : (Cond.static arraycopyName).before args s = true) (hini : (Cond.initialized "java/lang/System").before args s = true)
    (hK : va_K D cl tys s) (q0 q1 t0 : Nat) {a0 a1 : Nat} {cA : ClassId} {nn : Nat} {F G : Int → Int} (ha0 : ws[q0]? = some (a0, .inl (cA, nn, .inl (zA F)))) (ha1 : ws[q1]? = some (a1, .inl (cA, nn, .inl (zA G)))) (ht0 : tys[t0]? = some (cA, .int)) {nz : Int} (hnz : nz = (nn : Int)) (hnn : nn ≤ 1000) (hframes : 1 ≤ R.frames) (hlocals : (rest.map fun v => v.category).sum + (nativeFrameWords "java/lang/System" "arraycopy" 5 + 11) ≤ R.locals) (hdg : decode cc pc = .ok (.invokestatic index, 3)) (ws' : va_W) (hws : ws.set q1 (a1, .inl (cA, nn, .inl (zA F))) = ws')
    (K : Gz p l e R s m args below meth c nL k n Q (Zw D cl A s ws') (pc + 3) lv rest) : Gz p l e R s m args below meth c nL k n Q (Zw D cl A s ws) pc lv (.int (iZ nz) :: .int (iZ 0) :: .ref a1 :: .int (iZ 0) :: .ref a0 :: rest) := fun H locs ls hI hl => by
  have c0 : (iZ 0).toNatClampNeg = 0 := by rw [iZ_clamp (by omega) (by omega)]; rfl
  have cn : (iZ nz).toNatClampNeg = nn := by rw [iZ_clamp (by omega) (by omega)]; omega
  have g0 : ¬ iZ 0 < 0 := by rw [show (0 : Int32) = iZ 0 from rfl, iZ_lt (by omega) (by omega)]; omega
  have gn : ¬ iZ nz < 0 := by rw [show (0 : Int32) = iZ 0 from rfl, iZ_lt (by omega) (by omega)]; omega
  refine va_copyi hx hb (hml.trans hl.1.symm) hown hlink hnat hstat hini hK hI.1 hI.2.1 hI.2.2 q0 q1 t0 t0 ha0 ha1 ht0 ht0 rfl g0 g0 gn (by rw [c0, cn]; omega) (by rw [c0, cn]; omega) (fun i _ => rfl) hframes hlocals hdg (fun H1 locs1 hP1 hD1 hS1 => ?_)
  rw [c0, cn] at hP1 hD1
  have ex : vp_cell cA (nn, .inl (va_cpy (zA F) (zA G) 0 0 nn)) = vp_cell cA (nn, .inl (zA F)) := zA_ext (fun j hj => by
    unfold va_cpy
    rw [if_pos ⟨by omega, by omega⟩, show 0 + (j - 0) = j by omega])
  refine K H1 locs1 ls ⟨?_, ?_, hS1⟩ hl
  · rw [← hws]
    intro i q hq
    have hlt : q1 < ws.length := (List.getElem?_eq_some_iff.mp ha1).1
    by_cases h : i = q1
    · subst h
      rw [List.getElem?_set_self hlt] at hq
      obtain rfl := Option.some.inj hq
      have k1 : H1[a1]? = some (vp_cell cA (nn, .inl (va_cpy (zA F) (zA G) 0 0 nn))) := hP1 i _ (List.getElem?_set_self hlt)
      rw [ex] at k1
      exact k1
    · rw [List.getElem?_set_ne (Ne.symm h)] at hq
      exact hP1 i q (by rw [List.getElem?_set_ne (Ne.symm h)]; exact hq)
  · rw [← hws]
    exact zD_same (by rw [List.map_set, List.map_set]) hD1
theorem z_alen (hx : p.tables.exec = Jvm.exec) (hb : c.code = cc) (hK : va_K D cl tys s) (hg : ∀ H locs, I H locs → va_P D cl ws H) (q0 t0 : Nat) {a : Nat} {cA : ClassId} {N : Nat} {f : Int → Int} (he : ws[q0]? = some (a, .inl (cA, N, .inl (zA f)))) (ht : tys[t0]? = some (cA, .int)) {z : Int} (hz : Int32.ofNat N = iZ z) (hdg : decode cc pc = .ok (.arraylength, 1))
    (K : Gz p l e R s m args below meth c nL k n Q I (pc + 1) lv (.int (iZ z) :: rest)) : Gz p l e R s m args below meth c nL k n Q I pc lv (.ref a :: rest) := fun H locs ls hI hl => va_alen hx hb hK (hg H locs hI) q0 t0 he ht hz hdg (K H locs ls hI hl)
end ZK
def wRR (y : Nat → ClassId) (a : Nat → Nat) (R : Nat → Int → Int) (b : Nat → Nat) (S : Nat → Int → Int) : va_W := wR y a R ++ wR y b S
theorem rel_copy {f : Int → Int} {S R : Nat → Int → Int} (h : Rel f S) (hW : Wf f) (h0 : R 0 0 = S 0 0 ∧ R 0 1 = S 0 1 ∧ R 0 2 = S 0 2) (h1 : R 1 0 = S 1 0 ∧ R 1 1 = S 1 1) (ha : R 2 = S 2 ∧ R 3 = S 3 ∧ R 4 = S 4 ∧ R 5 = S 5 ∧ R 7 = S 7 ∧ R 12 = S 12 ∧ R 13 = S 13 ∧ R 14 = S 14) (ht : ∀ t : Nat, t < 4 → ∀ k : Int, 0 ≤ k → k < 8 → R (8 + t) k = S (8 + t) k) : Rel f R := by
  obtain ⟨⟨a1, a2, a3, a4, a5⟩, b, c, d, e, l⟩ := h
  obtain ⟨h2, h3, h4, h5, h7, h12, h13, h14⟩ := ha
  have w2 := hW.2.2.1
  refine ⟨⟨by rw [h1.1]; exact a1, by rw [h1.2]; exact a2, by rw [h0.1]; exact a3, by rw [h0.2.1]; exact a4, by rw [h0.2.2]; exact a5⟩, by rw [h2, h3, h4]; exact b, by rw [h5, h12]; exact c, by rw [h7]; exact d, fun t t1 k k0 k1 => ?_, by rw [h13, h14]; exact l⟩
  rw [ht t (by omega) k k0 k1]
  exact e t t1 k k0 k1
section WRR
variable {y : Nat → ClassId} {a b : Nat → Nat} {R S : Nat → Int → Int} {g : Int → Int} {z x : Int} {t : Nat}
theorem wRR_0 : (wRR y a R b S)[0]? = some (a 0, .inr (0, [.ref (a 1), .ref (a 6), .ref (a 7), .ref (a 12), .ref (a 13), .ref (a 14), .int (iZ (R 0 0)), .int (iZ (R 0 1)), .int (iZ (R 0 2))])) := rfl
theorem wRR_b0 : (wRR y a R b S)[15]? = some (b 0, .inr (0, [.ref (b 1), .ref (b 6), .ref (b 7), .ref (b 12), .ref (b 13), .ref (b 14), .int (iZ (S 0 0)), .int (iZ (S 0 1)), .int (iZ (S 0 2))])) := rfl
theorem wRR_1 : (wRR y a R b S)[1]? = some (a 1, .inr (1, [.ref (a 2), .ref (a 3), .ref (a 4), .ref (a 5), .int (iZ (R 1 0)), .int (iZ (R 1 1))])) := rfl
theorem wRR_b1 : (wRR y a R b S)[16]? = some (b 1, .inr (1, [.ref (b 2), .ref (b 3), .ref (b 4), .ref (b 5), .int (iZ (S 1 0)), .int (iZ (S 1 1))])) := rfl
theorem wRR_2 : (wRR y a R b S)[2]? = some (a 2, .inl (y 0, 30, .inl (zA (R 2)))) := rfl
theorem wRR_b2 : (wRR y a R b S)[17]? = some (b 2, .inl (y 0, 30, .inl (zA (S 2)))) := rfl
theorem wRR_3 : (wRR y a R b S)[3]? = some (a 3, .inl (y 0, 30, .inl (zA (R 3)))) := rfl
theorem wRR_b3 : (wRR y a R b S)[18]? = some (b 3, .inl (y 0, 30, .inl (zA (S 3)))) := rfl
theorem wRR_4 : (wRR y a R b S)[4]? = some (a 4, .inl (y 0, 30, .inl (zA (R 4)))) := rfl
theorem wRR_b4 : (wRR y a R b S)[19]? = some (b 4, .inl (y 0, 30, .inl (zA (S 4)))) := rfl
theorem wRR_5 : (wRR y a R b S)[5]? = some (a 5, .inl (y 0, 8, .inl (zA (R 5)))) := rfl
theorem wRR_b5 : (wRR y a R b S)[20]? = some (b 5, .inl (y 0, 8, .inl (zA (S 5)))) := rfl
theorem wRR_6 : (wRR y a R b S)[6]? = some (a 6, .inl (y 1, 4, .inr (.inr (.inr (.inr (fun j => some (a (8 + j)))))))) := rfl
theorem wRR_b6 : (wRR y a R b S)[21]? = some (b 6, .inl (y 1, 4, .inr (.inr (.inr (.inr (fun j => some (b (8 + j)))))))) := rfl
theorem wRR_7 : (wRR y a R b S)[7]? = some (a 7, .inl (y 0, 4, .inl (zA (R 7)))) := rfl
theorem wRR_b7 : (wRR y a R b S)[22]? = some (b 7, .inl (y 0, 4, .inl (zA (S 7)))) := rfl
theorem wRR_12 : (wRR y a R b S)[12]? = some (a 12, .inl (y 0, 8, .inl (zA (R 12)))) := rfl
theorem wRR_b12 : (wRR y a R b S)[27]? = some (b 12, .inl (y 0, 8, .inl (zA (S 12)))) := rfl
theorem wRR_13 : (wRR y a R b S)[13]? = some (a 13, .inl (y 0, 30, .inl (zA (R 13)))) := rfl
theorem wRR_b13 : (wRR y a R b S)[28]? = some (b 13, .inl (y 0, 30, .inl (zA (S 13)))) := rfl
theorem wRR_14 : (wRR y a R b S)[14]? = some (a 14, .inl (y 0, 30, .inl (zA (R 14)))) := rfl
theorem wRR_b14 : (wRR y a R b S)[29]? = some (b 14, .inl (y 0, 30, .inl (zA (S 14)))) := rfl
theorem wRR_s0_0 : (wRR y a R b S).set 0 (a 0, .inr (0, [.ref (a 1), .ref (a 6), .ref (a 7), .ref (a 12), .ref (a 13), .ref (a 14), .int (iZ z), .int (iZ (R 0 1)), .int (iZ (R 0 2))])) = wRR y a (uc R 0 (zu (R 0) 0 z)) b S := rfl
theorem wRR_s0_1 : (wRR y a R b S).set 0 (a 0, .inr (0, [.ref (a 1), .ref (a 6), .ref (a 7), .ref (a 12), .ref (a 13), .ref (a 14), .int (iZ (R 0 0)), .int (iZ z), .int (iZ (R 0 2))])) = wRR y a (uc R 0 (zu (R 0) 1 z)) b S := rfl
theorem wRR_s0_2 : (wRR y a R b S).set 0 (a 0, .inr (0, [.ref (a 1), .ref (a 6), .ref (a 7), .ref (a 12), .ref (a 13), .ref (a 14), .int (iZ (R 0 0)), .int (iZ (R 0 1)), .int (iZ z)])) = wRR y a (uc R 0 (zu (R 0) 2 z)) b S := rfl
theorem wRR_s1_0 : (wRR y a R b S).set 1 (a 1, .inr (1, [.ref (a 2), .ref (a 3), .ref (a 4), .ref (a 5), .int (iZ z), .int (iZ (R 1 1))])) = wRR y a (uc R 1 (zu (R 1) 0 z)) b S := rfl
theorem wRR_s1_1 : (wRR y a R b S).set 1 (a 1, .inr (1, [.ref (a 2), .ref (a 3), .ref (a 4), .ref (a 5), .int (iZ (R 1 0)), .int (iZ z)])) = wRR y a (uc R 1 (zu (R 1) 1 z)) b S := rfl
theorem wRR_s2 : (wRR y a R b S).set 2 (a 2, .inl (y 0, 30, .inl (zA g))) = wRR y a (uc R 2 g) b S := rfl
theorem wRR_s3 : (wRR y a R b S).set 3 (a 3, .inl (y 0, 30, .inl (zA g))) = wRR y a (uc R 3 g) b S := rfl
theorem wRR_s4 : (wRR y a R b S).set 4 (a 4, .inl (y 0, 30, .inl (zA g))) = wRR y a (uc R 4 g) b S := rfl
theorem wRR_s5 : (wRR y a R b S).set 5 (a 5, .inl (y 0, 8, .inl (zA g))) = wRR y a (uc R 5 g) b S := rfl
theorem wRR_s7 : (wRR y a R b S).set 7 (a 7, .inl (y 0, 4, .inl (zA g))) = wRR y a (uc R 7 g) b S := rfl
theorem wRR_s12 : (wRR y a R b S).set 12 (a 12, .inl (y 0, 8, .inl (zA g))) = wRR y a (uc R 12 g) b S := rfl
theorem wRR_s13 : (wRR y a R b S).set 13 (a 13, .inl (y 0, 30, .inl (zA g))) = wRR y a (uc R 13 g) b S := rfl
theorem wRR_s14 : (wRR y a R b S).set 14 (a 14, .inl (y 0, 30, .inl (zA g))) = wRR y a (uc R 14 g) b S := rfl
theorem wR_len : (wR y a R).length = 15 := rfl
theorem wRR_t (h : t < 4) : (wRR y a R b S)[8 + t]? = some (a (8 + t), .inr (3, tF (R (8 + t)))) := by
  unfold wRR; rw [List.getElem?_append_left (by rw [wR_len]; omega)]; exact wR_t h
theorem wRR_bt (h : t < 4) : (wRR y a R b S)[15 + (8 + t)]? = some (b (8 + t), .inr (3, tF (S (8 + t)))) := by
  unfold wRR; rw [List.getElem?_append_right (by rw [wR_len]; omega), wR_len, show 15 + (8 + t) - 15 = 8 + t by omega]; exact wR_t h
theorem wRR_stk (h : t < 4) (k : Nat) (hk : k < 8) : (wRR y a R b S).set (8 + t) (a (8 + t), .inr (3, (tF (R (8 + t))).set k (.int (iZ x)))) = wRR y a (uc R (8 + t) (zu (R (8 + t)) k x)) b S := by
  unfold wRR; rw [List.set_append_left _ _ (by rw [wR_len]; omega), wR_stk h k hk]
theorem uc_uc (R : Nat → Int → Int) (c : Nat) (g h : Int → Int) : uc (uc R c g) c h = uc R c h := by
  funext j
  by_cases q : j = c
  · rw [q, uc_s, uc_s]
  · rw [uc_n q, uc_n q, uc_n q]
theorem wRR_stk2 (h : t < 4) (k : Nat) (hk : k < 8) : (wRR y a (uc R (8 + t) g) b S).set (8 + t) (a (8 + t), .inr (3, (tF (uc R (8 + t) g (8 + t))).set k (.int (iZ x)))) = wRR y a (uc R (8 + t) (zu g k x)) b S := by
  rw [wRR_stk h k hk, uc_uc, uc_s]
theorem copy_end (v w : Int → Int) : ∀ k : Int, 0 ≤ k → k < 8 → zu (zu (zu (zu (zu (zu (zu (zu v 0 (w 0)) 1 (w 1)) 2 (w 2)) 3 (w 3)) 4 (w 4)) 5 (w 5)) 6 (w 6)) 7 (w 7) k = w k := by
  intro k k0 k1
  simp only [zu_at]
  rcases k8 k0 k1 with rfl | rfl | rfl | rfl | rfl | rfl | rfl | rfl <;> simp
end WRR
theorem cp_step {Ri u S v : Nat → Int → Int} {i : Nat} (h : u = uc Ri (8 + i) (u (8 + i)) ∧ ∀ k : Int, 0 ≤ k → k < 8 → u (8 + i) k = S (8 + i) k) (hi : i < 4) (ho : ∀ j : Nat, j < 8 ∨ 12 ≤ j → Ri j = v j) (ht : ∀ t : Nat, t < i → ∀ k : Int, 0 ≤ k → k < 8 → Ri (8 + t) k = S (8 + t) k) :
    (∀ j : Nat, j < 8 ∨ 12 ≤ j → u j = v j) ∧ (∀ t : Nat, t < i + 1 → ∀ k : Int, 0 ≤ k → k < 8 → u (8 + t) k = S (8 + t) k) := by
  have e : ∀ j : Nat, j ≠ 8 + i → u j = Ri j := fun j hj => by
    have := congrFun h.1 j
    rw [uc_n hj] at this
    exact this
  refine ⟨fun j hj => by rw [e j (by omega)]; exact ho j hj, fun t ht2 k k0 k1 => ?_⟩
  by_cases z : t = i
  · rw [z]; exact h.2 k k0 k1
  · rw [e _ (by omega)]; exact ht t (by omega) k k0 k1
