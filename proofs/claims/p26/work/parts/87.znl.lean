/-! A new array of longs -/
section ZNL
variable {p : Program} {l : Launch} {e : Env} {R : Room} {s : State} {m : MethodId} {args : Array Value} {below : List Frame} {meth : Method} {c : Code} {nL k n : Nat} {Q : State → Prop} {cc : ByteArray} {pc : Nat} {lv : List (Nat × Value)} {rest : List Value} {D : va_G} {cl : List vw_C} {tys : List (ClassId × FieldType)} {ws : va_W} {A : Nat → Prop}
theorem z_newL (hx : p.tables.exec = Jvm.exec) (hb : c.code = cc) (harr : (Cond.arrayClass .long).before args s = true) (hK : va_K D cl tys s) (hA : ∀ q, s.heap.size ≤ q → A q) (t0 : Nat) {cA : ClassId} (ht0 : tys[t0]? = some (cA, .long)) {nz : Int} {N : Nat} (hnz : nz = (N : Int)) (hN : N ≤ 1000) (hcells : k + 1 ≤ R.cells) (hslots : n + N ≤ R.slots) (hdg : decode cc pc = .ok (.newarray .long, 2))
    (K : ∀ q : Nat, Gz p l e R s m args below meth c nL (k + 1) (n + N) Q (Zw D cl A s (ws ++ [(q, .inl (cA, N, .inr (.inl (fun _ => 0))))])) (pc + 2) lv (.ref q :: rest)) : Gz p l e R s m args below meth c nL k n Q (Zw D cl A s ws) pc lv (.int (iZ nz) :: rest) := fun H locs ls hI hl => by
  have cn : (iZ nz).toNatClampNeg = N := by rw [iZ_clamp (by omega) (by omega)]; omega
  have gn : ¬ iZ nz < 0 := by rw [show (0 : Int32) = iZ 0 from rfl, iZ_lt (by omega) (by omega)]; omega
  refine va_newa (atype := .long) (ty := .long) hx hb harr rfl hK hI.1 hI.2.1 hI.2.2 hA (a0 := (N, .inr (.inl (fun _ => 0)))) (fun cB => by rw [vp_cell_l]; rfl) gn cn (by show N * 8 ≤ _; omega) hcells hslots hdg (fun q cB H1 hK1 hP1 hD1 hS1 => ?_)
  have r1 : s.vm.findClass ("[" ++ (FieldType.long).toString) = some cB := (hK1.2 tys.length (cB, .long) (by rw [List.getElem?_append_right (Nat.le_refl _), Nat.sub_self]; rfl)).2
  have r2 : s.vm.findClass ("[" ++ (FieldType.long).toString) = some cA := (hK.2 t0 _ ht0).2
  have ec : cB = cA := Option.some.inj (r1.symm.trans r2)
  subst ec
  exact K q H1 locs ls ⟨hP1, hD1, hS1⟩ hl
end ZNL
