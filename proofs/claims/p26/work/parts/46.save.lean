/-! A state saved: the row of references turned round -/
theorem zQ_ext {cA : ClassId} {n : Nat} {f g : Nat → Option Nat} (h : ∀ j, j < n → f j = g j) : vp_cell cA (n, .inr (.inr (.inr (.inr f)))) = vp_cell cA (n, .inr (.inr (.inr (.inr g)))) := by
  rw [vp_cell_q, vp_cell_q]
  unfold arrV
  congr 1
  apply Array.ext
  · simp
  · intro i h1 h2
    simp only [Array.size_ofFn] at h1
    simp [h i h1]
section ZS
variable {p : Program} {l : Launch} {e : Env} {R : Room} {s : State} {m : MethodId} {args : Array Value} {below : List Frame} {meth : Method} {c : Code} {nL k n : Nat} {Q : State → Prop} {cc : ByteArray} {pc : Nat} {lv : List (Nat × Value)} {rest : List Value} {D : va_G} {cl : List vw_C} {tys : List (ClassId × FieldType)} {ws : va_W} {A : Nat → Prop} {I : Heap → List Loc → Prop} {a : Nat}
theorem Zw_cell {i : Nat} {cA : ClassId} {e1 e2 : vp_A} {H : Heap} {locs : List Loc} (ha : ws[i]? = some (a, .inl (cA, e1))) (h : vp_cell cA e1 = vp_cell cA e2) (hZ : Zw D cl A s ws H locs) : Zw D cl A s (ws.set i (a, .inl (cA, e2))) H locs := by
  obtain ⟨h1, h2, h3⟩ := hZ
  have hlt : i < ws.length := (List.getElem?_eq_some_iff.mp ha).1
  refine ⟨fun j q hq => ?_, ?_, h3⟩
  · by_cases z : j = i
    · subst z
      rw [List.getElem?_set_self hlt] at hq
      obtain rfl := Option.some.inj hq
      have k1 : H[a]? = some (vp_cell cA e1) := h1 j _ ha
      rw [h] at k1
      exact k1
    · rw [List.getElem?_set_ne (Ne.symm z)] at hq
      exact h1 j q hq
  · refine zD_same (w := ws) ?_ h2
    apply List.ext_getElem?
    intro j
    by_cases z : i = j
    · subst z
      rw [List.getElem?_map, List.getElem?_map, List.getElem?_set_self hlt, ha]
      rfl
    · rw [List.getElem?_map, List.getElem?_map, List.getElem?_set_ne z]
theorem z_aldq (hx : p.tables.exec = Jvm.exec) (hb : c.code = cc) (hK : va_K D cl tys s) (hg : ∀ H locs, I H locs → va_P D cl ws H) (q0 t0 : Nat) {cA : ClassId} {C : String} {N : Nat} {f : Nat → Option Nat} (he : ws[q0]? = some (a, .inl (cA, N, .inr (.inr (.inr (.inr f)))))) (ht : tys[t0]? = some (cA, .object C)) {i b : Nat} (hN : N ≤ 2147483647) (hi : i < N) (hq : f i = some b) (hdg : decode cc pc = .ok (.aaload, 1))
    (K : Gz p l e R s m args below meth c nL k n Q I (pc + 1) lv (.ref b :: rest)) : Gz p l e R s m args below meth c nL k n Q I pc lv (.int (iZ (i : Int)) :: .ref a :: rest) := fun H locs ls hI hl => va_aldq hx hb hK (hg H locs hI) q0 t0 he ht (zin (by omega) hN) hdg (by
      rw [iZ_clamp (by omega) (by omega), Int.toNat_natCast, hq]
      exact K H locs ls hI hl)
end ZS
/-- the saved rides one place on, the first at the end -/
def rt4 (j : Nat) : Nat := if j = 2 then 3 else if j = 3 then 4 else if j = 4 then 5 else if j = 5 then 2 else j
theorem z_rot {p : Program} {l : Launch} {e : Env} {R : Room} {s : State} {m : MethodId} {args : Array Value} {below : List Frame} {meth : Method} {c : Code} {nL k n : Nat} {Q : State → Prop} {pc : Nat} {lv : List (Nat × Value)} {rest : List Value} {D : va_G} {A : Nat → Prop} {y : Nat → ClassId} {o : Nat → Nat} {a : Nat → Nat → Nat} {S : Nat → Nat → Int → Int} {tb : Nat → Nat} {x : Int → Int} {ln sc : Int} {q : Nat → Option Nat}
    (hq : ∀ j : Nat, j < 4 → q j = some (a (rt4 (2 + j)) 0))
    (K : Gz p l e R s m args below meth c nL k n Q (Zw D vwCl A s (wBq y o (fun j => a (rt4 j)) (fun j => S (rt4 j)) tb x ln sc (sav (fun j => a (rt4 j))) p6)) pc lv rest) : Gz p l e R s m args below meth c nL k n Q (Zw D vwCl A s (wBq y o a S tb x ln sc q p6)) pc lv rest := by
  intro H locs ls hI hl
  refine K H locs ls ?_ hl
  have h1 := Zw_perm (wBq_perm (y := y) (o := o) (a := a) (R := S) (tb := tb) (x := x) (ln := ln) (sc := sc) (q := q) (p := p6) (p' := [0, 1, 3, 4, 5, 2]) (by decide)) hI
  have h2 : Zw D vwCl A s (wBq y o (fun j => a (rt4 j)) (fun j => S (rt4 j)) tb x ln sc q p6) H locs := h1
  exact Zw_cell (i := 1) (e2 := (4, .inr (.inr (.inr (.inr (sav (fun j => a (rt4 j)))))))) wB_1 (zQ_ext (fun j hj => hq j hj)) h2
/-- a train that does not stand has stood 0 ticks -/
theorem std_eq {f : Int → Int} {n : Int} (h : f (79 + 8 * n + 4) ≠ 1 → f (79 + 8 * n + 5) = 0) : f (79 + 8 * n + 5) = trainOf f n 6 := by
  show f (79 + 8 * n + 5) = if f (79 + 8 * n + 4) = 1 then f (79 + 8 * n + 5) else 0
  by_cases q : f (79 + 8 * n + 4) = 1
  · rw [if_pos q]
  · rw [if_neg q]; exact h q
section ZL
variable {p : Program} {l : Launch} {e : Env} {R : Room} {s : State} {m : MethodId} {args : Array Value} {below : List Frame} {meth : Method} {c : Code} {nL k n : Nat} {Q : State → Prop} {I : Heap → List Loc → Prop} {cc : ByteArray} {pc : Nat} {lv : List (Nat × Value)} {rest : List Value}
theorem z_lookup (hx : p.tables.exec = Jvm.exec) (hb : c.code = cc) {dflt : Int} {ps : Array (Int × Int)} {len : Nat} {x off : Int} {tgt : Nat} (hr : -2147483648 ≤ x ∧ x ≤ 2147483647) (hdg : decode cc pc = .ok (.lookupswitch dflt ps, len)) (hp : (ps.toList.zip (ps.toList.drop 1)).all (fun (a, next) => a.1 < next.1) = true) (ho : Op.lookupswitch.offset ps.toList dflt x = off) (ht : (pc : Int) + off = (tgt : Int))
    (K : Gz p l e R s m args below meth c nL k n Q I tgt lv rest) : Gz p l e R s m args below meth c nL k n Q I pc lv (.int (iZ x) :: rest) := fun H locs ls hI hl => lv_lookup hx hb hdg hp (by rw [iZ_toInt hr]; exact ho) ht (K H locs ls hI hl)
end ZL
theorem sta_next {f : Int → Int} {i : Nat} {u : Int} (hx : InvX (ticks f i)) (hu : 0 ≤ u ∧ u < 4) (h : ∀ j : Nat, j ≤ i → ticks f j (79 + 8 * u + 7) = f (79 + 8 * u + 7)) (hc : ticks f (i + 1) (79 + 8 * u + 7) ≤ f (79 + 8 * u + 7)) : ∀ j : Nat, j ≤ i + 1 → ticks f j (79 + 8 * u + 7) = f (79 + 8 * u + 7) := by
  intro j hj
  rcases Nat.lt_or_ge i j with z | z
  · have e : j = i + 1 := by omega
    have k := (tick_mono hx hu).2
    have h0 := h i (Nat.le_refl _)
    rw [e]
    have : tick (ticks f i) (79 + 8 * u + 7) = ticks f (i + 1) (79 + 8 * u + 7) := rfl
    omega
  · exact h j z
