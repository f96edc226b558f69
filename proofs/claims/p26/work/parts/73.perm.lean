/-! The order of what a new coaster holds -/
theorem zperm5 {α : Type} (A r arr s t g r1 : List α) : ((((((A ++ r) ++ r1) ++ arr) ++ s) ++ t) ++ g).Perm (((A ++ arr) ++ t) ++ (r ++ g) ++ (r1 ++ s)) := by
  have h1 : (r ++ (r1 ++ (arr ++ (s ++ (t ++ g))))).Perm (arr ++ (t ++ (r ++ (g ++ (r1 ++ s))))) := by
    have a1 : (r ++ (r1 ++ (arr ++ (s ++ (t ++ g))))).Perm (arr ++ ((r ++ (r1 ++ s)) ++ (t ++ g))) := by
      have := (List.perm_append_comm (l₁ := r ++ r1) (l₂ := arr)).append_right (s ++ (t ++ g))
      simpa only [List.append_assoc] using this
    refine a1.trans (List.Perm.append_left arr ?_)
    have a2 : ((r ++ (r1 ++ s)) ++ (t ++ g)).Perm (t ++ ((r ++ (r1 ++ s)) ++ g)) := by
      have := (List.perm_append_comm (l₁ := r ++ (r1 ++ s)) (l₂ := t)).append_right g
      simpa only [List.append_assoc] using this
    refine a2.trans (List.Perm.append_left t ?_)
    have a3 := (List.perm_append_comm (l₁ := r1 ++ s) (l₂ := g)).append_left r
    simpa only [List.append_assoc] using a3
  have := h1.append_left A
  simpa only [List.append_assoc] using this
section ZDR
variable {p : Program} {l : Launch} {e : Env} {R : Room} {s : State} {m : MethodId} {args : Array Value} {below : List Frame} {meth : Method} {c : Code} {nL k n : Nat} {Q : State → Prop} {pc : Nat} {lv : List (Nat × Value)} {rest : List Value} {D : va_G} {cl : List vw_C} {A : Nat → Prop}
theorem Zw_drop {w g : va_W} {H : Heap} {locs : List Loc} (h : Zw D cl A s (w ++ g) H locs) : Zw D cl A s w H locs := by
  refine ⟨zP_sub (fun q hq => List.mem_append_left _ hq) h.1, ?_, h.2.2⟩
  have hd := zD_iff.mp h.2.1
  rw [List.map_append, List.nodup_append] at hd
  exact zD_iff.mpr ⟨hd.1.1, fun q hq => hd.2 q (List.mem_append_left _ hq)⟩
theorem z_drop {w g : va_W} (K : Gz p l e R s m args below meth c nL k n Q (Zw D cl A s w) pc lv rest) : Gz p l e R s m args below meth c nL k n Q (Zw D cl A s (w ++ g)) pc lv rest := fun H locs ls hI hl => K H locs ls (Zw_drop hI) hl
end ZDR
theorem parsed_congr {f x x' : Int → Int} : ∀ n : Nat, (∀ k : Int, 0 ≤ k → k < 2 * (n : Int) → x k = x' k) → parsed f x n = parsed f x' n := by
  intro n
  induction n with
  | zero => intro _; rfl
  | succ n ih =>
    intro h
    rw [parsed, parsed, ih (fun k k0 k1 => h k k0 (by omega)), h _ (by omega) (by omega), h _ (by omega) (by omega)]
theorem fst_congr {x x' : Int → Int} : ∀ n : Nat, (∀ k : Nat, k < n → x (k : Int) = x' (k : Int)) → fst' x n = fst' x' n ∧ brs x n = brs x' n := by
  intro n
  induction n with
  | zero => intro _; exact ⟨rfl, rfl⟩
  | succ n ih =>
    intro h
    obtain ⟨a, b⟩ := ih (fun k hk => h k (by omega))
    have e := h n (by omega)
    have hb : bad x n = bad x' n := by unfold bad; rw [e, b]
    refine ⟨?_, ?_⟩
    · rw [fst', fst', a, hb]
    · rw [brs, brs, b, e]
theorem fB_fst : fst' fB (2 * 14) = -1 := by decide +kernel
theorem fB_brs : brs fB (2 * 14) = 4 := by decide +kernel
/-- the settings of a new coaster, and its track -/
def fS : Int → Int := fun i => if i = 4 then 3 else if i = 5 then 5 else if i = 7 then 20 else 0
def f1 : Int → Int := parsed fS fB 14
section ZEK
variable {p : Program} {l : Launch} {e : Env} {R : Room} {s : State} {m : MethodId} {args : Array Value} {below : List Frame} {meth : Method} {c : Code} {nL k n : Nat} {Q : State → Prop} {pc : Nat} {lv : List (Nat × Value)} {rest : List Value} {D : va_G} {A : Nat → Prop}
theorem z_endK {y : Nat → ClassId} {o : Nat → Nat} {a : Nat → Nat → Nat} {S : Nat → Nat → Int → Int} {tb gb : Nat → Nat} {x gt : Int → Int} {ln sc gl : Int} {q : Nat → Option Nat} {Rz : Nat → Int → Int}
    (K : Gz p l e R s m args below meth c nL k n Q (Zw D vwCl A s (wBq y o a (uR S 0 Rz) tb x ln sc q p6)) pc lv rest) : Gz p l e R s m args below meth c nL k n Q (Zw D vwCl A s ((wO y o a tb q sc ++ wX y tb x ln) ++ wRX y (a 0) Rz gb gt gl ++ wRs y a S [1, 2, 3, 4, 5])) pc lv rest := by
  refine z_perm (w' := (wBq y o a (uR S 0 Rz) tb x ln sc q p6) ++ wX y gb gt gl) ?_ (z_drop K)
  have e1 : wBq y o a (uR S 0 Rz) tb x ln sc q p6 = (wO y o a tb q sc ++ wX y tb x ln) ++ (wR y (a 0) Rz ++ wRs y a S [1, 2, 3, 4, 5]) := by
    show (wO y o a tb q sc ++ wX y tb x ln) ++ wRs y a (uR S 0 Rz) (0 :: [1, 2, 3, 4, 5]) = _
    rw [show wRs y a S [1, 2, 3, 4, 5] = wRs y a (uR S 0 Rz) [1, 2, 3, 4, 5] from (wRs_congr (fun u hu => ⟨rfl, uR_n (by rintro rfl; exact absurd hu (by decide))⟩)).symm]
    unfold wRs
    rw [List.flatMap_cons, uR_s]
  rw [e1]
  have h1 := ((List.perm_append_comm (l₁ := wX y gb gt gl) (l₂ := wRs y a S [1, 2, 3, 4, 5])).append_left ((wO y o a tb q sc ++ wX y tb x ln) ++ wR y (a 0) Rz))
  unfold wRX
  simpa only [List.append_assoc] using h1
end ZEK
