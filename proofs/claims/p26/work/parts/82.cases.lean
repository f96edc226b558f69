/-! The three ways of a call: it answers, or one of two throws -/
theorem thAdd_c (f : Int → Int) (b : Int) : (thAdd f b = 0 ∧ (0 ≤ b ∧ b < f 1) ∧ f 2 ≠ 4 ∧ isFree f b = true) ∨ (thAdd f b = 1 ∧ ¬ (0 ≤ b ∧ b < f 1)) ∨ (thAdd f b = 2 ∧ (0 ≤ b ∧ b < f 1) ∧ (f 2 = 4 ∨ ¬ isFree f b = true)) := by
  unfold thAdd
  by_cases h : 0 ≤ b ∧ b ≤ f 1 - 1
  · rw [if_pos h]
    by_cases h2 : f 2 = 4 ∨ isFree f b = false
    · rw [if_pos h2]
      refine Or.inr (Or.inr ⟨rfl, by omega, h2.imp id (fun q z => ?_)⟩)
      rw [q] at z; cases z
    · rw [if_neg h2]
      refine Or.inl ⟨rfl, by omega, fun q => h2 (Or.inl q), ?_⟩
      cases q : isFree f b
      · exact absurd (Or.inr q) h2
      · rfl
  · rw [if_neg h]; exact Or.inr (Or.inl ⟨rfl, by omega⟩)
theorem thTake_c (f : Int → Int) : (thTake f = 0 ∧ f 2 ≠ 0) ∨ (thTake f = 1 ∧ f 2 = 0) := by
  unfold thTake; split <;> simp_all
theorem thRes_c (f : Int → Int) (t : Int) : (thRes f t = 0 ∧ (0 ≤ t ∧ t < f 2) ∧ f (79 + 8 * t + 4) = 2) ∨ (thRes f t = 1 ∧ ¬ (0 ≤ t ∧ t < f 2)) ∨ (thRes f t = 2 ∧ (0 ≤ t ∧ t < f 2) ∧ f (79 + 8 * t + 4) ≠ 2) := by
  unfold thRes
  by_cases h : 0 ≤ t ∧ t ≤ f 2 - 1
  · rw [if_pos h]
    by_cases h2 : f (79 + 8 * t + 4) = 2
    · rw [if_pos h2]; exact Or.inl ⟨rfl, by omega, h2⟩
    · rw [if_neg h2]; exact Or.inr (Or.inr ⟨rfl, by omega, h2⟩)
  · rw [if_neg h]; exact Or.inr (Or.inl ⟨rfl, by omega⟩)
theorem thSet_c (w v : Int) : thSet w v = 0 ∨ thSet w v = 1 ∨ thSet w v = 2 := by
  unfold thSet; split <;> (try split) <;> omega
theorem thHgt_c (f : Int → Int) (c h : Int) : (thHgt f c h = 0 ∧ (0 ≤ c ∧ c < f 0) ∧ (0 ≤ h ∧ h ≤ 9)) ∨ (thHgt f c h = 1 ∧ ¬ (0 ≤ c ∧ c < f 0)) ∨ (thHgt f c h = 2 ∧ (0 ≤ c ∧ c < f 0) ∧ ¬ (0 ≤ h ∧ h ≤ 9)) := by
  unfold thHgt; split <;> (try split) <;> omega
theorem thPass_c (f : Int → Int) (n : Int) : (thPass f n = 0 ∧ (1 ≤ n ∧ n ≤ 500) ∧ f 3 + n ≤ 100000) ∨ (thPass f n = 1 ∧ ¬ (1 ≤ n ∧ n ≤ 500)) ∨ (thPass f n = 2 ∧ (1 ≤ n ∧ n ≤ 500) ∧ 100000 < f 3 + n) := by
  unfold thPass; split <;> (try split) <;> omega
theorem thIn_c (i m w k : Int) : (thIn i (m - 1) w k = 0 ∧ (0 ≤ i ∧ i < m) ∧ (0 ≤ w ∧ w ≤ k)) ∨ (thIn i (m - 1) w k = 1 ∧ ¬ (0 ≤ i ∧ i < m)) ∨ (thIn i (m - 1) w k = 2 ∧ (0 ≤ i ∧ i < m) ∧ ¬ (0 ≤ w ∧ w ≤ k)) := by
  unfold thIn; split <;> (try split) <;> omega
theorem thOne_c (i m : Int) : (thOne i (m - 1) = 0 ∧ (0 ≤ i ∧ i < m)) ∨ (thOne i (m - 1) = 1 ∧ ¬ (0 ≤ i ∧ i < m)) := by
  unfold thOne; split <;> omega
theorem thOne_d (i m : Int) : (thOne i m = 0 ∧ (0 ≤ i ∧ i ≤ m)) ∨ (thOne i m = 1 ∧ ¬ (0 ≤ i ∧ i ≤ m)) := by
  unfold thOne; split <;> omega
theorem thApp_c (v ln : Int) : (thApp v ln = 0 ∧ (0 ≤ v ∧ v ≤ 127) ∧ ln ≠ 90) ∨ (thApp v ln = 1 ∧ ¬ (0 ≤ v ∧ v ≤ 127)) ∨ (thApp v ln = 2 ∧ (0 ≤ v ∧ v ≤ 127) ∧ ln = 90) := by
  unfold thApp; split <;> (try split) <;> omega
theorem thUndo_c (sm : Int) : ((if sm = 0 then (1 : Int) else 0) = 0 ∧ sm ≠ 0) ∨ ((if sm = 0 then (1 : Int) else 0) = 1 ∧ sm = 0) := by
  split <;> simp_all
section ZWI
variable {p : Program} {l : Launch} {e : Env} {R : Room} {s : State} {m : MethodId} {args : Array Value} {below : List Frame} {meth : Method} {c : Code} {nL k n k1 n1 : Nat} {Q : State → Prop} {I : Heap → List Loc → Prop} {cc : ByteArray} {pc : Nat} {lv : List (Nat × Value)} {rest : List Value}
theorem z_astore (hx : p.tables.exec = Jvm.exec) (hb : c.code = cc) {i : Nat} {x : Nat} (hdg : decode cc pc = .ok (.astore i, 2)) (hn : i < nL) (lv' : List (Nat × Value)) (hl' : (i, Value.ref x) :: lv.filter (fun q => !(q.1 == i) && !(q.1 + 1 == i && q.2.category == 2)) = lv') (K : Gz p l e R s m args below meth c nL k n Q I (pc + 2) lv' rest) : Gz p l e R s m args below meth c nL k n Q I pc lv (.ref x :: rest) := fun H locs ls hI hl => lv_astore hx hb hdg hl hn hl' (fun ls2 hl2 => K H locs ls2 hI hl2)
theorem z_widen (hk : k ≤ k1) (hn : n ≤ n1) (K : Gz p l e R s m args below meth c nL k1 n1 Q I pc lv rest) : Gz p l e R s m args below meth c nL k n Q I pc lv rest := fun H locs ls hI hl => W.widen hk hn (K H locs ls hI hl)
end ZWI
