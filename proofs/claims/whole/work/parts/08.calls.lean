/-! Calls over the whole world; what a tick's parts leave -/
section ZC
variable {p : Program} {l : Launch} {e : Env} {R : Room} {s : State} {m : MethodId} {args : Array Value} {below : List Frame} {meth : Method} {c : Code} {nL k n : Nat} {Q : State → Prop} {I : Heap → List Loc → Prop} {cc : ByteArray} {pc : Nat} {lv : List (Nat × Value)} {rest : List Value} {D : va_G} {cl : List vw_C} {tys : List (ClassId × FieldType)} {ws : va_W} {A : Nat → Prop} {a : Nat}
theorem z_callV0 {y : MethodName} {bytes : ByteArray} {maxL index nA mc ms : Nat} {ret : Option FieldType} {W1 : List Cond} {rm : Room} {Ts : List Cond} {own C : String} {b : Addr} {As : List Value} {stk : List Value} {ci : Nat} {q : vw_C} {fs : List Value} {S : Type} {post : S → Prop} {wf : S → va_W} (F : CallFix p m c cc nL s args Ts own) (hK : va_K D cl tys s) (hA : ∀ q, s.heap.size ≤ q → A q) (hM : ∀ sz, Met l y W1 rm (zPw D cl tys ws sz (.ref b :: As)) (va_Qv post (zB D cl tys ws sz wf) (va_A ws sz)) mc ms (va_A ws sz)) (cw : CallW R s args own C index y bytes maxL ret W1 rm mc ms nA) (q0 : Nat) (he : ws[q0]? = some (b, .inr (ci, fs))) (hc : cl[ci]? = some q) (hC : q.1 = C) (hn : As.length = nA) (hstk : stk = As.reverse ++ .ref b :: rest) (hW : (rest.map fun v => v.category).sum ≤ 8) (hkn : k + mc ≤ R.cells ∧ n + ms ≤ R.slots) (hdg : decode cc pc = .ok (.invokevirtual index, 3))
    (K : ∀ u : S, post u → Gz p l e R s m args below meth c nL (k + mc) (n + ms) Q (Zw D cl A s (wf u)) (pc + 3) lv rest) : Gz p l e R s m args below meth c nL k n Q (Zw D cl A s ws) pc lv stk :=
  z_callV (wa := []) (wb := []) F hK hA hM cw (by simp) q0 he hc hC hn hstk hW hkn hdg (fun u hu => by simpa using K u hu)
theorem z_callI0 {y : MethodName} {bytes : ByteArray} {maxL index nA mc ms : Nat} {ret : Option FieldType} {W1 : List Cond} {rm : Room} {Ts : List Cond} {own C : String} {b : Addr} {As : List Value} {stk : List Value} {ci : Nat} {q : vw_C} {fs : List Value} {S : Type} {post : Int32 → S → Prop} {wf : S → va_W} (F : CallFix p m c cc nL s args Ts own) (hK : va_K D cl tys s) (hA : ∀ q, s.heap.size ≤ q → A q) (hM : ∀ sz, Met l y W1 rm (zPw D cl tys ws sz (.ref b :: As)) (va_Qi post (zB D cl tys ws sz wf) (va_A ws sz)) mc ms (va_A ws sz)) (cw : CallW R s args own C index y bytes maxL ret W1 rm mc ms nA) (q0 : Nat) (he : ws[q0]? = some (b, .inr (ci, fs))) (hc : cl[ci]? = some q) (hC : q.1 = C) (hn : As.length = nA) (hstk : stk = As.reverse ++ .ref b :: rest) (hW : (rest.map fun v => v.category).sum ≤ 8) (hkn : k + mc ≤ R.cells ∧ n + ms ≤ R.slots) (hdg : decode cc pc = .ok (.invokevirtual index, 3))
    (K : ∀ (r : Int32) (u : S), post r u → Gz p l e R s m args below meth c nL (k + mc) (n + ms) Q (Zw D cl A s (wf u)) (pc + 3) lv (.int r :: rest)) : Gz p l e R s m args below meth c nL k n Q (Zw D cl A s ws) pc lv stk :=
  z_callI (wa := []) (wb := []) F hK hA hM cw (by simp) q0 he hc hC hn hstk hW hkn hdg (fun r u hu => by simpa using K r u hu)
end ZC
def Jx (f : Int → Int) : Prop := ∃ (T D : Int) (B : Int → Int), J f T D B
def InvX (f : Int → Int) : Prop := ∃ N : Int, Inv N f ∧ N ≤ 109000
theorem InvX.J {f : Int → Int} (h : InvX f) : Jx f := by
  obtain ⟨N, h, -⟩ := h
  exact ⟨_, _, _, h.2⟩
theorem Jx.f {f : Int → Int} (h : Jx f) : Wf f ∧ Ns f ∧ ∀ t : Int, 0 ≤ t → t < 4 → Tn f t 120000 := by
  obtain ⟨T, D, B, h⟩ := h
  refine ⟨h.1, J_Ns h, fun t t0 t1 => ?_⟩
  obtain ⟨k, b⟩ := h.2.2 t t0 t1
  unfold Tn at k ⊢
  omega
theorem holds_rng (f : Int → Int) (t s : Int) : 2 ≤ holds f t s ∧ holds f t s ≤ 5 := by
  unfold holds; split <;> (try split) <;> (try split) <;> (try split) <;> omega
theorem blockAt_congr {f g : Int → Int} {c : Int} (hc : c ≤ 30) (h1 : g 1 = f 1) (h : ∀ i : Int, 41 ≤ i → i < 71 → g i = f i) : blockAt g c = blockAt f c := by
  have e : cnt g c.toNat = cnt f c.toNat := cnt_congr (fun k hk => h _ (by omega) (by omega))
  unfold blockAt
  rw [e, h1]
theorem blockAt_put {f : Int → Int} {t w v c : Int} (ht : 0 ≤ t) (hw : 0 ≤ w) (hc : c ≤ 30) : blockAt (put f t w v) c = blockAt f c := blockAt_congr hc (put_n (by omega)) (fun i _ _ => put_n (by omega))
theorem nextB_stands {f : Int → Int} {t b : Int} (ht : 0 ≤ t) : nextB (stands f t) b = nextB f b := by
  unfold nextB stands
  rw [put_n (by omega), put_n (by omega), put_n (by omega), put_n (by omega)]
theorem stands_2 {f : Int → Int} {t : Int} (ht : 0 ≤ t) {i : Int} (hi : i < 79) : stands f t i = f i := by
  unfold stands
  rw [put_n (by omega), put_n (by omega), put_n (by omega), put_n (by omega)]
theorem Jx.came {f : Int → Int} {t sq : Int} (h : Jx f) (ht : 0 ≤ t ∧ t < 4) (hsq : 0 ≤ sq ∧ sq ≤ 9999) : Jx (came f t sq) := by
  obtain ⟨T, D, B, h⟩ := h
  exact ⟨T, D, B, came_J h ht hsq⟩
theorem Jx.stands {f : Int → Int} {t : Int} (h : Jx f) (ht : 0 ≤ t ∧ t < 4) : Jx (stands f t) := by
  obtain ⟨T, D, B, h⟩ := h
  exact ⟨T, D, B, J_stands h ht⟩
theorem Jx.put2 {f : Int → Int} {t v : Int} (h : Jx f) (ht : 0 ≤ t ∧ t < 4) (hv : 0 ≤ v ∧ v ≤ 99) : Jx (put f t 2 v) := by
  obtain ⟨T, D, B, h⟩ := h
  exact ⟨T, D, B, J_put h ht (by omega) (by omega) (by omega) (fun _ => hv) (by omega) (by omega) (by omega) (by omega)⟩
/-- behind a move the progress is what it was, or 0; the mode is one of the three -/
theorem moves_prog {f : Int → Int} {t : Int} (h : Jx f) (ht : 0 ≤ t ∧ t < 4) (hp : f (79 + 8 * t + 2) ≤ 99) : moves f t (79 + 8 * t + 2) ≤ 99 := by
  have hJ := h.f
  have kk := (hJ.1.2.2.2.2.2.2 t ht.1 ht.2).1
  have lie : ∀ g : Int → Int, lies g t (79 + 8 * t + 2) = 0 := fun g => by unfold lies; exact put_s _ _ _ _
  have cm : ∀ sq : Int, came f t sq (79 + 8 * t + 2) = f (79 + 8 * t + 2) := fun sq => by
    unfold came
    rw [put_n (by omega), put_n (by omega), put_n (by omega)]
  have le := squareOn_le f (f (79 + 8 * t + 0)) (after f (f (79 + 8 * t + 0))) (f (79 + 8 * t + 1)) (drag f t)
  unfold moves
  split
  · rw [lie]; omega
  · split
    · have hb := blockAt_rng ((h.came ht (sq := squareOn f (f (79 + 8 * t + 0)) (after f (f (79 + 8 * t + 0))) (f (79 + 8 * t + 1)) (drag f t)) (by omega)).f.1) (((h.came ht (sq := squareOn f (f (79 + 8 * t + 0)) (after f (f (79 + 8 * t + 0))) (f (79 + 8 * t + 1)) (drag f t)) (by omega)).f.1.2.2.2.2.2.2 t ht.1 ht.2).1)
      have c1 := (h.came ht (sq := squareOn f (f (79 + 8 * t + 0)) (after f (f (79 + 8 * t + 0))) (f (79 + 8 * t + 1)) (drag f t)) (by omega)).f.1.2.1
      unfold comes
      rw [put_n (by omega), zu_n (by omega)]
      unfold stands
      rw [put_n (by omega), put_s]
      omega
    · split
      · rw [lie]; omega
      · rw [cm]; exact hp
