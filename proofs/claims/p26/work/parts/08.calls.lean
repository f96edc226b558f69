/-! Calls over the whole world; what a tick's parts leave -/
section ZC
variable {p : Program} {l : Launch} {e : Env} {R : Room} {s : State} {m : MethodId} {args : Array Value} {below : List Frame} {meth : Method} {c : Code} {nL k n : Nat} {Q : State → Prop} {I : Heap → List Loc → Prop} {cc : ByteArray} {pc : Nat} {lv : List (Nat × Value)} {rest : List Value} {D : va_G} {cl : List vw_C} {tys : List (ClassId × FieldType)} {ws : va_W} {A : Nat → Prop} {a : Nat}
theorem z_callV0 {y : MethodName} {bytes : ByteArray} {maxL index nA mc ms : Nat} {ret : Option FieldType} {W1 : List Cond} {rm : Room} {Ts : List Cond} {own C : String} {b : Addr} {As : List Value} {stk : List Value} {ci : Nat} {q : vw_C} {fs : List Value} {S : Type} {post : S → Prop} {wf : S → va_W} (F : CallFix p m c cc nL s args Ts own) (hK : va_K D cl tys s) (hA : ∀ q, s.heap.size ≤ q → A q) (hM : ∀ sz, Met l y W1 rm (zPw D cl tys ws sz (.ref b :: As)) (va_Qv post (zB D cl tys ws sz wf) (va_A ws sz)) mc ms (va_A ws sz)) (cw : CallW R s args own C index y bytes maxL ret W1 rm mc ms nA) (q0 : Nat) (he : ws[q0]? = some (b, .inr (ci, fs))) (hc : cl[ci]? = some q) (hC : q.1 = C) (hn : As.length = nA) (hstk : stk = As.reverse ++ .ref b :: rest) (hW : (rest.map fun v => v.category).sum ≤ 8) (hkn : k + mc ≤ R.cells ∧ n + ms ≤ R.slots) (hdg : decode cc pc = .ok (.invokevirtual index, 3))
    (K : ∀ u : S, post u → Gz p l e R s m args below meth c nL (k + mc) (n + ms) Q (Zw D cl A s (wf u)) (pc + 3) lv rest) : Gz p l e R s m args below meth c nL k n Q (Zw D cl A s ws) pc lv stk :=
  z_callV (wa := []) (wb := []) F hK hA hM cw (by simp) q0 he hc hC hn hstk hW hkn hdg (fun u hu => by simpa using K u hu)
theorem z_callI0 {y : MethodName} {bytes : ByteArray} {maxL index nA mc ms : Nat} {ret : Option FieldType} {W1 : List Cond} {rm : Room} {Ts : List Cond} {own C : String} {b : Addr} {As : List Value} {stk : List Value} {ci : Nat} {q : vw_C} {fs : List Value} {S : Type} {post : Int32 → S → Prop} {wf : S → va_W} (F : CallFix p m c cc nL s args Ts own) (hK : va_K D cl tys s) (hA : ∀ q, s.heap.size ≤ q → A q) (hM : ∀ sz, Met l y W1 rm (zPw D cl tys ws sz (.ref b :: As)) (va_Qi post (zB D cl tys ws sz wf) (va_A ws sz)) mc ms (va_A ws sz)) (cw : CallW R s args own C index y bytes maxL ret W1 rm mc ms nA) (q0 : Nat) (he : ws[q0]? = some (b, .inr (ci, fs))) (hc : cl[ci]? = some q) (hC : q.1 = C) (hn : As.length = nA) (hstk : stk = As.reverse ++ .ref b :: rest) (hW : (rest.map fun v => v.category).sum ≤ 8) (hkn : k + mc ≤ R.cells ∧ n + ms ≤ R.slots) (hdg : decode cc pc = .ok (.invokevirtual index, 3))
    (K : ∀ (r : Int32) (u : S), post r u → Gz p l e R s m args below meth c nL (k + mc) (n + ms) Q (Zw D cl A s (wf u)) (pc + 3) lv (.int r :: rest)) : Gz p l e R s m args below meth c nL k n Q (Zw D cl A s ws) pc lv stk :=
  z_callI (wa := []) (wb := []) F hK hA hM cw (by simp) q0 he hc hC hn hstk hW hkn hdg (fun r u hu => by simpa using K r u hu)
theorem z_top {x y : Int} (h : x = y) (K : Gz p l e R s m args below meth c nL k n Q I pc lv (.int (iZ y) :: rest)) : Gz p l e R s m args below meth c nL k n Q I pc lv (.int (iZ x) :: rest) := by subst h; exact K
end ZC
def Jy (f : Int → Int) : Prop := ∃ (T D : Int) (B : Int → Int), J f T D B
def Jx (f : Int → Int) : Prop := ∃ (T D : Int) (B : Int → Int), J f T D B ∧ D ≤ 890000 ∧ ∀ t : Int, 0 ≤ t → t < 4 → B t ≤ 119000
def InvX (f : Int → Int) : Prop := ∃ N : Int, Inv N f ∧ N ≤ 109000
theorem InvX.J {f : Int → Int} (h : InvX f) : Jx f := by
  obtain ⟨N, h, hN⟩ := h
  have h0 := h.1
  exact ⟨_, _, _, h.2, by omega, fun t _ _ => by show f 3 ≤ 119000; omega⟩
theorem Jx.y {f : Int → Int} (h : Jx f) : Jy f := by
  obtain ⟨T, D, B, h, -⟩ := h
  exact ⟨T, D, B, h⟩
theorem Jy.f {f : Int → Int} (h : Jy f) : Wf f ∧ Ns f ∧ ∀ t : Int, 0 ≤ t → t < 4 → Tn f t 120000 := by
  obtain ⟨T, D, B, h⟩ := h
  refine ⟨h.1, J_Ns h, fun t t0 t1 => ?_⟩
  obtain ⟨k, b⟩ := h.2.2 t t0 t1
  unfold Tn at k ⊢
  omega
theorem Jx.f {f : Int → Int} (h : Jx f) : Wf f ∧ Ns f ∧ ∀ t : Int, 0 ≤ t → t < 4 → Tn f t 120000 := h.y.f
theorem Jx.moves {f : Int → Int} {t : Int} (h : Jx f) (ht : 0 ≤ t ∧ t < 4) : Jy (moves f t) := by
  obtain ⟨T, D, B, h, hD, hB⟩ := h
  exact ⟨T, D, fun t => B t + 1, J_moves h ht (fun t' t0 t1 => by have := hB t' t0 t1; omega) (by omega)⟩
theorem Jx.put3 {f : Int → Int} {t v : Int} (h : Jx f) (ht : 0 ≤ t ∧ t < 4) (hv : 0 ≤ v ∧ v ≤ 100) : Jx (put f t 3 v) := by
  obtain ⟨T, D, B, h, q⟩ := h
  exact ⟨T, D, B, J_put h ht (by omega) (by omega) (by omega) (by omega) (fun _ => hv) (by omega) (by omega) (by omega), q⟩
theorem holds_rng (f : Int → Int) (t s : Int) : 2 ≤ holds f t s ∧ holds f t s ≤ 5 := by
  unfold holds; split <;> (try split) <;> (try split) <;> (try split) <;> omega
theorem blockAt_congr {f g : Int → Int} {c : Int} (hc : c ≤ 30) (h1 : g 1 = f 1) (h : ∀ i : Int, 41 ≤ i → i < 71 → g i = f i) : blockAt g c = blockAt f c := by
  have e : cnt g c.toNat = cnt f c.toNat := cnt_congr (fun k hk => h _ (by omega) (by omega))
  unfold blockAt
  rw [e, h1]
theorem blockAt_put {f : Int → Int} {t w v c : Int} (ht : 0 ≤ t) (hw : 0 ≤ w) (hc : c ≤ 30) : blockAt (put f t w v) c = blockAt f c := blockAt_congr hc (put_n (by omega)) (fun i _ _ => put_n (by omega))
theorem nextB_stands {f : Int → Int} {t b : Int} (ht : 0 ≤ t) : nextB (stands f t) b = nextB f b := by
  unfold nextB stands
  rw [put_n (by omega), put_n (by omega), put_n (by omega), put_n (by omega)]
theorem stands_2 {f : Int → Int} {t : Int} (ht : 0 ≤ t) {i : Int} (hi : i < 79) : stands f t i = f i := by
  unfold stands
  rw [put_n (by omega), put_n (by omega), put_n (by omega), put_n (by omega)]
theorem Jx.came {f : Int → Int} {t sq : Int} (h : Jx f) (ht : 0 ≤ t ∧ t < 4) (hsq : 0 ≤ sq ∧ sq ≤ 9999) : Jx (came f t sq) := by
  obtain ⟨T, D, B, h, q⟩ := h
  exact ⟨T, D, B, came_J h ht hsq, q⟩
theorem Jx.stands {f : Int → Int} {t : Int} (h : Jx f) (ht : 0 ≤ t ∧ t < 4) : Jx (stands f t) := by
  obtain ⟨T, D, B, h, q⟩ := h
  exact ⟨T, D, B, J_stands h ht, q⟩
theorem Jx.put2 {f : Int → Int} {t v : Int} (h : Jx f) (ht : 0 ≤ t ∧ t < 4) (hv : 0 ≤ v ∧ v ≤ 99) : Jx (put f t 2 v) := by
  obtain ⟨T, D, B, h, q⟩ := h
  exact ⟨T, D, B, J_put h ht (by omega) (by omega) (by omega) (fun _ => hv) (by omega) (by omega) (by omega) (by omega), q⟩
theorem steps_Jx {f : Int → Int} (h : InvX f) (n : Nat) (hn : n ≤ 4) : Jx (steps f n) ∧ ∀ i : Int, 0 ≤ i → i < 71 → i ≠ 8 → i ≠ 9 → i ≠ 10 → steps f n i = f i := by
  obtain ⟨N, h, hN⟩ := h
  have h0 := h.1
  obtain ⟨a, b⟩ := steps_J h (by omega) n hn
  refine ⟨⟨_, _, _, a, by omega, fun t _ _ => ?_⟩, b⟩
  split <;> omega
theorem tick_Jx {f : Int → Int} (h : InvX f) : ∀ t : Int, 0 ≤ t → t < 4 → Tn (tick f) t 120000 := by
  obtain ⟨N, h, hN⟩ := h
  have k := (tick_inv h (by omega)).1
  intro t t0 t1
  obtain ⟨q, b⟩ := k.2.2.2 t t0 t1
  unfold Tn at q ⊢
  have := k.1
  omega
/-- the numbers of a train, as the walk of its move goes on with them -/
theorem Jx.wait {f : Int → Int} {t : Int} (h : Jx f) (ht : 0 ≤ t ∧ t < 4) : Jy (waits f t) := by
  obtain ⟨T, D, B, h, hD, hB⟩ := h
  exact ⟨T, D + 1, fun t => B t + 1, J_waits h ht (by omega) (fun t' t0 t1 => by have := hB t' t0 t1; omega) (by omega)⟩
theorem Jx.goes {f : Int → Int} {t : Int} (h : Jx f) (ht : 0 ≤ t ∧ t < 4) : Jy (goes f t) := by
  obtain ⟨T, D, B, h, hD, hB⟩ := h
  exact ⟨T, D, fun t => B t + 1, J_goes h ht (fun t' t0 t1 => by have := hB t' t0 t1; omega) (by omega)⟩
