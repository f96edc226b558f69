/-! Constructors called: of a nest mate, and one that stands on the environment -/
section ZN2
variable {p : Program} {l : Launch} {e : Env} {R : Room} {s : State} {m : MethodId} {args : Array Value} {below : List Frame} {meth : Method} {c : Code} {nL k n : Nat} {Q : State → Prop} {cc : ByteArray} {pc : Nat} {lv : List (Nat × Value)} {rest : List Value} {D : va_G} {cl : List vw_C} {tys : List (ClassId × FieldType)} {ws : va_W} {A : Nat → Prop}
theorem z_callCN {y : MethodName} {bytes : ByteArray} {maxL index nA mc ms : Nat} {W1 : List Cond} {rm : Room} {Ts : List Cond} {own host : String} {b : Addr} {As : List Value} {wa wc wb : va_W} {stk : List Value} {S : Type} {post : S → Prop} {wf : S → va_W} (F : CallFix p m c cc nL s args Ts own) (hK : va_K D cl tys s) (hA : ∀ q, s.heap.size ≤ q → A q) (hM : ∀ sz, Met l y W1 rm (zPw D cl tys wc sz (.ref b :: As)) (va_Qv post (zB D cl tys wc sz wf) (va_A wc sz)) mc ms (va_A wc sz)) (cw : va_CN R s args own index y host bytes maxL none W1 rm mc ms nA ∧ y.name = "<init>" ∧ (Cond.instanceMethod y).before args s = true) (hws : ws = wa ++ wc ++ wb) (hn : As.length = nA) (hstk : stk = As.reverse ++ .ref b :: rest) (hW : (rest.map fun v => v.category).sum ≤ 8) (hkn : k + mc ≤ R.cells ∧ n + ms ≤ R.slots) (hdg : decode cc pc = .ok (.invokespecial index, 3))
    (K : ∀ u : S, post u → Gz p l e R s m args below meth c nL (k + mc) (n + ms) Q (Zw D cl A s (wa ++ wf u ++ wb)) (pc + 3) lv rest) : Gz p l e R s m args below meth c nL k n Q (Zw D cl A s ws) pc lv stk := by
  intro H locs ls hI hl
  obtain ⟨hP, hD, hS⟩ := hI
  subst hws
  have hF := z_mine hD hS hA
  refine va_callv (va_runIN F (hM H.size) cw ⟨zPw_blind, fun U hU hW => ⟨rfl, by rw [hU], by rw [hU]; exact zP_mid hP, va_K.moved hW.alike hK, zD_mid hD (fun _ _ => trivial)⟩⟩ rfl hn hl.1 hstk (lv_room hW) hdg hkn) hS (fun q _ h => hF q h) hF (fun u t H1 locs1 ht hvm hw hB hz hk hS1 => ?_)
  obtain ⟨hP1, hK1, hD1⟩ := hB
  rw [ht] at hP1
  obtain ⟨hP2, hD2⟩ := z_join hP hD hk hF hP1 hD1
  exact K u hw H1 locs1 ls ⟨hP2, hD2, hS1⟩ hl
theorem z_callCE {y : MethodName} {bytes : ByteArray} {maxL index nA mc ms : Nat} {W1 : List Cond} {rm : Room} {Ts : List Cond} {own : String} {b : Addr} {As : List Value} {wa wc wb : va_W} {stk : List Value} {S : Type} {post : S → Prop} {wf : S → va_W} (F : CallFix p m c cc nL s args Ts own) (hK : va_K D cl tys s) (hA : ∀ q, s.heap.size ≤ q → A q) (hE : zE A s s.heap) (hM : ∀ sz, Met l y W1 rm (zPe D cl tys wc sz (.ref b :: As)) (va_Qv post (zB D cl tys wc sz wf) (va_A wc sz)) mc ms (va_A wc sz)) (cw : CallB R s args own index y bytes maxL none W1 rm mc ms nA ∧ y.name = "<init>" ∧ (Cond.instanceMethod y).before args s = true) (hws : ws = wa ++ wc ++ wb) (hn : As.length = nA) (hstk : stk = As.reverse ++ .ref b :: rest) (hW : (rest.map fun v => v.category).sum ≤ 8) (hkn : k + mc ≤ R.cells ∧ n + ms ≤ R.slots) (hdg : decode cc pc = .ok (.invokespecial index, 3))
    (K : ∀ u : S, post u → Gz p l e R s m args below meth c nL (k + mc) (n + ms) Q (Zw D cl A s (wa ++ wf u ++ wb)) (pc + 3) lv rest) : Gz p l e R s m args below meth c nL k n Q (Zw D cl A s ws) pc lv stk := by
  intro H locs ls hI hl
  obtain ⟨hP, hD, hS⟩ := hI
  subst hws
  have hF := z_mine hD hS hA
  refine va_callv (va_runI F (hM H.size) cw ⟨zPe_blind, fun U hU hW => ⟨rfl, by rw [hU], by rw [hU]; exact zP_mid hP, va_K.moved hW.alike hK, zD_mid hD (fun _ _ => trivial), hE.call hS hF hU hW⟩⟩ rfl hn hl.1 hstk (lv_room hW) hdg hkn) hS (fun q _ h => hF q h) hF (fun u t H1 locs1 ht hvm hw hB hz hk hS1 => ?_)
  obtain ⟨hP1, hK1, hD1⟩ := hB
  rw [ht] at hP1
  obtain ⟨hP2, hD2⟩ := z_join hP hD hk hF hP1 hD1
  exact K u hw H1 locs1 ls ⟨hP2, hD2, hS1⟩ hl
end ZN2
