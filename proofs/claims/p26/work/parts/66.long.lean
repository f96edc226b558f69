/-! Long and double answers -/
section ZLG
variable {p : Program} {l : Launch} {e : Env} {R : Room} {s : State} {m : MethodId} {args : Array Value} {below : List Frame} {meth : Method} {c : Code} {nL k n : Nat} {Q : State → Prop} {I : Heap → List Loc → Prop} {cc : ByteArray} {pc : Nat} {lv : List (Nat × Value)} {rest : List Value} {D : va_G} {cl : List vw_C} {tys : List (ClassId × FieldType)} {ws : va_W} {A : Nat → Prop} {a : Nat}
theorem z_lretP {free : Addr → Prop} (hx : p.tables.exec = Jvm.exec) (hb : c.code = cc) (hr : meth.sig.returnType = some .long) (hlocks : meth.locks = false) {res z : Int} (hz : z = res) (hdg : decode cc pc = .ok (.lreturn, 1)) : Gz p l e R s m args below meth c nL 0 0 (MQ below (vp_Sl (fun r => r = lZ res)) args s 0 0 free) (Zp s) pc lv [.long (lZ z)] := by
  intro H locs ls hI hl
  obtain ⟨rfl, rfl⟩ := hI
  exact W.lret hx hb hr (fun t ht _ => ⟨lZ z, rfl, by rw [hz], ht⟩) (fun q h => nomatch h) hdg hlocks
theorem z_retL {S : Type} {post : Int64 → S → Prop} {wf : S → va_W} {w0 : va_W} {sz : Nat} {z : Int} (hx : p.tables.exec = Jvm.exec) (hb : c.code = cc) (hr : meth.sig.returnType = some .long) (hlocks : meth.locks = false) (hK : va_K D cl tys s) (u : S) (hu : post (lZ z) u) (hws : ws = wf u) (hdg : decode cc pc = .ok (.lreturn, 1)) : Gz p l e R s m args below meth c nL k n (MQ below (va_Ql post (zB D cl tys w0 sz wf) (va_A w0 sz)) args s k n (va_A w0 sz)) (Zw D cl (va_A w0 sz) s ws) pc lv [.long (lZ z)] := by
  intro H locs ls hI hl
  subst hws
  exact W.lret hx hb hr (fun t ht hW => ⟨⟨lZ z, u, rfl, hu, by rw [ht]; exact hI.1, va_K.moved hW.alike hK, hI.2.1⟩, hI.2.2.F ht⟩) hI.2.2.2.2 hdg hlocks
theorem z_retD {S : Type} {post : UInt64 → S → Prop} {wf : S → va_W} {w0 : va_W} {sz : Nat} {v : UInt64} (hx : p.tables.exec = Jvm.exec) (hb : c.code = cc) (hr : meth.sig.returnType = some .double) (hlocks : meth.locks = false) (hK : va_K D cl tys s) (u : S) (hu : post v u) (hws : ws = wf u) (hdg : decode cc pc = .ok (.dreturn, 1)) : Gz p l e R s m args below meth c nL k n (MQ below (va_Qd post (zB D cl tys w0 sz wf) (va_A w0 sz)) args s k n (va_A w0 sz)) (Zw D cl (va_A w0 sz) s ws) pc lv [.double v] := by
  intro H locs ls hI hl
  subst hws
  exact W.dret hx hb hr (fun t ht hW => ⟨⟨v, u, rfl, hu, by rw [ht]; exact hI.1, va_K.moved hW.alike hK, hI.2.1⟩, hI.2.2.F ht⟩) hI.2.2.2.2 hdg hlocks
theorem z_callPSl {y : MethodName} {bytes : ByteArray} {maxL index nA : Nat} {ret : Option FieldType} {W1 : List Cond} {rm : Room} {Ts : List Cond} {own : String} {As : List Value} {w1 : va_W} {res : Int} {stk : List Value} (S : CallFix p m c cc nL s args Ts own) (hK : va_K D cl tys s) (hg : ∀ H locs, I H locs → va_P D cl ws H) (hM : Met l y W1 rm (zPp D cl tys w1 As) (vp_Sl (fun r => r = lZ res)) 0 0 (fun _ => False)) (cw : CallB R s args own index y bytes maxL ret W1 rm 0 0 nA ∧ (Cond.static y).before args s = true) (sub : ∀ x ∈ w1, x ∈ ws) (hn : As.length = nA) (hstk : stk = As.reverse ++ rest) (hW : (rest.map fun v => v.category).sum ≤ 8) (hkn : k ≤ R.cells ∧ n ≤ R.slots) (hdg : decode cc pc = .ok (.invokestatic index, 3))
    (K : Gz p l e R s m args below meth c nL k n Q I (pc + 3) lv (.long (lZ res) :: rest)) : Gz p l e R s m args below meth c nL k n Q I pc lv stk := by
  intro H locs ls hI hl
  have hP := hg H locs hI
  exact vp_callSl (W.runS S hM cw ⟨zPp_blind, fun U hU hW => ⟨rfl, by rw [hU]; exact zP_sub sub hP, va_K.moved hW.alike hK⟩⟩ rfl hn hl.1 hstk (lv_room hW) hdg hkn) (fun r hr => by rw [hr]; exact K H locs ls hI hl)
theorem z_callL0 {y : MethodName} {bytes : ByteArray} {maxL index nA mc ms : Nat} {ret : Option FieldType} {W1 : List Cond} {rm : Room} {Ts : List Cond} {own C : String} {b : Addr} {As : List Value} {stk : List Value} {ci : Nat} {q : vw_C} {fs : List Value} {S : Type} {post : Int64 → S → Prop} {wf : S → va_W} (F : CallFix p m c cc nL s args Ts own) (hK : va_K D cl tys s) (hA : ∀ q, s.heap.size ≤ q → A q) (hM : ∀ sz, Met l y W1 rm (zPw D cl tys ws sz (.ref b :: As)) (va_Ql post (zB D cl tys ws sz wf) (va_A ws sz)) mc ms (va_A ws sz)) (cw : CallW R s args own C index y bytes maxL ret W1 rm mc ms nA) (q0 : Nat) (he : ws[q0]? = some (b, .inr (ci, fs))) (hc : cl[ci]? = some q) (hC : q.1 = C) (hn : As.length = nA) (hstk : stk = As.reverse ++ .ref b :: rest) (hW : (rest.map fun v => v.category).sum ≤ 8) (hkn : k + mc ≤ R.cells ∧ n + ms ≤ R.slots) (hdg : decode cc pc = .ok (.invokevirtual index, 3))
    (K : ∀ (r : Int64) (u : S), post r u → Gz p l e R s m args below meth c nL (k + mc) (n + ms) Q (Zw D cl A s (wf u)) (pc + 3) lv (.long r :: rest)) : Gz p l e R s m args below meth c nL k n Q (Zw D cl A s ws) pc lv stk := by
  intro H locs ls hI hl
  obtain ⟨hP, hD, hS⟩ := hI
  subst hC
  have hr := va_recv hK hP hc he
  have e0 : ws = [] ++ ws ++ [] := by simp
  have hD' : va_D A ([] ++ ws ++ []) := by rw [← e0]; exact hD
  have hP' : va_P D cl ([] ++ ws ++ []) H := by rw [← e0]; exact hP
  have hF := z_mine hD' hS hA
  refine va_calll (va_runV F (hM H.size) cw ⟨zPw_blind, hr, fun U hU hW => ⟨rfl, by rw [hU], by rw [hU]; exact hP, va_K.moved hW.alike hK, zD_mid hD' (fun _ _ => trivial)⟩⟩ rfl hn hl.1 hstk (lv_room hW) hdg hkn) hS (fun q _ h => hF q h) hF (fun r u t H1 locs1 ht hvm hw hB hz hk hS1 => ?_)
  obtain ⟨hP1, hK1, hD1⟩ := hB
  rw [ht] at hP1
  obtain ⟨hP2, hD2⟩ := z_join hP' hD' hk hF hP1 hD1
  exact K r u hw H1 locs1 ls ⟨by simpa using hP2, by simpa using hD2, hS1⟩ hl
theorem z_lload (hx : p.tables.exec = Jvm.exec) (hb : c.code = cc) {i : Nat} {x : Int64} (hdg : decode cc pc = .ok (.lload i, 2)) (j : Nat) (hj : lv[j]? = some (i, .long x)) (K : Gz p l e R s m args below meth c nL k n Q I (pc + 2) lv (.long x :: rest)) : Gz p l e R s m args below meth c nL k n Q I pc lv rest := fun H locs ls hI hl => lv_lload hx hb hdg (lv_at hl j hj) (K H locs ls hI hl)
theorem z_dconst0 (hx : p.tables.exec = Jvm.exec) (hb : c.code = cc) (hdg : decode cc pc = .ok (.dconst 0, 1)) (K : Gz p l e R s m args below meth c nL k n Q I (pc + 1) lv (.double FP.dconst0 :: rest)) : Gz p l e R s m args below meth c nL k n Q I pc lv rest := fun H locs ls hI hl => lv_dconst0 hx hb hdg (K H locs ls hI hl)
theorem z_i2d (hx : p.tables.exec = Jvm.exec) (hb : c.code = cc) {z : Int} (hdg : decode cc pc = .ok (.i2d, 1)) (K : Gz p l e R s m args below meth c nL k n Q I (pc + 1) lv (.double (FP.i2d (iZ z)) :: rest)) : Gz p l e R s m args below meth c nL k n Q I pc lv (.int (iZ z) :: rest) := fun H locs ls hI hl => lv_i2d hx hb hdg (K H locs ls hI hl)
theorem z_ddiv (hx : p.tables.exec = Jvm.exec) (hb : c.code = cc) {x y : UInt64} (hdg : decode cc pc = .ok (.ddiv, 1)) (hne : vf_n64 (FP.ddiv x y)) (K : Gz p l e R s m args below meth c nL k n Q I (pc + 1) lv (.double (FP.ddiv x y) :: rest)) : Gz p l e R s m args below meth c nL k n Q I pc lv (.double y :: .double x :: rest) := fun H locs ls hI hl => lv_ddiv hx hb hdg hne (K H locs ls hI hl)
end ZLG
set_option maxRecDepth 100000 in
theorem dd_all : ∀ b : Nat, b < 401 → ∀ n : Nat, n < 4 → FP.ddiv (FP.i2d (Int32.ofNat b)) (FP.i2d (Int32.ofNat (n + 1))) &&& 9223372036854775807 ≤ 9218868437227405312 := by decide +kernel
theorem dd_ok {x n : Int} (hx : 0 ≤ x ∧ x ≤ 400) (hn : 1 ≤ n ∧ n ≤ 4) : vf_n64 (FP.ddiv (FP.i2d (iZ x)) (FP.i2d (iZ n))) := by
  obtain ⟨b, rfl⟩ : ∃ b : Nat, x = (b : Int) := ⟨x.toNat, by omega⟩
  obtain ⟨j, rfl⟩ : ∃ j : Nat, n = ((j + 1 : Nat) : Int) := ⟨(n - 1).toNat, by omega⟩
  exact dd_all b (by omega) j (by omega)
/-- the digest -/
def hmx (h v : Int) : Int := 31 * h + wz v
def hgo (F : Nat → Int) (h : Int) : Nat → Int
  | 0 => h
  | n + 1 => hmx (hgo F h n) (F n)
def hTr (f : Int → Int) (h : Int) : Nat → Int
  | 0 => h
  | n + 1 => hmx (hgo (fun w => trainOf f (n : Int) (w : Int)) (hTr f h n) 10) (whyOf f (n : Int))
def hCell (f : Int → Int) (i : Nat) : Int := cellOf f ((i : Int) / 4) ((i : Int) % 4)
def hBlk (f : Int → Int) (i : Nat) : Int := blockOf f ((i : Int) / 5) ((i : Int) % 5)
def hLog (f : Int → Int) (i : Nat) : Int := f (111 + 2 * (f 10 - 1 - (i : Int) / 2) + (i : Int) % 2)
def dgV (f : Int → Int) (ln : Int) : Int := hgo (fun w => valueOf f (w : Int)) (hmx 3581 ln) 12
def dgC (f : Int → Int) (h : Int) : Int := hgo (hCell f) h (4 * (f 0).toNat)
def dgB (f : Int → Int) (h : Int) : Int := hgo (hBlk f) h (5 * (f 1).toNat)
def dgT (f : Int → Int) (h : Int) : Int := hTr f h (f 2).toNat
def dgL (f : Int → Int) (h : Int) : Int := hgo (hLog f) h (2 * (f 10).toNat)
def dg (f : Int → Int) (ln sm : Int) : Int := hmx (hmx (dgL f (dgT f (dgB f (dgC f (dgV f ln))))) (toValley f 2000)) sm
def warmM (f : Int → Int) : UInt64 := if f 2 = 0 then FP.dconst0 else FP.ddiv (FP.i2d (iZ (wsum f (f 2).toNat))) (FP.i2d (iZ (f 2)))
