/-! The first track's text is made -/
section ZFT
variable {p : Program} {l : Launch} {e : Env} {R : Room} {s : State} {m : MethodId} {args : Array Value} {below : List Frame} {meth : Method} {c : Code} {nL k n : Nat} {Q : State → Prop} {I : Heap → List Loc → Prop} {cc : ByteArray} {pc : Nat} {lv : List (Nat × Value)} {rest : List Value} {D : va_G} {cl : List vw_C} {tys : List (ClassId × FieldType)} {ws : va_W} {A : Nat → Prop} {sa va : Nat}
theorem z_ldcS (hx : p.tables.exec = Jvm.exec) (hb : c.code = cc) {own tx : String} {index q : Nat} (hown : s.vm.findClass own = some m.cls) (hZ : vk_R own index tx q s) (hdg : decode cc pc = .ok (.ldc index, 2))
    (K : Gz p l e R s m args below meth c nL k n Q I (pc + 2) lv (.ref q :: rest)) : Gz p l e R s m args below meth c nL k n Q I pc lv rest := fun H locs ls hI hl => va_ldcS hx hb hown hZ hdg (K H locs ls hI hl)
theorem z_callJW {y : MethodName} {bytes : ByteArray} {maxL index nA : Nat} {ret : Option FieldType} {W1 : List Cond} {rm : Room} {Ts : List Cond} {own : String} {As : List Value} {res : Int} {stk : List Value} (S : CallFix p m c cc nL s args Ts own) (hJ : zStr sa va A s s.heap) (hM : Met l y W1 rm (zPj sa va (.ref sa :: As)) (vp_Si (fun r => r = iZ res)) 0 0 (fun _ => False)) (cw : CallW R s args own "java/lang/String" index y bytes maxL ret W1 rm 0 0 nA) (hn : As.length = nA) (hstk : stk = As.reverse ++ .ref sa :: rest) (hW : (rest.map fun v => v.category).sum ≤ 8) (hkn : k ≤ R.cells ∧ n ≤ R.slots) (hdg : decode cc pc = .ok (.invokevirtual index, 3))
    (K : Gz p l e R s m args below meth c nL k n Q (Zw D cl A s ws) (pc + 3) lv (.int (iZ res) :: rest)) : Gz p l e R s m args below meth c nL k n Q (Zw D cl A s ws) pc lv stk := fun H locs ls hI hl =>
  z_callJV S ((hJ.kept hI.2.2.2.1).narrow (fun _ h => h.elim)) hM cw hn hl.1 hstk hW hkn hdg (K H locs ls hI hl)
def zBr (D : va_G) (cl : List vw_C) (tys : List (ClassId × FieldType)) (ws : va_W) (sz : Nat) {S : Type} (rf : S → Nat) (wf : S → va_W) : S → Nat → State → Prop := fun u a t => a = rf u ∧ zB D cl tys ws sz wf u t
theorem z_retR {S : Type} {post : S → Prop} {rf : S → Nat} {wf : S → va_W} {w0 : va_W} {sz a : Nat} {C : String} (hx : p.tables.exec = Jvm.exec) (hb : c.code = cc) (hr : meth.sig.returnType = some (.object C)) (hlocks : meth.locks = false) (hK : va_K D cl tys s) (u : S) (hu : post u) (ha : a = rf u) (hws : ws = wf u) (hdg : decode cc pc = .ok (.areturn, 1)) : Gz p l e R s m args below meth c nL k n (MQ below (va_Qr post (zBr D cl tys w0 sz rf wf) (va_A w0 sz)) args s k n (va_A w0 sz)) (Zw D cl (va_A w0 sz) s ws) pc lv [.ref a] := by
  intro H locs ls hI hl
  subst hws
  exact W.aret hx hb hr (Or.inl ⟨C, rfl⟩) (Or.inr ⟨a, rfl⟩) (fun t ht hW => ⟨⟨u, a, rfl, hu, ha, by rw [ht]; exact hI.1, va_K.moved hW.alike hK, hI.2.1⟩, hI.2.2.F ht⟩) hI.2.2.2.2 hdg hlocks
/-- a static method's call that answers an object, over an empty part of the world -/
theorem z_callSR {y : MethodName} {bytes : ByteArray} {maxL index mc ms : Nat} {ret : Option FieldType} {W1 : List Cond} {rm : Room} {Ts : List Cond} {own : String} {S : Type} {post : S → Prop} {rf : S → Nat} {wf : S → va_W} (F : CallFix p m c cc nL s args Ts own) (hK : va_K D cl tys s) (hA : ∀ q, s.heap.size ≤ q → A q) (hE : zE A s s.heap) (hM : ∀ sz, Met l y W1 rm (zPe D cl tys [] sz []) (va_Qr post (zBr D cl tys [] sz rf wf) (va_A [] sz)) mc ms (va_A [] sz)) (cw : CallB R s args own index y bytes maxL ret W1 rm mc ms 0 ∧ (Cond.static y).before args s = true) (hW : (rest.map fun v => v.category).sum ≤ 8) (hkn : k + mc ≤ R.cells ∧ n + ms ≤ R.slots) (hdg : decode cc pc = .ok (.invokestatic index, 3))
    (K : ∀ u : S, post u → Gz p l e R s m args below meth c nL (k + mc) (n + ms) Q (Zw D cl A s (ws ++ wf u)) (pc + 3) lv (.ref (rf u) :: rest)) : Gz p l e R s m args below meth c nL k n Q (Zw D cl A s ws) pc lv rest := by
  intro H locs ls hI hl
  obtain ⟨hP, hD, hS⟩ := hI
  have e0 : ws = ws ++ [] ++ [] := by simp
  have hD' : va_D A (ws ++ [] ++ []) := by rw [← e0]; exact hD
  have hP' : va_P D cl (ws ++ [] ++ []) H := by rw [← e0]; exact hP
  have hF := z_mine hD' hS hA
  refine va_callr (va_runS F (hM H.size) cw ⟨zPe_blind, fun U hU hW => ⟨rfl, by rw [hU], by rw [hU]; exact zP_mid hP', va_K.moved hW.alike hK, zD_mid hD' (fun _ _ => trivial), hE.call hS hF hU hW⟩⟩ rfl rfl hl.1 rfl (lv_room hW) hdg hkn) hS (fun q _ h => hF q h) hF (fun u ra t H1 locs1 ht hvm hw hB hz hk hS1 => ?_)
  obtain ⟨rfl, hP1, hK1, hD1⟩ := hB
  rw [ht] at hP1
  obtain ⟨hP2, hD2⟩ := z_join hP' hD' hk hF hP1 hD1
  exact K u hw H1 locs1 ls ⟨by simpa using hP2, by simpa using hD2, hS1⟩ hl
end ZFT
theorem in_X4_firstTrack_X2 : ∀ w ∈ wsX20, w ∈ wsX4_firstTrack := by decide +kernel
set_option maxHeartbeats 4000000 in
theorem c_X4_firstTrack (l : Launch) (D : va_G) (sz : Nat) (y : Nat → ClassId) : Met l yX4_firstTrack wsX4_firstTrack ({ frames := 4, cells := 2, slots := 92, locals := 85 } : Room) (zPe D vwCl (zT y) [] sz []) (va_Qr (fun u : (Nat → Nat) × (Int → Int) => (∀ k : Int, 0 ≤ k → k < 28 → u.2 k = fB k) ∧ ∀ k : Int, 28 ≤ k → u.2 k = 0) (zBr D vwCl (zT y) [] sz (fun u : (Nat → Nat) × (Int → Int) => u.1 0) (fun u : (Nat → Nat) × (Int → Int) => wX y u.1 u.2 28)) (va_A [] sz)) 2 92 (va_A [] sz) := by
  refine z_headE (cc := cX4_firstTrack) (maxL := 2) (ret := some (.object "BlockCoaster$TrackText")) [] rfl (Nat.le_of_ble_eq_true rfl) (by decide +kernel) rfl ?_
  intro pp ee ss mm below meth cd mx mb mr mml mo mts mlk hK hname hsz hA hE
  generalize ([] : List Value).toArray = args at mts ⊢
  obtain ⟨sa, va, hvk, hstr⟩ := hE.2.2.2.2.2
  obtain ⟨Q, hQ⟩ : ∃ Q, Q = MQ below (va_Qr (fun u : (Nat → Nat) × (Int → Int) => (∀ k : Int, 0 ≤ k → k < 28 → u.2 k = fB k) ∧ ∀ k : Int, 28 ≤ k → u.2 k = 0) (zBr D vwCl (zT y) [] sz (fun u : (Nat → Nat) × (Int → Int) => u.1 0) (fun u : (Nat → Nat) × (Int → Int) => wX y u.1 u.2 28)) (va_A [] sz)) args ss 2 92 (va_A [] sz) := ⟨_, rfl⟩
  rw [← hQ]
  refine z_new (ci := 2) (C := RX2) (T := TX2) (N := 2) mx mb mts in_X4_firstTrack_X2 tyX2_ok mo (mts _ (List.mem_of_getElem? (i := 1) rfl)) (mts _ (List.mem_of_getElem? (i := 2) rfl)) (mts _ (List.mem_of_getElem? (i := 3) rfl)) hK hA rfl [.null, .int (iZ 0)] (by decide) (Nat.le_of_ble_eq_true rfl) (Nat.le_of_ble_eq_true rfl) dX4_firstTrack_0 (fun q0 => ?_)
  refine z_dup mx mb dX4_firstTrack_3 rfl ?_
  refine z_callCN (wa := []) (wc := [(q0, .inr (2, [.null, .int (iZ 0)]))]) (wb := []) (As := []) (rest := [.ref q0]) ⟨mx, mb, mml, mo, mts⟩ hK hA (fun sz => c_X2_init l D sz y q0) ⟨va_cnB 0 mts gX4_firstTrack_X2_init_n29 rfl rfl rfl (hE.2.2.2.1 _ (List.mem_of_getElem? (i := 10) rfl)) (mts _ (List.mem_of_getElem? (i := 3) rfl)) (by decide +kernel) ⟨Nat.le_of_ble_eq_true rfl, Nat.le_of_ble_eq_true rfl⟩, rfl, (mts _ (List.mem_of_getElem? (i := 4) rfl))⟩ rfl rfl rfl (Nat.le_of_ble_eq_true rfl) ⟨Nat.le_of_ble_eq_true rfl, Nat.le_of_ble_eq_true rfl⟩ dX4_firstTrack_4 (fun u4 _ => ?_)
  obtain ⟨b, hb9⟩ : ∃ b : Nat → Nat, b = fun i => ([q0, u4] : List Nat).getD i 0 := ⟨_, rfl⟩
  have b0 : q0 = b 0 := by rw [hb9]; rfl
  have b1 : u4 = b 1 := by rw [hb9]; rfl
  show Gz pp l ee ({ frames := 4, cells := 2, slots := 92, locals := 85 } : Room) ss mm args below meth cd 2 2 92 Q (Zw D vwCl (va_A [] sz) ss [(q0, .inr (2, [.ref u4, .int (iZ 0)])), (u4, .inl (y 0, 90, .inl (zA (fun _ => 0))))]) 7 [] [.ref q0]
  rw [b0, b1]
  show Gz pp l ee ({ frames := 4, cells := 2, slots := 92, locals := 85 } : Room) ss mm args below meth cd 2 2 92 Q (Zw D vwCl (va_A [] sz) ss (wX y b (fun _ => 0) 0)) 7 [] [.ref (b 0)]
  refine z_astore_n mx mb dX4_firstTrack_7 rfl (by decide) [(0, .ref (b 0))] rfl ?_
  refine z_iconst mx mb dX4_firstTrack_8 ?_
  refine z_istore_n mx mb dX4_firstTrack_9 rfl (by decide) [(1, .int (iZ 0)), (0, .ref (b 0))] rfl ?_
  have lp : ∀ (nn : Nat) (i : Nat) (x1 : Int) (tx : Int → Int), 28 - i < nn → i ≤ 28 → x1 = (i : Int) → (∀ k : Int, 0 ≤ k → k < (i : Int) → tx k = fB k) → (∀ k : Int, (i : Int) ≤ k → tx k = 0) → Gz pp l ee ({ frames := 4, cells := 2, slots := 92, locals := 85 } : Room) ss mm args below meth cd 2 2 92 Q (Zw D vwCl (va_A [] sz) ss (wX y b tx (i : Int))) 10 [(1, .int (iZ x1)), (0, .ref (b 0))] [] := by
    intro nn
    induction nn with
    | zero => exact fun i x1 tx hm => absurd hm (Nat.not_lt_zero _)
    | succ nn ih =>
      intro i x1 tx hm hi e1 h1 h2
      refine z_iload_n mx mb dX4_firstTrack_10 rfl 0 rfl ?_
      refine z_ldcS mx mb mo hvk dX4_firstTrack_11 ?_
      refine z_callJW (As := []) (rest := [.int (iZ x1)]) ⟨mx, mb, mml, mo, mts⟩ hstr (c_J0_length l sa va) (cwV 0 mts gX4_firstTrack_J0_length_8abf5 rfl rfl rfl (by decide +kernel) ⟨Nat.le_of_ble_eq_true rfl, Nat.le_of_ble_eq_true rfl⟩) rfl rfl (Nat.le_of_ble_eq_true rfl) ⟨Nat.le_of_ble_eq_true rfl, Nat.le_of_ble_eq_true rfl⟩ dX4_firstTrack_13 ?_
      refine z_icmp_ge (tgt := 35) mx mb (by omega) (by omega) dX4_firstTrack_16 (by decide) (fun c16 => ?_) (fun c16 => ?_)
      · refine z_aload_n mx mb dX4_firstTrack_35 rfl 1 rfl ?_
        have hi2 : i = 28 := by omega
        subst hi2
        rw [hQ]
        exact z_retR mx mb mr mlk hK (b, tx) ⟨h1, h2⟩ rfl rfl dX4_firstTrack_36
      · refine z_aload_n mx mb dX4_firstTrack_19 rfl 1 rfl ?_
        refine z_ldcS mx mb mo hvk dX4_firstTrack_20 ?_
        refine z_iload_n mx mb dX4_firstTrack_22 rfl 0 rfl ?_
        refine z_callJW (As := [.int (iZ x1)]) (rest := [.ref (b 0)]) ⟨mx, mb, mml, mo, mts⟩ hstr (c_J0_charAt l sa va x1 (by omega)) (cwV 1 mts gX4_firstTrack_J0_charAt_5068e rfl rfl rfl (by decide +kernel) ⟨Nat.le_of_ble_eq_true rfl, Nat.le_of_ble_eq_true rfl⟩) rfl rfl (Nat.le_of_ble_eq_true rfl) ⟨Nat.le_of_ble_eq_true rfl, Nat.le_of_ble_eq_true rfl⟩ dX4_firstTrack_23 ?_
        refine z_callV0 (As := [.int (iZ (fB x1))]) (rest := []) ⟨mx, mb, mml, mo, mts⟩ hK hA (fun sz => c_X2_add l D sz y b tx (i : Int) (fB x1) (by omega)) (cwV 1 mts gX4_firstTrack_X2_add rfl rfl rfl (by decide +kernel) ⟨Nat.le_of_ble_eq_true rfl, Nat.le_of_ble_eq_true rfl⟩) 0 wX_0 rfl rfl rfl rfl (Nat.le_of_ble_eq_true rfl) ⟨Nat.le_of_ble_eq_true rfl, Nat.le_of_ble_eq_true rfl⟩ dX4_firstTrack_26 (fun _ _ => ?_)
        refine z_iinc mx mb dX4_firstTrack_29 0 rfl (by decide) [(1, .int (iZ (x1 + 1))), (0, .ref (b 0))] rfl ?_
        refine z_goto (tgt := 10) mx mb dX4_firstTrack_32 (by decide) ?_
        rw [show (i : Int) + 1 = ((i + 1 : Nat) : Int) from rfl]
        refine ih (i + 1) _ _ (by omega) (by omega) (by omega) (fun k k0 k1 => ?_) (fun k k1 => ?_)
        · by_cases z : k = (i : Int)
          · rw [z, zu_s, e1]
          · rw [zu_n z]; exact h1 k k0 (by omega)
        · rw [zu_n (by omega)]; exact h2 k (by omega)
  exact lp _ 0 0 _ (Nat.lt_succ_self _) (by omega) rfl (fun k k0 k1 => absurd k1 (by omega)) (fun k _ => rfl)
