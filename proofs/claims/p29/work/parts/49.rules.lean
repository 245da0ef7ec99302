/-! rules for constructors: arrays and objects made, constructors called over a part of the world -/
/-- the addresses of a list, as a function -/
def adl (L : List Nat) : Nat → Nat := fun k => L.getD k 0
section ZC
variable {p : Program} {l : Launch} {e : Env} {R : Room} {s : State} {m : MethodId} {args : Array Value} {below : List Frame} {meth : Method} {c : Code} {H : Heap} {locs : List Loc} {cells slots : Nat} {Q : State → Prop}
variable {y : MethodName} {bytes cc : ByteArray} {maxL nL n index pc mc ms : Nat} {ret : Option FieldType} {ws : List Cond} {rm : Room} {Ts : List Cond} {own C host : String} {b : Addr} {As rest st0 : List Value} {ls : Array Slot}
variable {D : va_G} {tys : List (ClassId × FieldType)} {wc ws0 wx wy Rr : va_W} {t : Nat → Nat} {A : Nat → Prop} {fs : List Value} {T : u_T} {NF : Nat} {H0 : Heap}
theorem my_newai {cl : List vw_C} {cI : ClassId} (hexec : p.tables.exec = Jvm.exec) (hb : c.code = cc) (harr : (Cond.arrayClass .int).before args s = true) (hK : va_K D cl tys s) (ht : tys[0]? = some (cI, .int)) (hP : va_P D cl wx H) (hD : va_D A wx) (hS : va_S A H0 H locs) (hA : ∀ q, H0.size ≤ q → A q)
    {n : Int32} {N' : Nat} (hn : ¬ n < 0) (hN : n.toNatClampNeg = N') (hbytes : N' * 4 ≤ 536870912) (hcells : cells + 1 ≤ R.cells) (hslots : slots + N' ≤ R.slots) {at' : ArrayType} (hat : newarray.typeOf at' = .int) (hdg : decode cc pc = .ok (.newarray at', 2))
    (kk : ∀ (q : Nat) (H1 : Heap), va_P D cl (wx ++ [(q, .inl (cI, N', .inl (fun _ => 0)))]) H1 → va_D A (wx ++ [(q, .inl (cI, N', .inl (fun _ => 0)))]) → va_S A H0 H1 locs →
      W p l e R s m args below meth c H1 locs (cells + 1) (slots + N') Q (F0 m (pc + 2) ls (.ref q :: rest))) : W p l e R s m args below meth c H locs cells slots Q (F0 m pc ls (.int n :: rest)) := by
  refine va_newa (a0 := (N', .inl (fun _ => 0))) hexec hb (by rw [hat]; exact harr) hat hK hP hD hS hA (fun cA => rfl) hn hN (by exact hbytes) hcells hslots hdg (fun q cA H1 hK1 hP1 hD1 hS1 => ?_)
  have h1 := (hK1.2 tys.length (cA, .int) (by simp)).2
  have h2 := (hK.2 0 _ ht).2
  have e : cA = cI := Option.some.inj (h1.symm.trans h2)
  subst e
  exact kk q H1 hP1 hD1 hS1
theorem my_newac {cl : List vw_C} {cC : ClassId} (hexec : p.tables.exec = Jvm.exec) (hb : c.code = cc) (harr : (Cond.arrayClass .char).before args s = true) (hK : va_K D cl tys s) (ht : tys[1]? = some (cC, .char)) (hP : va_P D cl wx H) (hD : va_D A wx) (hS : va_S A H0 H locs) (hA : ∀ q, H0.size ≤ q → A q)
    {n : Int32} {N' : Nat} (hn : ¬ n < 0) (hN : n.toNatClampNeg = N') (hbytes : N' * 2 ≤ 536870912) (hcells : cells + 1 ≤ R.cells) (hslots : slots + N' ≤ R.slots) {at' : ArrayType} (hat : newarray.typeOf at' = .char) (hdg : decode cc pc = .ok (.newarray at', 2))
    (kk : ∀ (q : Nat) (H1 : Heap), va_P D cl (wx ++ [(q, .inl (cC, N', .inl (fun _ => 0)))]) H1 → va_D A (wx ++ [(q, .inl (cC, N', .inl (fun _ => 0)))]) → va_S A H0 H1 locs →
      W p l e R s m args below meth c H1 locs (cells + 1) (slots + N') Q (F0 m (pc + 2) ls (.ref q :: rest))) : W p l e R s m args below meth c H locs cells slots Q (F0 m pc ls (.int n :: rest)) := by
  refine va_newa (a0 := (N', .inl (fun _ => 0))) hexec hb (by rw [hat]; exact harr) hat hK hP hD hS hA (fun cA => rfl) hn hN (by exact hbytes) hcells hslots hdg (fun q cA H1 hK1 hP1 hD1 hS1 => ?_)
  have h1 := (hK1.2 tys.length (cA, .char) (by simp)).2
  have h2 := (hK.2 1 _ ht).2
  have e : cA = cC := Option.some.inj (h1.symm.trans h2)
  subst e
  exact kk q H1 hP1 hD1 hS1
theorem my_newaq {cl : List vw_C} {cW : ClassId} (hexec : p.tables.exec = Jvm.exec) (hb : c.code = cc) (hown : s.vm.findClass own = some m.cls) (hclink : (Cond.classLink own index C).before args s = true) (hover : va_AO C s) (hK : va_K D cl tys s) (ht : tys[2]? = some (cW, .object C)) (hP : va_P D cl wx H) (hD : va_D A wx) (hS : va_S A H0 H locs) (hA : ∀ q, H0.size ≤ q → A q)
    {n : Int32} {N' : Nat} (hn : ¬ n < 0) (hN : n.toNatClampNeg = N') (hbytes : N' * 4 ≤ 536870912) (hcells : cells + 1 ≤ R.cells) (hslots : slots + N' ≤ R.slots) (hdg : decode cc pc = .ok (.anewarray index, 3))
    (kk : ∀ (q : Nat) (H1 : Heap), va_P D cl (wx ++ [(q, .inl (cW, N', .inr (.inr (.inr (.inr (fun _ => none))))))]) H1 → va_D A (wx ++ [(q, .inl (cW, N', .inr (.inr (.inr (.inr (fun _ => none))))))]) → va_S A H0 H1 locs →
      W p l e R s m args below meth c H1 locs (cells + 1) (slots + N') Q (F0 m (pc + 3) ls (.ref q :: rest))) : W p l e R s m args below meth c H locs cells slots Q (F0 m pc ls (.int n :: rest)) := by
  refine va_newq hexec hb hown hclink hover hK hP hD hS hA hn hN hbytes hcells hslots hdg (fun q cA H1 hK1 hP1 hD1 hS1 => ?_)
  obtain ⟨k1, c1, -, -, -, h1⟩ := (hK1.2 tys.length (cA, .object C) (by simp)).2
  obtain ⟨k2, c2, -, -, -, h2⟩ := (hK.2 2 _ ht).2
  have e : cA = cW := Option.some.inj (h1.symm.trans h2)
  subst e
  exact kk q H1 hP1 hD1 hS1
/-- a constructor, of a class that its caller names plainly -/
theorem rwI {σ : Type} {wn w1 : σ → va_W} {po : σ → Prop} (hp : ws0.Perm (wc ++ Rr)) (hq : ∀ u, po u → (wn u ++ Rr).Perm (w1 u)) (S : CallFix p m c cc nL s args Ts own) (hM : Met l y ws rm (va_Pc (.ref b :: As) (rwP D tys wc t H.size)) (va_Qv po (fun u => rwB D (va_A wc H.size) (wn u)) (va_A wc H.size)) mc ms (va_A wc H.size)) (cw : CallB R s args own index y bytes maxL none ws rm mc ms n ∧ y.name = "<init>" ∧ (Cond.instanceMethod y).before args s = true)
    (hP : va_P D vwCl ws0 H) (hD : va_D A ws0) (hK : va_K D vwCl tys s) (hX : sx t A s s.heap) (hS : va_S A s.heap H locs) (hA : ∀ q, s.heap.size ≤ q → A q)
    (hn : As.length = n) (hsize : ls.size = nL) (hstack : st0 = As.reverse ++ .ref b :: rest) (hcat : (rest.map fun v => v.category).sum ≤ 8) (hdg : decode cc pc = .ok (.invokespecial index, 3)) (hf : cells + mc ≤ R.cells ∧ slots + ms ≤ R.slots)
    (kk : ∀ (u : σ) (H1 : Heap) (locs1 : List Loc), po u → va_P D vwCl (w1 u) H1 → va_D A (w1 u) → va_S A s.heap H1 locs1 → W p l e R s m args below meth c H1 locs1 (cells + mc) (slots + ms) Q (F0 m (pc + 3) ls rest)) : W p l e R s m args below meth c H locs cells slots Q (F0 m pc ls st0) := by
  have hP2 := vP_perm hp hP
  have hD2 := vD_perm hp hD
  have hPc := vP_l hP2
  have hDc := vD_l hD2
  have hF := fA hDc hS hA
  refine va_callv (va_runI S hM cw ⟨rwP.blind _ D tys wc t H.size, fun U hU hW => ⟨rfl, by rw [hU], by rw [hU]; exact hPc, va_K.moved hW.alike hK, hDc.weaken (fun _ _ _ _ => trivial), hX.to hS hF hU hW⟩⟩ rfl hn hsize hstack (lv_room hcat) hdg hf) hS (fun q _ h => hF q h) hF (fun u T' H1 locs1 ht _ hw hB _ hk1 hS1 => ?_)
  obtain ⟨hP1, hD1⟩ := hB
  rw [ht] at hP1
  obtain ⟨j1, j2⟩ := vjn hP2 hD2 hk1 hF hP1 hD1
  exact kk u H1 locs1 hw (vP_perm (hq u hw) j1) (vD_perm (hq u hw) j2) hS1
/-- a private one of a nest mate -/
theorem rwIN {σ : Type} {wn w1 : σ → va_W} {po : σ → Prop} (hp : ws0.Perm (wc ++ Rr)) (hq : ∀ u, po u → (wn u ++ Rr).Perm (w1 u)) (S : CallFix p m c cc nL s args Ts own) (hM : Met l y ws rm (va_Pc (.ref b :: As) (rwP D tys wc t H.size)) (va_Qv po (fun u => rwB D (va_A wc H.size) (wn u)) (va_A wc H.size)) mc ms (va_A wc H.size)) (cw : va_CN R s args own index y host bytes maxL none ws rm mc ms n ∧ y.name = "<init>" ∧ (Cond.instanceMethod y).before args s = true)
    (hP : va_P D vwCl ws0 H) (hD : va_D A ws0) (hK : va_K D vwCl tys s) (hX : sx t A s s.heap) (hS : va_S A s.heap H locs) (hA : ∀ q, s.heap.size ≤ q → A q)
    (hn : As.length = n) (hsize : ls.size = nL) (hstack : st0 = As.reverse ++ .ref b :: rest) (hcat : (rest.map fun v => v.category).sum ≤ 8) (hdg : decode cc pc = .ok (.invokespecial index, 3)) (hf : cells + mc ≤ R.cells ∧ slots + ms ≤ R.slots)
    (kk : ∀ (u : σ) (H1 : Heap) (locs1 : List Loc), po u → va_P D vwCl (w1 u) H1 → va_D A (w1 u) → va_S A s.heap H1 locs1 → W p l e R s m args below meth c H1 locs1 (cells + mc) (slots + ms) Q (F0 m (pc + 3) ls rest)) : W p l e R s m args below meth c H locs cells slots Q (F0 m pc ls st0) := by
  have hP2 := vP_perm hp hP
  have hD2 := vD_perm hp hD
  have hPc := vP_l hP2
  have hDc := vD_l hD2
  have hF := fA hDc hS hA
  refine va_callv (va_runIN S hM cw ⟨rwP.blind _ D tys wc t H.size, fun U hU hW => ⟨rfl, by rw [hU], by rw [hU]; exact hPc, va_K.moved hW.alike hK, hDc.weaken (fun _ _ _ _ => trivial), hX.to hS hF hU hW⟩⟩ rfl hn hsize hstack (lv_room hcat) hdg hf) hS (fun q _ h => hF q h) hF (fun u T' H1 locs1 ht _ hw hB _ hk1 hS1 => ?_)
  obtain ⟨hP1, hD1⟩ := hB
  rw [ht] at hP1
  obtain ⟨j1, j2⟩ := vjn hP2 hD2 hk1 hF hP1 hD1
  exact kk u H1 locs1 hw (vP_perm (hq u hw) j1) (vD_perm (hq u hw) j2) hS1
/-- a constructor's end -/
theorem rw_cret {σ : Type} {po : σ → Prop} {wn : σ → va_W} (u : σ) (hx : p.tables.exec = Jvm.exec) (hb : c.code = cc) (hr : meth.sig.returnType = none) (hP : va_P D vwCl (wn u) H) (hD : va_D A (wn u)) (hS : va_S A s.heap H locs) (hE : po u) (hdg : decode cc pc = .ok (.return_, 1)) (hlocks : meth.locks = false) :
    W p l e R s m args below meth c H locs mc ms (MQ below (va_Qv po (fun u => rwB D A (wn u)) A) args s mc ms A) (F0 m pc ls []) :=
  W.vret hx hb hr (fun T hT _ => ⟨⟨u, rfl, hE, by rw [hT]; exact hP, hD⟩, hS.F hT⟩) hS.2.2 hdg hlocks
end ZC
