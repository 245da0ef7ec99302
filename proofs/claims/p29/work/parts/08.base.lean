/-! base: the static rows, the nest's words, calls that only read, calls that write, worlds as lists -/
def rchS : Nat → Int32 := fun j => match j with | 0 => 3 | 1 => 0 | 2 => 0 | 3 => 2 | 4 => 5 | _ => 9
def hvyS : Nat → Int32 := fun j => match j with | 0 => 40 | 1 => 30 | 2 => 20 | 3 => 15 | 4 => 8 | _ => 5
def lstS : Nat → Int32 := fun j => match j with | 0 => 0 | 1 => 1 | _ => 0
def grtS : Nat → Int32 := fun j => match j with | 0 => 200 | 1 => 500 | _ => 1
def nwF : List (String × Nat × String × String) := [("PickSlots", 116, "PickSlots$OrderText", "length"), ("PickSlots", 154, "PickSlots$OrderText", "at"), ("PickSlots", 160, "PickSlots$OrderText", "kind"), ("PickSlots", 163, "PickSlots$OrderText", "first"), ("PickSlots", 166, "PickSlots$OrderText", "second"), ("PickSlots$Warehouse", 176, "PickSlots$SortedRow", "size"), ("PickSlots$Warehouse", 126, "PickSlots$Accounts", "pickWalk"), ("PickSlots$Warehouse", 135, "PickSlots$Accounts", "refillWalk"), ("PickSlots$Warehouse", 170, "PickSlots$Accounts", "moveWalk"), ("PickSlots$Warehouse", 132, "PickSlots$Accounts", "trips"), ("PickSlots$Warehouse", 173, "PickSlots$Accounts", "saved"), ("PickSlots$Warehouse", 167, "PickSlots$Accounts", "moves"), ("PickSlots$Warehouse", 123, "PickSlots$Accounts", "picks")]
def nwM : List (String × Nat × MethodName) := [("PickSlots", 17, yX1_init), ("PickSlots", 24, yX3_init), ("PickSlots$Warehouse", 46, yX0_init), ("PickSlots$Warehouse", 86, yX5_isIn), ("PickSlots$Warehouse", 93, yX5_isSeason), ("PickSlots$OrderText", 15, yX5_isIn)]
def nw (U : State) : Prop := (∀ q ∈ nwF, va_Nw (.fieldLinkNest q.1 q.2.1 q.2.2.1 q.2.2.2 "I" "PickSlots") U) ∧ ∀ q ∈ nwM, va_Nw (.methodLinkNest q.1 q.2.1 q.2.2 "PickSlots") U
theorem nw.warm {s U : State} (hW : s.WarmedH U.vm) (h : nw s) : nw U := ⟨fun q hq => va_Nw.warmF hW (h.1 q hq), fun q hq => va_Nw.warmM hW (h.2 q hq)⟩
theorem nw.same {u U : State} (hv : u.vm = U.vm) (h : nw u) : nw U := ⟨fun q hq => va_Nw.same rfl hv (h.1 q hq), fun q hq => va_Nw.same rfl hv (h.2 q hq)⟩
def sx (t : Nat → Nat) (A : Nat → Prop) (U : State) (H : Heap) : Prop :=
  nw U ∧ (va_Z "PickSlots$Slots" "REACHES" "[I" (.ref (t 0)) A U H ∧ va_T .int (t 0) 6 (fun j => .int (rchS j)) A U H) ∧ (va_Z "PickSlots$Slots" "HEAVIEST" "[I" (.ref (t 1)) A U H ∧ va_T .int (t 1) 6 (fun j => .int (hvyS j)) A U H) ∧ (va_Z "PickSlots$Warehouse" "LEAST_SETTINGS" "[I" (.ref (t 2)) A U H ∧ va_T .int (t 2) 3 (fun j => .int (lstS j)) A U H) ∧ (va_Z "PickSlots$Warehouse" "GREATEST_SETTINGS" "[I" (.ref (t 3)) A U H ∧ va_T .int (t 3) 3 (fun j => .int (grtS j)) A U H)
theorem sx.kept {t : Nat → Nat} {A : Nat → Prop} {U : State} {H H1 : Heap} (h : sx t A U H) (hq : ∀ a : Nat, a < H.size → ¬ A a → H1[a]? = H[a]?) : sx t A U H1 :=
  ⟨h.1, ⟨h.2.1.1.kept hq, h.2.1.2.kept hq⟩, ⟨h.2.2.1.1.kept hq, h.2.2.1.2.kept hq⟩, ⟨h.2.2.2.1.1.kept hq, h.2.2.2.1.2.kept hq⟩, ⟨h.2.2.2.2.1.kept hq, h.2.2.2.2.2.kept hq⟩⟩
theorem sx.narrow {t : Nat → Nat} {A B : Nat → Prop} {U : State} {H : Heap} (h : sx t A U H) (hAB : ∀ q, B q → A q) : sx t B U H :=
  ⟨h.1, ⟨h.2.1.1.narrow hAB, h.2.1.2.narrow hAB⟩, ⟨h.2.2.1.1.narrow hAB, h.2.2.1.2.narrow hAB⟩, ⟨h.2.2.2.1.1.narrow hAB, h.2.2.2.1.2.narrow hAB⟩, ⟨h.2.2.2.2.1.narrow hAB, h.2.2.2.2.2.narrow hAB⟩⟩
theorem sx.movedV {t : Nat → Nat} {A : Nat → Prop} {u U : State} {H : Heap} (hn : nw U) (hvm : u.vm.Alike U.vm) (h : sx t A u H) : sx t A U H :=
  ⟨hn, ⟨va_Z.moved hvm h.2.1.1, va_T.moved hvm h.2.1.2⟩, ⟨va_Z.moved hvm h.2.2.1.1, va_T.moved hvm h.2.2.1.2⟩, ⟨va_Z.moved hvm h.2.2.2.1.1, va_T.moved hvm h.2.2.2.1.2⟩, ⟨va_Z.moved hvm h.2.2.2.2.1, va_T.moved hvm h.2.2.2.2.2⟩⟩
theorem sx.warm {t : Nat → Nat} {A : Nat → Prop} {s U : State} {H : Heap} (hW : s.WarmedH U.vm) (h : sx t A s H) : sx t A U H := h.movedV (h.1.warm hW) hW.alike
theorem sx.blind {t : Nat → Nat} {A : Nat → Prop} {U : State} {H : Heap} (h : sx t A U H) (g : JFrame) (mk : MethodId) (a : Array Value) : sx t A (U.calling g mk a) H := h.movedV (u := U) (U := U.calling g mk a) (h.1.same rfl) (Vm.Alike.refl U.vm)
theorem sx.to {t : Nat → Nat} {A B : Nat → Prop} {s U : State} {H : Heap} {locs : List Loc} (h : sx t A s s.heap) (hS : va_S A s.heap H locs) (hAB : ∀ q, B q → A q) (hU : U.heap = H) (hW : s.WarmedH U.vm) : sx t B U U.heap := by
  rw [hU]
  exact ((h.kept hS.2.1).narrow hAB).warm hW
abbrev tyL (cI cC cW : ClassId) : List (ClassId × FieldType) := [(cI, .int), (cC, .char), (cW, .object RX4)]
/-- a reading method's start -/
def roP (D : va_G) (tys : List (ClassId × FieldType)) (ws : va_W) (t : Nat → Nat) : State → Prop := fun U => va_P D vwCl ws U.heap ∧ va_K D vwCl tys U ∧ sx t (fun _ => False) U U.heap
/-- a writing method's start and end -/
def rwP (D : va_G) (tys : List (ClassId × FieldType)) (ws : va_W) (t : Nat → Nat) (sz : Nat) : State → Prop := fun U => U.heap.size = sz ∧ va_P D vwCl ws U.heap ∧ va_K D vwCl tys U ∧ va_D (fun _ => True) ws ∧ sx t (va_A ws sz) U U.heap
def rwB (D : va_G) (A : Nat → Prop) (ws : va_W) : State → Prop := fun u => va_P D vwCl ws u.heap ∧ va_D A ws
theorem roP.blind (av : List Value) (D : va_G) (tys : List (ClassId × FieldType)) (ws : va_W) (t : Nat → Nat) : FrameBlind (va_Pc av (roP D tys ws t)) := fun a U g mk q => ⟨q.1, q.2.1, va_K.moved (u := U) (U := U.calling g mk a) (Vm.Alike.refl U.vm) q.2.2.1, q.2.2.2.blind g mk a⟩
theorem rwP.blind (av : List Value) (D : va_G) (tys : List (ClassId × FieldType)) (ws : va_W) (t : Nat → Nat) (sz : Nat) : FrameBlind (va_Pc av (rwP D tys ws t sz)) := fun a U g mk q => ⟨q.1, q.2.1, q.2.2.1, va_K.moved (u := U) (U := U.calling g mk a) (Vm.Alike.refl U.vm) q.2.2.2.1, q.2.2.2.2.1, q.2.2.2.2.2.blind g mk a⟩
theorem fA {A : Nat → Prop} {ws : va_W} {H0 H : Heap} {locs : List Loc} (hD : va_D A ws) (hS : va_S A H0 H locs) (hA : ∀ q, H0.size ≤ q → A q) : ∀ q, va_A ws H.size q → A q := by
  intro q h
  rcases h with ⟨k, e, h⟩ | h
  · exact hD.2 k (q, e) h
  · exact hA q (Nat.le_trans hS.1 h)
section ZB
variable {p : Program} {l : Launch} {e : Env} {R : Room} {s : State} {m : MethodId} {args : Array Value} {below : List Frame} {meth : Method} {c : Code} {H : Heap} {locs : List Loc} {cells slots : Nat} {Q : State → Prop}
variable {y : MethodName} {bytes cc : ByteArray} {maxL nL n index pc : Nat} {ret : Option FieldType} {ws : List Cond} {rm : Room} {Ts : List Cond} {own C host : String} {b : Addr} {As rest st0 : List Value} {ls : Array Slot}
variable {D : va_G} {tys : List (ClassId × FieldType)} {wc ws0 : va_W} {t : Nat → Nat} {f : Int32} {A : Nat → Prop} {fs : List Value} {T : u_T} {NF : Nat}
/-- a call of a reading method, on an object -/
theorem roV (S : CallFix p m c cc nL s args Ts own) (hM : Met l y ws rm (va_Pc (.ref b :: As) (roP D tys wc t)) (vp_Si (fun r => r = f)) 0 0 (fun _ => False)) (cw : CallW R s args own C index y bytes maxL ret ws rm 0 0 n)
    (hP : va_P D vwCl wc H) (hK : va_K D vwCl tys s) (hX : sx t A s s.heap) (hS : va_S A s.heap H locs) (q0 ci : Nat) (he : wc[q0]? = some (b, .inr (ci, fs))) (hc : vwCl[ci]? = some (C, T, NF))
    (hn : As.length = n) (hsize : ls.size = nL) (hstack : st0 = As.reverse ++ .ref b :: rest) (hcat : (rest.map fun v => v.category).sum ≤ 8) (hdg : decode cc pc = .ok (.invokevirtual index, 3)) (hf : cells ≤ R.cells ∧ slots ≤ R.slots)
    (kk : W p l e R s m args below meth c H locs cells slots Q (F0 m (pc + 3) ls (.int f :: rest))) : W p l e R s m args below meth c H locs cells slots Q (F0 m pc ls st0) :=
  vp_callSi (W.runV S hM cw ⟨roP.blind _ D tys wc t, va_recv hK hP hc he, fun U hU hW => ⟨rfl, by rw [hU]; exact hP, va_K.moved hW.alike hK, hX.to hS (fun _ h => h.elim) hU hW⟩⟩ rfl hn hsize hstack (lv_room hcat) hdg hf) (fun r hr => by rw [hr]; exact kk)
/-- of a static one -/
theorem roS (S : CallFix p m c cc nL s args Ts own) (hM : Met l y ws rm (va_Pc As (roP D tys wc t)) (vp_Si (fun r => r = f)) 0 0 (fun _ => False)) (cw : CallB R s args own index y bytes maxL ret ws rm 0 0 n ∧ (Cond.static y).before args s = true)
    (hP : va_P D vwCl wc H) (hK : va_K D vwCl tys s) (hX : sx t A s s.heap) (hS : va_S A s.heap H locs)
    (hn : As.length = n) (hsize : ls.size = nL) (hstack : st0 = As.reverse ++ rest) (hcat : (rest.map fun v => v.category).sum ≤ 8) (hdg : decode cc pc = .ok (.invokestatic index, 3)) (hf : cells ≤ R.cells ∧ slots ≤ R.slots)
    (kk : W p l e R s m args below meth c H locs cells slots Q (F0 m (pc + 3) ls (.int f :: rest))) : W p l e R s m args below meth c H locs cells slots Q (F0 m pc ls st0) :=
  vp_callSi (W.runS S hM cw ⟨roP.blind _ D tys wc t, fun U hU hW => ⟨rfl, by rw [hU]; exact hP, va_K.moved hW.alike hK, hX.to hS (fun _ h => h.elim) hU hW⟩⟩ rfl hn hsize hstack (lv_room hcat) hdg hf) (fun r hr => by rw [hr]; exact kk)
theorem vP_nil {H : Heap} : va_P D vwCl [] H := fun k q h => by simp at h
/-- a writing method, on an object, over the caller's whole world -/
theorem rwV {σ : Type} {wn : σ → va_W} {f : Int32 × σ} (S : CallFix p m c cc nL s args Ts own) (hM : Met l y ws rm (va_Pc (.ref b :: As) (rwP D tys wc t H.size)) (va_Qi (fun r u => (r, u) = f) (fun u => rwB D (va_A wc H.size) (wn u)) (va_A wc H.size)) 0 0 (va_A wc H.size)) (cw : CallW R s args own C index y bytes maxL ret ws rm 0 0 n)
    (hP : va_P D vwCl wc H) (hD : va_D A wc) (hK : va_K D vwCl tys s) (hX : sx t A s s.heap) (hS : va_S A s.heap H locs) (hA : ∀ q, s.heap.size ≤ q → A q) (q0 ci : Nat) (he : wc[q0]? = some (b, .inr (ci, fs))) (hc : vwCl[ci]? = some (C, T, NF))
    (hn : As.length = n) (hsize : ls.size = nL) (hstack : st0 = As.reverse ++ .ref b :: rest) (hcat : (rest.map fun v => v.category).sum ≤ 8) (hdg : decode cc pc = .ok (.invokevirtual index, 3)) (hf : cells ≤ R.cells ∧ slots ≤ R.slots)
    (kk : ∀ (H1 : Heap) (locs1 : List Loc), va_P D vwCl (wn f.2) H1 → va_D A (wn f.2) → va_S A s.heap H1 locs1 → W p l e R s m args below meth c H1 locs1 cells slots Q (F0 m (pc + 3) ls (.int f.1 :: rest))) : W p l e R s m args below meth c H locs cells slots Q (F0 m pc ls st0) := by
  have hF := fA hD hS hA
  refine va_calli (va_runV S hM cw ⟨rwP.blind _ D tys wc t H.size, va_recv hK hP hc he, fun U hU hW => ⟨rfl, by rw [hU], by rw [hU]; exact hP, va_K.moved hW.alike hK, hD.weaken (fun _ _ _ _ => trivial), hX.to hS hF hU hW⟩⟩ rfl hn hsize hstack (lv_room hcat) hdg hf) hS (fun q _ h => hF q h) hF (fun r u T' H1 locs1 ht _ hw hB _ _ hS1 => ?_)
  subst hw
  obtain ⟨hP1, hD1⟩ := hB
  rw [ht] at hP1
  exact kk H1 locs1 hP1 (hD1.weaken (fun k q _ h => hF q.1 h)) hS1
theorem rwVv {σ : Type} {wn : σ → va_W} {f : σ} (S : CallFix p m c cc nL s args Ts own) (hM : Met l y ws rm (va_Pc (.ref b :: As) (rwP D tys wc t H.size)) (va_Qv (fun u => u = f) (fun u => rwB D (va_A wc H.size) (wn u)) (va_A wc H.size)) 0 0 (va_A wc H.size)) (cw : CallW R s args own C index y bytes maxL ret ws rm 0 0 n)
    (hP : va_P D vwCl wc H) (hD : va_D A wc) (hK : va_K D vwCl tys s) (hX : sx t A s s.heap) (hS : va_S A s.heap H locs) (hA : ∀ q, s.heap.size ≤ q → A q) (q0 ci : Nat) (he : wc[q0]? = some (b, .inr (ci, fs))) (hc : vwCl[ci]? = some (C, T, NF))
    (hn : As.length = n) (hsize : ls.size = nL) (hstack : st0 = As.reverse ++ .ref b :: rest) (hcat : (rest.map fun v => v.category).sum ≤ 8) (hdg : decode cc pc = .ok (.invokevirtual index, 3)) (hf : cells ≤ R.cells ∧ slots ≤ R.slots)
    (kk : ∀ (H1 : Heap) (locs1 : List Loc), va_P D vwCl (wn f) H1 → va_D A (wn f) → va_S A s.heap H1 locs1 → W p l e R s m args below meth c H1 locs1 cells slots Q (F0 m (pc + 3) ls rest)) : W p l e R s m args below meth c H locs cells slots Q (F0 m pc ls st0) := by
  have hF := fA hD hS hA
  refine va_callv (va_runV S hM cw ⟨rwP.blind _ D tys wc t H.size, va_recv hK hP hc he, fun U hU hW => ⟨rfl, by rw [hU], by rw [hU]; exact hP, va_K.moved hW.alike hK, hD.weaken (fun _ _ _ _ => trivial), hX.to hS hF hU hW⟩⟩ rfl hn hsize hstack (lv_room hcat) hdg hf) hS (fun q _ h => hF q h) hF (fun u T' H1 locs1 ht _ hw hB _ _ hS1 => ?_)
  subst hw
  obtain ⟨hP1, hD1⟩ := hB
  rw [ht] at hP1
  exact kk H1 locs1 hP1 (hD1.weaken (fun k q _ h => hF q.1 h)) hS1
/-- stores, the world behind them given -/
theorem my_iast {D : va_G} {cl : List vw_C} {wx wy : va_W} {H0 : Heap} {a : Addr} (hexec : p.tables.exec = Jvm.exec) (hb : c.code = cc) (hK : va_K D cl tys s) (hP : va_P D cl wx H) (hD : va_D A wx) (hS : va_S A H0 H locs) (q0 t0 : Nat) {cA : ClassId} {n : Nat} {f : Nat → Int32} (ha : wx[q0]? = some (a, .inl (cA, n, .inl f))) (ht : tys[t0]? = some (cA, .int)) {i : Int32} {x : Int32} (hset : wx.set q0 (a, .inl (cA, n, .inl (upd f i.toNatClampNeg x))) = wy) (hin : vp_in i n) (hdg : decode cc pc = .ok (.iastore, 1))
    (kk : ∀ (H1 : Heap) (locs1 : List Loc), va_P D cl wy H1 → va_D A wy → va_S A H0 H1 locs1 → W p l e R s m args below meth c H1 locs1 cells slots Q (F0 m (pc + 1) ls rest)) : W p l e R s m args below meth c H locs cells slots Q (F0 m pc ls (.int x :: .int i :: .ref a :: rest)) :=
  va_iast hexec hb hK hP hD hS q0 t0 ha ht hin hdg (fun H1 locs1 h1 h2 h3 => kk H1 locs1 (hset ▸ h1) (hset ▸ h2) h3)
theorem my_put {D : va_G} {cl : List vw_C} {wx wy : va_W} {H0 : Heap} {a : Addr} (hexec : p.tables.exec = Jvm.exec) (hb : c.code = cc) {own ref C : String} {T : u_T} {N ci index : Nat} {Ts : List Cond} (hts : ∀ w ∈ Ts, w.before args s = true) (hin : ∀ w ∈ u_ws C T N, w ∈ Ts) (ty0 : Nat → FieldType) (hty : ∀ k, k < N → parseFieldDescriptor (T k).2.2.1 = some (ty0 k)) (hnm : ∀ a, a < N → ∀ b, b < N → a ≠ b → (T a).2.1 ≠ (T b).2.1) (hown : s.vm.findClass own = some m.cls) (hK : va_K D cl tys s) (hP : va_P D cl wx H) (hD : va_D A wx) (hS0 : va_S A H0 H locs) (q0 : Nat) {fs : List Value} (he : wx[q0]? = some (a, .inr (ci, fs))) (hc : cl[ci]? = some (C, T, N)) (k : Nat) (hk : k < N) (hlink : (Cond.fieldLink own index ref (T k).2.1 (T k).2.2.1).before args s = true) (hsame : ∀ x, s.fieldFound? (T k).1 (T k).2.1 (T k).2.2.1 = some x → s.fieldFound? ref (T k).2.1 (T k).2.2.1 = some x) (hfin : (T k).2.2.2 = false) {ty : FieldType} {v : Value} (hd : parseFieldDescriptor (T k).2.2.1 = some ty) (hn : narrow ty v = v) (hfit : fits ty v = true) (hl : k < fs.length) (hset : wx.set q0 (a, .inr (ci, fs.set k v)) = wy)
    (hdg : decode cc pc = .ok (.putfield index, 3)) (kk : ∀ (H1 : Heap) (locs1 : List Loc), va_P D cl wy H1 → va_D A wy → va_S A H0 H1 locs1 → W p l e R s m args below meth c H1 locs1 cells slots Q (F0 m (pc + 3) ls rest)) : W p l e R s m args below meth c H locs cells slots Q (F0 m pc ls (v :: .ref a :: rest)) :=
  va_put hexec hb hts hin ty0 hty hnm hown hK hP hD hS0 q0 he hc k hk hlink hsame hfin hd hn hfit hl hdg (fun H1 locs1 h1 h2 h3 => kk H1 locs1 (hset ▸ h1) (hset ▸ h2) h3)
theorem my_putN {D : va_G} {cl : List vw_C} {wx wy : va_W} {H0 : Heap} {a : Addr} (hexec : p.tables.exec = Jvm.exec) (hb : c.code = cc) {own ref C host : String} {T : u_T} {N ci index : Nat} {Ts : List Cond} (hts : ∀ w ∈ Ts, w.before args s = true) (hin : ∀ w ∈ u_ws C T N, w ∈ Ts) (ty0 : Nat → FieldType) (hty : ∀ k, k < N → parseFieldDescriptor (T k).2.2.1 = some (ty0 k)) (hnm : ∀ a, a < N → ∀ b, b < N → a ≠ b → (T a).2.1 ≠ (T b).2.1) (hown : s.vm.findClass own = some m.cls) (hK : va_K D cl tys s) (hP : va_P D cl wx H) (hD : va_D A wx) (hS0 : va_S A H0 H locs) (q0 : Nat) {fs : List Value} (he : wx[q0]? = some (a, .inr (ci, fs))) (hc : cl[ci]? = some (C, T, N)) (k : Nat) (hk : k < N) (hlink : (Cond.fieldLinkNest own index ref (T k).2.1 (T k).2.2.1 host).before args s = true) (hsame : ∀ x, s.fieldFound? (T k).1 (T k).2.1 (T k).2.2.1 = some x → s.fieldFound? ref (T k).2.1 (T k).2.2.1 = some x) (hfin : (T k).2.2.2 = false) {ty : FieldType} {v : Value} (hd : parseFieldDescriptor (T k).2.2.1 = some ty) (hn : narrow ty v = v) (hfit : fits ty v = true) (hl : k < fs.length) (hset : wx.set q0 (a, .inr (ci, fs.set k v)) = wy)
    (hdg : decode cc pc = .ok (.putfield index, 3)) (kk : ∀ (H1 : Heap) (locs1 : List Loc), va_P D cl wy H1 → va_D A wy → va_S A H0 H1 locs1 → W p l e R s m args below meth c H1 locs1 cells slots Q (F0 m (pc + 3) ls rest)) : W p l e R s m args below meth c H locs cells slots Q (F0 m pc ls (v :: .ref a :: rest)) :=
  va_putN hexec hb hts hin ty0 hty hnm hown hK hP hD hS0 q0 he hc k hk hlink hsame hfin hd hn hfit hl hdg (fun H1 locs1 h1 h2 h3 => kk H1 locs1 (hset ▸ h1) (hset ▸ h2) h3)
end ZB
section ZC
variable {p : Program} {l : Launch} {e : Env} {R : Room} {s : State} {m : MethodId} {args : Array Value} {below : List Frame} {meth : Method} {c : Code} {H : Heap} {locs : List Loc} {cells slots : Nat} {Q : State → Prop}
variable {y : MethodName} {bytes cc : ByteArray} {maxL nL n index pc : Nat} {ret : Option FieldType} {ws : List Cond} {rm : Room} {Ts : List Cond} {own C host : String} {b : Addr} {As rest st0 : List Value} {ls : Array Slot}
variable {D : va_G} {tys : List (ClassId × FieldType)} {wc ws0 : va_W} {t : Nat → Nat} {f : Int32} {A : Nat → Prop}
/-- a reading static method of a nest mate -/
theorem roSN (S : CallFix p m c cc nL s args Ts own) (hM : Met l y ws rm (va_Pc As (roP D tys wc t)) (vp_Si (fun r => r = f)) 0 0 (fun _ => False)) (cw : va_CN R s args own index y host bytes maxL ret ws rm 0 0 n) (hst : (Cond.static y).before args s = true)
    (hP : va_P D vwCl wc H) (hK : va_K D vwCl tys s) (hX : sx t A s s.heap) (hS : va_S A s.heap H locs)
    (hn : As.length = n) (hsize : ls.size = nL) (hstack : st0 = As.reverse ++ rest) (hcat : (rest.map fun v => v.category).sum ≤ 8) (hdg : decode cc pc = .ok (.invokestatic index, 3)) (hf : cells ≤ R.cells ∧ slots ≤ R.slots)
    (kk : W p l e R s m args below meth c H locs cells slots Q (F0 m (pc + 3) ls (.int f :: rest))) : W p l e R s m args below meth c H locs cells slots Q (F0 m pc ls st0) := by
  intro Tt hT X
  obtain ⟨v, st₀, t1, T', L, h0, X', hL, e1, -, ⟨r, hv, hp, hh⟩, st⟩ := va_runSN (g := F0 m pc ls st0) S hM ⟨cw, hst, True.intro⟩ ⟨roP.blind _ D tys wc t, fun U hU hW => ⟨rfl, by rw [hU]; exact hP, va_K.moved hW.alike hK, hX.to hS (fun _ h => h.elim) hU hW⟩⟩ rfl hn hsize hstack (lv_room hcat) hdg hf Tt hT X
  cases hv
  subst hp
  obtain ⟨t2, a1, b1⟩ := kk T' (by rw [e1, hh, h0]) (Stand.forget X' (fun q h => (hL q h).elim))
  exact ⟨t2, st t2 a1, b1⟩
end ZC
abbrev ix (x : Int32) : Nat := x.toNatClampNeg
section ZR
variable {p : Program} {l : Launch} {e : Env} {R : Room} {s : State} {m : MethodId} {args : Array Value} {below : List Frame} {meth : Method} {c : Code} {H : Heap} {locs : List Loc} {Q : State → Prop}
variable {cc : ByteArray} {pc : Nat} {ls : Array Slot} {D : va_G} {A : Nat → Prop}
theorem ro_ret {v f : Int32} (hx : p.tables.exec = Jvm.exec) (hb : c.code = cc) (hr : meth.sig.returnType = some .int) (hE : f = v) (hdg : decode cc pc = .ok (.ireturn, 1)) (hlocks : meth.locks = false) : W p l e R s m args below meth c s.heap [] 0 0 (MQ below (vp_Si (fun r => r = f)) args s 0 0 (fun _ => False)) (F0 m pc ls [.int v]) :=
  W.iret hx hb hr (fun _ hT _ => ⟨v, rfl, hE.symm, hT⟩) (fun _ h => absurd h List.not_mem_nil) hdg hlocks
theorem ro_zret {v f : Int32} {ty : FieldType} (hx : p.tables.exec = Jvm.exec) (hb : c.code = cc) (hr : meth.sig.returnType = some ty) (hn : narrow ty (.int v) = .int v) (hE : f = v) (hdg : decode cc pc = .ok (.ireturn, 1)) (hlocks : meth.locks = false) : W p l e R s m args below meth c s.heap [] 0 0 (MQ below (vp_Si (fun r => r = f)) args s 0 0 (fun _ => False)) (F0 m pc ls [.int v]) :=
  W.zret hx hb hr hn (fun _ hT _ => ⟨v, rfl, hE.symm, hT⟩) (fun _ h => absurd h List.not_mem_nil) hdg hlocks
theorem rw_ret {σ : Type} {wn : σ → va_W} (u : σ) {v : Int32} {f : Int32 × σ} (hx : p.tables.exec = Jvm.exec) (hb : c.code = cc) (hr : meth.sig.returnType = some .int) (hP : va_P D vwCl (wn u) H) (hD : va_D A (wn u)) (hS : va_S A s.heap H locs) (hE : f = (v, u)) (hdg : decode cc pc = .ok (.ireturn, 1)) (hlocks : meth.locks = false) :
    W p l e R s m args below meth c H locs 0 0 (MQ below (va_Qi (fun (r : Int32) (u : σ) => (r, u) = f) (fun u => rwB D A (wn u)) A) args s 0 0 A) (F0 m pc ls [.int v]) :=
  W.iret hx hb hr (fun T hT _ => ⟨⟨v, u, rfl, hE.symm, by rw [hT]; exact hP, hD⟩, hS.F hT⟩) hS.2.2 hdg hlocks
theorem rw_zret {σ : Type} {wn : σ → va_W} (u : σ) {v : Int32} {f : Int32 × σ} {ty : FieldType} (hx : p.tables.exec = Jvm.exec) (hb : c.code = cc) (hr : meth.sig.returnType = some ty) (hn : narrow ty (.int v) = .int v) (hP : va_P D vwCl (wn u) H) (hD : va_D A (wn u)) (hS : va_S A s.heap H locs) (hE : f = (v, u)) (hdg : decode cc pc = .ok (.ireturn, 1)) (hlocks : meth.locks = false) :
    W p l e R s m args below meth c H locs 0 0 (MQ below (va_Qi (fun (r : Int32) (u : σ) => (r, u) = f) (fun u => rwB D A (wn u)) A) args s 0 0 A) (F0 m pc ls [.int v]) :=
  W.zret hx hb hr hn (fun T hT _ => ⟨⟨v, u, rfl, hE.symm, by rw [hT]; exact hP, hD⟩, hS.F hT⟩) hS.2.2 hdg hlocks
theorem rw_vret {σ : Type} {wn : σ → va_W} (u : σ) {f : σ} (hx : p.tables.exec = Jvm.exec) (hb : c.code = cc) (hr : meth.sig.returnType = none) (hP : va_P D vwCl (wn u) H) (hD : va_D A (wn u)) (hS : va_S A s.heap H locs) (hE : f = u) (hdg : decode cc pc = .ok (.return_, 1)) (hlocks : meth.locks = false) :
    W p l e R s m args below meth c H locs 0 0 (MQ below (va_Qv (fun (u : σ) => u = f) (fun u => rwB D A (wn u)) A) args s 0 0 A) (F0 m pc ls []) :=
  W.vret hx hb hr (fun T hT _ => ⟨⟨u, rfl, hE.symm, by rw [hT]; exact hP, hD⟩, hS.F hT⟩) hS.2.2 hdg hlocks
theorem my_cast {D : va_G} {cl : List vw_C} {tys : List (ClassId × FieldType)} {wx wy : va_W} {H0 : Heap} {a : Addr} {rest : List Value} {cells slots : Nat} (hexec : p.tables.exec = Jvm.exec) (hb : c.code = cc) (hK : va_K D cl tys s) (hP : va_P D cl wx H) (hD : va_D A wx) (hS : va_S A H0 H locs) (q0 t0 : Nat) {cA : ClassId} {n : Nat} {f : Nat → Int32} (ha : wx[q0]? = some (a, .inl (cA, n, .inl f))) (ht : tys[t0]? = some (cA, .char)) {i : Int32} {x : Int32} (hset : wx.set q0 (a, .inl (cA, n, .inl (upd f i.toNatClampNeg (vp_nar .char x)))) = wy) (hin : vp_in i n) (hdg : decode cc pc = .ok (.castore, 1))
    (kk : ∀ (H1 : Heap) (locs1 : List Loc), va_P D cl wy H1 → va_D A wy → va_S A H0 H1 locs1 → W p l e R s m args below meth c H1 locs1 cells slots Q (F0 m (pc + 1) ls rest)) : W p l e R s m args below meth c H locs cells slots Q (F0 m pc ls (.int x :: .int i :: .ref a :: rest)) :=
  va_cast hexec hb hK hP hD hS q0 t0 ha ht hin hdg (fun H1 locs1 h1 h2 h3 => kk H1 locs1 (hset ▸ h1) (hset ▸ h2) h3)
theorem lv_top_eq {x y : Int32} {rest : List Value} {cells slots : Nat} (h : x = y) (k : W p l e R s m args below meth c H locs cells slots Q (F0 m pc ls (.int y :: rest))) : W p l e R s m args below meth c H locs cells slots Q (F0 m pc ls (.int x :: rest)) := h ▸ k
end ZR
section ZD
variable {p : Program} {l : Launch} {e : Env} {R : Room} {s : State} {m : MethodId} {args : Array Value} {below : List Frame} {meth : Method} {c : Code} {H : Heap} {locs : List Loc} {cells slots : Nat} {Q : State → Prop}
variable {y : MethodName} {bytes cc : ByteArray} {maxL nL n index pc : Nat} {ret : Option FieldType} {ws : List Cond} {rm : Room} {Ts : List Cond} {own C host : String} {As rest st0 : List Value} {ls : Array Slot}
variable {D : va_G} {tys : List (ClassId × FieldType)} {wc ws0 : va_W} {t : Nat → Nat} {A : Nat → Prop}
theorem my_ialdK {D : va_G} {cl : List vw_C} {wx : va_W} {a : Addr} {k : Nat} (hexec : p.tables.exec = Jvm.exec) (hb : c.code = cc) (hK : va_K D cl tys s) (hP : va_P D cl wx H) (q0 t0 : Nat) {cA : ClassId} {n : Nat} {f : Nat → Int32} (ha : wx[q0]? = some (a, .inl (cA, n, .inl f))) (ht : tys[t0]? = some (cA, .int)) {i : Int32} (hk : i.toNatClampNeg = k) (hin : vp_in i n) (hdg : decode cc pc = .ok (.iaload, 1))
    (kk : W p l e R s m args below meth c H locs cells slots Q (F0 m (pc + 1) ls (.int (f k) :: rest))) : W p l e R s m args below meth c H locs cells slots Q (F0 m pc ls (.int i :: .ref a :: rest)) :=
  va_iald hexec hb hK hP q0 t0 ha ht hin hdg (by rw [hk]; exact kk)
theorem my_iastK {D : va_G} {cl : List vw_C} {wx wy : va_W} {H0 : Heap} {a : Addr} {k : Nat} (hexec : p.tables.exec = Jvm.exec) (hb : c.code = cc) (hK : va_K D cl tys s) (hP : va_P D cl wx H) (hD : va_D A wx) (hS : va_S A H0 H locs) (q0 t0 : Nat) {cA : ClassId} {n : Nat} {f : Nat → Int32} (ha : wx[q0]? = some (a, .inl (cA, n, .inl f))) (ht : tys[t0]? = some (cA, .int)) {i : Int32} {x : Int32} (hk : i.toNatClampNeg = k) (hset : wx.set q0 (a, .inl (cA, n, .inl (upd f k x))) = wy) (hin : vp_in i n) (hdg : decode cc pc = .ok (.iastore, 1))
    (kk : ∀ (H1 : Heap) (locs1 : List Loc), va_P D cl wy H1 → va_D A wy → va_S A H0 H1 locs1 → W p l e R s m args below meth c H1 locs1 cells slots Q (F0 m (pc + 1) ls rest)) : W p l e R s m args below meth c H locs cells slots Q (F0 m pc ls (.int x :: .int i :: .ref a :: rest)) :=
  my_iast hexec hb hK hP hD hS q0 t0 ha ht (by rw [hk]; exact hset) hin hdg kk
/-- a writing static method, over the caller's whole world -/
theorem rwSv {σ : Type} {wn : σ → va_W} {f : σ} (S : CallFix p m c cc nL s args Ts own) (hM : Met l y ws rm (va_Pc As (rwP D tys wc t H.size)) (va_Qv (fun u => u = f) (fun u => rwB D (va_A wc H.size) (wn u)) (va_A wc H.size)) 0 0 (va_A wc H.size)) (cw : CallB R s args own index y bytes maxL ret ws rm 0 0 n ∧ (Cond.static y).before args s = true)
    (hP : va_P D vwCl wc H) (hD : va_D A wc) (hK : va_K D vwCl tys s) (hX : sx t A s s.heap) (hS : va_S A s.heap H locs) (hA : ∀ q, s.heap.size ≤ q → A q)
    (hn : As.length = n) (hsize : ls.size = nL) (hstack : st0 = As.reverse ++ rest) (hcat : (rest.map fun v => v.category).sum ≤ 8) (hdg : decode cc pc = .ok (.invokestatic index, 3)) (hf : cells ≤ R.cells ∧ slots ≤ R.slots)
    (kk : ∀ (H1 : Heap) (locs1 : List Loc), va_P D vwCl (wn f) H1 → va_D A (wn f) → va_S A s.heap H1 locs1 → W p l e R s m args below meth c H1 locs1 cells slots Q (F0 m (pc + 3) ls rest)) : W p l e R s m args below meth c H locs cells slots Q (F0 m pc ls st0) := by
  have hF := fA hD hS hA
  refine va_callv (va_runS S hM cw ⟨rwP.blind _ D tys wc t H.size, fun U hU hW => ⟨rfl, by rw [hU], by rw [hU]; exact hP, va_K.moved hW.alike hK, hD.weaken (fun _ _ _ _ => trivial), hX.to hS hF hU hW⟩⟩ rfl hn hsize hstack (lv_room hcat) hdg hf) hS (fun q _ h => hF q h) hF (fun u T' H1 locs1 ht _ hw hB _ _ hS1 => ?_)
  subst hw
  obtain ⟨hP1, hD1⟩ := hB
  rw [ht] at hP1
  exact kk H1 locs1 hP1 (hD1.weaken (fun k q _ h => hF q.1 h)) hS1
end ZD
