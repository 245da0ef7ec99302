/-! the law: rules of its calls, its world, its digest -/
def dv (cI : ClassId) (dd : Nat) (d : Nat → Int32) : va_W := [(dd, .inl (cI, 20, .inl d))]
section ZV
variable {cI cC cW : ClassId} {h : Nat → Nat} {W : Nat → va_H} {S q V : Nat → Int32} {z : Int32} {U : Nat → Int32} {y : Int32} {I d f : Nat → Int32} {dd : Nat}
theorem dv_at : (ps cI cC cW h W S q V z U y I ++ dv cI dd d)[80]? = some (dd, .inl (cI, 20, .inl d)) := rfl
theorem dv_set : (ps cI cC cW h W S q V z U y I ++ dv cI dd d).set 80 (dd, .inl (cI, 20, .inl f)) = ps cI cC cW h W S q V z U y I ++ dv cI dd f := rfl
end ZV
/-- all but the trial's contents -/
def FR (Y Y' : Nat → va_H) : Prop := ∀ i, i ≠ 5 → Y' i = Y i
theorem FR.rf {Y : Nat → va_H} : FR Y Y := fun _ _ => rfl
theorem FR.tr {a b c : Nat → va_H} (h1 : FR a b) (h2 : FR b c) : FR a c := fun i hi => (h2 i hi).trans (h1 i hi)
theorem FR.n4 {a b : Nat → va_H} (h : FR a b) : b 4 = a 4 := h 4 (by decide)
theorem FR.sf {a b : Nat → va_H} (h : FR a b) (hs : sfN (a 4).2.1) : sfN (b 4).2.1 := by rw [h.n4]; exact hs
theorem lcmp0 {x : Int64} : lg_cmp x x = 0 := by unfold lg_cmp; simp
def upF (x m : Int32) : Int32 := (x &&& 2147483647) - (x &&& 2147483647) / m * m
section RB
variable {p : Program} {l : Launch} {e : Env} {R : Room} {s : State} {m : MethodId} {args : Array Value} {below : List Frame} {meth : Method} {c : Code} {H : Heap} {locs : List Loc} {cells slots : Nat} {Q : State → Prop}
variable {y : MethodName} {bytes cc : ByteArray} {maxL nL n index pc : Nat} {ret : Option FieldType} {ws : List Cond} {rm : Room} {Ts : List Cond} {own C : String} {b : Addr} {As rest st0 : List Value} {ls : Array Slot}
variable {D : va_G} {tys : List (ClassId × FieldType)} {wc ws0 Rr : va_W} {t : Nat → Nat} {A : Nat → Prop} {fs : List Value} {T : u_T} {NF : Nat}
/-- a writing method over a part of the world, what it answers and leaves being known -/
theorem rwVse {σ : Type} {wn w1 : σ → va_W} {f : Int32 × σ} {r0 : Int32} {u0 : σ} (he0 : f = (r0, u0)) (hp : ws0.Perm (wc ++ Rr)) (hq : ∀ u, (wn u ++ Rr).Perm (w1 u)) (S : CallFix p m c cc nL s args Ts own) (hM : Met l y ws rm (va_Pc (.ref b :: As) (rwP D tys wc t H.size)) (va_Qi (fun r u => (r, u) = f) (fun u => rwB D (va_A wc H.size) (wn u)) (va_A wc H.size)) 0 0 (va_A wc H.size)) (cw : CallW R s args own C index y bytes maxL ret ws rm 0 0 n)
    (hP : va_P D vwCl ws0 H) (hD : va_D A ws0) (hK : va_K D vwCl tys s) (hX : sx t A s s.heap) (hS : va_S A s.heap H locs) (hA : ∀ q, s.heap.size ≤ q → A q) (q0 ci : Nat) (he : wc[q0]? = some (b, .inr (ci, fs))) (hc : vwCl[ci]? = some (C, T, NF))
    (hn : As.length = n) (hsize : ls.size = nL) (hstack : st0 = As.reverse ++ .ref b :: rest) (hcat : (rest.map fun v => v.category).sum ≤ 8) (hdg : decode cc pc = .ok (.invokevirtual index, 3)) (hf : cells ≤ R.cells ∧ slots ≤ R.slots)
    (kk : ∀ (H1 : Heap) (locs1 : List Loc), va_P D vwCl (w1 u0) H1 → va_D A (w1 u0) → va_S A s.heap H1 locs1 → W p l e R s m args below meth c H1 locs1 cells slots Q (F0 m (pc + 3) ls (.int r0 :: rest))) : W p l e R s m args below meth c H locs cells slots Q (F0 m pc ls st0) := by
  subst he0
  exact rwVs hp hq S hM cw hP hD hK hX hS hA q0 ci he hc hn hsize hstack hcat hdg hf kk
/-- a reading static method that answers a long -/
theorem roSl {f : Int64} (S : CallFix p m c cc nL s args Ts own) (hM : Met l y ws rm (va_Pc As (roP D tys wc t)) (vp_Sl (fun r => r = f)) 0 0 (fun _ => False)) (cw : CallB R s args own index y bytes maxL ret ws rm 0 0 n ∧ (Cond.static y).before args s = true)
    (hP : va_P D vwCl wc H) (hK : va_K D vwCl tys s) (hX : sx t A s s.heap) (hS : va_S A s.heap H locs)
    (hn : As.length = n) (hsize : ls.size = nL) (hstack : st0 = As.reverse ++ rest) (hcat : (rest.map fun v => v.category).sum ≤ 8) (hdg : decode cc pc = .ok (.invokestatic index, 3)) (hf : cells ≤ R.cells ∧ slots ≤ R.slots)
    (kk : W p l e R s m args below meth c H locs cells slots Q (F0 m (pc + 3) ls (.long f :: rest))) : W p l e R s m args below meth c H locs cells slots Q (F0 m pc ls st0) :=
  vp_callSl (W.runS S hM cw ⟨roP.blind _ D tys wc t, fun U hU hW => ⟨rfl, by rw [hU]; exact hP, va_K.moved hW.alike hK, hX.to hS (fun _ h => h.elim) hU hW⟩⟩ rfl hn hsize hstack (lv_room hcat) hdg hf) (fun r hr => by rw [hr]; exact kk)
/-- a reading static method of whose answer something is known -/
theorem roSr {P : Int32 → Prop} (S : CallFix p m c cc nL s args Ts own) (hM : Met l y ws rm (va_Pc As (roP D tys wc t)) (vp_Si P) 0 0 (fun _ => False)) (cw : CallB R s args own index y bytes maxL ret ws rm 0 0 n ∧ (Cond.static y).before args s = true)
    (hP : va_P D vwCl wc H) (hK : va_K D vwCl tys s) (hX : sx t A s s.heap) (hS : va_S A s.heap H locs)
    (hn : As.length = n) (hsize : ls.size = nL) (hstack : st0 = As.reverse ++ rest) (hcat : (rest.map fun v => v.category).sum ≤ 8) (hdg : decode cc pc = .ok (.invokestatic index, 3)) (hf : cells ≤ R.cells ∧ slots ≤ R.slots)
    (kk : ∀ r : Int32, P r → W p l e R s m args below meth c H locs cells slots Q (F0 m (pc + 3) ls (.int r :: rest))) : W p l e R s m args below meth c H locs cells slots Q (F0 m pc ls st0) :=
  vp_callSi (W.runS S hM cw ⟨roP.blind _ D tys wc t, fun U hU hW => ⟨rfl, by rw [hU]; exact hP, va_K.moved hW.alike hK, hX.to hS (fun _ h => h.elim) hU hW⟩⟩ rfl hn hsize hstack (lv_room hcat) hdg hf) (fun r hr => kk r hr)
/-- a writing static method over a part of the world -/
theorem rwSr {σ : Type} {wn w1 : σ → va_W} {po : Int32 → σ → Prop} (hp : ws0.Perm (wc ++ Rr)) (hq : ∀ u, (wn u ++ Rr).Perm (w1 u)) (S : CallFix p m c cc nL s args Ts own) (hM : Met l y ws rm (va_Pc As (rwP D tys wc t H.size)) (va_Qi po (fun u => rwB D (va_A wc H.size) (wn u)) (va_A wc H.size)) 0 0 (va_A wc H.size)) (cw : CallB R s args own index y bytes maxL ret ws rm 0 0 n ∧ (Cond.static y).before args s = true)
    (hP : va_P D vwCl ws0 H) (hD : va_D A ws0) (hK : va_K D vwCl tys s) (hX : sx t A s s.heap) (hS : va_S A s.heap H locs) (hA : ∀ q, s.heap.size ≤ q → A q)
    (hn : As.length = n) (hsize : ls.size = nL) (hstack : st0 = As.reverse ++ rest) (hcat : (rest.map fun v => v.category).sum ≤ 8) (hdg : decode cc pc = .ok (.invokestatic index, 3)) (hf : cells ≤ R.cells ∧ slots ≤ R.slots)
    (kk : ∀ (r : Int32) (u : σ) (H1 : Heap) (locs1 : List Loc), po r u → va_P D vwCl (w1 u) H1 → va_D A (w1 u) → va_S A s.heap H1 locs1 → W p l e R s m args below meth c H1 locs1 cells slots Q (F0 m (pc + 3) ls (.int r :: rest))) : W p l e R s m args below meth c H locs cells slots Q (F0 m pc ls st0) := by
  have hP2 := vP_perm hp hP
  have hD2 := vD_perm hp hD
  have hPc := vP_l hP2
  have hDc := vD_l hD2
  have hF := fA hDc hS hA
  refine va_calli (va_runS S hM cw ⟨rwP.blind _ D tys wc t H.size, fun U hU hW => ⟨rfl, by rw [hU], by rw [hU]; exact hPc, va_K.moved hW.alike hK, hDc.weaken (fun _ _ _ _ => trivial), hX.to hS hF hU hW⟩⟩ rfl hn hsize hstack (lv_room hcat) hdg hf) hS (fun q _ h => hF q h) hF (fun r u T' H1 locs1 ht _ hw hB _ hk1 hS1 => ?_)
  obtain ⟨hP1, hD1⟩ := hB
  rw [ht] at hP1
  obtain ⟨j1, j2⟩ := vjn hP2 hD2 hk1 hF hP1 hD1
  exact kk r u H1 locs1 hw (vP_perm (hq u) j1) (vD_perm (hq u) j2) hS1
/-- what cell reads: the script -/
def cellP (b L : Nat) (xs : Nat → Int32) : State → Prop := fun U => va_X b L xs U U.heap ∧ b < U.heap.size
theorem cellP.blind (av : List Value) (b L : Nat) (xs : Nat → Int32) : FrameBlind (va_Pc av (cellP b L xs)) := fun a U g mk q => ⟨q.1, va_X.moved (u := U) (U := U.calling g mk a) (Vm.Alike.refl U.vm) q.2.1, q.2.2⟩
theorem cellC {b0 L : Nat} {xs : Nat → Int32} (S : CallFix p m c cc nL s args Ts own) (hM : Met l y ws rm (va_Pc As (cellP b0 L xs)) (vp_Si (fun _ => True)) 0 0 (fun _ => False)) (cw : CallB R s args own index y bytes maxL ret ws rm 0 0 n ∧ (Cond.static y).before args s = true)
    (hXs : va_X b0 L xs s s.heap) (hbl : b0 < s.heap.size) (hbA : ¬ A b0) (hS : va_S A s.heap H locs)
    (hn : As.length = n) (hsize : ls.size = nL) (hstack : st0 = As.reverse ++ rest) (hcat : (rest.map fun v => v.category).sum ≤ 8) (hdg : decode cc pc = .ok (.invokestatic index, 3)) (hf : cells ≤ R.cells ∧ slots ≤ R.slots)
    (kk : ∀ r : Int32, W p l e R s m args below meth c H locs cells slots Q (F0 m (pc + 3) ls (.int r :: rest))) : W p l e R s m args below meth c H locs cells slots Q (F0 m pc ls st0) :=
  vp_callSi (W.runS S hM cw ⟨cellP.blind _ b0 L xs, fun U hU hW => ⟨rfl, by rw [hU]; exact va_X.moved hW.alike (hXs.kept (hS.2.1 b0 hbl hbA)), by rw [hU]; exact Nat.lt_of_lt_of_le hbl hS.1⟩⟩ rfl hn hsize hstack (lv_room hcat) hdg hf) (fun r _ => kk r)
end RB
/-- the digest of all that is told -/
def mk1 (a c : Nat → Int32) : Nat → Int64
  | 0 => 17
  | i + 1 => 31 * (31 * mk1 a c i + (a i).toInt64) + (c i).toInt64
def mk2 (v : Int64) (c : Nat → Int32) : Nat → Int64
  | 0 => v
  | i + 1 => 31 * mk2 v c i + (c (20 + i)).toInt64
def mk3 (v : Int64) (f : Nat → Int32) : Nat → Int64
  | 0 => v
  | i + 1 => 31 * mk3 v f i + (f i).toInt64
def mk4 (v : Int64) (f : Nat → Nat → Int32) : Nat → Int64
  | 0 => v
  | i + 1 => mk3 (mk4 v f i) (f i) 11
def mA (N G : Nat → Int32) (k : Nat) : Int32 := sp_X4_numberOfAccount N G (nI k)
def mC (N G : Nat → Int32) (k : Nat) : Int32 := sp_X4_numberOfWarehouse N G (nI k)
def mG (N G : Nat → Int32) (g k : Nat) : Int32 := sp_X4_numberOfGood N G (nI g) (nI k)
def mrk (N G : Nat → Int32) : Int64 := mk4 (mk2 (mk1 (mA N G) (mC N G) 8) (mC N G) 3) (mG N G) (N 0).toInt.toNat
section CT
variable {Y : Nat → va_H} {S q V : Nat → Int32} {z : Int32} {U : Nat → Int32} {y : Int32} {I : Nat → Int32}
theorem cnt0 : sp_X5_count Y S q V z U y I (0 : Int32) = (Y 4).2.1 0 := by
  unfold sp_X5_count
  rw [if_neg (by decide), if_neg (by decide)]
  rfl
theorem cnt8 : sp_X5_count Y S q V z U y I (8 : Int32) = I 0 := by
  unfold sp_X5_count
  rw [if_pos rfl]
theorem cntk {x : Int32} (h8 : ¬ x = 8) (h9 : ¬ x = 9) : sp_X5_count Y S q V z U y I x = sp_X4_numberOfWarehouse (Y 4).2.1 (Y 4).2.2 x := by
  unfold sp_X5_count
  rw [if_neg h8, if_neg h9]
theorem cntI {k : Nat} (hk : k < 1000) (h8 : k ≠ 8) (h9 : k ≠ 9) : sp_X5_count Y S q V z U y I (nI k) = mC (Y 4).2.1 (Y 4).2.2 k :=
  cntk (fun q => h8 (nI_inj hk (by omega) q)) (fun q => h9 (nI_inj hk (by omega) q))
end CT
theorem nIge {i k : Nat} (hi : i < 1000) (hk : k < 1000) (c : nI k ≤ nI i) : k ≤ i := by rw [le_toInt, tI hi, tI hk] at c; omega
theorem nIlt {i k : Nat} (hi : i < 1000) (hk : k < 1000) (c : ¬ nI k ≤ nI i) : i < k := by rw [le_toInt, tI hi, tI hk] at c; omega
theorem nN {N : Nat → Int32} (hs : sfN N) : ∃ n : Nat, n ≤ 20 ∧ N 0 = nI n ∧ (N 0).toInt.toNat = n ∧ (N 0).toInt = (n : Int) := by
  obtain ⟨k, hk, e⟩ := nat_of (x := N 0) (n := 20) hs.1 (by have := hs.2.1; omega)
  exact ⟨k, hk, e, by rw [e, tI (by omega)]; omega, by rw [e, tI (by omega)]⟩
