/-! a warehouse with its contents named one by one; calls with a postcondition over a part of the world -/
def dg (cI : ClassId) (a : Nat → Nat) (f1 f2 f3 f4 f5 f6 f7 f8 f9 f10 : Nat → Int32) (x0 x1 x2 x3 x4 x5 x6 g w : Int32) : va_W := [(a 0, .inr (3, [.ref (a 1), .ref (a 2), .ref (a 3), .ref (a 4), .ref (a 5), .ref (a 6), .ref (a 7), .ref (a 8), .ref (a 9), .ref (a 10), .ref (a 11), .int g, .int w])), (a 1, .inl (cI, 20, .inl f1)), (a 2, .inl (cI, 20, .inl f2)), (a 3, .inl (cI, 80, .inl f3)), (a 4, .inl (cI, 20, .inl f4)), (a 5, .inl (cI, 20, .inl f5)), (a 6, .inl (cI, 20, .inl f6)), (a 7, .inl (cI, 20, .inl f7)), (a 8, .inl (cI, 20, .inl f8)), (a 9, .inl (cI, 60, .inl f9)), (a 10, .inl (cI, 3, .inl f10)), (a 11, .inr (0, [.int x0, .int x1, .int x2, .int x3, .int x4, .int x5, .int x6]))]
theorem wg_dg {cI : ClassId} {a : Nat → Nat} {N G : Nat → Int32} : wg cI a N G = dg cI a (fun g => N (16 + 11 * g)) (fun g => N (17 + 11 * g)) (fun j => N (18 + 11 * (j / 4) + j % 4)) (fun g => N (22 + 11 * g)) (fun g => N (23 + 11 * g)) (fun g => N (24 + 11 * g)) (fun g => N (25 + 11 * g)) (fun g => N (26 + 11 * g)) G (fun k => if k < 3 then N (2 + k) else 0) (N 5) (N 6) (N 7) (N 8) (N 9) (N 11) (N 12) (N 0) (N 1) := rfl
section ZT
variable {p : Program} {l : Launch} {e : Env} {R : Room} {s : State} {m : MethodId} {args : Array Value} {below : List Frame} {meth : Method} {c : Code} {H : Heap} {locs : List Loc} {cells slots : Nat} {Q : State → Prop}
variable {y : MethodName} {bytes cc : ByteArray} {maxL nL n index pc : Nat} {ret : Option FieldType} {ws : List Cond} {rm : Room} {Ts : List Cond} {own C host : String} {b : Addr} {As rest st0 : List Value} {ls : Array Slot}
variable {D : va_G} {tys : List (ClassId × FieldType)} {wc ws0 Rr : va_W} {t : Nat → Nat} {A : Nat → Prop} {fs : List Value} {T : u_T} {NF : Nat}
theorem rwScs {σ : Type} {wn w1 : σ → va_W} {po : σ → Prop} (hp : ws0.Perm (wc ++ Rr)) (hq : ∀ u, (wn u ++ Rr).Perm (w1 u)) (S : CallFix p m c cc nL s args Ts own) (hM : Met l y ws rm (va_Pc As (rwP D tys wc t H.size)) (va_Qv po (fun u => rwB D (va_A wc H.size) (wn u)) (va_A wc H.size)) 0 0 (va_A wc H.size)) (cw : CallB R s args own index y bytes maxL ret ws rm 0 0 n ∧ (Cond.static y).before args s = true)
    (hP : va_P D vwCl ws0 H) (hD : va_D A ws0) (hK : va_K D vwCl tys s) (hX : sx t A s s.heap) (hS : va_S A s.heap H locs) (hA : ∀ q, s.heap.size ≤ q → A q)
    (hn : As.length = n) (hsize : ls.size = nL) (hstack : st0 = As.reverse ++ rest) (hcat : (rest.map fun v => v.category).sum ≤ 8) (hdg : decode cc pc = .ok (.invokestatic index, 3)) (hf : cells ≤ R.cells ∧ slots ≤ R.slots)
    (kk : ∀ (u : σ) (H1 : Heap) (locs1 : List Loc), po u → va_P D vwCl (w1 u) H1 → va_D A (w1 u) → va_S A s.heap H1 locs1 → W p l e R s m args below meth c H1 locs1 cells slots Q (F0 m (pc + 3) ls rest)) : W p l e R s m args below meth c H locs cells slots Q (F0 m pc ls st0) := by
  have hP2 := vP_perm hp hP
  have hD2 := vD_perm hp hD
  have hPc := vP_l hP2
  have hDc := vD_l hD2
  have hF := fA hDc hS hA
  refine va_callv (va_runS S hM cw ⟨rwP.blind _ D tys wc t H.size, fun U hU hW => ⟨rfl, by rw [hU], by rw [hU]; exact hPc, va_K.moved hW.alike hK, hDc.weaken (fun _ _ _ _ => trivial), hX.to hS hF hU hW⟩⟩ rfl hn hsize hstack (lv_room hcat) hdg hf) hS (fun q _ h => hF q h) hF (fun u T' H1 locs1 ht _ hw hB _ hk1 hS1 => ?_)
  obtain ⟨hP1, hD1⟩ := hB
  rw [ht] at hP1
  obtain ⟨j1, j2⟩ := vjn hP2 hD2 hk1 hF hP1 hD1
  exact kk u H1 locs1 hw (vP_perm (hq u) j1) (vD_perm (hq u) j2) hS1
theorem rwVcs {σ : Type} {wn w1 : σ → va_W} {po : σ → Prop} (hp : ws0.Perm (wc ++ Rr)) (hq : ∀ u, (wn u ++ Rr).Perm (w1 u)) (S : CallFix p m c cc nL s args Ts own) (hM : Met l y ws rm (va_Pc (.ref b :: As) (rwP D tys wc t H.size)) (va_Qv po (fun u => rwB D (va_A wc H.size) (wn u)) (va_A wc H.size)) 0 0 (va_A wc H.size)) (cw : CallW R s args own C index y bytes maxL ret ws rm 0 0 n)
    (hP : va_P D vwCl ws0 H) (hD : va_D A ws0) (hK : va_K D vwCl tys s) (hX : sx t A s s.heap) (hS : va_S A s.heap H locs) (hA : ∀ q, s.heap.size ≤ q → A q) (q0 ci : Nat) (he : wc[q0]? = some (b, .inr (ci, fs))) (hc : vwCl[ci]? = some (C, T, NF))
    (hn : As.length = n) (hsize : ls.size = nL) (hstack : st0 = As.reverse ++ .ref b :: rest) (hcat : (rest.map fun v => v.category).sum ≤ 8) (hdg : decode cc pc = .ok (.invokevirtual index, 3)) (hf : cells ≤ R.cells ∧ slots ≤ R.slots)
    (kk : ∀ (u : σ) (H1 : Heap) (locs1 : List Loc), po u → va_P D vwCl (w1 u) H1 → va_D A (w1 u) → va_S A s.heap H1 locs1 → W p l e R s m args below meth c H1 locs1 cells slots Q (F0 m (pc + 3) ls rest)) : W p l e R s m args below meth c H locs cells slots Q (F0 m pc ls st0) := by
  have hP2 := vP_perm hp hP
  have hD2 := vD_perm hp hD
  have hPc := vP_l hP2
  have hDc := vD_l hD2
  have hF := fA hDc hS hA
  refine va_callv (va_runV S hM cw ⟨rwP.blind _ D tys wc t H.size, va_recv hK hPc hc he, fun U hU hW => ⟨rfl, by rw [hU], by rw [hU]; exact hPc, va_K.moved hW.alike hK, hDc.weaken (fun _ _ _ _ => trivial), hX.to hS hF hU hW⟩⟩ rfl hn hsize hstack (lv_room hcat) hdg hf) hS (fun q _ h => hF q h) hF (fun u T' H1 locs1 ht _ hw hB _ hk1 hS1 => ?_)
  obtain ⟨hP1, hD1⟩ := hB
  rw [ht] at hP1
  obtain ⟨j1, j2⟩ := vjn hP2 hD2 hk1 hF hP1 hD1
  exact kk u H1 locs1 hw (vP_perm (hq u) j1) (vD_perm (hq u) j2) hS1
end ZT
