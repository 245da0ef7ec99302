/-! worlds taken apart: a call over a part of the world -/
theorem vP_mem {D : va_G} {cl : List vw_C} {ws : va_W} {H : Heap} : va_P D cl ws H ↔ ∀ q ∈ ws, va_at D cl q H :=
  ⟨fun h q hq => by obtain ⟨k, hk⟩ := List.mem_iff_getElem?.mp hq; exact h k q hk, fun h k q hk => h q (List.mem_of_getElem? hk)⟩
theorem vP_of {D : va_G} {cl : List vw_C} {ws ws' : va_W} {H : Heap} (h : va_P D cl ws H) (hm : ∀ q ∈ ws', q ∈ ws) : va_P D cl ws' H := vP_mem.mpr (fun q hq => vP_mem.mp h q (hm q hq))
theorem vP_perm {D : va_G} {cl : List vw_C} {ws ws' : va_W} {H : Heap} (p : ws.Perm ws') (h : va_P D cl ws H) : va_P D cl ws' H := vP_of h (fun _ hq => p.mem_iff.mpr hq)
theorem vD_iff {A : Nat → Prop} {ws : va_W} : va_D A ws ↔ ws.Pairwise (fun p q => p.1 ≠ q.1) ∧ ∀ q ∈ ws, A q.1 := by
  constructor
  · intro h
    refine ⟨List.pairwise_iff_getElem.mpr (fun i j hi hj hij => ?_), fun q hq => ?_⟩
    · intro e
      exact absurd (h.1 i j _ _ (List.getElem?_eq_getElem hi) (List.getElem?_eq_getElem hj) e) (Nat.ne_of_lt hij)
    · obtain ⟨k, hk⟩ := List.mem_iff_getElem?.mp hq
      exact h.2 k q hk
  · intro h
    refine ⟨fun i j p q hi hj e => ?_, fun k q hk => h.2 q (List.mem_of_getElem? hk)⟩
    obtain ⟨hi1, hi2⟩ := List.getElem?_eq_some_iff.mp hi
    obtain ⟨hj1, hj2⟩ := List.getElem?_eq_some_iff.mp hj
    rcases Nat.lt_trichotomy i j with c | c | c
    · have := List.pairwise_iff_getElem.mp h.1 i j hi1 hj1 c
      rw [hi2, hj2] at this
      exact absurd e this
    · exact c
    · have := List.pairwise_iff_getElem.mp h.1 j i hj1 hi1 c
      rw [hi2, hj2] at this
      exact absurd e.symm this
theorem vD_perm {A : Nat → Prop} {ws ws' : va_W} (p : ws.Perm ws') (h : va_D A ws) : va_D A ws' := by
  rw [vD_iff] at h ⊢
  exact ⟨(p.pairwise_iff (fun h => Ne.symm h)).mp h.1, fun q hq => h.2 q (p.mem_iff.mpr hq)⟩
theorem vP_l {D : va_G} {cl : List vw_C} {a b : va_W} {H : Heap} (h : va_P D cl (a ++ b) H) : va_P D cl a H := vP_of h (fun _ hq => List.mem_append_left _ hq)
theorem vP_r {D : va_G} {cl : List vw_C} {a b : va_W} {H : Heap} (h : va_P D cl (a ++ b) H) : va_P D cl b H := vP_of h (fun _ hq => List.mem_append_right _ hq)
theorem vD_l {A : Nat → Prop} {a b : va_W} (h : va_D A (a ++ b)) : va_D A a := by
  rw [vD_iff] at h ⊢
  exact ⟨(List.pairwise_append.mp h.1).1, fun q hq => h.2 q (List.mem_append_left _ hq)⟩
theorem vjn {A : Nat → Prop} {D : va_G} {cl : List vw_C} {wc Rr w1 : va_W} {H H1 : Heap} (hP : va_P D cl (wc ++ Rr) H) (hD : va_D A (wc ++ Rr)) (hk : ∀ q : Nat, q < H.size → ¬ va_A wc H.size q → H1[q]? = H[q]?) (hF : ∀ q, va_A wc H.size q → A q) (hP1 : va_P D cl w1 H1) (hD1 : va_D (va_A wc H.size) w1) : va_P D cl (w1 ++ Rr) H1 ∧ va_D A (w1 ++ Rr) := by
  have hPr := vP_mem.mp (vP_r hP)
  have hD' := vD_iff.mp hD
  obtain ⟨p1, p2, p3⟩ := List.pairwise_append.mp hD'.1
  have hD1' := vD_iff.mp hD1
  have apart : ∀ q ∈ Rr, ¬ va_A wc H.size q.1 := by
    intro q hq h
    rcases h with ⟨k, e, h⟩ | h
    · exact p3 _ (List.mem_of_getElem? h) q hq rfl
    · have := (hPr q hq).lt
      omega
  refine ⟨vP_mem.mpr (fun q hq => ?_), vD_iff.mpr ⟨List.pairwise_append.mpr ⟨hD1'.1, p2, fun a ha b hb e => ?_⟩, fun q hq => ?_⟩⟩
  · rcases List.mem_append.mp hq with h | h
    · exact vP_mem.mp hP1 q h
    · exact (hPr q h).kept (hk q.1 (hPr q h).lt (apart q h))
  · exact apart b hb (e ▸ hD1'.2 a ha)
  · rcases List.mem_append.mp hq with h | h
    · exact hF _ (hD1'.2 q h)
    · exact hD'.2 q (List.mem_append_right _ h)
section ZS
variable {p : Program} {l : Launch} {e : Env} {R : Room} {s : State} {m : MethodId} {args : Array Value} {below : List Frame} {meth : Method} {c : Code} {H : Heap} {locs : List Loc} {cells slots : Nat} {Q : State → Prop}
variable {y : MethodName} {bytes cc : ByteArray} {maxL nL n index pc : Nat} {ret : Option FieldType} {ws : List Cond} {rm : Room} {Ts : List Cond} {own C host : String} {b : Addr} {As rest st0 : List Value} {ls : Array Slot}
variable {D : va_G} {tys : List (ClassId × FieldType)} {wc ws0 Rr : va_W} {t : Nat → Nat} {A : Nat → Prop} {fs : List Value} {T : u_T} {NF : Nat}
theorem rwVs {σ : Type} {wn w1 : σ → va_W} {f : Int32 × σ} (hp : ws0.Perm (wc ++ Rr)) (hq : ∀ u, (wn u ++ Rr).Perm (w1 u)) (S : CallFix p m c cc nL s args Ts own) (hM : Met l y ws rm (va_Pc (.ref b :: As) (rwP D tys wc t H.size)) (va_Qi (fun r u => (r, u) = f) (fun u => rwB D (va_A wc H.size) (wn u)) (va_A wc H.size)) 0 0 (va_A wc H.size)) (cw : CallW R s args own C index y bytes maxL ret ws rm 0 0 n)
    (hP : va_P D vwCl ws0 H) (hD : va_D A ws0) (hK : va_K D vwCl tys s) (hX : sx t A s s.heap) (hS : va_S A s.heap H locs) (hA : ∀ q, s.heap.size ≤ q → A q) (q0 ci : Nat) (he : wc[q0]? = some (b, .inr (ci, fs))) (hc : vwCl[ci]? = some (C, T, NF))
    (hn : As.length = n) (hsize : ls.size = nL) (hstack : st0 = As.reverse ++ .ref b :: rest) (hcat : (rest.map fun v => v.category).sum ≤ 8) (hdg : decode cc pc = .ok (.invokevirtual index, 3)) (hf : cells ≤ R.cells ∧ slots ≤ R.slots)
    (kk : ∀ (H1 : Heap) (locs1 : List Loc), va_P D vwCl (w1 f.2) H1 → va_D A (w1 f.2) → va_S A s.heap H1 locs1 → W p l e R s m args below meth c H1 locs1 cells slots Q (F0 m (pc + 3) ls (.int f.1 :: rest))) : W p l e R s m args below meth c H locs cells slots Q (F0 m pc ls st0) := by
  have hP2 := vP_perm hp hP
  have hD2 := vD_perm hp hD
  have hPc := vP_l hP2
  have hDc := vD_l hD2
  have hF := fA hDc hS hA
  refine va_calli (va_runV S hM cw ⟨rwP.blind _ D tys wc t H.size, va_recv hK hPc hc he, fun U hU hW => ⟨rfl, by rw [hU], by rw [hU]; exact hPc, va_K.moved hW.alike hK, hDc.weaken (fun _ _ _ _ => trivial), hX.to hS hF hU hW⟩⟩ rfl hn hsize hstack (lv_room hcat) hdg hf) hS (fun q _ h => hF q h) hF (fun r u T' H1 locs1 ht _ hw hB _ hk1 hS1 => ?_)
  subst hw
  obtain ⟨hP1, hD1⟩ := hB
  rw [ht] at hP1
  obtain ⟨j1, j2⟩ := vjn hP2 hD2 hk1 hF hP1 hD1
  exact kk H1 locs1 (vP_perm (hq u) j1) (vD_perm (hq u) j2) hS1
theorem rwVvs {σ : Type} {wn w1 : σ → va_W} {f : σ} (hp : ws0.Perm (wc ++ Rr)) (hq : ∀ u, (wn u ++ Rr).Perm (w1 u)) (S : CallFix p m c cc nL s args Ts own) (hM : Met l y ws rm (va_Pc (.ref b :: As) (rwP D tys wc t H.size)) (va_Qv (fun u => u = f) (fun u => rwB D (va_A wc H.size) (wn u)) (va_A wc H.size)) 0 0 (va_A wc H.size)) (cw : CallW R s args own C index y bytes maxL ret ws rm 0 0 n)
    (hP : va_P D vwCl ws0 H) (hD : va_D A ws0) (hK : va_K D vwCl tys s) (hX : sx t A s s.heap) (hS : va_S A s.heap H locs) (hA : ∀ q, s.heap.size ≤ q → A q) (q0 ci : Nat) (he : wc[q0]? = some (b, .inr (ci, fs))) (hc : vwCl[ci]? = some (C, T, NF))
    (hn : As.length = n) (hsize : ls.size = nL) (hstack : st0 = As.reverse ++ .ref b :: rest) (hcat : (rest.map fun v => v.category).sum ≤ 8) (hdg : decode cc pc = .ok (.invokevirtual index, 3)) (hf : cells ≤ R.cells ∧ slots ≤ R.slots)
    (kk : ∀ (H1 : Heap) (locs1 : List Loc), va_P D vwCl (w1 f) H1 → va_D A (w1 f) → va_S A s.heap H1 locs1 → W p l e R s m args below meth c H1 locs1 cells slots Q (F0 m (pc + 3) ls rest)) : W p l e R s m args below meth c H locs cells slots Q (F0 m pc ls st0) := by
  have hP2 := vP_perm hp hP
  have hD2 := vD_perm hp hD
  have hPc := vP_l hP2
  have hDc := vD_l hD2
  have hF := fA hDc hS hA
  refine va_callv (va_runV S hM cw ⟨rwP.blind _ D tys wc t H.size, va_recv hK hPc hc he, fun U hU hW => ⟨rfl, by rw [hU], by rw [hU]; exact hPc, va_K.moved hW.alike hK, hDc.weaken (fun _ _ _ _ => trivial), hX.to hS hF hU hW⟩⟩ rfl hn hsize hstack (lv_room hcat) hdg hf) hS (fun q _ h => hF q h) hF (fun u T' H1 locs1 ht _ hw hB _ hk1 hS1 => ?_)
  subst hw
  obtain ⟨hP1, hD1⟩ := hB
  rw [ht] at hP1
  obtain ⟨j1, j2⟩ := vjn hP2 hD2 hk1 hF hP1 hD1
  exact kk H1 locs1 (vP_perm (hq u) j1) (vD_perm (hq u) j2) hS1
theorem rwSvs {σ : Type} {wn w1 : σ → va_W} {f : σ} (hp : ws0.Perm (wc ++ Rr)) (hq : ∀ u, (wn u ++ Rr).Perm (w1 u)) (S : CallFix p m c cc nL s args Ts own) (hM : Met l y ws rm (va_Pc As (rwP D tys wc t H.size)) (va_Qv (fun u => u = f) (fun u => rwB D (va_A wc H.size) (wn u)) (va_A wc H.size)) 0 0 (va_A wc H.size)) (cw : CallB R s args own index y bytes maxL ret ws rm 0 0 n ∧ (Cond.static y).before args s = true)
    (hP : va_P D vwCl ws0 H) (hD : va_D A ws0) (hK : va_K D vwCl tys s) (hX : sx t A s s.heap) (hS : va_S A s.heap H locs) (hA : ∀ q, s.heap.size ≤ q → A q)
    (hn : As.length = n) (hsize : ls.size = nL) (hstack : st0 = As.reverse ++ rest) (hcat : (rest.map fun v => v.category).sum ≤ 8) (hdg : decode cc pc = .ok (.invokestatic index, 3)) (hf : cells ≤ R.cells ∧ slots ≤ R.slots)
    (kk : ∀ (H1 : Heap) (locs1 : List Loc), va_P D vwCl (w1 f) H1 → va_D A (w1 f) → va_S A s.heap H1 locs1 → W p l e R s m args below meth c H1 locs1 cells slots Q (F0 m (pc + 3) ls rest)) : W p l e R s m args below meth c H locs cells slots Q (F0 m pc ls st0) := by
  have hP2 := vP_perm hp hP
  have hD2 := vD_perm hp hD
  have hPc := vP_l hP2
  have hDc := vD_l hD2
  have hF := fA hDc hS hA
  refine va_callv (va_runS S hM cw ⟨rwP.blind _ D tys wc t H.size, fun U hU hW => ⟨rfl, by rw [hU], by rw [hU]; exact hPc, va_K.moved hW.alike hK, hDc.weaken (fun _ _ _ _ => trivial), hX.to hS hF hU hW⟩⟩ rfl hn hsize hstack (lv_room hcat) hdg hf) hS (fun q _ h => hF q h) hF (fun u T' H1 locs1 ht _ hw hB _ hk1 hS1 => ?_)
  subst hw
  obtain ⟨hP1, hD1⟩ := hB
  rw [ht] at hP1
  obtain ⟨j1, j2⟩ := vjn hP2 hD2 hk1 hF hP1 hD1
  exact kk H1 locs1 (vP_perm (hq u) j1) (vD_perm (hq u) j2) hS1
end ZS
/-- a warehouse and two sorted rows -/
def sw (cI : ClassId) (a b c : Nat → Nat) (N G V : Nat → Int32) (z : Int32) (U : Nat → Int32) (y : Int32) : va_W := wg cI a N G ++ (sr cI b V z ++ sr cI c U y)
section ZW
variable {cI : ClassId} {a b c : Nat → Nat} {N G V : Nat → Int32} {z : Int32} {U : Nat → Int32} {y : Int32}
theorem sw_0 : (sw cI a b c N G V z U y)[0]? = some (a 0, .inr (3, [.ref (a 1), .ref (a 2), .ref (a 3), .ref (a 4), .ref (a 5), .ref (a 6), .ref (a 7), .ref (a 8), .ref (a 9), .ref (a 10), .ref (a 11), .int (N 0), .int (N 1)])) := rfl
theorem sw_4 : (sw cI a b c N G V z U y)[4]? = some (a 4, .inl (cI, 20, .inl (fun g => N (22 + 11 * g)))) := rfl
theorem sw_12 : (sw cI a b c N G V z U y)[12]? = some (b 0, .inr (2, [.ref (b 1), .int z])) := rfl
theorem sw_14 : (sw cI a b c N G V z U y)[14]? = some (c 0, .inr (2, [.ref (c 1), .int y])) := rfl
theorem sw_b1 (x : Int32) : (sw cI a b c N G V z U y).set 12 (b 0, .inr (2, List.set [.ref (b 1), .int z] 1 (.int x))) = sw cI a b c N G V x U y := rfl
theorem sw_c1 (x : Int32) : (sw cI a b c N G V z U y).set 14 (c 0, .inr (2, List.set [.ref (c 1), .int y] 1 (.int x))) = sw cI a b c N G V z U x := rfl
theorem sw_p1 : (sw cI a b c N G V z U y).Perm (sr cI b V z ++ (wg cI a N G ++ sr cI c U y)) := List.perm_append_comm_assoc _ _ _
theorem sw_q1 (u : (Nat → Int32) × Int32) : (sr cI b u.1 u.2 ++ (wg cI a N G ++ sr cI c U y)).Perm (sw cI a b c N G u.1 u.2 U y) := List.perm_append_comm_assoc _ _ _
theorem sw_p2 : (sw cI a b c N G V z U y).Perm (sr cI c U y ++ (wg cI a N G ++ sr cI b V z)) := (List.Perm.append_left _ List.perm_append_comm).trans (List.perm_append_comm_assoc _ _ _)
theorem sw_q2 (u : (Nat → Int32) × Int32) : (sr cI c u.1 u.2 ++ (wg cI a N G ++ sr cI b V z)).Perm (sw cI a b c N G V z u.1 u.2) := (List.perm_append_comm_assoc _ _ _).trans (List.Perm.append_left _ List.perm_append_comm)
end ZW
