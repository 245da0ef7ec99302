/-! the warehouses change places (printed by wip/whole/gx7.py) -/
def pw (cI cC cW : ClassId) (h : Nat → Nat) (Y : Nat → va_H) (S q V : Nat → Int32) (z : Int32) (U : Nat → Int32) (y : Int32) (n t : Nat) (r : Nat → Option Nat) (I : Nat → Int32) : va_W := pob cW h n t r I ++ (pt cI cC h S q V z U y ++ (w1 cI (Y 4) ++ (w1 cI (Y 5) ++ wh cI Y)))
theorem pw_r {cI cC cW : ClassId} {h : Nat → Nat} {Y : Nat → va_H} {S q V : Nat → Int32} {z : Int32} {U : Nat → Int32} {y : Int32} {n t : Nat} {r r' r2 : Nat → Option Nat} {I : Nat → Int32} (e : r' = r2) : (pw cI cC cW h Y S q V z U y n t r I).set 1 (h 1, .inl (cW, 4, .inr (.inr (.inr (.inr r'))))) = pw cI cC cW h Y S q V z U y n t r2 I := by
  subst e
  rfl
theorem pw_ps {cI cC cW : ClassId} {h : Nat → Nat} {Y Y' : Nat → va_H} {S q V : Nat → Int32} {z : Int32} {U : Nat → Int32} {y : Int32} {n t x0 x1 x2 x3 : Nat} {I : Nat → Int32} {k : List Nat} (hk : k.Perm [4, 5, 0, 1, 2, 3]) (e : [Y' 4, Y' 5, Y' 0, Y' 1, Y' 2, Y' 3] = k.map Y) (en : n = (Y' 4).1 0) (et : t = (Y' 5).1 0) (e0 : x0 = (Y' 0).1 0) (e1 : x1 = (Y' 1).1 0) (e2 : x2 = (Y' 2).1 0) (e3 : x3 = (Y' 3).1 0) :
    (pw cI cC cW h Y S q V z U y n t (rr4 x0 x1 x2 x3) I).Perm (ps cI cC cW h Y' S q V z U y I) := by
  subst en et e0 e1 e2 e3
  exact List.Perm.append_left _ (List.Perm.append_left _ (wl_perm hk e))
section Z57
variable {p : Program} {l : Launch} {e : Env} {R : Room} {s : State} {m : MethodId} {args : Array Value} {below : List Frame} {meth : Method} {c : Code} {H : Heap} {locs : List Loc} {cells slots : Nat} {Q : State → Prop}
variable {cc : ByteArray} {pc : Nat} {ls : Array Slot} {rest : List Value} {D : va_G} {cl : List vw_C} {A : Nat → Prop} {a : Nat} {tys : List (ClassId × FieldType)} {ws wy : va_W} {H0 : Heap}
theorem my_astq (hexec : p.tables.exec = Jvm.exec) (hb : c.code = cc) (hK : va_K D cl tys s) (hP : va_P D cl ws H) (hD : va_D A ws) (hS : va_S A H0 H locs) (q0 t0 qk ci : Nat) {cA : ClassId} {r : vw_C} {n v k : Nat} {vs : List Value} {f : Nat → Option Nat} (ha : ws[q0]? = some (a, .inl (cA, n, .inr (.inr (.inr (.inr f)))))) (ht : tys[t0]? = some (cA, .object r.1)) (hv : ws[qk]? = some (v, .inr (ci, vs))) (hc : cl[ci]? = some r) {i : Int32} (hk : i.toNatClampNeg = k) (hset : ws.set q0 (a, .inl (cA, n, .inr (.inr (.inr (.inr (va_up f k (some v))))))) = wy) (hin : vp_in i n) (hdg : decode cc pc = .ok (.aastore, 1))
    (kk : ∀ (H1 : Heap) (locs1 : List Loc), va_P D cl wy H1 → va_D A wy → va_S A H0 H1 locs1 → W p l e R s m args below meth c H1 locs1 cells slots Q (F0 m (pc + 1) ls rest)) : W p l e R s m args below meth c H locs cells slots Q (F0 m pc ls (.ref v :: .int i :: .ref a :: rest)) := by
  subst hk
  subst hset
  exact va_astq hexec hb hK hP hD hS q0 t0 qk ci ha ht hv hc hin hdg kk
end Z57
theorem I04 {x : Int32} (h1 : 0 ≤ x.toInt) (h2 : x.toInt ≤ 3) : x = 0 ∨ x = 1 ∨ x = 2 ∨ x = 3 := by
  obtain ⟨k, hk, rfl⟩ := vp_in_of (inT (n := 4) h1 (by omega)) (by decide)
  rcases (show k = 0 ∨ k = 1 ∨ k = 2 ∨ k = 3 by omega) with rfl | rfl | rfl | rfl
  · exact Or.inl rfl
  · exact Or.inr (Or.inl rfl)
  · exact Or.inr (Or.inr (Or.inl rfl))
  · exact Or.inr (Or.inr (Or.inr rfl))

def sp_X5_dropOldestState (Y : Nat → va_H) (S q V : Nat → Int32) (z : Int32) (U : Nat → Int32) (y : Int32) (I : Nat → Int32) : (Nat → va_H) × (Nat → Int32) := (dr Y, upd I 0 3)

set_option maxHeartbeats 4000000 in
set_option maxRecDepth 100000 in
theorem c_X5_dropOldestState (l : Launch) (D : va_G) (cI cC cW : ClassId) (t : Nat → Nat) (h : Nat → Nat) (sz : Nat) (Y : Nat → va_H) (S q V : Nat → Int32) (z : Int32) (U : Nat → Int32) (y : Int32) (I : Nat → Int32) : Met l yX5_dropOldestState wsX5_dropOldestState ({ frames := 0, cells := 0, slots := 0, locals := 0 }) (va_Pc [.ref (h 0)] (rwP D (tyL cI cC cW) (ps cI cC cW h Y S q V z U y I) t sz)) (va_Qv (fun (u : (Nat → va_H) × (Nat → Int32)) => u = sp_X5_dropOldestState Y S q V z U y I) (fun u => rwB D (va_A (ps cI cC cW h Y S q V z U y I) sz) (ps cI cC cW h u.1 S q V z U y u.2)) (va_A (ps cI cC cW h Y S q V z U y I) sz)) 0 0 (va_A (ps cI cC cW h Y S q V z U y I) sz) := by
  refine Met.ofW (cc := cX5_dropOldestState) (maxL := 3) (ret := none) (by decide) rfl ?_
  intro p e s m args below meth c s₁ B hml hv
  obtain ⟨rfl, hsz, hP, hK, hD0, hX⟩ := hv
  have hx := B.exec
  have hb := B.bytes
  have hr := B.returns
  have hts := atoms_spec (ws := wsX5_dropOldestState) B.pre
  have hown : s.vm.findClass RX5 = some m.cls := findClass_of_methodNamed B.named
  have hlocks := B.notSynchronized
  subst hsz
  have hD := hD0.self (sz := s.heap.size)
  generalize hAe : va_A (ps cI cC cW h Y S q V z U y I) s.heap.size = A at hD hX ⊢
  have hA : ∀ q : Nat, s.heap.size ≤ q → A q := fun q h => by rw [← hAe]; exact Or.inr h
  have hS : va_S A s.heap s.heap [] := va_S.rf
  have hP : va_P D vwCl (pw cI cC cW h Y S q V z U y ((Y 4).1 0) ((Y 5).1 0) (rr4 ((Y 0).1 0) ((Y 1).1 0) ((Y 2).1 0) ((Y 3).1 0)) I) s.heap := hP
  have hD : va_D A (pw cI cC cW h Y S q V z U y ((Y 4).1 0) ((Y 5).1 0) (rr4 ((Y 0).1 0) ((Y 1).1 0) ((Y 2).1 0) ((Y 3).1 0)) I) := hD
  have wd1 : (Cond.fieldLink RX5 11 "PickSlots" "history" "[LPickSlots$Warehouse;").before [.ref (h 0)].toArray s = true := hts _ (List.mem_of_getElem? (i := 1) rfl)
  have wd2 : (Cond.fieldLink RX5 112 "PickSlots" "states" "I").before [.ref (h 0)].toArray s = true := hts _ (List.mem_of_getElem? (i := 2) rfl)
  have hi5 : ∀ w ∈ wsX50, w ∈ wsX5_dropOldestState := fun w h => List.mem_cons_of_mem _ (List.mem_append_right _ (h))
  have hl := lv_entry ([.ref (h 0)]) (n := 3) (Nat.le_of_ble_eq_true rfl)
  rw [lg_entry_eq]
  generalize (lg_sl ([.ref (h 0)]) ++ List.replicate (3 - (lg_sl ([.ref (h 0)])).length) Slot.unset).toArray = ls at hl ⊢
  have hl : lv_has ls 3 [(0, .ref (h 0))] := hl
  refine lv_aload_n hx hb dX5_dropOldestState_0 rfl (lv_at hl 0 rfl) ?_
  refine va_get (D := D) (ci := 4) (v := .ref (h 1)) (C := RX5) (T := TX5) (N := 9) hx hb hts hi5 hown hK hP 0 rfl rfl 0 (by decide) wd1 (fun _ h9 => h9) rfl dX5_dropOldestState_1 ?_
  refine lv_iconst (v := 0) hx hb dX5_dropOldestState_4 (by decide) ?_
  refine va_aldq hx hb hK hP 1 2 rfl rfl (by unfold vp_in; decide) dX5_dropOldestState_5 ?_
  refine W.eq (g2 := F0 m 6 ls [.ref ((Y 0).1 0)]) rfl ?_
  refine lv_astore_n (lv' := [(1, .ref ((Y 0).1 0)), (0, .ref (h 0))]) hx hb dX5_dropOldestState_6 rfl hl (by decide) rfl (fun ls hl => ?_)
  refine lv_iconst (v := 1) hx hb dX5_dropOldestState_7 (by decide) ?_
  refine lv_istore_n (lv' := [(2, .int (1 : Int32)), (1, .ref ((Y 0).1 0)), (0, .ref (h 0))]) hx hb dX5_dropOldestState_8 rfl hl (by decide) rfl (fun ls hl => ?_)
  refine lv_iload_n hx hb dX5_dropOldestState_9 rfl (lv_at hl 0 rfl) ?_
  refine lv_iconst (v := 4) hx hb dX5_dropOldestState_10 (by decide) ?_
  refine lv_icmp_ge (tgt := 34) hx hb dX5_dropOldestState_11 (by decide) (fun c9 => absurd c9 (by decide)) (fun _ => ?_)
  refine lv_aload_n hx hb dX5_dropOldestState_14 rfl (lv_at hl 2 rfl) ?_
  refine va_get (D := D) (ci := 4) (v := .ref (h 1)) (C := RX5) (T := TX5) (N := 9) hx hb hts hi5 hown hK hP 0 rfl rfl 0 (by decide) wd1 (fun _ h9 => h9) rfl dX5_dropOldestState_15 ?_
  refine lv_iload_n hx hb dX5_dropOldestState_18 rfl (lv_at hl 0 rfl) ?_
  refine lv_iconst (v := 1) hx hb dX5_dropOldestState_19 (by decide) ?_
  refine lv_isub hx hb dX5_dropOldestState_20 ?_
  refine lv_top_eq (y := (0 : Int32)) (by decide) ?_
  refine lv_aload_n hx hb dX5_dropOldestState_21 rfl (lv_at hl 2 rfl) ?_
  refine va_get (D := D) (ci := 4) (v := .ref (h 1)) (C := RX5) (T := TX5) (N := 9) hx hb hts hi5 hown hK hP 0 rfl rfl 0 (by decide) wd1 (fun _ h9 => h9) rfl dX5_dropOldestState_22 ?_
  refine lv_iload_n hx hb dX5_dropOldestState_25 rfl (lv_at hl 0 rfl) ?_
  refine va_aldq hx hb hK hP 1 2 rfl rfl (by unfold vp_in; decide) dX5_dropOldestState_26 ?_
  refine W.eq (g2 := F0 m 27 ls [.ref ((Y 1).1 0), .int (0 : Int32), .ref (h 1)]) rfl ?_
  refine my_astq (wy := pw cI cC cW h Y S q V z U y ((Y 4).1 0) ((Y 5).1 0) (rr4 ((Y 1).1 0) ((Y 1).1 0) ((Y 2).1 0) ((Y 3).1 0)) I) hx hb hK hP hD hS 1 2 44 3 rfl rfl rfl rfl (r := (RX4, TX4, 13)) (k := 0) rfl (pw_r (rr4_up0)) (by unfold vp_in; decide) dX5_dropOldestState_27 (fun H locs hP hD hS => ?_)
  refine lv_iinc (v := (2 : Int32)) (lv' := [(2, .int (2 : Int32)), (1, .ref ((Y 0).1 0)), (0, .ref (h 0))]) hx hb dX5_dropOldestState_28 hl (k := 0) rfl (by decide) (by decide) rfl (fun ls hl => ?_)
  refine lv_goto (tgt := 9) hx hb dX5_dropOldestState_31 (by decide) ?_
  refine lv_iload_n hx hb dX5_dropOldestState_9 rfl (lv_at hl 0 rfl) ?_
  refine lv_iconst (v := 4) hx hb dX5_dropOldestState_10 (by decide) ?_
  refine lv_icmp_ge (tgt := 34) hx hb dX5_dropOldestState_11 (by decide) (fun c9 => absurd c9 (by decide)) (fun _ => ?_)
  refine lv_aload_n hx hb dX5_dropOldestState_14 rfl (lv_at hl 2 rfl) ?_
  refine va_get (D := D) (ci := 4) (v := .ref (h 1)) (C := RX5) (T := TX5) (N := 9) hx hb hts hi5 hown hK hP 0 rfl rfl 0 (by decide) wd1 (fun _ h9 => h9) rfl dX5_dropOldestState_15 ?_
  refine lv_iload_n hx hb dX5_dropOldestState_18 rfl (lv_at hl 0 rfl) ?_
  refine lv_iconst (v := 1) hx hb dX5_dropOldestState_19 (by decide) ?_
  refine lv_isub hx hb dX5_dropOldestState_20 ?_
  refine lv_top_eq (y := (1 : Int32)) (by decide) ?_
  refine lv_aload_n hx hb dX5_dropOldestState_21 rfl (lv_at hl 2 rfl) ?_
  refine va_get (D := D) (ci := 4) (v := .ref (h 1)) (C := RX5) (T := TX5) (N := 9) hx hb hts hi5 hown hK hP 0 rfl rfl 0 (by decide) wd1 (fun _ h9 => h9) rfl dX5_dropOldestState_22 ?_
  refine lv_iload_n hx hb dX5_dropOldestState_25 rfl (lv_at hl 0 rfl) ?_
  refine va_aldq hx hb hK hP 1 2 rfl rfl (by unfold vp_in; decide) dX5_dropOldestState_26 ?_
  refine W.eq (g2 := F0 m 27 ls [.ref ((Y 2).1 0), .int (1 : Int32), .ref (h 1)]) rfl ?_
  refine my_astq (wy := pw cI cC cW h Y S q V z U y ((Y 4).1 0) ((Y 5).1 0) (rr4 ((Y 1).1 0) ((Y 2).1 0) ((Y 2).1 0) ((Y 3).1 0)) I) hx hb hK hP hD hS 1 2 56 3 rfl rfl rfl rfl (r := (RX4, TX4, 13)) (k := 1) rfl (pw_r (rr4_up1)) (by unfold vp_in; decide) dX5_dropOldestState_27 (fun H locs hP hD hS => ?_)
  refine lv_iinc (v := (3 : Int32)) (lv' := [(2, .int (3 : Int32)), (1, .ref ((Y 0).1 0)), (0, .ref (h 0))]) hx hb dX5_dropOldestState_28 hl (k := 0) rfl (by decide) (by decide) rfl (fun ls hl => ?_)
  refine lv_goto (tgt := 9) hx hb dX5_dropOldestState_31 (by decide) ?_
  refine lv_iload_n hx hb dX5_dropOldestState_9 rfl (lv_at hl 0 rfl) ?_
  refine lv_iconst (v := 4) hx hb dX5_dropOldestState_10 (by decide) ?_
  refine lv_icmp_ge (tgt := 34) hx hb dX5_dropOldestState_11 (by decide) (fun c9 => absurd c9 (by decide)) (fun _ => ?_)
  refine lv_aload_n hx hb dX5_dropOldestState_14 rfl (lv_at hl 2 rfl) ?_
  refine va_get (D := D) (ci := 4) (v := .ref (h 1)) (C := RX5) (T := TX5) (N := 9) hx hb hts hi5 hown hK hP 0 rfl rfl 0 (by decide) wd1 (fun _ h9 => h9) rfl dX5_dropOldestState_15 ?_
  refine lv_iload_n hx hb dX5_dropOldestState_18 rfl (lv_at hl 0 rfl) ?_
  refine lv_iconst (v := 1) hx hb dX5_dropOldestState_19 (by decide) ?_
  refine lv_isub hx hb dX5_dropOldestState_20 ?_
  refine lv_top_eq (y := (2 : Int32)) (by decide) ?_
  refine lv_aload_n hx hb dX5_dropOldestState_21 rfl (lv_at hl 2 rfl) ?_
  refine va_get (D := D) (ci := 4) (v := .ref (h 1)) (C := RX5) (T := TX5) (N := 9) hx hb hts hi5 hown hK hP 0 rfl rfl 0 (by decide) wd1 (fun _ h9 => h9) rfl dX5_dropOldestState_22 ?_
  refine lv_iload_n hx hb dX5_dropOldestState_25 rfl (lv_at hl 0 rfl) ?_
  refine va_aldq hx hb hK hP 1 2 rfl rfl (by unfold vp_in; decide) dX5_dropOldestState_26 ?_
  refine W.eq (g2 := F0 m 27 ls [.ref ((Y 3).1 0), .int (2 : Int32), .ref (h 1)]) rfl ?_
  refine my_astq (wy := pw cI cC cW h Y S q V z U y ((Y 4).1 0) ((Y 5).1 0) (rr4 ((Y 1).1 0) ((Y 2).1 0) ((Y 3).1 0) ((Y 3).1 0)) I) hx hb hK hP hD hS 1 2 68 3 rfl rfl rfl rfl (r := (RX4, TX4, 13)) (k := 2) rfl (pw_r (rr4_up2)) (by unfold vp_in; decide) dX5_dropOldestState_27 (fun H locs hP hD hS => ?_)
  refine lv_iinc (v := (4 : Int32)) (lv' := [(2, .int (4 : Int32)), (1, .ref ((Y 0).1 0)), (0, .ref (h 0))]) hx hb dX5_dropOldestState_28 hl (k := 0) rfl (by decide) (by decide) rfl (fun ls hl => ?_)
  refine lv_goto (tgt := 9) hx hb dX5_dropOldestState_31 (by decide) ?_
  refine lv_iload_n hx hb dX5_dropOldestState_9 rfl (lv_at hl 0 rfl) ?_
  refine lv_iconst (v := 4) hx hb dX5_dropOldestState_10 (by decide) ?_
  refine lv_icmp_ge (tgt := 34) hx hb dX5_dropOldestState_11 (by decide) (fun _ => ?_) (fun c9 => absurd (by decide) c9)
  refine lv_aload_n hx hb dX5_dropOldestState_34 rfl (lv_at hl 2 rfl) ?_
  refine va_get (D := D) (ci := 4) (v := .ref (h 1)) (C := RX5) (T := TX5) (N := 9) hx hb hts hi5 hown hK hP 0 rfl rfl 0 (by decide) wd1 (fun _ h9 => h9) rfl dX5_dropOldestState_35 ?_
  refine lv_iconst (v := 3) hx hb dX5_dropOldestState_38 (by decide) ?_
  refine lv_aload_n hx hb dX5_dropOldestState_39 rfl (lv_at hl 1 rfl) ?_
  refine my_astq (wy := pw cI cC cW h Y S q V z U y ((Y 4).1 0) ((Y 5).1 0) (rr4 ((Y 1).1 0) ((Y 2).1 0) ((Y 3).1 0) ((Y 0).1 0)) I) hx hb hK hP hD hS 1 2 32 3 rfl rfl rfl rfl (r := (RX4, TX4, 13)) (k := 3) rfl (pw_r (rr4_up3)) (by unfold vp_in; decide) dX5_dropOldestState_40 (fun H locs hP hD hS => ?_)
  refine lv_aload_n hx hb dX5_dropOldestState_41 rfl (lv_at hl 2 rfl) ?_
  refine lv_iconst (v := 3) hx hb dX5_dropOldestState_42 (by decide) ?_
  refine my_put (wy := pw cI cC cW h Y S q V z U y ((Y 4).1 0) ((Y 5).1 0) (rr4 ((Y 1).1 0) ((Y 2).1 0) ((Y 3).1 0) ((Y 0).1 0)) (upd I 0 (3 : Int32))) (D := D) (ci := 4) (v := .int (3 : Int32)) (ty := .int) (C := RX5) (T := TX5) (N := 9) hx hb hts hi5 tyX5 tyX5_ok nmX5 hown hK hP hD hS 0 rfl rfl 6 (by decide) wd2 (fun _ h9 => h9) rfl (by decide +kernel) rfl rfl (Nat.le_of_ble_eq_true rfl) rfl dX5_dropOldestState_43 (fun H locs hP hD hS => ?_)
  have hp := pw_ps (cI := cI) (cC := cC) (cW := cW) (h := h) (S := S) (q := q) (V := V) (z := z) (U := U) (y := y) (I := (upd I 0 (3 : Int32))) (Y := Y) (Y' := dr Y) (k := [4, 5, 1, 2, 3, 0]) (by decide) rfl rfl rfl rfl rfl rfl rfl
  exact rw_vret (dr Y, (upd I 0 (3 : Int32))) hx hb hr (vP_perm hp hP) (vD_perm hp hD) hS rfl dX5_dropOldestState_46 hlocks

def sp_X5_keepTrial (Y : Nat → va_H) (S q V : Nat → Int32) (z : Int32) (U : Nat → Int32) (y : Int32) (I : Nat → Int32) : (Nat → va_H) × (Nat → Int32) := if I 0 < 4 then (cy (ix (I 0)) Y, upd I 0 (I 0 + 1)) else (cy 3 (dr Y), upd (upd I 0 3) 0 (3 + 1))

set_option maxHeartbeats 4000000 in
set_option maxRecDepth 100000 in
theorem c_X5_keepTrial (l : Launch) (D : va_G) (cI cC cW : ClassId) (t : Nat → Nat) (h : Nat → Nat) (sz : Nat) (Y : Nat → va_H) (S q V : Nat → Int32) (z : Int32) (U : Nat → Int32) (y : Int32) (I : Nat → Int32) (h1 : 0 ≤ (I 0).toInt)  : Met l yX5_keepTrial wsX5_keepTrial ({ frames := 1, cells := 0, slots := 0, locals := 22 }) (va_Pc [.ref (h 0)] (rwP D (tyL cI cC cW) (ps cI cC cW h Y S q V z U y I) t sz)) (va_Qv (fun (u : (Nat → va_H) × (Nat → Int32)) => u = sp_X5_keepTrial Y S q V z U y I) (fun u => rwB D (va_A (ps cI cC cW h Y S q V z U y I) sz) (ps cI cC cW h u.1 S q V z U y u.2)) (va_A (ps cI cC cW h Y S q V z U y I) sz)) 0 0 (va_A (ps cI cC cW h Y S q V z U y I) sz) := by
  refine Met.ofW (cc := cX5_keepTrial) (maxL := 2) (ret := none) (by decide) rfl ?_
  intro p e s m args below meth c s₁ B hml hv
  obtain ⟨rfl, hsz, hP, hK, hD0, hX⟩ := hv
  have hx := B.exec
  have hb := B.bytes
  have hr := B.returns
  have hts := atoms_spec (ws := wsX5_keepTrial) B.pre
  have hown : s.vm.findClass RX5 = some m.cls := findClass_of_methodNamed B.named
  have hlocks := B.notSynchronized
  subst hsz
  have hD := hD0.self (sz := s.heap.size)
  generalize hAe : va_A (ps cI cC cW h Y S q V z U y I) s.heap.size = A at hD hX ⊢
  have hA : ∀ q : Nat, s.heap.size ≤ q → A q := fun q h => by rw [← hAe]; exact Or.inr h
  have hS : va_S A s.heap s.heap [] := va_S.rf
  have hP : va_P D vwCl (pw cI cC cW h Y S q V z U y ((Y 4).1 0) ((Y 5).1 0) (rr4 ((Y 0).1 0) ((Y 1).1 0) ((Y 2).1 0) ((Y 3).1 0)) I) s.heap := hP
  have hD : va_D A (pw cI cC cW h Y S q V z U y ((Y 4).1 0) ((Y 5).1 0) (rr4 ((Y 0).1 0) ((Y 1).1 0) ((Y 2).1 0) ((Y 3).1 0)) I) := hD
  have wd1 : (Cond.fieldLink RX5 112 "PickSlots" "states" "I").before [.ref (h 0)].toArray s = true := hts _ (List.mem_of_getElem? (i := 1) rfl)
  have wd2 : (Cond.fieldLink RX5 11 "PickSlots" "history" "[LPickSlots$Warehouse;").before [.ref (h 0)].toArray s = true := hts _ (List.mem_of_getElem? (i := 2) rfl)
  have wd3 : (Cond.fieldLink RX5 33 "PickSlots" "now" "LPickSlots$Warehouse;").before [.ref (h 0)].toArray s = true := hts _ (List.mem_of_getElem? (i := 3) rfl)
  have wd4 : (Cond.fieldLink RX5 37 "PickSlots" "trial" "LPickSlots$Warehouse;").before [.ref (h 0)].toArray s = true := hts _ (List.mem_of_getElem? (i := 4) rfl)
  have hi5 : ∀ w ∈ wsX50, w ∈ wsX5_keepTrial := fun w h => List.mem_cons_of_mem _ (List.mem_append_right _ (h))
  have CF : CallFix p m c cX5_keepTrial 2 s [.ref (h 0)].toArray wsX5_keepTrial RX5 := ⟨hx, hb, hml, hown, hts⟩
  obtain ⟨W0, hW0⟩ : ∃ W0, Y = W0 := ⟨Y, rfl⟩
  obtain ⟨I0, hI0⟩ : ∃ I0, I = I0 := ⟨I, rfl⟩
  rw [show sp_X5_keepTrial Y S q V z U y I = sp_X5_keepTrial W0 S q V z U y I0 by rw [hW0, hI0]]
  have T0 : ∀ (Y : Nat → va_H) (I : Nat → Int32) (ls : Array Slot), I 0 = (0 : Int32) → sp_X5_keepTrial W0 S q V z U y I0 = (cy 0 Y, upd I 0 ((0 : Int32) + 1)) → lv_has ls 2 [(0, .ref (h 0))] → ∀ (H : Heap) (locs : List Loc), va_P D vwCl (pw cI cC cW h Y S q V z U y ((Y 4).1 0) ((Y 5).1 0) (rr4 ((Y 0).1 0) ((Y 1).1 0) ((Y 2).1 0) ((Y 3).1 0)) I) H → va_D A (pw cI cC cW h Y S q V z U y ((Y 4).1 0) ((Y 5).1 0) (rr4 ((Y 0).1 0) ((Y 1).1 0) ((Y 2).1 0) ((Y 3).1 0)) I) → va_S A s.heap H locs → W p l e (headSpec wsX5_keepTrial ({ frames := 1, cells := 0, slots := 0, locals := 22 } : Room)).room s m [.ref (h 0)].toArray below meth c H locs 0 0 (MQ below (va_Qv (fun (u : (Nat → va_H) × (Nat → Int32)) => u = sp_X5_keepTrial W0 S q V z U y I0) (fun u => rwB D A (ps cI cC cW h u.1 S q V z U y u.2)) A) [.ref (h 0)].toArray s 0 0 A) (F0 m 12 ls []) := by
    intro Y I ls hI hE hl H locs hP hD hS
    refine lv_aload_n hx hb dX5_keepTrial_12 rfl (lv_at hl 0 rfl) ?_
    refine va_get (D := D) (ci := 4) (v := .ref (h 1)) (C := RX5) (T := TX5) (N := 9) hx hb hts hi5 hown hK hP 0 rfl rfl 0 (by decide) wd2 (fun _ h9 => h9) rfl dX5_keepTrial_13 ?_
    refine lv_aload_n hx hb dX5_keepTrial_16 rfl (lv_at hl 0 rfl) ?_
    refine va_get (D := D) (ci := 4) (v := .int (I 0)) (C := RX5) (T := TX5) (N := 9) hx hb hts hi5 hown hK hP 0 rfl rfl 6 (by decide) wd1 (fun _ h9 => h9) rfl dX5_keepTrial_17 ?_
    refine lv_top_eq (y := (0 : Int32)) hI ?_
    refine va_aldq hx hb hK hP 1 2 rfl rfl (by unfold vp_in; decide) dX5_keepTrial_20 ?_
    refine W.eq (g2 := F0 m 21 ls [.ref ((Y 0).1 0)]) rfl ?_
    refine lv_astore_n (lv' := [(1, .ref ((Y 0).1 0)), (0, .ref (h 0))]) hx hb dX5_keepTrial_21 rfl hl (by decide) rfl (fun ls hl => ?_)
    refine lv_aload_n hx hb dX5_keepTrial_22 rfl (lv_at hl 1 rfl) ?_
    refine va_get (D := D) (ci := 4) (v := .ref (h 1)) (C := RX5) (T := TX5) (N := 9) hx hb hts hi5 hown hK hP 0 rfl rfl 0 (by decide) wd2 (fun _ h9 => h9) rfl dX5_keepTrial_23 ?_
    refine lv_aload_n hx hb dX5_keepTrial_26 rfl (lv_at hl 1 rfl) ?_
    refine va_get (D := D) (ci := 4) (v := .int (I 0)) (C := RX5) (T := TX5) (N := 9) hx hb hts hi5 hown hK hP 0 rfl rfl 6 (by decide) wd1 (fun _ h9 => h9) rfl dX5_keepTrial_27 ?_
    refine lv_top_eq (y := (0 : Int32)) hI ?_
    refine lv_aload_n hx hb dX5_keepTrial_30 rfl (lv_at hl 1 rfl) ?_
    refine va_get (D := D) (ci := 4) (v := .ref ((Y 4).1 0)) (C := RX5) (T := TX5) (N := 9) hx hb hts hi5 hown hK hP 0 rfl rfl 4 (by decide) wd3 (fun _ h9 => h9) rfl dX5_keepTrial_31 ?_
    refine my_astq (wy := pw cI cC cW h Y S q V z U y ((Y 4).1 0) ((Y 5).1 0) (rr4 ((Y 4).1 0) ((Y 1).1 0) ((Y 2).1 0) ((Y 3).1 0)) I) hx hb hK hP hD hS 1 2 8 3 rfl rfl rfl rfl (r := (RX4, TX4, 13)) (k := 0) rfl (pw_r (rr4_up0)) (by unfold vp_in; decide) dX5_keepTrial_34 (fun H locs hP hD hS => ?_)
    refine lv_aload_n hx hb dX5_keepTrial_35 rfl (lv_at hl 1 rfl) ?_
    refine lv_aload_n hx hb dX5_keepTrial_36 rfl (lv_at hl 1 rfl) ?_
    refine va_get (D := D) (ci := 4) (v := .ref ((Y 5).1 0)) (C := RX5) (T := TX5) (N := 9) hx hb hts hi5 hown hK hP 0 rfl rfl 5 (by decide) wd4 (fun _ h9 => h9) rfl dX5_keepTrial_37 ?_
    refine my_put (wy := pw cI cC cW h Y S q V z U y ((Y 5).1 0) ((Y 5).1 0) (rr4 ((Y 4).1 0) ((Y 1).1 0) ((Y 2).1 0) ((Y 3).1 0)) I) (D := D) (ci := 4) (v := .ref ((Y 5).1 0)) (ty := .object "PickSlots$Warehouse") (C := RX5) (T := TX5) (N := 9) hx hb hts hi5 tyX5 tyX5_ok nmX5 hown hK hP hD hS 0 rfl rfl 4 (by decide) wd3 (fun _ h9 => h9) rfl (by decide +kernel) rfl rfl (Nat.le_of_ble_eq_true rfl) rfl dX5_keepTrial_40 (fun H locs hP hD hS => ?_)
    refine lv_aload_n hx hb dX5_keepTrial_43 rfl (lv_at hl 1 rfl) ?_
    refine lv_aload_n hx hb dX5_keepTrial_44 rfl (lv_at hl 0 rfl) ?_
    refine my_put (wy := pw cI cC cW h Y S q V z U y ((Y 5).1 0) ((Y 0).1 0) (rr4 ((Y 4).1 0) ((Y 1).1 0) ((Y 2).1 0) ((Y 3).1 0)) I) (D := D) (ci := 4) (v := .ref ((Y 0).1 0)) (ty := .object "PickSlots$Warehouse") (C := RX5) (T := TX5) (N := 9) hx hb hts hi5 tyX5 tyX5_ok nmX5 hown hK hP hD hS 0 rfl rfl 5 (by decide) wd4 (fun _ h9 => h9) rfl (by decide +kernel) rfl rfl (Nat.le_of_ble_eq_true rfl) rfl dX5_keepTrial_45 (fun H locs hP hD hS => ?_)
    refine lv_aload_n hx hb dX5_keepTrial_48 rfl (lv_at hl 1 rfl) ?_
    refine lv_dup hx hb dX5_keepTrial_49 rfl ?_
    refine va_get (D := D) (ci := 4) (v := .int (I 0)) (C := RX5) (T := TX5) (N := 9) hx hb hts hi5 hown hK hP 0 rfl rfl 6 (by decide) wd1 (fun _ h9 => h9) rfl dX5_keepTrial_50 ?_
    refine lv_top_eq (y := (0 : Int32)) hI ?_
    refine lv_iconst (v := 1) hx hb dX5_keepTrial_53 (by decide) ?_
    refine lv_iadd hx hb dX5_keepTrial_54 ?_
    refine lv_top_eq (y := (1 : Int32)) (by decide) ?_
    refine my_put (wy := pw cI cC cW h Y S q V z U y ((Y 5).1 0) ((Y 0).1 0) (rr4 ((Y 4).1 0) ((Y 1).1 0) ((Y 2).1 0) ((Y 3).1 0)) (upd I 0 (1 : Int32))) (D := D) (ci := 4) (v := .int (1 : Int32)) (ty := .int) (C := RX5) (T := TX5) (N := 9) hx hb hts hi5 tyX5 tyX5_ok nmX5 hown hK hP hD hS 0 rfl rfl 6 (by decide) wd1 (fun _ h9 => h9) rfl (by decide +kernel) rfl rfl (Nat.le_of_ble_eq_true rfl) rfl dX5_keepTrial_55 (fun H locs hP hD hS => ?_)
    have hp := pw_ps (cI := cI) (cC := cC) (cW := cW) (h := h) (S := S) (q := q) (V := V) (z := z) (U := U) (y := y) (I := (upd I 0 (1 : Int32))) (Y := Y) (Y' := cy 0 Y) (k := [5, 0, 4, 1, 2, 3]) (by decide) rfl rfl rfl rfl rfl rfl rfl
    exact rw_vret (cy 0 Y, (upd I 0 (1 : Int32))) hx hb hr (vP_perm hp hP) (vD_perm hp hD) hS hE dX5_keepTrial_58 hlocks
  have T1 : ∀ (Y : Nat → va_H) (I : Nat → Int32) (ls : Array Slot), I 0 = (1 : Int32) → sp_X5_keepTrial W0 S q V z U y I0 = (cy 1 Y, upd I 0 ((1 : Int32) + 1)) → lv_has ls 2 [(0, .ref (h 0))] → ∀ (H : Heap) (locs : List Loc), va_P D vwCl (pw cI cC cW h Y S q V z U y ((Y 4).1 0) ((Y 5).1 0) (rr4 ((Y 0).1 0) ((Y 1).1 0) ((Y 2).1 0) ((Y 3).1 0)) I) H → va_D A (pw cI cC cW h Y S q V z U y ((Y 4).1 0) ((Y 5).1 0) (rr4 ((Y 0).1 0) ((Y 1).1 0) ((Y 2).1 0) ((Y 3).1 0)) I) → va_S A s.heap H locs → W p l e (headSpec wsX5_keepTrial ({ frames := 1, cells := 0, slots := 0, locals := 22 } : Room)).room s m [.ref (h 0)].toArray below meth c H locs 0 0 (MQ below (va_Qv (fun (u : (Nat → va_H) × (Nat → Int32)) => u = sp_X5_keepTrial W0 S q V z U y I0) (fun u => rwB D A (ps cI cC cW h u.1 S q V z U y u.2)) A) [.ref (h 0)].toArray s 0 0 A) (F0 m 12 ls []) := by
    intro Y I ls hI hE hl H locs hP hD hS
    refine lv_aload_n hx hb dX5_keepTrial_12 rfl (lv_at hl 0 rfl) ?_
    refine va_get (D := D) (ci := 4) (v := .ref (h 1)) (C := RX5) (T := TX5) (N := 9) hx hb hts hi5 hown hK hP 0 rfl rfl 0 (by decide) wd2 (fun _ h9 => h9) rfl dX5_keepTrial_13 ?_
    refine lv_aload_n hx hb dX5_keepTrial_16 rfl (lv_at hl 0 rfl) ?_
    refine va_get (D := D) (ci := 4) (v := .int (I 0)) (C := RX5) (T := TX5) (N := 9) hx hb hts hi5 hown hK hP 0 rfl rfl 6 (by decide) wd1 (fun _ h9 => h9) rfl dX5_keepTrial_17 ?_
    refine lv_top_eq (y := (1 : Int32)) hI ?_
    refine va_aldq hx hb hK hP 1 2 rfl rfl (by unfold vp_in; decide) dX5_keepTrial_20 ?_
    refine W.eq (g2 := F0 m 21 ls [.ref ((Y 1).1 0)]) rfl ?_
    refine lv_astore_n (lv' := [(1, .ref ((Y 1).1 0)), (0, .ref (h 0))]) hx hb dX5_keepTrial_21 rfl hl (by decide) rfl (fun ls hl => ?_)
    refine lv_aload_n hx hb dX5_keepTrial_22 rfl (lv_at hl 1 rfl) ?_
    refine va_get (D := D) (ci := 4) (v := .ref (h 1)) (C := RX5) (T := TX5) (N := 9) hx hb hts hi5 hown hK hP 0 rfl rfl 0 (by decide) wd2 (fun _ h9 => h9) rfl dX5_keepTrial_23 ?_
    refine lv_aload_n hx hb dX5_keepTrial_26 rfl (lv_at hl 1 rfl) ?_
    refine va_get (D := D) (ci := 4) (v := .int (I 0)) (C := RX5) (T := TX5) (N := 9) hx hb hts hi5 hown hK hP 0 rfl rfl 6 (by decide) wd1 (fun _ h9 => h9) rfl dX5_keepTrial_27 ?_
    refine lv_top_eq (y := (1 : Int32)) hI ?_
    refine lv_aload_n hx hb dX5_keepTrial_30 rfl (lv_at hl 1 rfl) ?_
    refine va_get (D := D) (ci := 4) (v := .ref ((Y 4).1 0)) (C := RX5) (T := TX5) (N := 9) hx hb hts hi5 hown hK hP 0 rfl rfl 4 (by decide) wd3 (fun _ h9 => h9) rfl dX5_keepTrial_31 ?_
    refine my_astq (wy := pw cI cC cW h Y S q V z U y ((Y 4).1 0) ((Y 5).1 0) (rr4 ((Y 0).1 0) ((Y 4).1 0) ((Y 2).1 0) ((Y 3).1 0)) I) hx hb hK hP hD hS 1 2 8 3 rfl rfl rfl rfl (r := (RX4, TX4, 13)) (k := 1) rfl (pw_r (rr4_up1)) (by unfold vp_in; decide) dX5_keepTrial_34 (fun H locs hP hD hS => ?_)
    refine lv_aload_n hx hb dX5_keepTrial_35 rfl (lv_at hl 1 rfl) ?_
    refine lv_aload_n hx hb dX5_keepTrial_36 rfl (lv_at hl 1 rfl) ?_
    refine va_get (D := D) (ci := 4) (v := .ref ((Y 5).1 0)) (C := RX5) (T := TX5) (N := 9) hx hb hts hi5 hown hK hP 0 rfl rfl 5 (by decide) wd4 (fun _ h9 => h9) rfl dX5_keepTrial_37 ?_
    refine my_put (wy := pw cI cC cW h Y S q V z U y ((Y 5).1 0) ((Y 5).1 0) (rr4 ((Y 0).1 0) ((Y 4).1 0) ((Y 2).1 0) ((Y 3).1 0)) I) (D := D) (ci := 4) (v := .ref ((Y 5).1 0)) (ty := .object "PickSlots$Warehouse") (C := RX5) (T := TX5) (N := 9) hx hb hts hi5 tyX5 tyX5_ok nmX5 hown hK hP hD hS 0 rfl rfl 4 (by decide) wd3 (fun _ h9 => h9) rfl (by decide +kernel) rfl rfl (Nat.le_of_ble_eq_true rfl) rfl dX5_keepTrial_40 (fun H locs hP hD hS => ?_)
    refine lv_aload_n hx hb dX5_keepTrial_43 rfl (lv_at hl 1 rfl) ?_
    refine lv_aload_n hx hb dX5_keepTrial_44 rfl (lv_at hl 0 rfl) ?_
    refine my_put (wy := pw cI cC cW h Y S q V z U y ((Y 5).1 0) ((Y 1).1 0) (rr4 ((Y 0).1 0) ((Y 4).1 0) ((Y 2).1 0) ((Y 3).1 0)) I) (D := D) (ci := 4) (v := .ref ((Y 1).1 0)) (ty := .object "PickSlots$Warehouse") (C := RX5) (T := TX5) (N := 9) hx hb hts hi5 tyX5 tyX5_ok nmX5 hown hK hP hD hS 0 rfl rfl 5 (by decide) wd4 (fun _ h9 => h9) rfl (by decide +kernel) rfl rfl (Nat.le_of_ble_eq_true rfl) rfl dX5_keepTrial_45 (fun H locs hP hD hS => ?_)
    refine lv_aload_n hx hb dX5_keepTrial_48 rfl (lv_at hl 1 rfl) ?_
    refine lv_dup hx hb dX5_keepTrial_49 rfl ?_
    refine va_get (D := D) (ci := 4) (v := .int (I 0)) (C := RX5) (T := TX5) (N := 9) hx hb hts hi5 hown hK hP 0 rfl rfl 6 (by decide) wd1 (fun _ h9 => h9) rfl dX5_keepTrial_50 ?_
    refine lv_top_eq (y := (1 : Int32)) hI ?_
    refine lv_iconst (v := 1) hx hb dX5_keepTrial_53 (by decide) ?_
    refine lv_iadd hx hb dX5_keepTrial_54 ?_
    refine lv_top_eq (y := (2 : Int32)) (by decide) ?_
    refine my_put (wy := pw cI cC cW h Y S q V z U y ((Y 5).1 0) ((Y 1).1 0) (rr4 ((Y 0).1 0) ((Y 4).1 0) ((Y 2).1 0) ((Y 3).1 0)) (upd I 0 (2 : Int32))) (D := D) (ci := 4) (v := .int (2 : Int32)) (ty := .int) (C := RX5) (T := TX5) (N := 9) hx hb hts hi5 tyX5 tyX5_ok nmX5 hown hK hP hD hS 0 rfl rfl 6 (by decide) wd1 (fun _ h9 => h9) rfl (by decide +kernel) rfl rfl (Nat.le_of_ble_eq_true rfl) rfl dX5_keepTrial_55 (fun H locs hP hD hS => ?_)
    have hp := pw_ps (cI := cI) (cC := cC) (cW := cW) (h := h) (S := S) (q := q) (V := V) (z := z) (U := U) (y := y) (I := (upd I 0 (2 : Int32))) (Y := Y) (Y' := cy 1 Y) (k := [5, 1, 0, 4, 2, 3]) (by decide) rfl rfl rfl rfl rfl rfl rfl
    exact rw_vret (cy 1 Y, (upd I 0 (2 : Int32))) hx hb hr (vP_perm hp hP) (vD_perm hp hD) hS hE dX5_keepTrial_58 hlocks
  have T2 : ∀ (Y : Nat → va_H) (I : Nat → Int32) (ls : Array Slot), I 0 = (2 : Int32) → sp_X5_keepTrial W0 S q V z U y I0 = (cy 2 Y, upd I 0 ((2 : Int32) + 1)) → lv_has ls 2 [(0, .ref (h 0))] → ∀ (H : Heap) (locs : List Loc), va_P D vwCl (pw cI cC cW h Y S q V z U y ((Y 4).1 0) ((Y 5).1 0) (rr4 ((Y 0).1 0) ((Y 1).1 0) ((Y 2).1 0) ((Y 3).1 0)) I) H → va_D A (pw cI cC cW h Y S q V z U y ((Y 4).1 0) ((Y 5).1 0) (rr4 ((Y 0).1 0) ((Y 1).1 0) ((Y 2).1 0) ((Y 3).1 0)) I) → va_S A s.heap H locs → W p l e (headSpec wsX5_keepTrial ({ frames := 1, cells := 0, slots := 0, locals := 22 } : Room)).room s m [.ref (h 0)].toArray below meth c H locs 0 0 (MQ below (va_Qv (fun (u : (Nat → va_H) × (Nat → Int32)) => u = sp_X5_keepTrial W0 S q V z U y I0) (fun u => rwB D A (ps cI cC cW h u.1 S q V z U y u.2)) A) [.ref (h 0)].toArray s 0 0 A) (F0 m 12 ls []) := by
    intro Y I ls hI hE hl H locs hP hD hS
    refine lv_aload_n hx hb dX5_keepTrial_12 rfl (lv_at hl 0 rfl) ?_
    refine va_get (D := D) (ci := 4) (v := .ref (h 1)) (C := RX5) (T := TX5) (N := 9) hx hb hts hi5 hown hK hP 0 rfl rfl 0 (by decide) wd2 (fun _ h9 => h9) rfl dX5_keepTrial_13 ?_
    refine lv_aload_n hx hb dX5_keepTrial_16 rfl (lv_at hl 0 rfl) ?_
    refine va_get (D := D) (ci := 4) (v := .int (I 0)) (C := RX5) (T := TX5) (N := 9) hx hb hts hi5 hown hK hP 0 rfl rfl 6 (by decide) wd1 (fun _ h9 => h9) rfl dX5_keepTrial_17 ?_
    refine lv_top_eq (y := (2 : Int32)) hI ?_
    refine va_aldq hx hb hK hP 1 2 rfl rfl (by unfold vp_in; decide) dX5_keepTrial_20 ?_
    refine W.eq (g2 := F0 m 21 ls [.ref ((Y 2).1 0)]) rfl ?_
    refine lv_astore_n (lv' := [(1, .ref ((Y 2).1 0)), (0, .ref (h 0))]) hx hb dX5_keepTrial_21 rfl hl (by decide) rfl (fun ls hl => ?_)
    refine lv_aload_n hx hb dX5_keepTrial_22 rfl (lv_at hl 1 rfl) ?_
    refine va_get (D := D) (ci := 4) (v := .ref (h 1)) (C := RX5) (T := TX5) (N := 9) hx hb hts hi5 hown hK hP 0 rfl rfl 0 (by decide) wd2 (fun _ h9 => h9) rfl dX5_keepTrial_23 ?_
    refine lv_aload_n hx hb dX5_keepTrial_26 rfl (lv_at hl 1 rfl) ?_
    refine va_get (D := D) (ci := 4) (v := .int (I 0)) (C := RX5) (T := TX5) (N := 9) hx hb hts hi5 hown hK hP 0 rfl rfl 6 (by decide) wd1 (fun _ h9 => h9) rfl dX5_keepTrial_27 ?_
    refine lv_top_eq (y := (2 : Int32)) hI ?_
    refine lv_aload_n hx hb dX5_keepTrial_30 rfl (lv_at hl 1 rfl) ?_
    refine va_get (D := D) (ci := 4) (v := .ref ((Y 4).1 0)) (C := RX5) (T := TX5) (N := 9) hx hb hts hi5 hown hK hP 0 rfl rfl 4 (by decide) wd3 (fun _ h9 => h9) rfl dX5_keepTrial_31 ?_
    refine my_astq (wy := pw cI cC cW h Y S q V z U y ((Y 4).1 0) ((Y 5).1 0) (rr4 ((Y 0).1 0) ((Y 1).1 0) ((Y 4).1 0) ((Y 3).1 0)) I) hx hb hK hP hD hS 1 2 8 3 rfl rfl rfl rfl (r := (RX4, TX4, 13)) (k := 2) rfl (pw_r (rr4_up2)) (by unfold vp_in; decide) dX5_keepTrial_34 (fun H locs hP hD hS => ?_)
    refine lv_aload_n hx hb dX5_keepTrial_35 rfl (lv_at hl 1 rfl) ?_
    refine lv_aload_n hx hb dX5_keepTrial_36 rfl (lv_at hl 1 rfl) ?_
    refine va_get (D := D) (ci := 4) (v := .ref ((Y 5).1 0)) (C := RX5) (T := TX5) (N := 9) hx hb hts hi5 hown hK hP 0 rfl rfl 5 (by decide) wd4 (fun _ h9 => h9) rfl dX5_keepTrial_37 ?_
    refine my_put (wy := pw cI cC cW h Y S q V z U y ((Y 5).1 0) ((Y 5).1 0) (rr4 ((Y 0).1 0) ((Y 1).1 0) ((Y 4).1 0) ((Y 3).1 0)) I) (D := D) (ci := 4) (v := .ref ((Y 5).1 0)) (ty := .object "PickSlots$Warehouse") (C := RX5) (T := TX5) (N := 9) hx hb hts hi5 tyX5 tyX5_ok nmX5 hown hK hP hD hS 0 rfl rfl 4 (by decide) wd3 (fun _ h9 => h9) rfl (by decide +kernel) rfl rfl (Nat.le_of_ble_eq_true rfl) rfl dX5_keepTrial_40 (fun H locs hP hD hS => ?_)
    refine lv_aload_n hx hb dX5_keepTrial_43 rfl (lv_at hl 1 rfl) ?_
    refine lv_aload_n hx hb dX5_keepTrial_44 rfl (lv_at hl 0 rfl) ?_
    refine my_put (wy := pw cI cC cW h Y S q V z U y ((Y 5).1 0) ((Y 2).1 0) (rr4 ((Y 0).1 0) ((Y 1).1 0) ((Y 4).1 0) ((Y 3).1 0)) I) (D := D) (ci := 4) (v := .ref ((Y 2).1 0)) (ty := .object "PickSlots$Warehouse") (C := RX5) (T := TX5) (N := 9) hx hb hts hi5 tyX5 tyX5_ok nmX5 hown hK hP hD hS 0 rfl rfl 5 (by decide) wd4 (fun _ h9 => h9) rfl (by decide +kernel) rfl rfl (Nat.le_of_ble_eq_true rfl) rfl dX5_keepTrial_45 (fun H locs hP hD hS => ?_)
    refine lv_aload_n hx hb dX5_keepTrial_48 rfl (lv_at hl 1 rfl) ?_
    refine lv_dup hx hb dX5_keepTrial_49 rfl ?_
    refine va_get (D := D) (ci := 4) (v := .int (I 0)) (C := RX5) (T := TX5) (N := 9) hx hb hts hi5 hown hK hP 0 rfl rfl 6 (by decide) wd1 (fun _ h9 => h9) rfl dX5_keepTrial_50 ?_
    refine lv_top_eq (y := (2 : Int32)) hI ?_
    refine lv_iconst (v := 1) hx hb dX5_keepTrial_53 (by decide) ?_
    refine lv_iadd hx hb dX5_keepTrial_54 ?_
    refine lv_top_eq (y := (3 : Int32)) (by decide) ?_
    refine my_put (wy := pw cI cC cW h Y S q V z U y ((Y 5).1 0) ((Y 2).1 0) (rr4 ((Y 0).1 0) ((Y 1).1 0) ((Y 4).1 0) ((Y 3).1 0)) (upd I 0 (3 : Int32))) (D := D) (ci := 4) (v := .int (3 : Int32)) (ty := .int) (C := RX5) (T := TX5) (N := 9) hx hb hts hi5 tyX5 tyX5_ok nmX5 hown hK hP hD hS 0 rfl rfl 6 (by decide) wd1 (fun _ h9 => h9) rfl (by decide +kernel) rfl rfl (Nat.le_of_ble_eq_true rfl) rfl dX5_keepTrial_55 (fun H locs hP hD hS => ?_)
    have hp := pw_ps (cI := cI) (cC := cC) (cW := cW) (h := h) (S := S) (q := q) (V := V) (z := z) (U := U) (y := y) (I := (upd I 0 (3 : Int32))) (Y := Y) (Y' := cy 2 Y) (k := [5, 2, 0, 1, 4, 3]) (by decide) rfl rfl rfl rfl rfl rfl rfl
    exact rw_vret (cy 2 Y, (upd I 0 (3 : Int32))) hx hb hr (vP_perm hp hP) (vD_perm hp hD) hS hE dX5_keepTrial_58 hlocks
  have T3 : ∀ (Y : Nat → va_H) (I : Nat → Int32) (ls : Array Slot), I 0 = (3 : Int32) → sp_X5_keepTrial W0 S q V z U y I0 = (cy 3 Y, upd I 0 ((3 : Int32) + 1)) → lv_has ls 2 [(0, .ref (h 0))] → ∀ (H : Heap) (locs : List Loc), va_P D vwCl (pw cI cC cW h Y S q V z U y ((Y 4).1 0) ((Y 5).1 0) (rr4 ((Y 0).1 0) ((Y 1).1 0) ((Y 2).1 0) ((Y 3).1 0)) I) H → va_D A (pw cI cC cW h Y S q V z U y ((Y 4).1 0) ((Y 5).1 0) (rr4 ((Y 0).1 0) ((Y 1).1 0) ((Y 2).1 0) ((Y 3).1 0)) I) → va_S A s.heap H locs → W p l e (headSpec wsX5_keepTrial ({ frames := 1, cells := 0, slots := 0, locals := 22 } : Room)).room s m [.ref (h 0)].toArray below meth c H locs 0 0 (MQ below (va_Qv (fun (u : (Nat → va_H) × (Nat → Int32)) => u = sp_X5_keepTrial W0 S q V z U y I0) (fun u => rwB D A (ps cI cC cW h u.1 S q V z U y u.2)) A) [.ref (h 0)].toArray s 0 0 A) (F0 m 12 ls []) := by
    intro Y I ls hI hE hl H locs hP hD hS
    refine lv_aload_n hx hb dX5_keepTrial_12 rfl (lv_at hl 0 rfl) ?_
    refine va_get (D := D) (ci := 4) (v := .ref (h 1)) (C := RX5) (T := TX5) (N := 9) hx hb hts hi5 hown hK hP 0 rfl rfl 0 (by decide) wd2 (fun _ h9 => h9) rfl dX5_keepTrial_13 ?_
    refine lv_aload_n hx hb dX5_keepTrial_16 rfl (lv_at hl 0 rfl) ?_
    refine va_get (D := D) (ci := 4) (v := .int (I 0)) (C := RX5) (T := TX5) (N := 9) hx hb hts hi5 hown hK hP 0 rfl rfl 6 (by decide) wd1 (fun _ h9 => h9) rfl dX5_keepTrial_17 ?_
    refine lv_top_eq (y := (3 : Int32)) hI ?_
    refine va_aldq hx hb hK hP 1 2 rfl rfl (by unfold vp_in; decide) dX5_keepTrial_20 ?_
    refine W.eq (g2 := F0 m 21 ls [.ref ((Y 3).1 0)]) rfl ?_
    refine lv_astore_n (lv' := [(1, .ref ((Y 3).1 0)), (0, .ref (h 0))]) hx hb dX5_keepTrial_21 rfl hl (by decide) rfl (fun ls hl => ?_)
    refine lv_aload_n hx hb dX5_keepTrial_22 rfl (lv_at hl 1 rfl) ?_
    refine va_get (D := D) (ci := 4) (v := .ref (h 1)) (C := RX5) (T := TX5) (N := 9) hx hb hts hi5 hown hK hP 0 rfl rfl 0 (by decide) wd2 (fun _ h9 => h9) rfl dX5_keepTrial_23 ?_
    refine lv_aload_n hx hb dX5_keepTrial_26 rfl (lv_at hl 1 rfl) ?_
    refine va_get (D := D) (ci := 4) (v := .int (I 0)) (C := RX5) (T := TX5) (N := 9) hx hb hts hi5 hown hK hP 0 rfl rfl 6 (by decide) wd1 (fun _ h9 => h9) rfl dX5_keepTrial_27 ?_
    refine lv_top_eq (y := (3 : Int32)) hI ?_
    refine lv_aload_n hx hb dX5_keepTrial_30 rfl (lv_at hl 1 rfl) ?_
    refine va_get (D := D) (ci := 4) (v := .ref ((Y 4).1 0)) (C := RX5) (T := TX5) (N := 9) hx hb hts hi5 hown hK hP 0 rfl rfl 4 (by decide) wd3 (fun _ h9 => h9) rfl dX5_keepTrial_31 ?_
    refine my_astq (wy := pw cI cC cW h Y S q V z U y ((Y 4).1 0) ((Y 5).1 0) (rr4 ((Y 0).1 0) ((Y 1).1 0) ((Y 2).1 0) ((Y 4).1 0)) I) hx hb hK hP hD hS 1 2 8 3 rfl rfl rfl rfl (r := (RX4, TX4, 13)) (k := 3) rfl (pw_r (rr4_up3)) (by unfold vp_in; decide) dX5_keepTrial_34 (fun H locs hP hD hS => ?_)
    refine lv_aload_n hx hb dX5_keepTrial_35 rfl (lv_at hl 1 rfl) ?_
    refine lv_aload_n hx hb dX5_keepTrial_36 rfl (lv_at hl 1 rfl) ?_
    refine va_get (D := D) (ci := 4) (v := .ref ((Y 5).1 0)) (C := RX5) (T := TX5) (N := 9) hx hb hts hi5 hown hK hP 0 rfl rfl 5 (by decide) wd4 (fun _ h9 => h9) rfl dX5_keepTrial_37 ?_
    refine my_put (wy := pw cI cC cW h Y S q V z U y ((Y 5).1 0) ((Y 5).1 0) (rr4 ((Y 0).1 0) ((Y 1).1 0) ((Y 2).1 0) ((Y 4).1 0)) I) (D := D) (ci := 4) (v := .ref ((Y 5).1 0)) (ty := .object "PickSlots$Warehouse") (C := RX5) (T := TX5) (N := 9) hx hb hts hi5 tyX5 tyX5_ok nmX5 hown hK hP hD hS 0 rfl rfl 4 (by decide) wd3 (fun _ h9 => h9) rfl (by decide +kernel) rfl rfl (Nat.le_of_ble_eq_true rfl) rfl dX5_keepTrial_40 (fun H locs hP hD hS => ?_)
    refine lv_aload_n hx hb dX5_keepTrial_43 rfl (lv_at hl 1 rfl) ?_
    refine lv_aload_n hx hb dX5_keepTrial_44 rfl (lv_at hl 0 rfl) ?_
    refine my_put (wy := pw cI cC cW h Y S q V z U y ((Y 5).1 0) ((Y 3).1 0) (rr4 ((Y 0).1 0) ((Y 1).1 0) ((Y 2).1 0) ((Y 4).1 0)) I) (D := D) (ci := 4) (v := .ref ((Y 3).1 0)) (ty := .object "PickSlots$Warehouse") (C := RX5) (T := TX5) (N := 9) hx hb hts hi5 tyX5 tyX5_ok nmX5 hown hK hP hD hS 0 rfl rfl 5 (by decide) wd4 (fun _ h9 => h9) rfl (by decide +kernel) rfl rfl (Nat.le_of_ble_eq_true rfl) rfl dX5_keepTrial_45 (fun H locs hP hD hS => ?_)
    refine lv_aload_n hx hb dX5_keepTrial_48 rfl (lv_at hl 1 rfl) ?_
    refine lv_dup hx hb dX5_keepTrial_49 rfl ?_
    refine va_get (D := D) (ci := 4) (v := .int (I 0)) (C := RX5) (T := TX5) (N := 9) hx hb hts hi5 hown hK hP 0 rfl rfl 6 (by decide) wd1 (fun _ h9 => h9) rfl dX5_keepTrial_50 ?_
    refine lv_top_eq (y := (3 : Int32)) hI ?_
    refine lv_iconst (v := 1) hx hb dX5_keepTrial_53 (by decide) ?_
    refine lv_iadd hx hb dX5_keepTrial_54 ?_
    refine lv_top_eq (y := (4 : Int32)) (by decide) ?_
    refine my_put (wy := pw cI cC cW h Y S q V z U y ((Y 5).1 0) ((Y 3).1 0) (rr4 ((Y 0).1 0) ((Y 1).1 0) ((Y 2).1 0) ((Y 4).1 0)) (upd I 0 (4 : Int32))) (D := D) (ci := 4) (v := .int (4 : Int32)) (ty := .int) (C := RX5) (T := TX5) (N := 9) hx hb hts hi5 tyX5 tyX5_ok nmX5 hown hK hP hD hS 0 rfl rfl 6 (by decide) wd1 (fun _ h9 => h9) rfl (by decide +kernel) rfl rfl (Nat.le_of_ble_eq_true rfl) rfl dX5_keepTrial_55 (fun H locs hP hD hS => ?_)
    have hp := pw_ps (cI := cI) (cC := cC) (cW := cW) (h := h) (S := S) (q := q) (V := V) (z := z) (U := U) (y := y) (I := (upd I 0 (4 : Int32))) (Y := Y) (Y' := cy 3 Y) (k := [5, 3, 0, 1, 2, 4]) (by decide) rfl rfl rfl rfl rfl rfl rfl
    exact rw_vret (cy 3 Y, (upd I 0 (4 : Int32))) hx hb hr (vP_perm hp hP) (vD_perm hp hD) hS hE dX5_keepTrial_58 hlocks
  subst hW0 hI0
  have hl := lv_entry ([.ref (h 0)]) (n := 2) (Nat.le_of_ble_eq_true rfl)
  rw [lg_entry_eq]
  generalize (lg_sl ([.ref (h 0)]) ++ List.replicate (2 - (lg_sl ([.ref (h 0)])).length) Slot.unset).toArray = ls at hl ⊢
  have hl : lv_has ls 2 [(0, .ref (h 0))] := hl
  refine lv_aload_n hx hb dX5_keepTrial_0 rfl (lv_at hl 0 rfl) ?_
  refine va_get (D := D) (ci := 4) (v := .int (I 0)) (C := RX5) (T := TX5) (N := 9) hx hb hts hi5 hown hK hP 0 rfl rfl 6 (by decide) wd1 (fun _ h9 => h9) rfl dX5_keepTrial_1 ?_
  refine lv_iconst (v := 4) hx hb dX5_keepTrial_4 (by decide) ?_
  refine lv_icmp_lt (tgt := 12) hx hb dX5_keepTrial_5 (by decide) (fun c5 => ?_) (fun c5 => ?_)
  · have h3 : (Y 4).1 = (Y 4).1 := rfl
    have hE0 : sp_X5_keepTrial Y S q V z U y I = (cy (ix (I 0)) Y, upd I 0 (I 0 + 1)) := if_pos c5
    rcases I04 h1 (by rw [lt_toInt, show (4 : Int32).toInt = 4 from by decide] at c5; omega) with q0 | q0 | q0 | q0
    · exact T0 Y I _ q0 (by rw [hE0, q0]; rfl) hl _ _ hP hD hS
    · exact T1 Y I _ q0 (by rw [hE0, q0]; rfl) hl _ _ hP hD hS
    · exact T2 Y I _ q0 (by rw [hE0, q0]; rfl) hl _ _ hP hD hS
    · exact T3 Y I _ q0 (by rw [hE0, q0]; rfl) hl _ _ hP hD hS
  · refine lv_aload_n hx hb dX5_keepTrial_8 rfl (lv_at hl 0 rfl) ?_
    refine rwVv CF (c_X5_dropOldestState l D cI cC cW t h _ Y S q V z U y I) (cwV 0 hts gX5_keepTrial_X5_dropOldestState rfl rfl rfl (by decide +kernel) ⟨Nat.le_of_ble_eq_true rfl, Nat.le_of_ble_eq_true rfl⟩) hP hD hK hX hS hA 0 4 ps_0 rfl rfl hl.1 rfl (Nat.le_of_ble_eq_true rfl) dX5_keepTrial_9 ⟨Nat.zero_le _, Nat.zero_le _⟩ (fun H locs hP hD hS => ?_)
    exact T3 (dr Y) (upd I 0 3) _ rfl (if_neg c5) hl _ _ hP hD hS

def sp_X5_undo (Y : Nat → va_H) (S q V : Nat → Int32) (z : Int32) (U : Nat → Int32) (y : Int32) (I : Nat → Int32) : Int32 × ((Nat → va_H) × (Nat → Int32)) := if 1 ≤ I 0 then (I 0 - 1, (sp4 (ix (I 0 - 1)) Y, upd I 0 (I 0 - 1))) else (-2, (Y, I))

set_option maxHeartbeats 4000000 in
set_option maxRecDepth 100000 in
theorem c_X5_undo (l : Launch) (D : va_G) (cI cC cW : ClassId) (t : Nat → Nat) (h : Nat → Nat) (sz : Nat) (Y : Nat → va_H) (S q V : Nat → Int32) (z : Int32) (U : Nat → Int32) (y : Int32) (I : Nat → Int32) (h1 : 0 ≤ (I 0).toInt) (h2 : (I 0).toInt ≤ 4) : Met l yX5_undo wsX5_undo ({ frames := 0, cells := 0, slots := 0, locals := 0 }) (va_Pc [.ref (h 0)] (rwP D (tyL cI cC cW) (ps cI cC cW h Y S q V z U y I) t sz)) (va_Qi (fun (r : Int32) (u : (Nat → va_H) × (Nat → Int32)) => (r, u) = sp_X5_undo Y S q V z U y I) (fun u => rwB D (va_A (ps cI cC cW h Y S q V z U y I) sz) (ps cI cC cW h u.1 S q V z U y u.2)) (va_A (ps cI cC cW h Y S q V z U y I) sz)) 0 0 (va_A (ps cI cC cW h Y S q V z U y I) sz) := by
  refine Met.ofW (cc := cX5_undo) (maxL := 2) (ret := (some .int)) (by decide) rfl ?_
  intro p e s m args below meth c s₁ B hml hv
  obtain ⟨rfl, hsz, hP, hK, hD0, hX⟩ := hv
  have hx := B.exec
  have hb := B.bytes
  have hr := B.returns
  have hts := atoms_spec (ws := wsX5_undo) B.pre
  have hown : s.vm.findClass RX5 = some m.cls := findClass_of_methodNamed B.named
  have hlocks := B.notSynchronized
  subst hsz
  have hD := hD0.self (sz := s.heap.size)
  generalize hAe : va_A (ps cI cC cW h Y S q V z U y I) s.heap.size = A at hD hX ⊢
  have hA : ∀ q : Nat, s.heap.size ≤ q → A q := fun q h => by rw [← hAe]; exact Or.inr h
  have hS : va_S A s.heap s.heap [] := va_S.rf
  have hP : va_P D vwCl (pw cI cC cW h Y S q V z U y ((Y 4).1 0) ((Y 5).1 0) (rr4 ((Y 0).1 0) ((Y 1).1 0) ((Y 2).1 0) ((Y 3).1 0)) I) s.heap := hP
  have hD : va_D A (pw cI cC cW h Y S q V z U y ((Y 4).1 0) ((Y 5).1 0) (rr4 ((Y 0).1 0) ((Y 1).1 0) ((Y 2).1 0) ((Y 3).1 0)) I) := hD
  have wd1 : (Cond.fieldLink RX5 112 "PickSlots" "states" "I").before [.ref (h 0)].toArray s = true := hts _ (List.mem_of_getElem? (i := 1) rfl)
  have wd2 : (Cond.fieldLink RX5 33 "PickSlots" "now" "LPickSlots$Warehouse;").before [.ref (h 0)].toArray s = true := hts _ (List.mem_of_getElem? (i := 2) rfl)
  have wd3 : (Cond.fieldLink RX5 11 "PickSlots" "history" "[LPickSlots$Warehouse;").before [.ref (h 0)].toArray s = true := hts _ (List.mem_of_getElem? (i := 3) rfl)
  have hi5 : ∀ w ∈ wsX50, w ∈ wsX5_undo := fun w h => List.mem_cons_of_mem _ (List.mem_append_right _ (h))
  have hl := lv_entry ([.ref (h 0)]) (n := 2) (Nat.le_of_ble_eq_true rfl)
  rw [lg_entry_eq]
  generalize (lg_sl ([.ref (h 0)]) ++ List.replicate (2 - (lg_sl ([.ref (h 0)])).length) Slot.unset).toArray = ls at hl ⊢
  have hl : lv_has ls 2 [(0, .ref (h 0))] := hl
  refine lv_aload_n hx hb dX5_undo_0 rfl (lv_at hl 0 rfl) ?_
  refine va_get (D := D) (ci := 4) (v := .int (I 0)) (C := RX5) (T := TX5) (N := 9) hx hb hts hi5 hown hK hP 0 rfl rfl 6 (by decide) wd1 (fun _ h9 => h9) rfl dX5_undo_1 ?_
  refine lv_iconst (v := 1) hx hb dX5_undo_4 (by decide) ?_
  refine lv_icmp_ge (tgt := 11) hx hb dX5_undo_5 (by decide) (fun c5 => ?_) (fun c5 => ?_)
  · refine lv_aload_n hx hb dX5_undo_11 rfl (lv_at hl 0 rfl) ?_
    refine lv_dup hx hb dX5_undo_12 rfl ?_
    refine va_get (D := D) (ci := 4) (v := .int (I 0)) (C := RX5) (T := TX5) (N := 9) hx hb hts hi5 hown hK hP 0 rfl rfl 6 (by decide) wd1 (fun _ h9 => h9) rfl dX5_undo_13 ?_
    refine lv_iconst (v := 1) hx hb dX5_undo_16 (by decide) ?_
    refine lv_isub hx hb dX5_undo_17 ?_
    refine my_put (wy := pw cI cC cW h Y S q V z U y ((Y 4).1 0) ((Y 5).1 0) (rr4 ((Y 0).1 0) ((Y 1).1 0) ((Y 2).1 0) ((Y 3).1 0)) (upd I 0 ((I 0) - (1 : Int32)))) (D := D) (ci := 4) (v := .int ((I 0) - (1 : Int32))) (ty := .int) (C := RX5) (T := TX5) (N := 9) hx hb hts hi5 tyX5 tyX5_ok nmX5 hown hK hP hD hS 0 rfl rfl 6 (by decide) wd1 (fun _ h9 => h9) rfl (by decide +kernel) rfl rfl (Nat.le_of_ble_eq_true rfl) rfl dX5_undo_18 (fun H locs hP hD hS => ?_)
    have hE0 : sp_X5_undo Y S q V z U y I = (I 0 - 1, (sp4 (ix (I 0 - 1)) Y, upd I 0 (I 0 - 1))) := if_pos c5
    rcases I04 (x := I 0 - 1) (by rw [sub_toInt1 h1]; rw [le_toInt, show (1 : Int32).toInt = 1 from by decide] at c5; omega) (by rw [sub_toInt1 h1]; omega) with q0 | q0 | q0 | q0
    · refine lv_aload_n hx hb dX5_undo_21 rfl (lv_at hl 0 rfl) ?_
      refine va_get (D := D) (ci := 4) (v := .ref ((Y 4).1 0)) (C := RX5) (T := TX5) (N := 9) hx hb hts hi5 hown hK hP 0 rfl rfl 4 (by decide) wd2 (fun _ h9 => h9) rfl dX5_undo_22 ?_
      refine lv_astore_n (lv' := [(1, .ref ((Y 4).1 0)), (0, .ref (h 0))]) hx hb dX5_undo_25 rfl hl (by decide) rfl (fun ls hl => ?_)
      refine lv_aload_n hx hb dX5_undo_26 rfl (lv_at hl 1 rfl) ?_
      refine lv_aload_n hx hb dX5_undo_27 rfl (lv_at hl 1 rfl) ?_
      refine va_get (D := D) (ci := 4) (v := .ref (h 1)) (C := RX5) (T := TX5) (N := 9) hx hb hts hi5 hown hK hP 0 rfl rfl 0 (by decide) wd3 (fun _ h9 => h9) rfl dX5_undo_28 ?_
      refine lv_aload_n hx hb dX5_undo_31 rfl (lv_at hl 1 rfl) ?_
      refine va_get (D := D) (ci := 4) (v := .int ((upd I 0 ((I 0) - (1 : Int32))) 0)) (C := RX5) (T := TX5) (N := 9) hx hb hts hi5 hown hK hP 0 rfl rfl 6 (by decide) wd1 (fun _ h9 => h9) rfl dX5_undo_32 ?_
      refine lv_top_eq (y := (0 : Int32)) q0 ?_
      refine va_aldq hx hb hK hP 1 2 rfl rfl (by unfold vp_in; decide) dX5_undo_35 ?_
      refine W.eq (g2 := F0 m 36 ls [.ref ((Y 0).1 0), .ref (h 0)]) rfl ?_
      refine my_put (wy := pw cI cC cW h Y S q V z U y ((Y 0).1 0) ((Y 5).1 0) (rr4 ((Y 0).1 0) ((Y 1).1 0) ((Y 2).1 0) ((Y 3).1 0)) (upd I 0 ((I 0) - (1 : Int32)))) (D := D) (ci := 4) (v := .ref ((Y 0).1 0)) (ty := .object "PickSlots$Warehouse") (C := RX5) (T := TX5) (N := 9) hx hb hts hi5 tyX5 tyX5_ok nmX5 hown hK hP hD hS 0 rfl rfl 4 (by decide) wd2 (fun _ h9 => h9) rfl (by decide +kernel) rfl rfl (Nat.le_of_ble_eq_true rfl) rfl dX5_undo_36 (fun H locs hP hD hS => ?_)
      refine lv_aload_n hx hb dX5_undo_39 rfl (lv_at hl 1 rfl) ?_
      refine va_get (D := D) (ci := 4) (v := .ref (h 1)) (C := RX5) (T := TX5) (N := 9) hx hb hts hi5 hown hK hP 0 rfl rfl 0 (by decide) wd3 (fun _ h9 => h9) rfl dX5_undo_40 ?_
      refine lv_aload_n hx hb dX5_undo_43 rfl (lv_at hl 1 rfl) ?_
      refine va_get (D := D) (ci := 4) (v := .int ((upd I 0 ((I 0) - (1 : Int32))) 0)) (C := RX5) (T := TX5) (N := 9) hx hb hts hi5 hown hK hP 0 rfl rfl 6 (by decide) wd1 (fun _ h9 => h9) rfl dX5_undo_44 ?_
      refine lv_top_eq (y := (0 : Int32)) q0 ?_
      refine lv_aload_n hx hb dX5_undo_47 rfl (lv_at hl 0 rfl) ?_
      refine my_astq (wy := pw cI cC cW h Y S q V z U y ((Y 0).1 0) ((Y 5).1 0) (rr4 ((Y 4).1 0) ((Y 1).1 0) ((Y 2).1 0) ((Y 3).1 0)) (upd I 0 ((I 0) - (1 : Int32)))) hx hb hK hP hD hS 1 2 8 3 rfl rfl rfl rfl (r := (RX4, TX4, 13)) (k := 0) rfl (pw_r (rr4_up0)) (by unfold vp_in; decide) dX5_undo_48 (fun H locs hP hD hS => ?_)
      refine lv_aload_n hx hb dX5_undo_49 rfl (lv_at hl 1 rfl) ?_
      refine va_get (D := D) (ci := 4) (v := .int ((upd I 0 ((I 0) - (1 : Int32))) 0)) (C := RX5) (T := TX5) (N := 9) hx hb hts hi5 hown hK hP 0 rfl rfl 6 (by decide) wd1 (fun _ h9 => h9) rfl dX5_undo_50 ?_
      refine lv_top_eq (y := (0 : Int32)) q0 ?_
      have hp := pw_ps (cI := cI) (cC := cC) (cW := cW) (h := h) (S := S) (q := q) (V := V) (z := z) (U := U) (y := y) (I := (upd I 0 ((I 0) - (1 : Int32)))) (Y := Y) (Y' := sp4 0 Y) (k := [0, 5, 4, 1, 2, 3]) (by decide) rfl rfl rfl rfl rfl rfl rfl
      have hq : upd I 0 (I 0 - 1) = upd I 0 (I 0 - 1) := rfl
      exact rw_ret (sp4 0 Y, (upd I 0 ((I 0) - (1 : Int32)))) hx hb hr (vP_perm hp hP) (vD_perm hp hD) hS (by rw [hE0, show ix (I 0 - 1) = 0 by rw [q0]; rfl, q0]) dX5_undo_53 hlocks
    · refine lv_aload_n hx hb dX5_undo_21 rfl (lv_at hl 0 rfl) ?_
      refine va_get (D := D) (ci := 4) (v := .ref ((Y 4).1 0)) (C := RX5) (T := TX5) (N := 9) hx hb hts hi5 hown hK hP 0 rfl rfl 4 (by decide) wd2 (fun _ h9 => h9) rfl dX5_undo_22 ?_
      refine lv_astore_n (lv' := [(1, .ref ((Y 4).1 0)), (0, .ref (h 0))]) hx hb dX5_undo_25 rfl hl (by decide) rfl (fun ls hl => ?_)
      refine lv_aload_n hx hb dX5_undo_26 rfl (lv_at hl 1 rfl) ?_
      refine lv_aload_n hx hb dX5_undo_27 rfl (lv_at hl 1 rfl) ?_
      refine va_get (D := D) (ci := 4) (v := .ref (h 1)) (C := RX5) (T := TX5) (N := 9) hx hb hts hi5 hown hK hP 0 rfl rfl 0 (by decide) wd3 (fun _ h9 => h9) rfl dX5_undo_28 ?_
      refine lv_aload_n hx hb dX5_undo_31 rfl (lv_at hl 1 rfl) ?_
      refine va_get (D := D) (ci := 4) (v := .int ((upd I 0 ((I 0) - (1 : Int32))) 0)) (C := RX5) (T := TX5) (N := 9) hx hb hts hi5 hown hK hP 0 rfl rfl 6 (by decide) wd1 (fun _ h9 => h9) rfl dX5_undo_32 ?_
      refine lv_top_eq (y := (1 : Int32)) q0 ?_
      refine va_aldq hx hb hK hP 1 2 rfl rfl (by unfold vp_in; decide) dX5_undo_35 ?_
      refine W.eq (g2 := F0 m 36 ls [.ref ((Y 1).1 0), .ref (h 0)]) rfl ?_
      refine my_put (wy := pw cI cC cW h Y S q V z U y ((Y 1).1 0) ((Y 5).1 0) (rr4 ((Y 0).1 0) ((Y 1).1 0) ((Y 2).1 0) ((Y 3).1 0)) (upd I 0 ((I 0) - (1 : Int32)))) (D := D) (ci := 4) (v := .ref ((Y 1).1 0)) (ty := .object "PickSlots$Warehouse") (C := RX5) (T := TX5) (N := 9) hx hb hts hi5 tyX5 tyX5_ok nmX5 hown hK hP hD hS 0 rfl rfl 4 (by decide) wd2 (fun _ h9 => h9) rfl (by decide +kernel) rfl rfl (Nat.le_of_ble_eq_true rfl) rfl dX5_undo_36 (fun H locs hP hD hS => ?_)
      refine lv_aload_n hx hb dX5_undo_39 rfl (lv_at hl 1 rfl) ?_
      refine va_get (D := D) (ci := 4) (v := .ref (h 1)) (C := RX5) (T := TX5) (N := 9) hx hb hts hi5 hown hK hP 0 rfl rfl 0 (by decide) wd3 (fun _ h9 => h9) rfl dX5_undo_40 ?_
      refine lv_aload_n hx hb dX5_undo_43 rfl (lv_at hl 1 rfl) ?_
      refine va_get (D := D) (ci := 4) (v := .int ((upd I 0 ((I 0) - (1 : Int32))) 0)) (C := RX5) (T := TX5) (N := 9) hx hb hts hi5 hown hK hP 0 rfl rfl 6 (by decide) wd1 (fun _ h9 => h9) rfl dX5_undo_44 ?_
      refine lv_top_eq (y := (1 : Int32)) q0 ?_
      refine lv_aload_n hx hb dX5_undo_47 rfl (lv_at hl 0 rfl) ?_
      refine my_astq (wy := pw cI cC cW h Y S q V z U y ((Y 1).1 0) ((Y 5).1 0) (rr4 ((Y 0).1 0) ((Y 4).1 0) ((Y 2).1 0) ((Y 3).1 0)) (upd I 0 ((I 0) - (1 : Int32)))) hx hb hK hP hD hS 1 2 8 3 rfl rfl rfl rfl (r := (RX4, TX4, 13)) (k := 1) rfl (pw_r (rr4_up1)) (by unfold vp_in; decide) dX5_undo_48 (fun H locs hP hD hS => ?_)
      refine lv_aload_n hx hb dX5_undo_49 rfl (lv_at hl 1 rfl) ?_
      refine va_get (D := D) (ci := 4) (v := .int ((upd I 0 ((I 0) - (1 : Int32))) 0)) (C := RX5) (T := TX5) (N := 9) hx hb hts hi5 hown hK hP 0 rfl rfl 6 (by decide) wd1 (fun _ h9 => h9) rfl dX5_undo_50 ?_
      refine lv_top_eq (y := (1 : Int32)) q0 ?_
      have hp := pw_ps (cI := cI) (cC := cC) (cW := cW) (h := h) (S := S) (q := q) (V := V) (z := z) (U := U) (y := y) (I := (upd I 0 ((I 0) - (1 : Int32)))) (Y := Y) (Y' := sp4 1 Y) (k := [1, 5, 0, 4, 2, 3]) (by decide) rfl rfl rfl rfl rfl rfl rfl
      have hq : upd I 0 (I 0 - 1) = upd I 0 (I 0 - 1) := rfl
      exact rw_ret (sp4 1 Y, (upd I 0 ((I 0) - (1 : Int32)))) hx hb hr (vP_perm hp hP) (vD_perm hp hD) hS (by rw [hE0, show ix (I 0 - 1) = 1 by rw [q0]; rfl, q0]) dX5_undo_53 hlocks
    · refine lv_aload_n hx hb dX5_undo_21 rfl (lv_at hl 0 rfl) ?_
      refine va_get (D := D) (ci := 4) (v := .ref ((Y 4).1 0)) (C := RX5) (T := TX5) (N := 9) hx hb hts hi5 hown hK hP 0 rfl rfl 4 (by decide) wd2 (fun _ h9 => h9) rfl dX5_undo_22 ?_
      refine lv_astore_n (lv' := [(1, .ref ((Y 4).1 0)), (0, .ref (h 0))]) hx hb dX5_undo_25 rfl hl (by decide) rfl (fun ls hl => ?_)
      refine lv_aload_n hx hb dX5_undo_26 rfl (lv_at hl 1 rfl) ?_
      refine lv_aload_n hx hb dX5_undo_27 rfl (lv_at hl 1 rfl) ?_
      refine va_get (D := D) (ci := 4) (v := .ref (h 1)) (C := RX5) (T := TX5) (N := 9) hx hb hts hi5 hown hK hP 0 rfl rfl 0 (by decide) wd3 (fun _ h9 => h9) rfl dX5_undo_28 ?_
      refine lv_aload_n hx hb dX5_undo_31 rfl (lv_at hl 1 rfl) ?_
      refine va_get (D := D) (ci := 4) (v := .int ((upd I 0 ((I 0) - (1 : Int32))) 0)) (C := RX5) (T := TX5) (N := 9) hx hb hts hi5 hown hK hP 0 rfl rfl 6 (by decide) wd1 (fun _ h9 => h9) rfl dX5_undo_32 ?_
      refine lv_top_eq (y := (2 : Int32)) q0 ?_
      refine va_aldq hx hb hK hP 1 2 rfl rfl (by unfold vp_in; decide) dX5_undo_35 ?_
      refine W.eq (g2 := F0 m 36 ls [.ref ((Y 2).1 0), .ref (h 0)]) rfl ?_
      refine my_put (wy := pw cI cC cW h Y S q V z U y ((Y 2).1 0) ((Y 5).1 0) (rr4 ((Y 0).1 0) ((Y 1).1 0) ((Y 2).1 0) ((Y 3).1 0)) (upd I 0 ((I 0) - (1 : Int32)))) (D := D) (ci := 4) (v := .ref ((Y 2).1 0)) (ty := .object "PickSlots$Warehouse") (C := RX5) (T := TX5) (N := 9) hx hb hts hi5 tyX5 tyX5_ok nmX5 hown hK hP hD hS 0 rfl rfl 4 (by decide) wd2 (fun _ h9 => h9) rfl (by decide +kernel) rfl rfl (Nat.le_of_ble_eq_true rfl) rfl dX5_undo_36 (fun H locs hP hD hS => ?_)
      refine lv_aload_n hx hb dX5_undo_39 rfl (lv_at hl 1 rfl) ?_
      refine va_get (D := D) (ci := 4) (v := .ref (h 1)) (C := RX5) (T := TX5) (N := 9) hx hb hts hi5 hown hK hP 0 rfl rfl 0 (by decide) wd3 (fun _ h9 => h9) rfl dX5_undo_40 ?_
      refine lv_aload_n hx hb dX5_undo_43 rfl (lv_at hl 1 rfl) ?_
      refine va_get (D := D) (ci := 4) (v := .int ((upd I 0 ((I 0) - (1 : Int32))) 0)) (C := RX5) (T := TX5) (N := 9) hx hb hts hi5 hown hK hP 0 rfl rfl 6 (by decide) wd1 (fun _ h9 => h9) rfl dX5_undo_44 ?_
      refine lv_top_eq (y := (2 : Int32)) q0 ?_
      refine lv_aload_n hx hb dX5_undo_47 rfl (lv_at hl 0 rfl) ?_
      refine my_astq (wy := pw cI cC cW h Y S q V z U y ((Y 2).1 0) ((Y 5).1 0) (rr4 ((Y 0).1 0) ((Y 1).1 0) ((Y 4).1 0) ((Y 3).1 0)) (upd I 0 ((I 0) - (1 : Int32)))) hx hb hK hP hD hS 1 2 8 3 rfl rfl rfl rfl (r := (RX4, TX4, 13)) (k := 2) rfl (pw_r (rr4_up2)) (by unfold vp_in; decide) dX5_undo_48 (fun H locs hP hD hS => ?_)
      refine lv_aload_n hx hb dX5_undo_49 rfl (lv_at hl 1 rfl) ?_
      refine va_get (D := D) (ci := 4) (v := .int ((upd I 0 ((I 0) - (1 : Int32))) 0)) (C := RX5) (T := TX5) (N := 9) hx hb hts hi5 hown hK hP 0 rfl rfl 6 (by decide) wd1 (fun _ h9 => h9) rfl dX5_undo_50 ?_
      refine lv_top_eq (y := (2 : Int32)) q0 ?_
      have hp := pw_ps (cI := cI) (cC := cC) (cW := cW) (h := h) (S := S) (q := q) (V := V) (z := z) (U := U) (y := y) (I := (upd I 0 ((I 0) - (1 : Int32)))) (Y := Y) (Y' := sp4 2 Y) (k := [2, 5, 0, 1, 4, 3]) (by decide) rfl rfl rfl rfl rfl rfl rfl
      have hq : upd I 0 (I 0 - 1) = upd I 0 (I 0 - 1) := rfl
      exact rw_ret (sp4 2 Y, (upd I 0 ((I 0) - (1 : Int32)))) hx hb hr (vP_perm hp hP) (vD_perm hp hD) hS (by rw [hE0, show ix (I 0 - 1) = 2 by rw [q0]; rfl, q0]) dX5_undo_53 hlocks
    · refine lv_aload_n hx hb dX5_undo_21 rfl (lv_at hl 0 rfl) ?_
      refine va_get (D := D) (ci := 4) (v := .ref ((Y 4).1 0)) (C := RX5) (T := TX5) (N := 9) hx hb hts hi5 hown hK hP 0 rfl rfl 4 (by decide) wd2 (fun _ h9 => h9) rfl dX5_undo_22 ?_
      refine lv_astore_n (lv' := [(1, .ref ((Y 4).1 0)), (0, .ref (h 0))]) hx hb dX5_undo_25 rfl hl (by decide) rfl (fun ls hl => ?_)
      refine lv_aload_n hx hb dX5_undo_26 rfl (lv_at hl 1 rfl) ?_
      refine lv_aload_n hx hb dX5_undo_27 rfl (lv_at hl 1 rfl) ?_
      refine va_get (D := D) (ci := 4) (v := .ref (h 1)) (C := RX5) (T := TX5) (N := 9) hx hb hts hi5 hown hK hP 0 rfl rfl 0 (by decide) wd3 (fun _ h9 => h9) rfl dX5_undo_28 ?_
      refine lv_aload_n hx hb dX5_undo_31 rfl (lv_at hl 1 rfl) ?_
      refine va_get (D := D) (ci := 4) (v := .int ((upd I 0 ((I 0) - (1 : Int32))) 0)) (C := RX5) (T := TX5) (N := 9) hx hb hts hi5 hown hK hP 0 rfl rfl 6 (by decide) wd1 (fun _ h9 => h9) rfl dX5_undo_32 ?_
      refine lv_top_eq (y := (3 : Int32)) q0 ?_
      refine va_aldq hx hb hK hP 1 2 rfl rfl (by unfold vp_in; decide) dX5_undo_35 ?_
      refine W.eq (g2 := F0 m 36 ls [.ref ((Y 3).1 0), .ref (h 0)]) rfl ?_
      refine my_put (wy := pw cI cC cW h Y S q V z U y ((Y 3).1 0) ((Y 5).1 0) (rr4 ((Y 0).1 0) ((Y 1).1 0) ((Y 2).1 0) ((Y 3).1 0)) (upd I 0 ((I 0) - (1 : Int32)))) (D := D) (ci := 4) (v := .ref ((Y 3).1 0)) (ty := .object "PickSlots$Warehouse") (C := RX5) (T := TX5) (N := 9) hx hb hts hi5 tyX5 tyX5_ok nmX5 hown hK hP hD hS 0 rfl rfl 4 (by decide) wd2 (fun _ h9 => h9) rfl (by decide +kernel) rfl rfl (Nat.le_of_ble_eq_true rfl) rfl dX5_undo_36 (fun H locs hP hD hS => ?_)
      refine lv_aload_n hx hb dX5_undo_39 rfl (lv_at hl 1 rfl) ?_
      refine va_get (D := D) (ci := 4) (v := .ref (h 1)) (C := RX5) (T := TX5) (N := 9) hx hb hts hi5 hown hK hP 0 rfl rfl 0 (by decide) wd3 (fun _ h9 => h9) rfl dX5_undo_40 ?_
      refine lv_aload_n hx hb dX5_undo_43 rfl (lv_at hl 1 rfl) ?_
      refine va_get (D := D) (ci := 4) (v := .int ((upd I 0 ((I 0) - (1 : Int32))) 0)) (C := RX5) (T := TX5) (N := 9) hx hb hts hi5 hown hK hP 0 rfl rfl 6 (by decide) wd1 (fun _ h9 => h9) rfl dX5_undo_44 ?_
      refine lv_top_eq (y := (3 : Int32)) q0 ?_
      refine lv_aload_n hx hb dX5_undo_47 rfl (lv_at hl 0 rfl) ?_
      refine my_astq (wy := pw cI cC cW h Y S q V z U y ((Y 3).1 0) ((Y 5).1 0) (rr4 ((Y 0).1 0) ((Y 1).1 0) ((Y 2).1 0) ((Y 4).1 0)) (upd I 0 ((I 0) - (1 : Int32)))) hx hb hK hP hD hS 1 2 8 3 rfl rfl rfl rfl (r := (RX4, TX4, 13)) (k := 3) rfl (pw_r (rr4_up3)) (by unfold vp_in; decide) dX5_undo_48 (fun H locs hP hD hS => ?_)
      refine lv_aload_n hx hb dX5_undo_49 rfl (lv_at hl 1 rfl) ?_
      refine va_get (D := D) (ci := 4) (v := .int ((upd I 0 ((I 0) - (1 : Int32))) 0)) (C := RX5) (T := TX5) (N := 9) hx hb hts hi5 hown hK hP 0 rfl rfl 6 (by decide) wd1 (fun _ h9 => h9) rfl dX5_undo_50 ?_
      refine lv_top_eq (y := (3 : Int32)) q0 ?_
      have hp := pw_ps (cI := cI) (cC := cC) (cW := cW) (h := h) (S := S) (q := q) (V := V) (z := z) (U := U) (y := y) (I := (upd I 0 ((I 0) - (1 : Int32)))) (Y := Y) (Y' := sp4 3 Y) (k := [3, 5, 0, 1, 2, 4]) (by decide) rfl rfl rfl rfl rfl rfl rfl
      have hq : upd I 0 (I 0 - 1) = upd I 0 (I 0 - 1) := rfl
      exact rw_ret (sp4 3 Y, (upd I 0 ((I 0) - (1 : Int32)))) hx hb hr (vP_perm hp hP) (vD_perm hp hD) hS (by rw [hE0, show ix (I 0 - 1) = 3 by rw [q0]; rfl, q0]) dX5_undo_53 hlocks
  · refine lv_bipush (v := -2) hx hb dX5_undo_8 (by decide) ?_
    exact rw_ret (Y, I) hx hb hr hP hD hS (if_neg c5) dX5_undo_10 hlocks
