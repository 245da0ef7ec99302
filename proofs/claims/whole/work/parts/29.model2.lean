/-! the model: states, best, sorting, numbers, the public calls (printed by wip/whole/m6.py) -/
def lp10_X6_records (N : Nat → Int32) : Nat → Int32 → (Nat → Nat → Int32) → Nat → Nat → Int32
  | 0, v1, Zw => Zw
  | n + 1, v1, Zw => if (708 : Int32) ≤ v1 then (let Z101 : Nat → Nat → Int32 := zu Zw 0 0 (3 : Int32); let k61_102 : Nat → Nat → Int32 := sp_X6_copies12 N Z101 (0 : Int32) ((Z101 0 0) * (236 : Int32)); let Z103 : Nat → Nat → Int32 := zu k61_102 0 0 ((k61_102 0 0) + (1 : Int32)); Z103) else (let Z101 : Nat → Nat → Int32 := zu Zw 1 (ix v1) (Zw 1 (ix (v1 + (236 : Int32)))); lp10_X6_records N n (v1 + (1 : Int32)) Z101)
theorem lp10_X6_records_s (N : Nat → Int32) (n : Nat) (v1 : Int32) (Zw : Nat → Nat → Int32) : lp10_X6_records N (n + 1) v1 Zw = if (708 : Int32) ≤ v1 then (let Z101 : Nat → Nat → Int32 := zu Zw 0 0 (3 : Int32); let k61_102 : Nat → Nat → Int32 := sp_X6_copies12 N Z101 (0 : Int32) ((Z101 0 0) * (236 : Int32)); let Z103 : Nat → Nat → Int32 := zu k61_102 0 0 ((k61_102 0 0) + (1 : Int32)); Z103) else (let Z101 : Nat → Nat → Int32 := zu Zw 1 (ix v1) (Zw 1 (ix (v1 + (236 : Int32)))); lp10_X6_records N n (v1 + (1 : Int32)) Z101) := rfl
def sp_X6_records (N : Nat → Int32) (Z : Nat → Nat → Int32) : Nat → Nat → Int32 :=
  if (Z 0 0) = (4 : Int32) then (lp10_X6_records N 709 (0 : Int32) Z) else (let k61_1 : Nat → Nat → Int32 := sp_X6_copies12 N Z (0 : Int32) ((Z 0 0) * (236 : Int32)); let Z2 : Nat → Nat → Int32 := zu k61_1 0 0 ((k61_1 0 0) + (1 : Int32)); Z2)
set_option maxHeartbeats 4000000 in
set_option maxRecDepth 100000 in
theorem c_X6_records (l : Launch) (D : va_G) (cI cC cW : ClassId) (t : Nat → Nat) (a : Nat → Nat) (sz : Nat) (N : Nat → Int32) (Z : Nat → Nat → Int32) (hps : psZ Z) : Met l yX6_records wsX6_records ({ frames := 1, cells := 0, slots := 0, locals := 24 }) (va_Pc [.ref (a 0)] (rwP D (tyL cI cC cW) (md cI a N Z) t sz)) (va_Qv (fun (u : Nat → Nat → Int32) => u = sp_X6_records N Z) (fun u => rwB D (va_A (md cI a N Z) sz) (md cI a N u)) (va_A (md cI a N Z) sz)) 0 0 (va_A (md cI a N Z) sz) := by
  refine Met.ofW (cc := cX6_records) (maxL := 2) (ret := none) (by decide) rfl ?_
  intro p e s m args below meth c s₁ B hml hv
  obtain ⟨rfl, hsz, hP, hK, hD0, hX⟩ := hv
  have hx := B.exec
  have hb := B.bytes
  have hr := B.returns
  have hts := atoms_spec (ws := wsX6_records) B.pre
  have hown : s.vm.findClass RX6 = some m.cls := findClass_of_methodNamed B.named
  have hlocks := B.notSynchronized
  subst hsz
  have hD := hD0.self (sz := s.heap.size)
  generalize hAe : va_A (md cI a N Z) s.heap.size = A at hD hX ⊢
  have hA : ∀ q : Nat, s.heap.size ≤ q → A q := fun q h => by rw [← hAe]; exact Or.inr h
  have hS : va_S A s.heap s.heap [] := va_S.rf
  have w1 : (Cond.fieldLink RX6 28 "PickSlotsModel" "pasts" "I").before [.ref (a 0)].toArray s = true := hts _ (List.mem_of_getElem? (i := 1) rfl)
  have w3 : (Cond.fieldLink RX6 7 "PickSlotsModel" "now" "[I").before [.ref (a 0)].toArray s = true := hts _ (List.mem_of_getElem? (i := 3) rfl)
  have w2 : (Cond.fieldLink RX6 13 "PickSlotsModel" "past" "[I").before [.ref (a 0)].toArray s = true := hts _ (List.mem_of_getElem? (i := 2) rfl)
  have hi6 : ∀ w ∈ wsX60, w ∈ wsX6_records := fun w h => List.mem_cons_of_mem _ (List.mem_append_right _ (h))
  have CF : CallFix p m c cX6_records 2 s [.ref (a 0)].toArray wsX6_records RX6 := ⟨hx, hb, hml, hown, hts⟩
  have hl := lv_entry ([.ref (a 0)]) (n := 2) (Nat.le_of_ble_eq_true rfl)
  rw [lg_entry_eq]
  generalize (lg_sl ([.ref (a 0)]) ++ List.replicate (2 - (lg_sl ([.ref (a 0)])).length) Slot.unset).toArray = ls at hl ⊢
  have hl : lv_has ls 2 [(0, .ref (a 0))] := hl
  refine lv_aload_n hx hb dX6_records_0 rfl (lv_at hl 0 rfl) ?_
  refine va_get (D := D) (ci := 5) (C := RX6) (T := TX6) (N := 17) hx hb hts hi6 hown hK hP 0 md_0 rfl 2 (by decide) w1 (fun _ h9 => h9) rfl dX6_records_1 ?_
  refine lv_iconst (v := 4) hx hb dX6_records_4 (by decide) ?_
  refine lv_icmp_ne (tgt := 44) hx hb dX6_records_5 (by decide) (fun c5 => ?_) (fun c5 => ?_)
  · refine lv_aload_n hx hb dX6_records_44 rfl (lv_at hl 0 rfl) ?_
    refine va_get (D := D) (ci := 5) (C := RX6) (T := TX6) (N := 17) hx hb hts hi6 hown hK hP 0 md_0 rfl 0 (by decide) w3 (fun _ h9 => h9) rfl dX6_records_45 ?_
    refine lv_iconst (v := 0) hx hb dX6_records_48 (by decide) ?_
    refine lv_aload_n hx hb dX6_records_49 rfl (lv_at hl 0 rfl) ?_
    refine va_get (D := D) (ci := 5) (C := RX6) (T := TX6) (N := 17) hx hb hts hi6 hown hK hP 0 md_0 rfl 1 (by decide) w2 (fun _ h9 => h9) rfl dX6_records_50 ?_
    refine lv_aload_n hx hb dX6_records_53 rfl (lv_at hl 0 rfl) ?_
    refine va_get (D := D) (ci := 5) (C := RX6) (T := TX6) (N := 17) hx hb hts hi6 hown hK hP 0 md_0 rfl 2 (by decide) w1 (fun _ h9 => h9) rfl dX6_records_54 ?_
    refine lv_sipush (v := 236) hx hb dX6_records_57 (by decide) ?_
    refine lv_imul hx hb dX6_records_60 ?_
    refine rwSv CF (c_X6_copies12 l D cI cC cW t _ _ _ _ _ _ (by decide) (by decide) (by first | exact (ps_mul hps.1 (ps3 hps c5)).1 | (simp only [zu_s, pk_us]; decide)) (by first | exact (ps_mul hps.1 (ps3 hps c5)).2 | (simp only [zu_s, pk_us]; decide))) (va_cwS 4 hts gX6_records_X6_copies rfl rfl rfl (by decide +kernel) ⟨Nat.le_of_ble_eq_true rfl, Nat.le_of_ble_eq_true rfl⟩) hP hD hK hX hS hA rfl hl.1 rfl (Nat.le_of_ble_eq_true rfl) dX6_records_61 ⟨Nat.zero_le _, Nat.zero_le _⟩ (fun H locs hP hD hS => ?_)
    refine lv_aload_n hx hb dX6_records_64 rfl (lv_at hl 0 rfl) ?_
    refine lv_dup hx hb dX6_records_65 rfl ?_
    refine va_get (D := D) (ci := 5) (C := RX6) (T := TX6) (N := 17) hx hb hts hi6 hown hK hP 0 md_0 rfl 2 (by decide) w1 (fun _ h9 => h9) rfl dX6_records_66 ?_
    refine lv_iconst (v := 1) hx hb dX6_records_69 (by decide) ?_
    refine lv_iadd hx hb dX6_records_70 ?_
    refine my_put (D := D) (ci := 5) (C := RX6) (T := TX6) (N := 17) (ty := .int) hx hb hts hi6 tyX6 tyX6_ok nmX6 hown hK hP hD hS 0 md_0 rfl 2 (by decide) w1 (fun _ h9 => h9) rfl (by decide +kernel) rfl rfl (Nat.le_of_ble_eq_true rfl) (md_f2 _) dX6_records_71 (fun H locs hP hD hS => ?_)
    exact rw_vret _ hx hb hr hP hD hS (Eq.trans (if_neg c5) (rfl)) dX6_records_74 hlocks
  · refine lv_iconst (v := 0) hx hb dX6_records_8 (by decide) ?_
    refine lv_istore_n (lv' := [(1, .int _), (0, .ref _)]) hx hb dX6_records_9 rfl hl (by decide) rfl (fun ls hl => ?_)
    have L10 : ∀ (n10 : Nat) (v1 : Int32) (Zw : Nat → Nat → Int32), (0 ≤ v1.toInt) → (v1.toInt ≤ (708 : Int32).toInt) → ((708 : Int32).toInt - v1.toInt < (n10 : Int)) → sp_X6_records N Z = lp10_X6_records N (n10) v1 Zw → ∀ (ls : Array Slot), lv_has ls 2 [(1, .int v1), (0, .ref (a 0))] → ∀ (H : Heap) (locs : List Loc), va_P D vwCl (md cI a N Zw) H → va_D A (md cI a N Zw) → va_S A s.heap H locs → W p l e (headSpec wsX6_records ({ frames := 1, cells := 0, slots := 0, locals := 24 } : Room)).room s m [.ref (a 0)].toArray below meth c H locs 0 0 (MQ below (va_Qv (fun (u : Nat → Nat → Int32) => u = sp_X6_records N Z) (fun u => rwB D A (md cI a N u)) A) [.ref (a 0)].toArray s 0 0 A) (F0 m 10 ls []) := by
      intro n10
      induction n10 with
      | zero => intro v1 Zw i1 i2 im; exfalso; omega
      | succ n10 ih10 =>
        intro v1 Zw i1 i2 im hsp10 ls hl H locs hP hD hS
        refine lv_iload_n hx hb dX6_records_10 rfl (lv_at hl 0 rfl) ?_
        refine lv_sipush (v := 708) hx hb dX6_records_11 (by decide) ?_
        refine lv_icmp_ge (tgt := 39) hx hb dX6_records_14 (by decide) (fun c14 => ?_) (fun c14 => ?_)
        · refine lv_aload_n hx hb dX6_records_39 rfl (lv_at hl 1 rfl) ?_
          refine lv_iconst (v := 3) hx hb dX6_records_40 (by decide) ?_
          refine my_put (D := D) (ci := 5) (C := RX6) (T := TX6) (N := 17) (ty := .int) hx hb hts hi6 tyX6 tyX6_ok nmX6 hown hK hP hD hS 0 md_0 rfl 2 (by decide) w1 (fun _ h9 => h9) rfl (by decide +kernel) rfl rfl (Nat.le_of_ble_eq_true rfl) (md_f2 _) dX6_records_41 (fun H locs hP hD hS => ?_)
          refine lv_aload_n hx hb dX6_records_44 rfl (lv_at hl 1 rfl) ?_
          refine va_get (D := D) (ci := 5) (C := RX6) (T := TX6) (N := 17) hx hb hts hi6 hown hK hP 0 md_0 rfl 0 (by decide) w3 (fun _ h9 => h9) rfl dX6_records_45 ?_
          refine lv_iconst (v := 0) hx hb dX6_records_48 (by decide) ?_
          refine lv_aload_n hx hb dX6_records_49 rfl (lv_at hl 1 rfl) ?_
          refine va_get (D := D) (ci := 5) (C := RX6) (T := TX6) (N := 17) hx hb hts hi6 hown hK hP 0 md_0 rfl 1 (by decide) w2 (fun _ h9 => h9) rfl dX6_records_50 ?_
          refine lv_aload_n hx hb dX6_records_53 rfl (lv_at hl 1 rfl) ?_
          refine va_get (D := D) (ci := 5) (C := RX6) (T := TX6) (N := 17) hx hb hts hi6 hown hK hP 0 md_0 rfl 2 (by decide) w1 (fun _ h9 => h9) rfl dX6_records_54 ?_
          refine lv_sipush (v := 236) hx hb dX6_records_57 (by decide) ?_
          refine lv_imul hx hb dX6_records_60 ?_
          refine rwSv CF (c_X6_copies12 l D cI cC cW t _ _ _ _ _ _ (by decide) (by decide) (by first | exact (ps_mul hps.1 (ps3 hps c5)).1 | (simp only [zu_s, pk_us]; decide)) (by first | exact (ps_mul hps.1 (ps3 hps c5)).2 | (simp only [zu_s, pk_us]; decide))) (va_cwS 4 hts gX6_records_X6_copies rfl rfl rfl (by decide +kernel) ⟨Nat.le_of_ble_eq_true rfl, Nat.le_of_ble_eq_true rfl⟩) hP hD hK hX hS hA rfl hl.1 rfl (Nat.le_of_ble_eq_true rfl) dX6_records_61 ⟨Nat.zero_le _, Nat.zero_le _⟩ (fun H locs hP hD hS => ?_)
          refine lv_aload_n hx hb dX6_records_64 rfl (lv_at hl 1 rfl) ?_
          refine lv_dup hx hb dX6_records_65 rfl ?_
          refine va_get (D := D) (ci := 5) (C := RX6) (T := TX6) (N := 17) hx hb hts hi6 hown hK hP 0 md_0 rfl 2 (by decide) w1 (fun _ h9 => h9) rfl dX6_records_66 ?_
          refine lv_iconst (v := 1) hx hb dX6_records_69 (by decide) ?_
          refine lv_iadd hx hb dX6_records_70 ?_
          refine my_put (D := D) (ci := 5) (C := RX6) (T := TX6) (N := 17) (ty := .int) hx hb hts hi6 tyX6 tyX6_ok nmX6 hown hK hP hD hS 0 md_0 rfl 2 (by decide) w1 (fun _ h9 => h9) rfl (by decide +kernel) rfl rfl (Nat.le_of_ble_eq_true rfl) (md_f2 _) dX6_records_71 (fun H locs hP hD hS => ?_)
          exact rw_vret _ hx hb hr hP hD hS (Eq.trans hsp10 (Eq.trans (lp10_X6_records_s _ _ _ _) (Eq.trans (if_pos c14) (rfl)))) dX6_records_74 hlocks
        · refine lv_aload_n hx hb dX6_records_17 rfl (lv_at hl 1 rfl) ?_
          refine va_get (D := D) (ci := 5) (C := RX6) (T := TX6) (N := 17) hx hb hts hi6 hown hK hP 0 md_0 rfl 1 (by decide) w2 (fun _ h9 => h9) rfl dX6_records_18 ?_
          refine lv_iload_n hx hb dX6_records_21 rfl (lv_at hl 0 rfl) ?_
          refine lv_aload_n hx hb dX6_records_22 rfl (lv_at hl 1 rfl) ?_
          refine va_get (D := D) (ci := 5) (C := RX6) (T := TX6) (N := 17) hx hb hts hi6 hown hK hP 0 md_0 rfl 1 (by decide) w2 (fun _ h9 => h9) rfl dX6_records_23 ?_
          refine lv_iload_n hx hb dX6_records_26 rfl (lv_at hl 0 rfl) ?_
          refine lv_sipush (v := 236) hx hb dX6_records_27 (by decide) ?_
          refine lv_iadd hx hb dX6_records_30 ?_
          refine va_iald hx hb hK hP 2 0 md_2 rfl (rc2 i1 c14) dX6_records_31 ?_
          refine my_iast hx hb hK hP hD hS 2 0 md_2 rfl (md_s2 _ _) (rc3 i1 c14) dX6_records_32 (fun H locs hP hD hS => ?_)
          refine lv_iinc (v := _ + (1 : Int32)) (lv' := [(1, .int _), (0, .ref _)]) hx hb dX6_records_33 hl (k := 0) rfl rfl (by decide) rfl (fun ls hl => ?_)
          refine lv_goto (tgt := 10) hx hb dX6_records_36 (by decide) ?_
          exact ih10 _ _ (cs1 i1 c14) (cs2 c14) (csm c14 im) (Eq.trans hsp10 (Eq.trans (lp10_X6_records_s _ _ _ _) (Eq.trans (if_neg c14) (rfl)))) _ (lv_sub hl [0, 1] rfl) _ _ hP hD hS
    exact L10 709 _ _ (by decide) (by decide) (by decide) (Eq.trans (if_pos c5) (rfl)) _ (lv_sub hl [0, 1] rfl) _ _ hP hD hS

def lp19_X6_finds (N : Nat → Int32) (v1 : Int32) (K7 : Int32 → (Nat → Nat → Int32) → Nat → Nat → Int32) : Nat → Int32 → (Nat → Nat → Int32) → Nat → Nat → Int32
  | 0, v2, Zw => Zw
  | n + 1, v2, Zw => if (60 : Int32) ≤ v2 then (K7 (v1 + (1 : Int32)) Zw) else (if (sp_X6_of N Zw v1 (6 : Int32)) = v2 then (lp19_X6_finds N v1 K7 n (v2 + (1 : Int32)) Zw) else (if (sp_X6_canGo N Zw v1 v2) = 0 then (lp19_X6_finds N v1 K7 n (v2 + (1 : Int32)) Zw) else (if (sp_X6_goWorth N Zw v1 v2) ≤ (Zw 0 4) then (lp19_X6_finds N v1 K7 n (v2 + (1 : Int32)) Zw) else (let Z202 : Nat → Nat → Int32 := zu Zw 0 2 v1; let Z203 : Nat → Nat → Int32 := zu Z202 0 3 v2; let Z204 : Nat → Nat → Int32 := zu Z203 0 4 (sp_X6_goWorth N Z203 v1 v2); lp19_X6_finds N v1 K7 n (v2 + (1 : Int32)) Z204))))
theorem lp19_X6_finds_s (N : Nat → Int32) (v1 : Int32) (K7 : Int32 → (Nat → Nat → Int32) → Nat → Nat → Int32) (n : Nat) (v2 : Int32) (Zw : Nat → Nat → Int32) : lp19_X6_finds N v1 K7 (n + 1) v2 Zw = if (60 : Int32) ≤ v2 then (K7 (v1 + (1 : Int32)) Zw) else (if (sp_X6_of N Zw v1 (6 : Int32)) = v2 then (lp19_X6_finds N v1 K7 n (v2 + (1 : Int32)) Zw) else (if (sp_X6_canGo N Zw v1 v2) = 0 then (lp19_X6_finds N v1 K7 n (v2 + (1 : Int32)) Zw) else (if (sp_X6_goWorth N Zw v1 v2) ≤ (Zw 0 4) then (lp19_X6_finds N v1 K7 n (v2 + (1 : Int32)) Zw) else (let Z202 : Nat → Nat → Int32 := zu Zw 0 2 v1; let Z203 : Nat → Nat → Int32 := zu Z202 0 3 v2; let Z204 : Nat → Nat → Int32 := zu Z203 0 4 (sp_X6_goWorth N Z203 v1 v2); lp19_X6_finds N v1 K7 n (v2 + (1 : Int32)) Z204)))) := rfl
def lp7_X6_finds (N : Nat → Int32) : Nat → Int32 → (Nat → Nat → Int32) → Nat → Nat → Int32
  | 0, v1, Zw => Zw
  | n + 1, v1, Zw => if (N 0) ≤ v1 then (Zw) else (lp19_X6_finds N v1 (lp7_X6_finds N n) 61 (0 : Int32) Zw)
theorem lp7_X6_finds_s (N : Nat → Int32) (n : Nat) (v1 : Int32) (Zw : Nat → Nat → Int32) : lp7_X6_finds N (n + 1) v1 Zw = if (N 0) ≤ v1 then (Zw) else (lp19_X6_finds N v1 (lp7_X6_finds N n) 61 (0 : Int32) Zw) := rfl
def sp_X6_finds (N : Nat → Int32) (Z : Nat → Nat → Int32) : Nat → Nat → Int32 :=
  let Z1 : Nat → Nat → Int32 := zu Z 0 4 (0 : Int32); lp7_X6_finds N 21 (0 : Int32) Z1
set_option maxHeartbeats 4000000 in
set_option maxRecDepth 100000 in
theorem c_X6_finds (l : Launch) (D : va_G) (cI cC cW : ClassId) (t : Nat → Nat) (a : Nat → Nat) (sz : Nat) (N : Nat → Int32) (Z : Nat → Nat → Int32) (hsf : sfN N) : Met l yX6_finds wsX6_finds ({ frames := 4, cells := 0, slots := 0, locals := 92 }) (va_Pc [.ref (a 0)] (rwP D (tyL cI cC cW) (md cI a N Z) t sz)) (va_Qv (fun (u : Nat → Nat → Int32) => u = sp_X6_finds N Z) (fun u => rwB D (va_A (md cI a N Z) sz) (md cI a N u)) (va_A (md cI a N Z) sz)) 0 0 (va_A (md cI a N Z) sz) := by
  refine Met.ofW (cc := cX6_finds) (maxL := 3) (ret := none) (by decide) rfl ?_
  intro p e s m args below meth c s₁ B hml hv
  obtain ⟨rfl, hsz, hP, hK, hD0, hX⟩ := hv
  have hx := B.exec
  have hb := B.bytes
  have hr := B.returns
  have hts := atoms_spec (ws := wsX6_finds) B.pre
  have hown : s.vm.findClass RX6 = some m.cls := findClass_of_methodNamed B.named
  have hlocks := B.notSynchronized
  subst hsz
  have hD := hD0.self (sz := s.heap.size)
  generalize hAe : va_A (md cI a N Z) s.heap.size = A at hD hX ⊢
  have hA : ∀ q : Nat, s.heap.size ≤ q → A q := fun q h => by rw [← hAe]; exact Or.inr h
  have hS : va_S A s.heap s.heap [] := va_S.rf
  have w1 : (Cond.fieldLink RX6 137 "PickSlotsModel" "bestWorth" "I").before [.ref (a 0)].toArray s = true := hts _ (List.mem_of_getElem? (i := 1) rfl)
  have w2 : (Cond.fieldLink RX6 7 "PickSlotsModel" "now" "[I").before [.ref (a 0)].toArray s = true := hts _ (List.mem_of_getElem? (i := 2) rfl)
  have w3 : (Cond.fieldLink RX6 140 "PickSlotsModel" "bestGood" "I").before [.ref (a 0)].toArray s = true := hts _ (List.mem_of_getElem? (i := 3) rfl)
  have w4 : (Cond.fieldLink RX6 143 "PickSlotsModel" "bestSlot" "I").before [.ref (a 0)].toArray s = true := hts _ (List.mem_of_getElem? (i := 4) rfl)
  have hi6 : ∀ w ∈ wsX60, w ∈ wsX6_finds := fun w h => List.mem_cons_of_mem _ (List.mem_append_right _ (h))
  have CF : CallFix p m c cX6_finds 3 s [.ref (a 0)].toArray wsX6_finds RX6 := ⟨hx, hb, hml, hown, hts⟩
  have hl := lv_entry ([.ref (a 0)]) (n := 3) (Nat.le_of_ble_eq_true rfl)
  rw [lg_entry_eq]
  generalize (lg_sl ([.ref (a 0)]) ++ List.replicate (3 - (lg_sl ([.ref (a 0)])).length) Slot.unset).toArray = ls at hl ⊢
  have hl : lv_has ls 3 [(0, .ref (a 0))] := hl
  refine lv_aload_n hx hb dX6_finds_0 rfl (lv_at hl 0 rfl) ?_
  refine lv_iconst (v := 0) hx hb dX6_finds_1 (by decide) ?_
  refine my_put (D := D) (ci := 5) (C := RX6) (T := TX6) (N := 17) (ty := .int) hx hb hts hi6 tyX6 tyX6_ok nmX6 hown hK hP hD hS 0 md_0 rfl 8 (by decide) w1 (fun _ h9 => h9) rfl (by decide +kernel) rfl rfl (Nat.le_of_ble_eq_true rfl) (md_f8 _) dX6_finds_2 (fun H locs hP hD hS => ?_)
  refine lv_iconst (v := 0) hx hb dX6_finds_5 (by decide) ?_
  refine lv_istore_n (lv' := [(1, .int _), (0, .ref _)]) hx hb dX6_finds_6 rfl hl (by decide) rfl (fun ls hl => ?_)
  have L7 : ∀ (n7 : Nat) (v1 : Int32) (Zw : Nat → Nat → Int32), (0 ≤ v1.toInt) → (v1.toInt ≤ (N 0).toInt) → ((N 0).toInt - v1.toInt < (n7 : Int)) → sp_X6_finds N Z = lp7_X6_finds N (n7) v1 Zw → ∀ (ls : Array Slot), lv_has ls 3 [(1, .int v1), (0, .ref (a 0))] → ∀ (H : Heap) (locs : List Loc), va_P D vwCl (md cI a N Zw) H → va_D A (md cI a N Zw) → va_S A s.heap H locs → W p l e (headSpec wsX6_finds ({ frames := 4, cells := 0, slots := 0, locals := 92 } : Room)).room s m [.ref (a 0)].toArray below meth c H locs 0 0 (MQ below (va_Qv (fun (u : Nat → Nat → Int32) => u = sp_X6_finds N Z) (fun u => rwB D A (md cI a N u)) A) [.ref (a 0)].toArray s 0 0 A) (F0 m 7 ls []) := by
    intro n7
    induction n7 with
    | zero => intro v1 Zw i1 i2 im; exfalso; omega
    | succ n7 ih7 =>
      intro v1 Zw i1 i2 im hsp7 ls hl H locs hP hD hS
      refine lv_iload_n hx hb dX6_finds_7 rfl (lv_at hl 0 rfl) ?_
      refine lv_aload_n hx hb dX6_finds_8 rfl (lv_at hl 1 rfl) ?_
      refine va_get (D := D) (ci := 5) (C := RX6) (T := TX6) (N := 17) hx hb hts hi6 hown hK hP 0 md_0 rfl 0 (by decide) w2 (fun _ h9 => h9) rfl dX6_finds_9 ?_
      refine lv_iconst (v := 0) hx hb dX6_finds_12 (by decide) ?_
      refine my_ialdK (k := 0) hx hb hK hP 1 0 md_1 rfl (by decide) (by first | (with_reducible first | assumption | exact m20 (by assumption) (by assumption) | exact ga20 (by assumption) (by assumption) | exact w2 (by assumption) | exact w2 (min4 (by assumption)) | exact w2 (s46 (by assumption)) | exact min4 (by assumption) | exact s46 (by assumption) | exact min11 (by assumption) (by assumption)) | (unfold vp_in; decide) | exact (by with_reducible first | assumption | ((repeat (first | assumption | refine sf_lays (by first | assumption | exact m20 (by assumption) (by assumption)) (by first | exact w2 (by assumption) | exact w2 (min4 (by assumption)) | (unfold vp_in; decide)) ?_ | refine sf_adds (by unfold vp_in; decide) ?_ | refine sf_u (by omega) ?_)); done)) | exact s46 (by with_reducible first | assumption | ((repeat (first | assumption | refine sf_lays (by first | assumption | exact m20 (by assumption) (by assumption)) (by first | exact w2 (by assumption) | exact w2 (min4 (by assumption)) | (unfold vp_in; decide)) ?_ | refine sf_adds (by unfold vp_in; decide) ?_ | refine sf_u (by omega) ?_)); done)) | exact w2 (s46 (by with_reducible first | assumption | ((repeat (first | assumption | refine sf_lays (by first | assumption | exact m20 (by assumption) (by assumption)) (by first | exact w2 (by assumption) | exact w2 (min4 (by assumption)) | (unfold vp_in; decide)) ?_ | refine sf_adds (by unfold vp_in; decide) ?_ | refine sf_u (by omega) ?_)); done)))) dX6_finds_13 ?_
      refine lv_icmp_ge (tgt := 90) hx hb dX6_finds_14 (by decide) (fun c14 => ?_) (fun c14 => ?_)
      · exact rw_vret _ hx hb hr hP hD hS (Eq.trans hsp7 (Eq.trans (lp7_X6_finds_s _ _ _ _) (Eq.trans (if_pos c14) (rfl)))) dX6_finds_90 hlocks
      · have hv : vp_in v1 20 := cnin20 hsf i1 c14
        refine lv_iconst (v := 0) hx hb dX6_finds_17 (by decide) ?_
        refine lv_istore_n (lv' := [(2, .int _), (1, .int _), (0, .ref _)]) hx hb dX6_finds_18 rfl hl (by decide) rfl (fun ls hl => ?_)
        have L19 : ∀ (n19 : Nat) (v2 : Int32) (Zw : Nat → Nat → Int32), (0 ≤ v2.toInt) → (v2.toInt ≤ (60 : Int32).toInt) → ((60 : Int32).toInt - v2.toInt < (n19 : Int)) → sp_X6_finds N Z = lp19_X6_finds N v1 (lp7_X6_finds N n7) (n19) v2 Zw → ∀ (ls : Array Slot), lv_has ls 3 [(2, .int v2), (1, .int v1), (0, .ref (a 0))] → ∀ (H : Heap) (locs : List Loc), va_P D vwCl (md cI a N Zw) H → va_D A (md cI a N Zw) → va_S A s.heap H locs → W p l e (headSpec wsX6_finds ({ frames := 4, cells := 0, slots := 0, locals := 92 } : Room)).room s m [.ref (a 0)].toArray below meth c H locs 0 0 (MQ below (va_Qv (fun (u : Nat → Nat → Int32) => u = sp_X6_finds N Z) (fun u => rwB D A (md cI a N u)) A) [.ref (a 0)].toArray s 0 0 A) (F0 m 19 ls []) := by
          intro n19
          induction n19 with
          | zero => intro v2 Zw j1 j2 jm; exfalso; omega
          | succ n19 ih19 =>
            intro v2 Zw j1 j2 jm hsp19 ls hl H locs hP hD hS
            refine lv_iload_n hx hb dX6_finds_19 rfl (lv_at hl 0 rfl) ?_
            refine lv_bipush (v := 60) hx hb dX6_finds_20 (by decide) ?_
            refine lv_icmp_ge (tgt := 84) hx hb dX6_finds_22 (by decide) (fun c22 => ?_) (fun c22 => ?_)
            · refine lv_iinc (v := _ + (1 : Int32)) (lv' := [(1, .int _), (2, .int _), (0, .ref _)]) hx hb dX6_finds_84 hl (k := 1) rfl rfl (by decide) rfl (fun ls hl => ?_)
              refine lv_goto (tgt := 7) hx hb dX6_finds_87 (by decide) ?_
              exact ih7 _ _ (cs1 i1 c14) (cs2 c14) (csm c14 im) (Eq.trans hsp19 (Eq.trans (lp19_X6_finds_s _ _ _ _ _ _) (Eq.trans (if_pos c22) (rfl)))) _ (lv_sub hl [0, 2] rfl) _ _ hP hD hS
            · refine lv_aload_n hx hb dX6_finds_25 rfl (lv_at hl 2 rfl) ?_
              refine lv_iload_n hx hb dX6_finds_26 rfl (lv_at hl 1 rfl) ?_
              refine lv_bipush (v := 6) hx hb dX6_finds_27 (by decide) ?_
              refine roV CF (c_X6_of l D cI cC cW t _ _ _ _ _ (by first | (with_reducible first | assumption | exact m20 (by assumption) (by assumption) | exact ga20 (by assumption) (by assumption) | exact w2 (by assumption) | exact w2 (min4 (by assumption)) | exact w2 (s46 (by assumption)) | exact min4 (by assumption) | exact s46 (by assumption) | exact min11 (by assumption) (by assumption)) | (unfold vp_in; decide) | exact (by with_reducible first | assumption | ((repeat (first | assumption | refine sf_lays (by first | assumption | exact m20 (by assumption) (by assumption)) (by first | exact w2 (by assumption) | exact w2 (min4 (by assumption)) | (unfold vp_in; decide)) ?_ | refine sf_adds (by unfold vp_in; decide) ?_ | refine sf_u (by omega) ?_)); done)) | exact s46 (by with_reducible first | assumption | ((repeat (first | assumption | refine sf_lays (by first | assumption | exact m20 (by assumption) (by assumption)) (by first | exact w2 (by assumption) | exact w2 (min4 (by assumption)) | (unfold vp_in; decide)) ?_ | refine sf_adds (by unfold vp_in; decide) ?_ | refine sf_u (by omega) ?_)); done)) | exact w2 (s46 (by with_reducible first | assumption | ((repeat (first | assumption | refine sf_lays (by first | assumption | exact m20 (by assumption) (by assumption)) (by first | exact w2 (by assumption) | exact w2 (min4 (by assumption)) | (unfold vp_in; decide)) ?_ | refine sf_adds (by unfold vp_in; decide) ?_ | refine sf_u (by omega) ?_)); done)))) (by first | (with_reducible first | assumption | exact m20 (by assumption) (by assumption) | exact ga20 (by assumption) (by assumption) | exact w2 (by assumption) | exact w2 (min4 (by assumption)) | exact w2 (s46 (by assumption)) | exact min4 (by assumption) | exact s46 (by assumption) | exact min11 (by assumption) (by assumption)) | (unfold vp_in; decide) | exact (by with_reducible first | assumption | ((repeat (first | assumption | refine sf_lays (by first | assumption | exact m20 (by assumption) (by assumption)) (by first | exact w2 (by assumption) | exact w2 (min4 (by assumption)) | (unfold vp_in; decide)) ?_ | refine sf_adds (by unfold vp_in; decide) ?_ | refine sf_u (by omega) ?_)); done)) | exact s46 (by with_reducible first | assumption | ((repeat (first | assumption | refine sf_lays (by first | assumption | exact m20 (by assumption) (by assumption)) (by first | exact w2 (by assumption) | exact w2 (min4 (by assumption)) | (unfold vp_in; decide)) ?_ | refine sf_adds (by unfold vp_in; decide) ?_ | refine sf_u (by omega) ?_)); done)) | exact w2 (s46 (by with_reducible first | assumption | ((repeat (first | assumption | refine sf_lays (by first | assumption | exact m20 (by assumption) (by assumption)) (by first | exact w2 (by assumption) | exact w2 (min4 (by assumption)) | (unfold vp_in; decide)) ?_ | refine sf_adds (by unfold vp_in; decide) ?_ | refine sf_u (by omega) ?_)); done))))) (cwV 2 hts gX6_finds_X6_of rfl rfl rfl (by decide +kernel) ⟨Nat.le_of_ble_eq_true rfl, Nat.le_of_ble_eq_true rfl⟩) hP hK hX hS 0 5 md_0 rfl rfl hl.1 rfl (Nat.le_of_ble_eq_true rfl) dX6_finds_29 ⟨Nat.zero_le _, Nat.zero_le _⟩ ?_
              refine lv_iload_n hx hb dX6_finds_32 rfl (lv_at hl 0 rfl) ?_
              refine lv_icmp_eq (tgt := 78) hx hb dX6_finds_33 (by decide) (fun c33 => ?_) (fun c33 => ?_)
              · refine lv_iinc (v := _ + (1 : Int32)) (lv' := [(2, .int _), (1, .int _), (0, .ref _)]) hx hb dX6_finds_78 hl (k := 0) rfl rfl (by decide) rfl (fun ls hl => ?_)
                refine lv_goto (tgt := 19) hx hb dX6_finds_81 (by decide) ?_
                exact ih19 _ _ (cs1 j1 c22) (cs2 c22) (csm c22 jm) (Eq.trans hsp19 (Eq.trans (lp19_X6_finds_s _ _ _ _ _ _) (Eq.trans (if_neg c22) (Eq.trans (if_pos c33) (rfl))))) _ (lv_sub hl [0, 1, 2] rfl) _ _ hP hD hS
              · refine lv_aload_n hx hb dX6_finds_36 rfl (lv_at hl 2 rfl) ?_
                refine lv_iload_n hx hb dX6_finds_37 rfl (lv_at hl 1 rfl) ?_
                refine lv_iload_n hx hb dX6_finds_38 rfl (lv_at hl 0 rfl) ?_
                refine roV CF (c_X6_canGo l D cI cC cW t _ _ _ _ _ (by first | (with_reducible first | assumption | exact m20 (by assumption) (by assumption) | exact ga20 (by assumption) (by assumption) | exact w2 (by assumption) | exact w2 (min4 (by assumption)) | exact w2 (s46 (by assumption)) | exact min4 (by assumption) | exact s46 (by assumption) | exact min11 (by assumption) (by assumption)) | (unfold vp_in; decide) | exact (by with_reducible first | assumption | ((repeat (first | assumption | refine sf_lays (by first | assumption | exact m20 (by assumption) (by assumption)) (by first | exact w2 (by assumption) | exact w2 (min4 (by assumption)) | (unfold vp_in; decide)) ?_ | refine sf_adds (by unfold vp_in; decide) ?_ | refine sf_u (by omega) ?_)); done)) | exact s46 (by with_reducible first | assumption | ((repeat (first | assumption | refine sf_lays (by first | assumption | exact m20 (by assumption) (by assumption)) (by first | exact w2 (by assumption) | exact w2 (min4 (by assumption)) | (unfold vp_in; decide)) ?_ | refine sf_adds (by unfold vp_in; decide) ?_ | refine sf_u (by omega) ?_)); done)) | exact w2 (s46 (by with_reducible first | assumption | ((repeat (first | assumption | refine sf_lays (by first | assumption | exact m20 (by assumption) (by assumption)) (by first | exact w2 (by assumption) | exact w2 (min4 (by assumption)) | (unfold vp_in; decide)) ?_ | refine sf_adds (by unfold vp_in; decide) ?_ | refine sf_u (by omega) ?_)); done)))) (by first | (with_reducible first | assumption | exact m20 (by assumption) (by assumption) | exact ga20 (by assumption) (by assumption) | exact w2 (by assumption) | exact w2 (min4 (by assumption)) | exact w2 (s46 (by assumption)) | exact min4 (by assumption) | exact s46 (by assumption) | exact min11 (by assumption) (by assumption)) | (unfold vp_in; decide) | exact (by with_reducible first | assumption | ((repeat (first | assumption | refine sf_lays (by first | assumption | exact m20 (by assumption) (by assumption)) (by first | exact w2 (by assumption) | exact w2 (min4 (by assumption)) | (unfold vp_in; decide)) ?_ | refine sf_adds (by unfold vp_in; decide) ?_ | refine sf_u (by omega) ?_)); done)) | exact s46 (by with_reducible first | assumption | ((repeat (first | assumption | refine sf_lays (by first | assumption | exact m20 (by assumption) (by assumption)) (by first | exact w2 (by assumption) | exact w2 (min4 (by assumption)) | (unfold vp_in; decide)) ?_ | refine sf_adds (by unfold vp_in; decide) ?_ | refine sf_u (by omega) ?_)); done)) | exact w2 (s46 (by with_reducible first | assumption | ((repeat (first | assumption | refine sf_lays (by first | assumption | exact m20 (by assumption) (by assumption)) (by first | exact w2 (by assumption) | exact w2 (min4 (by assumption)) | (unfold vp_in; decide)) ?_ | refine sf_adds (by unfold vp_in; decide) ?_ | refine sf_u (by omega) ?_)); done))))) (cwV 2 hts gX6_finds_X6_canGo rfl rfl rfl (by decide +kernel) ⟨Nat.le_of_ble_eq_true rfl, Nat.le_of_ble_eq_true rfl⟩) hP hK hX hS 0 5 md_0 rfl rfl hl.1 rfl (Nat.le_of_ble_eq_true rfl) dX6_finds_39 ⟨Nat.zero_le _, Nat.zero_le _⟩ ?_
                refine lv_if_eq (tgt := 78) hx hb dX6_finds_42 (by decide) (fun c42 => ?_) (fun c42 => ?_)
                · refine lv_iinc (v := _ + (1 : Int32)) (lv' := [(2, .int _), (1, .int _), (0, .ref _)]) hx hb dX6_finds_78 hl (k := 0) rfl rfl (by decide) rfl (fun ls hl => ?_)
                  refine lv_goto (tgt := 19) hx hb dX6_finds_81 (by decide) ?_
                  exact ih19 _ _ (cs1 j1 c22) (cs2 c22) (csm c22 jm) (Eq.trans hsp19 (Eq.trans (lp19_X6_finds_s _ _ _ _ _ _) (Eq.trans (if_neg c22) (Eq.trans (if_neg c33) (Eq.trans (if_pos c42) (rfl)))))) _ (lv_sub hl [0, 1, 2] rfl) _ _ hP hD hS
                · refine lv_aload_n hx hb dX6_finds_45 rfl (lv_at hl 2 rfl) ?_
                  refine lv_iload_n hx hb dX6_finds_46 rfl (lv_at hl 1 rfl) ?_
                  refine lv_iload_n hx hb dX6_finds_47 rfl (lv_at hl 0 rfl) ?_
                  refine roV CF (c_X6_goWorth l D cI cC cW t _ _ _ _ _ (by first | (with_reducible first | assumption | exact m20 (by assumption) (by assumption) | exact ga20 (by assumption) (by assumption) | exact w2 (by assumption) | exact w2 (min4 (by assumption)) | exact w2 (s46 (by assumption)) | exact min4 (by assumption) | exact s46 (by assumption) | exact min11 (by assumption) (by assumption)) | (unfold vp_in; decide) | exact (by with_reducible first | assumption | ((repeat (first | assumption | refine sf_lays (by first | assumption | exact m20 (by assumption) (by assumption)) (by first | exact w2 (by assumption) | exact w2 (min4 (by assumption)) | (unfold vp_in; decide)) ?_ | refine sf_adds (by unfold vp_in; decide) ?_ | refine sf_u (by omega) ?_)); done)) | exact s46 (by with_reducible first | assumption | ((repeat (first | assumption | refine sf_lays (by first | assumption | exact m20 (by assumption) (by assumption)) (by first | exact w2 (by assumption) | exact w2 (min4 (by assumption)) | (unfold vp_in; decide)) ?_ | refine sf_adds (by unfold vp_in; decide) ?_ | refine sf_u (by omega) ?_)); done)) | exact w2 (s46 (by with_reducible first | assumption | ((repeat (first | assumption | refine sf_lays (by first | assumption | exact m20 (by assumption) (by assumption)) (by first | exact w2 (by assumption) | exact w2 (min4 (by assumption)) | (unfold vp_in; decide)) ?_ | refine sf_adds (by unfold vp_in; decide) ?_ | refine sf_u (by omega) ?_)); done)))) (by first | (with_reducible first | assumption | exact m20 (by assumption) (by assumption) | exact ga20 (by assumption) (by assumption) | exact w2 (by assumption) | exact w2 (min4 (by assumption)) | exact w2 (s46 (by assumption)) | exact min4 (by assumption) | exact s46 (by assumption) | exact min11 (by assumption) (by assumption)) | (unfold vp_in; decide) | exact (by with_reducible first | assumption | ((repeat (first | assumption | refine sf_lays (by first | assumption | exact m20 (by assumption) (by assumption)) (by first | exact w2 (by assumption) | exact w2 (min4 (by assumption)) | (unfold vp_in; decide)) ?_ | refine sf_adds (by unfold vp_in; decide) ?_ | refine sf_u (by omega) ?_)); done)) | exact s46 (by with_reducible first | assumption | ((repeat (first | assumption | refine sf_lays (by first | assumption | exact m20 (by assumption) (by assumption)) (by first | exact w2 (by assumption) | exact w2 (min4 (by assumption)) | (unfold vp_in; decide)) ?_ | refine sf_adds (by unfold vp_in; decide) ?_ | refine sf_u (by omega) ?_)); done)) | exact w2 (s46 (by with_reducible first | assumption | ((repeat (first | assumption | refine sf_lays (by first | assumption | exact m20 (by assumption) (by assumption)) (by first | exact w2 (by assumption) | exact w2 (min4 (by assumption)) | (unfold vp_in; decide)) ?_ | refine sf_adds (by unfold vp_in; decide) ?_ | refine sf_u (by omega) ?_)); done))))) (cwV 2 hts gX6_finds_X6_goWorth rfl rfl rfl (by decide +kernel) ⟨Nat.le_of_ble_eq_true rfl, Nat.le_of_ble_eq_true rfl⟩) hP hK hX hS 0 5 md_0 rfl rfl hl.1 rfl (Nat.le_of_ble_eq_true rfl) dX6_finds_48 ⟨Nat.zero_le _, Nat.zero_le _⟩ ?_
                  refine lv_aload_n hx hb dX6_finds_51 rfl (lv_at hl 2 rfl) ?_
                  refine va_get (D := D) (ci := 5) (C := RX6) (T := TX6) (N := 17) hx hb hts hi6 hown hK hP 0 md_0 rfl 8 (by decide) w1 (fun _ h9 => h9) rfl dX6_finds_52 ?_
                  refine lv_icmp_le (tgt := 78) hx hb dX6_finds_55 (by decide) (fun c55 => ?_) (fun c55 => ?_)
                  · refine lv_iinc (v := _ + (1 : Int32)) (lv' := [(2, .int _), (1, .int _), (0, .ref _)]) hx hb dX6_finds_78 hl (k := 0) rfl rfl (by decide) rfl (fun ls hl => ?_)
                    refine lv_goto (tgt := 19) hx hb dX6_finds_81 (by decide) ?_
                    exact ih19 _ _ (cs1 j1 c22) (cs2 c22) (csm c22 jm) (Eq.trans hsp19 (Eq.trans (lp19_X6_finds_s _ _ _ _ _ _) (Eq.trans (if_neg c22) (Eq.trans (if_neg c33) (Eq.trans (if_neg c42) (Eq.trans (if_pos c55) (rfl))))))) _ (lv_sub hl [0, 1, 2] rfl) _ _ hP hD hS
                  · refine lv_aload_n hx hb dX6_finds_58 rfl (lv_at hl 2 rfl) ?_
                    refine lv_iload_n hx hb dX6_finds_59 rfl (lv_at hl 1 rfl) ?_
                    refine my_put (D := D) (ci := 5) (C := RX6) (T := TX6) (N := 17) (ty := .int) hx hb hts hi6 tyX6 tyX6_ok nmX6 hown hK hP hD hS 0 md_0 rfl 6 (by decide) w3 (fun _ h9 => h9) rfl (by decide +kernel) rfl rfl (Nat.le_of_ble_eq_true rfl) (md_f6 _) dX6_finds_60 (fun H locs hP hD hS => ?_)
                    refine lv_aload_n hx hb dX6_finds_63 rfl (lv_at hl 2 rfl) ?_
                    refine lv_iload_n hx hb dX6_finds_64 rfl (lv_at hl 0 rfl) ?_
                    refine my_put (D := D) (ci := 5) (C := RX6) (T := TX6) (N := 17) (ty := .int) hx hb hts hi6 tyX6 tyX6_ok nmX6 hown hK hP hD hS 0 md_0 rfl 7 (by decide) w4 (fun _ h9 => h9) rfl (by decide +kernel) rfl rfl (Nat.le_of_ble_eq_true rfl) (md_f7 _) dX6_finds_65 (fun H locs hP hD hS => ?_)
                    refine lv_aload_n hx hb dX6_finds_68 rfl (lv_at hl 2 rfl) ?_
                    refine lv_aload_n hx hb dX6_finds_69 rfl (lv_at hl 2 rfl) ?_
                    refine lv_iload_n hx hb dX6_finds_70 rfl (lv_at hl 1 rfl) ?_
                    refine lv_iload_n hx hb dX6_finds_71 rfl (lv_at hl 0 rfl) ?_
                    refine roV CF (c_X6_goWorth l D cI cC cW t _ _ _ _ _ (by first | (with_reducible first | assumption | exact m20 (by assumption) (by assumption) | exact ga20 (by assumption) (by assumption) | exact w2 (by assumption) | exact w2 (min4 (by assumption)) | exact w2 (s46 (by assumption)) | exact min4 (by assumption) | exact s46 (by assumption) | exact min11 (by assumption) (by assumption)) | (unfold vp_in; decide) | exact (by with_reducible first | assumption | ((repeat (first | assumption | refine sf_lays (by first | assumption | exact m20 (by assumption) (by assumption)) (by first | exact w2 (by assumption) | exact w2 (min4 (by assumption)) | (unfold vp_in; decide)) ?_ | refine sf_adds (by unfold vp_in; decide) ?_ | refine sf_u (by omega) ?_)); done)) | exact s46 (by with_reducible first | assumption | ((repeat (first | assumption | refine sf_lays (by first | assumption | exact m20 (by assumption) (by assumption)) (by first | exact w2 (by assumption) | exact w2 (min4 (by assumption)) | (unfold vp_in; decide)) ?_ | refine sf_adds (by unfold vp_in; decide) ?_ | refine sf_u (by omega) ?_)); done)) | exact w2 (s46 (by with_reducible first | assumption | ((repeat (first | assumption | refine sf_lays (by first | assumption | exact m20 (by assumption) (by assumption)) (by first | exact w2 (by assumption) | exact w2 (min4 (by assumption)) | (unfold vp_in; decide)) ?_ | refine sf_adds (by unfold vp_in; decide) ?_ | refine sf_u (by omega) ?_)); done)))) (by first | (with_reducible first | assumption | exact m20 (by assumption) (by assumption) | exact ga20 (by assumption) (by assumption) | exact w2 (by assumption) | exact w2 (min4 (by assumption)) | exact w2 (s46 (by assumption)) | exact min4 (by assumption) | exact s46 (by assumption) | exact min11 (by assumption) (by assumption)) | (unfold vp_in; decide) | exact (by with_reducible first | assumption | ((repeat (first | assumption | refine sf_lays (by first | assumption | exact m20 (by assumption) (by assumption)) (by first | exact w2 (by assumption) | exact w2 (min4 (by assumption)) | (unfold vp_in; decide)) ?_ | refine sf_adds (by unfold vp_in; decide) ?_ | refine sf_u (by omega) ?_)); done)) | exact s46 (by with_reducible first | assumption | ((repeat (first | assumption | refine sf_lays (by first | assumption | exact m20 (by assumption) (by assumption)) (by first | exact w2 (by assumption) | exact w2 (min4 (by assumption)) | (unfold vp_in; decide)) ?_ | refine sf_adds (by unfold vp_in; decide) ?_ | refine sf_u (by omega) ?_)); done)) | exact w2 (s46 (by with_reducible first | assumption | ((repeat (first | assumption | refine sf_lays (by first | assumption | exact m20 (by assumption) (by assumption)) (by first | exact w2 (by assumption) | exact w2 (min4 (by assumption)) | (unfold vp_in; decide)) ?_ | refine sf_adds (by unfold vp_in; decide) ?_ | refine sf_u (by omega) ?_)); done))))) (cwV 2 hts gX6_finds_X6_goWorth rfl rfl rfl (by decide +kernel) ⟨Nat.le_of_ble_eq_true rfl, Nat.le_of_ble_eq_true rfl⟩) hP hK hX hS 0 5 md_0 rfl rfl hl.1 rfl (Nat.le_of_ble_eq_true rfl) dX6_finds_72 ⟨Nat.zero_le _, Nat.zero_le _⟩ ?_
                    refine my_put (D := D) (ci := 5) (C := RX6) (T := TX6) (N := 17) (ty := .int) hx hb hts hi6 tyX6 tyX6_ok nmX6 hown hK hP hD hS 0 md_0 rfl 8 (by decide) w1 (fun _ h9 => h9) rfl (by decide +kernel) rfl rfl (Nat.le_of_ble_eq_true rfl) (md_f8 _) dX6_finds_75 (fun H locs hP hD hS => ?_)
                    refine lv_iinc (v := _ + (1 : Int32)) (lv' := [(2, .int _), (1, .int _), (0, .ref _)]) hx hb dX6_finds_78 hl (k := 0) rfl rfl (by decide) rfl (fun ls hl => ?_)
                    refine lv_goto (tgt := 19) hx hb dX6_finds_81 (by decide) ?_
                    exact ih19 _ _ (cs1 j1 c22) (cs2 c22) (csm c22 jm) (Eq.trans hsp19 (Eq.trans (lp19_X6_finds_s _ _ _ _ _ _) (Eq.trans (if_neg c22) (Eq.trans (if_neg c33) (Eq.trans (if_neg c42) (Eq.trans (if_neg c55) (rfl))))))) _ (lv_sub hl [0, 1, 2] rfl) _ _ hP hD hS
        exact L19 61 _ _ (by decide) (by decide) (by decide) (Eq.trans hsp7 (Eq.trans (lp7_X6_finds_s _ _ _ _) (Eq.trans (if_neg c14) (rfl)))) _ (lv_sub hl [0, 1, 2] rfl) _ _ hP hD hS
  exact L7 21 _ _ (by decide) (cn2 hsf) (cnm hsf) (rfl) _ (lv_sub hl [0, 1] rfl) _ _ hP hD hS

def lp12_X6_sorts5 (N : Nat → Int32) (x2 x3 v3 : Int32) (K2 : Int32 → (Nat → Nat → Int32) → Nat → Nat → Int32) : Nat → Int32 → (Nat → Nat → Int32) → Nat → Nat → Int32
  | 0, v4, Zw => Zw
  | n + 1, v4, Zw => if x2 ≤ v4 then (K2 (v3 + (1 : Int32)) Zw) else (if x3 = 0 then (if (Zw 4 (ix v4)) ≤ (Zw 4 (ix v3)) then (lp12_X6_sorts5 N x2 x3 v3 K2 n (v4 + (1 : Int32)) Zw) else (let Z201 : Nat → Nat → Int32 := zu Zw 4 (ix v3) (Zw 4 (ix v4)); let Z202 : Nat → Nat → Int32 := zu Z201 4 (ix v4) (Zw 4 (ix v3)); lp12_X6_sorts5 N x2 x3 v3 K2 n (v4 + (1 : Int32)) Z202)) else (if (Zw 4 (ix v3)) ≤ (Zw 4 (ix v4)) then (lp12_X6_sorts5 N x2 x3 v3 K2 n (v4 + (1 : Int32)) Zw) else (let Z201 : Nat → Nat → Int32 := zu Zw 4 (ix v3) (Zw 4 (ix v4)); let Z202 : Nat → Nat → Int32 := zu Z201 4 (ix v4) (Zw 4 (ix v3)); lp12_X6_sorts5 N x2 x3 v3 K2 n (v4 + (1 : Int32)) Z202)))
theorem lp12_X6_sorts5_s (N : Nat → Int32) (x2 x3 v3 : Int32) (K2 : Int32 → (Nat → Nat → Int32) → Nat → Nat → Int32) (n : Nat) (v4 : Int32) (Zw : Nat → Nat → Int32) : lp12_X6_sorts5 N x2 x3 v3 K2 (n + 1) v4 Zw = if x2 ≤ v4 then (K2 (v3 + (1 : Int32)) Zw) else (if x3 = 0 then (if (Zw 4 (ix v4)) ≤ (Zw 4 (ix v3)) then (lp12_X6_sorts5 N x2 x3 v3 K2 n (v4 + (1 : Int32)) Zw) else (let Z201 : Nat → Nat → Int32 := zu Zw 4 (ix v3) (Zw 4 (ix v4)); let Z202 : Nat → Nat → Int32 := zu Z201 4 (ix v4) (Zw 4 (ix v3)); lp12_X6_sorts5 N x2 x3 v3 K2 n (v4 + (1 : Int32)) Z202)) else (if (Zw 4 (ix v3)) ≤ (Zw 4 (ix v4)) then (lp12_X6_sorts5 N x2 x3 v3 K2 n (v4 + (1 : Int32)) Zw) else (let Z201 : Nat → Nat → Int32 := zu Zw 4 (ix v3) (Zw 4 (ix v4)); let Z202 : Nat → Nat → Int32 := zu Z201 4 (ix v4) (Zw 4 (ix v3)); lp12_X6_sorts5 N x2 x3 v3 K2 n (v4 + (1 : Int32)) Z202))) := rfl
def lp2_X6_sorts5 (N : Nat → Int32) (x2 x3 : Int32) : Nat → Int32 → (Nat → Nat → Int32) → Nat → Nat → Int32
  | 0, v3, Zw => Zw
  | n + 1, v3, Zw => if x2 ≤ v3 then (Zw) else (lp12_X6_sorts5 N x2 x3 v3 (lp2_X6_sorts5 N x2 x3 n) 21 (v3 + (1 : Int32)) Zw)
theorem lp2_X6_sorts5_s (N : Nat → Int32) (x2 x3 : Int32) (n : Nat) (v3 : Int32) (Zw : Nat → Nat → Int32) : lp2_X6_sorts5 N x2 x3 (n + 1) v3 Zw = if x2 ≤ v3 then (Zw) else (lp12_X6_sorts5 N x2 x3 v3 (lp2_X6_sorts5 N x2 x3 n) 21 (v3 + (1 : Int32)) Zw) := rfl
def sp_X6_sorts5 (N : Nat → Int32) (Z : Nat → Nat → Int32) (x2 x3 : Int32) : Nat → Nat → Int32 :=
  lp2_X6_sorts5 N x2 x3 21 (0 : Int32) Z
set_option maxHeartbeats 4000000 in
set_option maxRecDepth 100000 in
theorem c_X6_sorts5 (l : Launch) (D : va_G) (cI cC cW : ClassId) (t : Nat → Nat) (a : Nat → Nat) (sz : Nat) (N : Nat → Int32) (Z : Nat → Nat → Int32) (x2 x3 : Int32) (h0 : 0 ≤ x2.toInt) (h2 : x2.toInt ≤ 20) : Met l yX6_sorts wsX6_sorts ({ frames := 0, cells := 0, slots := 0, locals := 0 }) (va_Pc [.ref (a 5), .int x2, .int x3] (rwP D (tyL cI cC cW) (md cI a N Z) t sz)) (va_Qv (fun (u : Nat → Nat → Int32) => u = sp_X6_sorts5 N Z x2 x3) (fun u => rwB D (va_A (md cI a N Z) sz) (md cI a N u)) (va_A (md cI a N Z) sz)) 0 0 (va_A (md cI a N Z) sz) := by
  refine Met.ofW (cc := cX6_sorts) (maxL := 6) (ret := none) (by decide) rfl ?_
  intro p e s m args below meth c s₁ B hml hv
  obtain ⟨rfl, hsz, hP, hK, hD0, hX⟩ := hv
  have hx := B.exec
  have hb := B.bytes
  have hr := B.returns
  have hts := atoms_spec (ws := wsX6_sorts) B.pre
  have hown : s.vm.findClass RX6 = some m.cls := findClass_of_methodNamed B.named
  have hlocks := B.notSynchronized
  subst hsz
  have hD := hD0.self (sz := s.heap.size)
  generalize hAe : va_A (md cI a N Z) s.heap.size = A at hD hX ⊢
  have hA : ∀ q : Nat, s.heap.size ≤ q → A q := fun q h => by rw [← hAe]; exact Or.inr h
  have hS : va_S A s.heap s.heap [] := va_S.rf
  have hl := lv_entry ([.ref (a 5), .int x2, .int x3]) (n := 6) (Nat.le_of_ble_eq_true rfl)
  rw [lg_entry_eq]
  generalize (lg_sl ([.ref (a 5), .int x2, .int x3]) ++ List.replicate (6 - (lg_sl ([.ref (a 5), .int x2, .int x3])).length) Slot.unset).toArray = ls at hl ⊢
  have hl : lv_has ls 6 [(0, .ref (a 5)), (1, .int x2), (2, .int x3)] := hl
  refine lv_iconst (v := 0) hx hb dX6_sorts_0 (by decide) ?_
  refine lv_istore_n (lv' := [(3, .int _), (0, .ref _), (1, .int _), (2, .int _)]) hx hb dX6_sorts_1 rfl hl (by decide) rfl (fun ls hl => ?_)
  have L2 : ∀ (n2 : Nat) (v3 : Int32) (Zw : Nat → Nat → Int32), (0 ≤ v3.toInt) → (v3.toInt ≤ x2.toInt) → (x2.toInt - v3.toInt < (n2 : Int)) → sp_X6_sorts5 N Z x2 x3 = lp2_X6_sorts5 N x2 x3 (n2) v3 Zw → ∀ (ls : Array Slot), lv_has ls 6 [(3, .int v3), (0, .ref (a 5)), (1, .int x2), (2, .int x3)] → ∀ (H : Heap) (locs : List Loc), va_P D vwCl (md cI a N Zw) H → va_D A (md cI a N Zw) → va_S A s.heap H locs → W p l e (headSpec wsX6_sorts ({ frames := 0, cells := 0, slots := 0, locals := 0 } : Room)).room s m [.ref (a 5), .int x2, .int x3].toArray below meth c H locs 0 0 (MQ below (va_Qv (fun (u : Nat → Nat → Int32) => u = sp_X6_sorts5 N Z x2 x3) (fun u => rwB D A (md cI a N u)) A) [.ref (a 5), .int x2, .int x3].toArray s 0 0 A) (F0 m 2 ls []) := by
    intro n2
    induction n2 with
    | zero => intro v3 Zw i1 i2 im; exfalso; omega
    | succ n2 ih2 =>
      intro v3 Zw i1 i2 im hsp2 ls hl H locs hP hD hS
      refine lv_iload_n hx hb dX6_sorts_2 rfl (lv_at hl 0 rfl) ?_
      refine lv_iload_n hx hb dX6_sorts_3 rfl (lv_at hl 2 rfl) ?_
      refine lv_icmp_ge (tgt := 75) hx hb dX6_sorts_4 (by decide) (fun c4 => ?_) (fun c4 => ?_)
      · exact rw_vret _ hx hb hr hP hD hS (Eq.trans hsp2 (Eq.trans (lp2_X6_sorts5_s _ _ _ _ _ _) (Eq.trans (if_pos c4) (rfl)))) dX6_sorts_75 hlocks
      · have hv : vp_in v3 20 := cnle i1 c4 h2
        refine lv_iload_n hx hb dX6_sorts_7 rfl (lv_at hl 0 rfl) ?_
        refine lv_iconst (v := 1) hx hb dX6_sorts_8 (by decide) ?_
        refine lv_iadd hx hb dX6_sorts_9 ?_
        refine lv_istore (lv' := [(4, .int _), (3, .int _), (0, .ref _), (1, .int _), (2, .int _)]) hx hb dX6_sorts_10 hl (by decide) rfl (fun ls hl => ?_)
        have L12 : ∀ (n12 : Nat) (v4 : Int32) (Zw : Nat → Nat → Int32), (0 ≤ v4.toInt) → (v4.toInt ≤ x2.toInt) → (x2.toInt - v4.toInt < (n12 : Int)) → sp_X6_sorts5 N Z x2 x3 = lp12_X6_sorts5 N x2 x3 v3 (lp2_X6_sorts5 N x2 x3 n2) (n12) v4 Zw → ∀ (ls : Array Slot), lv_has ls 6 [(4, .int v4), (3, .int v3), (0, .ref (a 5)), (1, .int x2), (2, .int x3)] → ∀ (H : Heap) (locs : List Loc), va_P D vwCl (md cI a N Zw) H → va_D A (md cI a N Zw) → va_S A s.heap H locs → W p l e (headSpec wsX6_sorts ({ frames := 0, cells := 0, slots := 0, locals := 0 } : Room)).room s m [.ref (a 5), .int x2, .int x3].toArray below meth c H locs 0 0 (MQ below (va_Qv (fun (u : Nat → Nat → Int32) => u = sp_X6_sorts5 N Z x2 x3) (fun u => rwB D A (md cI a N u)) A) [.ref (a 5), .int x2, .int x3].toArray s 0 0 A) (F0 m 12 ls []) := by
          intro n12
          induction n12 with
          | zero => intro v4 Zw j1 j2 jm; exfalso; omega
          | succ n12 ih12 =>
            intro v4 Zw j1 j2 jm hsp12 ls hl H locs hP hD hS
            refine lv_iload hx hb dX6_sorts_12 (lv_at hl 0 rfl) ?_
            refine lv_iload_n hx hb dX6_sorts_14 rfl (lv_at hl 3 rfl) ?_
            refine lv_icmp_ge (tgt := 69) hx hb dX6_sorts_15 (by decide) (fun c15 => ?_) (fun c15 => ?_)
            · refine lv_iinc (v := _ + (1 : Int32)) (lv' := [(3, .int _), (4, .int _), (0, .ref _), (1, .int _), (2, .int _)]) hx hb dX6_sorts_69 hl (k := 1) rfl rfl (by decide) rfl (fun ls hl => ?_)
              refine lv_goto (tgt := 2) hx hb dX6_sorts_72 (by decide) ?_
              exact ih2 _ _ (cs1 i1 c4) (cs2 c4) (csm c4 im) (Eq.trans hsp12 (Eq.trans (lp12_X6_sorts5_s _ _ _ _ _ _ _ _) (Eq.trans (if_pos c15) (rfl)))) _ (lv_sub hl [0, 2, 3, 4] rfl) _ _ hP hD hS
            · have hv4 : vp_in v4 20 := cnle j1 c15 h2
              refine lv_iload_n hx hb dX6_sorts_18 rfl (lv_at hl 4 rfl) ?_
              refine lv_if_eq (tgt := 35) hx hb dX6_sorts_19 (by decide) (fun c19 => ?_) (fun c19 => ?_)
              · refine lv_aload_n hx hb dX6_sorts_35 rfl (lv_at hl 2 rfl) ?_
                refine lv_iload hx hb dX6_sorts_36 (lv_at hl 0 rfl) ?_
                refine va_iald hx hb hK hP 5 0 md_5 rfl (by assumption) dX6_sorts_38 ?_
                refine lv_aload_n hx hb dX6_sorts_39 rfl (lv_at hl 2 rfl) ?_
                refine lv_iload_n hx hb dX6_sorts_40 rfl (lv_at hl 1 rfl) ?_
                refine va_iald hx hb hK hP 5 0 md_5 rfl (by assumption) dX6_sorts_41 ?_
                refine lv_icmp_le (tgt := 63) hx hb dX6_sorts_42 (by decide) (fun c42 => ?_) (fun c42 => ?_)
                · refine lv_iinc (v := _ + (1 : Int32)) (lv' := [(4, .int _), (3, .int _), (0, .ref _), (1, .int _), (2, .int _)]) hx hb dX6_sorts_63 hl (k := 0) rfl rfl (by decide) rfl (fun ls hl => ?_)
                  refine lv_goto (tgt := 12) hx hb dX6_sorts_66 (by decide) ?_
                  exact ih12 _ _ (cs1 j1 c15) (cs2 c15) (csm c15 jm) (Eq.trans hsp12 (Eq.trans (lp12_X6_sorts5_s _ _ _ _ _ _ _ _) (Eq.trans (if_neg c15) (Eq.trans (if_pos c19) (Eq.trans (if_pos c42) (rfl)))))) _ (lv_sub hl [0, 1, 2, 3, 4] rfl) _ _ hP hD hS
                · refine lv_aload_n hx hb dX6_sorts_45 rfl (lv_at hl 2 rfl) ?_
                  refine lv_iload_n hx hb dX6_sorts_46 rfl (lv_at hl 1 rfl) ?_
                  refine va_iald hx hb hK hP 5 0 md_5 rfl (by assumption) dX6_sorts_47 ?_
                  refine lv_istore (lv' := [(5, .int _), (4, .int _), (3, .int _), (0, .ref _), (1, .int _), (2, .int _)]) hx hb dX6_sorts_48 hl (by decide) rfl (fun ls hl => ?_)
                  refine lv_aload_n hx hb dX6_sorts_50 rfl (lv_at hl 3 rfl) ?_
                  refine lv_iload_n hx hb dX6_sorts_51 rfl (lv_at hl 2 rfl) ?_
                  refine lv_aload_n hx hb dX6_sorts_52 rfl (lv_at hl 3 rfl) ?_
                  refine lv_iload hx hb dX6_sorts_53 (lv_at hl 1 rfl) ?_
                  refine va_iald hx hb hK hP 5 0 md_5 rfl (by assumption) dX6_sorts_55 ?_
                  refine my_iast hx hb hK hP hD hS 5 0 md_5 rfl (md_s5 _ _) (by assumption) dX6_sorts_56 (fun H locs hP hD hS => ?_)
                  refine lv_aload_n hx hb dX6_sorts_57 rfl (lv_at hl 3 rfl) ?_
                  refine lv_iload hx hb dX6_sorts_58 (lv_at hl 1 rfl) ?_
                  refine lv_iload hx hb dX6_sorts_60 (lv_at hl 0 rfl) ?_
                  refine my_iast hx hb hK hP hD hS 5 0 md_5 rfl (md_s5 _ _) (by assumption) dX6_sorts_62 (fun H locs hP hD hS => ?_)
                  refine lv_iinc (v := _ + (1 : Int32)) (lv' := [(4, .int _), (5, .int _), (3, .int _), (0, .ref _), (1, .int _), (2, .int _)]) hx hb dX6_sorts_63 hl (k := 1) rfl rfl (by decide) rfl (fun ls hl => ?_)
                  refine lv_goto (tgt := 12) hx hb dX6_sorts_66 (by decide) ?_
                  exact ih12 _ _ (cs1 j1 c15) (cs2 c15) (csm c15 jm) (Eq.trans hsp12 (Eq.trans (lp12_X6_sorts5_s _ _ _ _ _ _ _ _) (Eq.trans (if_neg c15) (Eq.trans (if_pos c19) (Eq.trans (if_neg c42) (rfl)))))) _ (lv_sub hl [0, 2, 3, 4, 5] rfl) _ _ hP hD hS
              · refine lv_aload_n hx hb dX6_sorts_22 rfl (lv_at hl 2 rfl) ?_
                refine lv_iload hx hb dX6_sorts_23 (lv_at hl 0 rfl) ?_
                refine va_iald hx hb hK hP 5 0 md_5 rfl (by assumption) dX6_sorts_25 ?_
                refine lv_aload_n hx hb dX6_sorts_26 rfl (lv_at hl 2 rfl) ?_
                refine lv_iload_n hx hb dX6_sorts_27 rfl (lv_at hl 1 rfl) ?_
                refine va_iald hx hb hK hP 5 0 md_5 rfl (by assumption) dX6_sorts_28 ?_
                refine lv_icmp_ge (tgt := 63) hx hb dX6_sorts_29 (by decide) (fun c29 => ?_) (fun c29 => ?_)
                · refine lv_iinc (v := _ + (1 : Int32)) (lv' := [(4, .int _), (3, .int _), (0, .ref _), (1, .int _), (2, .int _)]) hx hb dX6_sorts_63 hl (k := 0) rfl rfl (by decide) rfl (fun ls hl => ?_)
                  refine lv_goto (tgt := 12) hx hb dX6_sorts_66 (by decide) ?_
                  exact ih12 _ _ (cs1 j1 c15) (cs2 c15) (csm c15 jm) (Eq.trans hsp12 (Eq.trans (lp12_X6_sorts5_s _ _ _ _ _ _ _ _) (Eq.trans (if_neg c15) (Eq.trans (if_neg c19) (Eq.trans (if_pos c29) (rfl)))))) _ (lv_sub hl [0, 1, 2, 3, 4] rfl) _ _ hP hD hS
                · refine lv_goto (tgt := 45) hx hb dX6_sorts_32 (by decide) ?_
                  refine lv_aload_n hx hb dX6_sorts_45 rfl (lv_at hl 2 rfl) ?_
                  refine lv_iload_n hx hb dX6_sorts_46 rfl (lv_at hl 1 rfl) ?_
                  refine va_iald hx hb hK hP 5 0 md_5 rfl (by assumption) dX6_sorts_47 ?_
                  refine lv_istore (lv' := [(5, .int _), (4, .int _), (3, .int _), (0, .ref _), (1, .int _), (2, .int _)]) hx hb dX6_sorts_48 hl (by decide) rfl (fun ls hl => ?_)
                  refine lv_aload_n hx hb dX6_sorts_50 rfl (lv_at hl 3 rfl) ?_
                  refine lv_iload_n hx hb dX6_sorts_51 rfl (lv_at hl 2 rfl) ?_
                  refine lv_aload_n hx hb dX6_sorts_52 rfl (lv_at hl 3 rfl) ?_
                  refine lv_iload hx hb dX6_sorts_53 (lv_at hl 1 rfl) ?_
                  refine va_iald hx hb hK hP 5 0 md_5 rfl (by assumption) dX6_sorts_55 ?_
                  refine my_iast hx hb hK hP hD hS 5 0 md_5 rfl (md_s5 _ _) (by assumption) dX6_sorts_56 (fun H locs hP hD hS => ?_)
                  refine lv_aload_n hx hb dX6_sorts_57 rfl (lv_at hl 3 rfl) ?_
                  refine lv_iload hx hb dX6_sorts_58 (lv_at hl 1 rfl) ?_
                  refine lv_iload hx hb dX6_sorts_60 (lv_at hl 0 rfl) ?_
                  refine my_iast hx hb hK hP hD hS 5 0 md_5 rfl (md_s5 _ _) (by assumption) dX6_sorts_62 (fun H locs hP hD hS => ?_)
                  refine lv_iinc (v := _ + (1 : Int32)) (lv' := [(4, .int _), (5, .int _), (3, .int _), (0, .ref _), (1, .int _), (2, .int _)]) hx hb dX6_sorts_63 hl (k := 1) rfl rfl (by decide) rfl (fun ls hl => ?_)
                  refine lv_goto (tgt := 12) hx hb dX6_sorts_66 (by decide) ?_
                  exact ih12 _ _ (cs1 j1 c15) (cs2 c15) (csm c15 jm) (Eq.trans hsp12 (Eq.trans (lp12_X6_sorts5_s _ _ _ _ _ _ _ _) (Eq.trans (if_neg c15) (Eq.trans (if_neg c19) (Eq.trans (if_neg c29) (rfl)))))) _ (lv_sub hl [0, 2, 3, 4, 5] rfl) _ _ hP hD hS
        exact L12 21 _ _ (cs1 i1 c4) (cs2 c4) (srt i1 c4 h2) (Eq.trans hsp2 (Eq.trans (lp2_X6_sorts5_s _ _ _ _ _ _) (Eq.trans (if_neg c4) (rfl)))) _ (lv_sub hl [0, 1, 2, 3, 4] rfl) _ _ hP hD hS
  exact L2 21 _ _ (by decide) (srt00 h0) (srt0 h2) (rfl) _ (lv_sub hl [0, 1, 2, 3] rfl) _ _ hP hD hS

def lp12_X6_sorts6 (N : Nat → Int32) (x2 x3 v3 : Int32) (K2 : Int32 → (Nat → Nat → Int32) → Nat → Nat → Int32) : Nat → Int32 → (Nat → Nat → Int32) → Nat → Nat → Int32
  | 0, v4, Zw => Zw
  | n + 1, v4, Zw => if x2 ≤ v4 then (K2 (v3 + (1 : Int32)) Zw) else (if x3 = 0 then (if (Zw 5 (ix v4)) ≤ (Zw 5 (ix v3)) then (lp12_X6_sorts6 N x2 x3 v3 K2 n (v4 + (1 : Int32)) Zw) else (let Z201 : Nat → Nat → Int32 := zu Zw 5 (ix v3) (Zw 5 (ix v4)); let Z202 : Nat → Nat → Int32 := zu Z201 5 (ix v4) (Zw 5 (ix v3)); lp12_X6_sorts6 N x2 x3 v3 K2 n (v4 + (1 : Int32)) Z202)) else (if (Zw 5 (ix v3)) ≤ (Zw 5 (ix v4)) then (lp12_X6_sorts6 N x2 x3 v3 K2 n (v4 + (1 : Int32)) Zw) else (let Z201 : Nat → Nat → Int32 := zu Zw 5 (ix v3) (Zw 5 (ix v4)); let Z202 : Nat → Nat → Int32 := zu Z201 5 (ix v4) (Zw 5 (ix v3)); lp12_X6_sorts6 N x2 x3 v3 K2 n (v4 + (1 : Int32)) Z202)))
theorem lp12_X6_sorts6_s (N : Nat → Int32) (x2 x3 v3 : Int32) (K2 : Int32 → (Nat → Nat → Int32) → Nat → Nat → Int32) (n : Nat) (v4 : Int32) (Zw : Nat → Nat → Int32) : lp12_X6_sorts6 N x2 x3 v3 K2 (n + 1) v4 Zw = if x2 ≤ v4 then (K2 (v3 + (1 : Int32)) Zw) else (if x3 = 0 then (if (Zw 5 (ix v4)) ≤ (Zw 5 (ix v3)) then (lp12_X6_sorts6 N x2 x3 v3 K2 n (v4 + (1 : Int32)) Zw) else (let Z201 : Nat → Nat → Int32 := zu Zw 5 (ix v3) (Zw 5 (ix v4)); let Z202 : Nat → Nat → Int32 := zu Z201 5 (ix v4) (Zw 5 (ix v3)); lp12_X6_sorts6 N x2 x3 v3 K2 n (v4 + (1 : Int32)) Z202)) else (if (Zw 5 (ix v3)) ≤ (Zw 5 (ix v4)) then (lp12_X6_sorts6 N x2 x3 v3 K2 n (v4 + (1 : Int32)) Zw) else (let Z201 : Nat → Nat → Int32 := zu Zw 5 (ix v3) (Zw 5 (ix v4)); let Z202 : Nat → Nat → Int32 := zu Z201 5 (ix v4) (Zw 5 (ix v3)); lp12_X6_sorts6 N x2 x3 v3 K2 n (v4 + (1 : Int32)) Z202))) := rfl
def lp2_X6_sorts6 (N : Nat → Int32) (x2 x3 : Int32) : Nat → Int32 → (Nat → Nat → Int32) → Nat → Nat → Int32
  | 0, v3, Zw => Zw
  | n + 1, v3, Zw => if x2 ≤ v3 then (Zw) else (lp12_X6_sorts6 N x2 x3 v3 (lp2_X6_sorts6 N x2 x3 n) 21 (v3 + (1 : Int32)) Zw)
theorem lp2_X6_sorts6_s (N : Nat → Int32) (x2 x3 : Int32) (n : Nat) (v3 : Int32) (Zw : Nat → Nat → Int32) : lp2_X6_sorts6 N x2 x3 (n + 1) v3 Zw = if x2 ≤ v3 then (Zw) else (lp12_X6_sorts6 N x2 x3 v3 (lp2_X6_sorts6 N x2 x3 n) 21 (v3 + (1 : Int32)) Zw) := rfl
def sp_X6_sorts6 (N : Nat → Int32) (Z : Nat → Nat → Int32) (x2 x3 : Int32) : Nat → Nat → Int32 :=
  lp2_X6_sorts6 N x2 x3 21 (0 : Int32) Z
set_option maxHeartbeats 4000000 in
set_option maxRecDepth 100000 in
theorem c_X6_sorts6 (l : Launch) (D : va_G) (cI cC cW : ClassId) (t : Nat → Nat) (a : Nat → Nat) (sz : Nat) (N : Nat → Int32) (Z : Nat → Nat → Int32) (x2 x3 : Int32) (h0 : 0 ≤ x2.toInt) (h2 : x2.toInt ≤ 20) : Met l yX6_sorts wsX6_sorts ({ frames := 0, cells := 0, slots := 0, locals := 0 }) (va_Pc [.ref (a 6), .int x2, .int x3] (rwP D (tyL cI cC cW) (md cI a N Z) t sz)) (va_Qv (fun (u : Nat → Nat → Int32) => u = sp_X6_sorts6 N Z x2 x3) (fun u => rwB D (va_A (md cI a N Z) sz) (md cI a N u)) (va_A (md cI a N Z) sz)) 0 0 (va_A (md cI a N Z) sz) := by
  refine Met.ofW (cc := cX6_sorts) (maxL := 6) (ret := none) (by decide) rfl ?_
  intro p e s m args below meth c s₁ B hml hv
  obtain ⟨rfl, hsz, hP, hK, hD0, hX⟩ := hv
  have hx := B.exec
  have hb := B.bytes
  have hr := B.returns
  have hts := atoms_spec (ws := wsX6_sorts) B.pre
  have hown : s.vm.findClass RX6 = some m.cls := findClass_of_methodNamed B.named
  have hlocks := B.notSynchronized
  subst hsz
  have hD := hD0.self (sz := s.heap.size)
  generalize hAe : va_A (md cI a N Z) s.heap.size = A at hD hX ⊢
  have hA : ∀ q : Nat, s.heap.size ≤ q → A q := fun q h => by rw [← hAe]; exact Or.inr h
  have hS : va_S A s.heap s.heap [] := va_S.rf
  have hl := lv_entry ([.ref (a 6), .int x2, .int x3]) (n := 6) (Nat.le_of_ble_eq_true rfl)
  rw [lg_entry_eq]
  generalize (lg_sl ([.ref (a 6), .int x2, .int x3]) ++ List.replicate (6 - (lg_sl ([.ref (a 6), .int x2, .int x3])).length) Slot.unset).toArray = ls at hl ⊢
  have hl : lv_has ls 6 [(0, .ref (a 6)), (1, .int x2), (2, .int x3)] := hl
  refine lv_iconst (v := 0) hx hb dX6_sorts_0 (by decide) ?_
  refine lv_istore_n (lv' := [(3, .int _), (0, .ref _), (1, .int _), (2, .int _)]) hx hb dX6_sorts_1 rfl hl (by decide) rfl (fun ls hl => ?_)
  have L2 : ∀ (n2 : Nat) (v3 : Int32) (Zw : Nat → Nat → Int32), (0 ≤ v3.toInt) → (v3.toInt ≤ x2.toInt) → (x2.toInt - v3.toInt < (n2 : Int)) → sp_X6_sorts6 N Z x2 x3 = lp2_X6_sorts6 N x2 x3 (n2) v3 Zw → ∀ (ls : Array Slot), lv_has ls 6 [(3, .int v3), (0, .ref (a 6)), (1, .int x2), (2, .int x3)] → ∀ (H : Heap) (locs : List Loc), va_P D vwCl (md cI a N Zw) H → va_D A (md cI a N Zw) → va_S A s.heap H locs → W p l e (headSpec wsX6_sorts ({ frames := 0, cells := 0, slots := 0, locals := 0 } : Room)).room s m [.ref (a 6), .int x2, .int x3].toArray below meth c H locs 0 0 (MQ below (va_Qv (fun (u : Nat → Nat → Int32) => u = sp_X6_sorts6 N Z x2 x3) (fun u => rwB D A (md cI a N u)) A) [.ref (a 6), .int x2, .int x3].toArray s 0 0 A) (F0 m 2 ls []) := by
    intro n2
    induction n2 with
    | zero => intro v3 Zw i1 i2 im; exfalso; omega
    | succ n2 ih2 =>
      intro v3 Zw i1 i2 im hsp2 ls hl H locs hP hD hS
      refine lv_iload_n hx hb dX6_sorts_2 rfl (lv_at hl 0 rfl) ?_
      refine lv_iload_n hx hb dX6_sorts_3 rfl (lv_at hl 2 rfl) ?_
      refine lv_icmp_ge (tgt := 75) hx hb dX6_sorts_4 (by decide) (fun c4 => ?_) (fun c4 => ?_)
      · exact rw_vret _ hx hb hr hP hD hS (Eq.trans hsp2 (Eq.trans (lp2_X6_sorts6_s _ _ _ _ _ _) (Eq.trans (if_pos c4) (rfl)))) dX6_sorts_75 hlocks
      · have hv : vp_in v3 20 := cnle i1 c4 h2
        refine lv_iload_n hx hb dX6_sorts_7 rfl (lv_at hl 0 rfl) ?_
        refine lv_iconst (v := 1) hx hb dX6_sorts_8 (by decide) ?_
        refine lv_iadd hx hb dX6_sorts_9 ?_
        refine lv_istore (lv' := [(4, .int _), (3, .int _), (0, .ref _), (1, .int _), (2, .int _)]) hx hb dX6_sorts_10 hl (by decide) rfl (fun ls hl => ?_)
        have L12 : ∀ (n12 : Nat) (v4 : Int32) (Zw : Nat → Nat → Int32), (0 ≤ v4.toInt) → (v4.toInt ≤ x2.toInt) → (x2.toInt - v4.toInt < (n12 : Int)) → sp_X6_sorts6 N Z x2 x3 = lp12_X6_sorts6 N x2 x3 v3 (lp2_X6_sorts6 N x2 x3 n2) (n12) v4 Zw → ∀ (ls : Array Slot), lv_has ls 6 [(4, .int v4), (3, .int v3), (0, .ref (a 6)), (1, .int x2), (2, .int x3)] → ∀ (H : Heap) (locs : List Loc), va_P D vwCl (md cI a N Zw) H → va_D A (md cI a N Zw) → va_S A s.heap H locs → W p l e (headSpec wsX6_sorts ({ frames := 0, cells := 0, slots := 0, locals := 0 } : Room)).room s m [.ref (a 6), .int x2, .int x3].toArray below meth c H locs 0 0 (MQ below (va_Qv (fun (u : Nat → Nat → Int32) => u = sp_X6_sorts6 N Z x2 x3) (fun u => rwB D A (md cI a N u)) A) [.ref (a 6), .int x2, .int x3].toArray s 0 0 A) (F0 m 12 ls []) := by
          intro n12
          induction n12 with
          | zero => intro v4 Zw j1 j2 jm; exfalso; omega
          | succ n12 ih12 =>
            intro v4 Zw j1 j2 jm hsp12 ls hl H locs hP hD hS
            refine lv_iload hx hb dX6_sorts_12 (lv_at hl 0 rfl) ?_
            refine lv_iload_n hx hb dX6_sorts_14 rfl (lv_at hl 3 rfl) ?_
            refine lv_icmp_ge (tgt := 69) hx hb dX6_sorts_15 (by decide) (fun c15 => ?_) (fun c15 => ?_)
            · refine lv_iinc (v := _ + (1 : Int32)) (lv' := [(3, .int _), (4, .int _), (0, .ref _), (1, .int _), (2, .int _)]) hx hb dX6_sorts_69 hl (k := 1) rfl rfl (by decide) rfl (fun ls hl => ?_)
              refine lv_goto (tgt := 2) hx hb dX6_sorts_72 (by decide) ?_
              exact ih2 _ _ (cs1 i1 c4) (cs2 c4) (csm c4 im) (Eq.trans hsp12 (Eq.trans (lp12_X6_sorts6_s _ _ _ _ _ _ _ _) (Eq.trans (if_pos c15) (rfl)))) _ (lv_sub hl [0, 2, 3, 4] rfl) _ _ hP hD hS
            · have hv4 : vp_in v4 20 := cnle j1 c15 h2
              refine lv_iload_n hx hb dX6_sorts_18 rfl (lv_at hl 4 rfl) ?_
              refine lv_if_eq (tgt := 35) hx hb dX6_sorts_19 (by decide) (fun c19 => ?_) (fun c19 => ?_)
              · refine lv_aload_n hx hb dX6_sorts_35 rfl (lv_at hl 2 rfl) ?_
                refine lv_iload hx hb dX6_sorts_36 (lv_at hl 0 rfl) ?_
                refine va_iald hx hb hK hP 6 0 md_6 rfl (by assumption) dX6_sorts_38 ?_
                refine lv_aload_n hx hb dX6_sorts_39 rfl (lv_at hl 2 rfl) ?_
                refine lv_iload_n hx hb dX6_sorts_40 rfl (lv_at hl 1 rfl) ?_
                refine va_iald hx hb hK hP 6 0 md_6 rfl (by assumption) dX6_sorts_41 ?_
                refine lv_icmp_le (tgt := 63) hx hb dX6_sorts_42 (by decide) (fun c42 => ?_) (fun c42 => ?_)
                · refine lv_iinc (v := _ + (1 : Int32)) (lv' := [(4, .int _), (3, .int _), (0, .ref _), (1, .int _), (2, .int _)]) hx hb dX6_sorts_63 hl (k := 0) rfl rfl (by decide) rfl (fun ls hl => ?_)
                  refine lv_goto (tgt := 12) hx hb dX6_sorts_66 (by decide) ?_
                  exact ih12 _ _ (cs1 j1 c15) (cs2 c15) (csm c15 jm) (Eq.trans hsp12 (Eq.trans (lp12_X6_sorts6_s _ _ _ _ _ _ _ _) (Eq.trans (if_neg c15) (Eq.trans (if_pos c19) (Eq.trans (if_pos c42) (rfl)))))) _ (lv_sub hl [0, 1, 2, 3, 4] rfl) _ _ hP hD hS
                · refine lv_aload_n hx hb dX6_sorts_45 rfl (lv_at hl 2 rfl) ?_
                  refine lv_iload_n hx hb dX6_sorts_46 rfl (lv_at hl 1 rfl) ?_
                  refine va_iald hx hb hK hP 6 0 md_6 rfl (by assumption) dX6_sorts_47 ?_
                  refine lv_istore (lv' := [(5, .int _), (4, .int _), (3, .int _), (0, .ref _), (1, .int _), (2, .int _)]) hx hb dX6_sorts_48 hl (by decide) rfl (fun ls hl => ?_)
                  refine lv_aload_n hx hb dX6_sorts_50 rfl (lv_at hl 3 rfl) ?_
                  refine lv_iload_n hx hb dX6_sorts_51 rfl (lv_at hl 2 rfl) ?_
                  refine lv_aload_n hx hb dX6_sorts_52 rfl (lv_at hl 3 rfl) ?_
                  refine lv_iload hx hb dX6_sorts_53 (lv_at hl 1 rfl) ?_
                  refine va_iald hx hb hK hP 6 0 md_6 rfl (by assumption) dX6_sorts_55 ?_
                  refine my_iast hx hb hK hP hD hS 6 0 md_6 rfl (md_s6 _ _) (by assumption) dX6_sorts_56 (fun H locs hP hD hS => ?_)
                  refine lv_aload_n hx hb dX6_sorts_57 rfl (lv_at hl 3 rfl) ?_
                  refine lv_iload hx hb dX6_sorts_58 (lv_at hl 1 rfl) ?_
                  refine lv_iload hx hb dX6_sorts_60 (lv_at hl 0 rfl) ?_
                  refine my_iast hx hb hK hP hD hS 6 0 md_6 rfl (md_s6 _ _) (by assumption) dX6_sorts_62 (fun H locs hP hD hS => ?_)
                  refine lv_iinc (v := _ + (1 : Int32)) (lv' := [(4, .int _), (5, .int _), (3, .int _), (0, .ref _), (1, .int _), (2, .int _)]) hx hb dX6_sorts_63 hl (k := 1) rfl rfl (by decide) rfl (fun ls hl => ?_)
                  refine lv_goto (tgt := 12) hx hb dX6_sorts_66 (by decide) ?_
                  exact ih12 _ _ (cs1 j1 c15) (cs2 c15) (csm c15 jm) (Eq.trans hsp12 (Eq.trans (lp12_X6_sorts6_s _ _ _ _ _ _ _ _) (Eq.trans (if_neg c15) (Eq.trans (if_pos c19) (Eq.trans (if_neg c42) (rfl)))))) _ (lv_sub hl [0, 2, 3, 4, 5] rfl) _ _ hP hD hS
              · refine lv_aload_n hx hb dX6_sorts_22 rfl (lv_at hl 2 rfl) ?_
                refine lv_iload hx hb dX6_sorts_23 (lv_at hl 0 rfl) ?_
                refine va_iald hx hb hK hP 6 0 md_6 rfl (by assumption) dX6_sorts_25 ?_
                refine lv_aload_n hx hb dX6_sorts_26 rfl (lv_at hl 2 rfl) ?_
                refine lv_iload_n hx hb dX6_sorts_27 rfl (lv_at hl 1 rfl) ?_
                refine va_iald hx hb hK hP 6 0 md_6 rfl (by assumption) dX6_sorts_28 ?_
                refine lv_icmp_ge (tgt := 63) hx hb dX6_sorts_29 (by decide) (fun c29 => ?_) (fun c29 => ?_)
                · refine lv_iinc (v := _ + (1 : Int32)) (lv' := [(4, .int _), (3, .int _), (0, .ref _), (1, .int _), (2, .int _)]) hx hb dX6_sorts_63 hl (k := 0) rfl rfl (by decide) rfl (fun ls hl => ?_)
                  refine lv_goto (tgt := 12) hx hb dX6_sorts_66 (by decide) ?_
                  exact ih12 _ _ (cs1 j1 c15) (cs2 c15) (csm c15 jm) (Eq.trans hsp12 (Eq.trans (lp12_X6_sorts6_s _ _ _ _ _ _ _ _) (Eq.trans (if_neg c15) (Eq.trans (if_neg c19) (Eq.trans (if_pos c29) (rfl)))))) _ (lv_sub hl [0, 1, 2, 3, 4] rfl) _ _ hP hD hS
                · refine lv_goto (tgt := 45) hx hb dX6_sorts_32 (by decide) ?_
                  refine lv_aload_n hx hb dX6_sorts_45 rfl (lv_at hl 2 rfl) ?_
                  refine lv_iload_n hx hb dX6_sorts_46 rfl (lv_at hl 1 rfl) ?_
                  refine va_iald hx hb hK hP 6 0 md_6 rfl (by assumption) dX6_sorts_47 ?_
                  refine lv_istore (lv' := [(5, .int _), (4, .int _), (3, .int _), (0, .ref _), (1, .int _), (2, .int _)]) hx hb dX6_sorts_48 hl (by decide) rfl (fun ls hl => ?_)
                  refine lv_aload_n hx hb dX6_sorts_50 rfl (lv_at hl 3 rfl) ?_
                  refine lv_iload_n hx hb dX6_sorts_51 rfl (lv_at hl 2 rfl) ?_
                  refine lv_aload_n hx hb dX6_sorts_52 rfl (lv_at hl 3 rfl) ?_
                  refine lv_iload hx hb dX6_sorts_53 (lv_at hl 1 rfl) ?_
                  refine va_iald hx hb hK hP 6 0 md_6 rfl (by assumption) dX6_sorts_55 ?_
                  refine my_iast hx hb hK hP hD hS 6 0 md_6 rfl (md_s6 _ _) (by assumption) dX6_sorts_56 (fun H locs hP hD hS => ?_)
                  refine lv_aload_n hx hb dX6_sorts_57 rfl (lv_at hl 3 rfl) ?_
                  refine lv_iload hx hb dX6_sorts_58 (lv_at hl 1 rfl) ?_
                  refine lv_iload hx hb dX6_sorts_60 (lv_at hl 0 rfl) ?_
                  refine my_iast hx hb hK hP hD hS 6 0 md_6 rfl (md_s6 _ _) (by assumption) dX6_sorts_62 (fun H locs hP hD hS => ?_)
                  refine lv_iinc (v := _ + (1 : Int32)) (lv' := [(4, .int _), (5, .int _), (3, .int _), (0, .ref _), (1, .int _), (2, .int _)]) hx hb dX6_sorts_63 hl (k := 1) rfl rfl (by decide) rfl (fun ls hl => ?_)
                  refine lv_goto (tgt := 12) hx hb dX6_sorts_66 (by decide) ?_
                  exact ih12 _ _ (cs1 j1 c15) (cs2 c15) (csm c15 jm) (Eq.trans hsp12 (Eq.trans (lp12_X6_sorts6_s _ _ _ _ _ _ _ _) (Eq.trans (if_neg c15) (Eq.trans (if_neg c19) (Eq.trans (if_neg c29) (rfl)))))) _ (lv_sub hl [0, 2, 3, 4, 5] rfl) _ _ hP hD hS
        exact L12 21 _ _ (cs1 i1 c4) (cs2 c4) (srt i1 c4 h2) (Eq.trans hsp2 (Eq.trans (lp2_X6_sorts6_s _ _ _ _ _ _) (Eq.trans (if_neg c4) (rfl)))) _ (lv_sub hl [0, 1, 2, 3, 4] rfl) _ _ hP hD hS
  exact L2 21 _ _ (by decide) (srt00 h0) (srt0 h2) (rfl) _ (lv_sub hl [0, 1, 2, 3] rfl) _ _ hP hD hS

def lp4_X6_number (N : Nat → Int32) : Nat → Int32 → Int32 → (Nat → Nat → Int32) → Int32 × (Nat → Nat → Int32)
  | 0, v1, v2, Zw => (0, Zw)
  | n + 1, v1, v2, Zw => if (3 : Int32) ≤ v2 then (if v2 = 0 then (((-1 : Int32), Zw)) else ((v1, Zw))) else (if (sp_X6_in (sp_X6_signAt N Zw (Zw 0 5)) (48 : Int32) (57 : Int32)) = 0 then (if v2 = 0 then (((-1 : Int32), Zw)) else ((v1, Zw))) else (let Z101 : Nat → Nat → Int32 := zu Zw 0 5 ((Zw 0 5) + (1 : Int32)); lp4_X6_number N n ((((10 : Int32) * v1) + (sp_X6_signAt N Zw (Zw 0 5))) - (48 : Int32)) (v2 + (1 : Int32)) Z101))
theorem lp4_X6_number_s (N : Nat → Int32) (n : Nat) (v1 : Int32) (v2 : Int32) (Zw : Nat → Nat → Int32) : lp4_X6_number N (n + 1) v1 v2 Zw = if (3 : Int32) ≤ v2 then (if v2 = 0 then (((-1 : Int32), Zw)) else ((v1, Zw))) else (if (sp_X6_in (sp_X6_signAt N Zw (Zw 0 5)) (48 : Int32) (57 : Int32)) = 0 then (if v2 = 0 then (((-1 : Int32), Zw)) else ((v1, Zw))) else (let Z101 : Nat → Nat → Int32 := zu Zw 0 5 ((Zw 0 5) + (1 : Int32)); lp4_X6_number N n ((((10 : Int32) * v1) + (sp_X6_signAt N Zw (Zw 0 5))) - (48 : Int32)) (v2 + (1 : Int32)) Z101)) := rfl
def sp_X6_number (N : Nat → Int32) (Z : Nat → Nat → Int32) : Int32 × (Nat → Nat → Int32) :=
  lp4_X6_number N 4 (0 : Int32) (0 : Int32) Z
set_option maxHeartbeats 4000000 in
set_option maxRecDepth 100000 in
theorem c_X6_number (l : Launch) (D : va_G) (cI cC cW : ClassId) (t : Nat → Nat) (a : Nat → Nat) (sz : Nat) (N : Nat → Int32) (Z : Nat → Nat → Int32) (h0 : 0 ≤ (Z 0 5).toInt) (hty : tyZ Z) : Met l yX6_number wsX6_number ({ frames := 1, cells := 0, slots := 0, locals := 22 }) (va_Pc [.ref (a 0)] (rwP D (tyL cI cC cW) (md cI a N Z) t sz)) (va_Qi (fun (r : Int32) (u : Nat → Nat → Int32) => (r, u) = sp_X6_number N Z) (fun u => rwB D (va_A (md cI a N Z) sz) (md cI a N u)) (va_A (md cI a N Z) sz)) 0 0 (va_A (md cI a N Z) sz) := by
  refine Met.ofW (cc := cX6_number) (maxL := 3) (ret := (some .int)) (by decide) rfl ?_
  intro p e s m args below meth c s₁ B hml hv
  obtain ⟨rfl, hsz, hP, hK, hD0, hX⟩ := hv
  have hx := B.exec
  have hb := B.bytes
  have hr := B.returns
  have hts := atoms_spec (ws := wsX6_number) B.pre
  have hown : s.vm.findClass RX6 = some m.cls := findClass_of_methodNamed B.named
  have hlocks := B.notSynchronized
  subst hsz
  have hD := hD0.self (sz := s.heap.size)
  generalize hAe : va_A (md cI a N Z) s.heap.size = A at hD hX ⊢
  have hA : ∀ q : Nat, s.heap.size ≤ q → A q := fun q h => by rw [← hAe]; exact Or.inr h
  have hS : va_S A s.heap s.heap [] := va_S.rf
  have w1 : (Cond.fieldLink RX6 159 "PickSlotsModel" "at" "I").before [.ref (a 0)].toArray s = true := hts _ (List.mem_of_getElem? (i := 1) rfl)
  have hi6 : ∀ w ∈ wsX60, w ∈ wsX6_number := fun w h => List.mem_cons_of_mem _ (List.mem_append_right _ (h))
  have CF : CallFix p m c cX6_number 3 s [.ref (a 0)].toArray wsX6_number RX6 := ⟨hx, hb, hml, hown, hts⟩
  have hl := lv_entry ([.ref (a 0)]) (n := 3) (Nat.le_of_ble_eq_true rfl)
  rw [lg_entry_eq]
  generalize (lg_sl ([.ref (a 0)]) ++ List.replicate (3 - (lg_sl ([.ref (a 0)])).length) Slot.unset).toArray = ls at hl ⊢
  have hl : lv_has ls 3 [(0, .ref (a 0))] := hl
  refine lv_iconst (v := 0) hx hb dX6_number_0 (by decide) ?_
  refine lv_istore_n (lv' := [(1, .int _), (0, .ref _)]) hx hb dX6_number_1 rfl hl (by decide) rfl (fun ls hl => ?_)
  refine lv_iconst (v := 0) hx hb dX6_number_2 (by decide) ?_
  refine lv_istore_n (lv' := [(2, .int _), (1, .int _), (0, .ref _)]) hx hb dX6_number_3 rfl hl (by decide) rfl (fun ls hl => ?_)
  have L4 : ∀ (n4 : Nat) (v1 v2 : Int32) (Zw : Nat → Nat → Int32), (0 ≤ v2.toInt) → (v2.toInt ≤ (3 : Int32).toInt) → ((3 : Int32).toInt - v2.toInt < (n4 : Int)) → (0 ≤ (Zw 0 5).toInt) → (tyZ Zw) → sp_X6_number N Z = lp4_X6_number N (n4) v1 v2 Zw → ∀ (ls : Array Slot), lv_has ls 3 [(1, .int v1), (2, .int v2), (0, .ref (a 0))] → ∀ (H : Heap) (locs : List Loc), va_P D vwCl (md cI a N Zw) H → va_D A (md cI a N Zw) → va_S A s.heap H locs → W p l e (headSpec wsX6_number ({ frames := 1, cells := 0, slots := 0, locals := 22 } : Room)).room s m [.ref (a 0)].toArray below meth c H locs 0 0 (MQ below (va_Qi (fun (r : Int32) (u : Nat → Nat → Int32) => (r, u) = sp_X6_number N Z) (fun u => rwB D A (md cI a N u)) A) [.ref (a 0)].toArray s 0 0 A) (F0 m 4 ls []) := by
    intro n4
    induction n4 with
    | zero => intro v1 v2 Zw i1 i2 im ha ht; exfalso; omega
    | succ n4 ih4 =>
      intro v1 v2 Zw i1 i2 im ha ht hsp4 ls hl H locs hP hD hS
      refine lv_iload_n hx hb dX6_number_4 rfl (lv_at hl 1 rfl) ?_
      refine lv_iconst (v := 3) hx hb dX6_number_5 (by decide) ?_
      refine lv_icmp_ge (tgt := 60) hx hb dX6_number_6 (by decide) (fun c6 => ?_) (fun c6 => ?_)
      · refine lv_iload_n hx hb dX6_number_60 rfl (lv_at hl 1 rfl) ?_
        refine lv_if_ne (tgt := 68) hx hb dX6_number_61 (by decide) (fun c61 => ?_) (fun c61 => ?_)
        · refine lv_iload_n hx hb dX6_number_68 rfl (lv_at hl 0 rfl) ?_
          exact rw_ret _ hx hb hr hP hD hS (Eq.trans hsp4 (Eq.trans (lp4_X6_number_s _ _ _ _ _) (Eq.trans (if_pos c6) (Eq.trans (if_neg c61) (rfl))))) dX6_number_69 hlocks
        · refine lv_iconst (v := -1) hx hb dX6_number_64 (by decide) ?_
          refine lv_goto (tgt := 69) hx hb dX6_number_65 (by decide) ?_
          exact rw_ret _ hx hb hr hP hD hS (Eq.trans hsp4 (Eq.trans (lp4_X6_number_s _ _ _ _ _) (Eq.trans (if_pos c6) (Eq.trans (if_pos c61) (rfl))))) dX6_number_69 hlocks
      · refine lv_aload_n hx hb dX6_number_9 rfl (lv_at hl 2 rfl) ?_
        refine lv_aload_n hx hb dX6_number_10 rfl (lv_at hl 2 rfl) ?_
        refine va_get (D := D) (ci := 5) (C := RX6) (T := TX6) (N := 17) hx hb hts hi6 hown hK hP 0 md_0 rfl 11 (by decide) w1 (fun _ h9 => h9) rfl dX6_number_11 ?_
        refine roV CF (c_X6_signAt l D cI cC cW t _ _ _ _ (by first | (with_reducible first | assumption | exact m20 (by assumption) (by assumption) | exact ga20 (by assumption) (by assumption) | exact w2 (by assumption) | exact w2 (min4 (by assumption)) | exact w2 (s46 (by assumption)) | exact min4 (by assumption) | exact s46 (by assumption) | exact min11 (by assumption) (by assumption)) | (unfold vp_in; decide) | exact (by with_reducible first | assumption | ((repeat (first | assumption | refine sf_lays (by first | assumption | exact m20 (by assumption) (by assumption)) (by first | exact w2 (by assumption) | exact w2 (min4 (by assumption)) | (unfold vp_in; decide)) ?_ | refine sf_adds (by unfold vp_in; decide) ?_ | refine sf_u (by omega) ?_)); done)) | exact s46 (by with_reducible first | assumption | ((repeat (first | assumption | refine sf_lays (by first | assumption | exact m20 (by assumption) (by assumption)) (by first | exact w2 (by assumption) | exact w2 (min4 (by assumption)) | (unfold vp_in; decide)) ?_ | refine sf_adds (by unfold vp_in; decide) ?_ | refine sf_u (by omega) ?_)); done)) | exact w2 (s46 (by with_reducible first | assumption | ((repeat (first | assumption | refine sf_lays (by first | assumption | exact m20 (by assumption) (by assumption)) (by first | exact w2 (by assumption) | exact w2 (min4 (by assumption)) | (unfold vp_in; decide)) ?_ | refine sf_adds (by unfold vp_in; decide) ?_ | refine sf_u (by omega) ?_)); done)))) (by first | (with_reducible first | assumption | exact m20 (by assumption) (by assumption) | exact ga20 (by assumption) (by assumption) | exact w2 (by assumption) | exact w2 (min4 (by assumption)) | exact w2 (s46 (by assumption)) | exact min4 (by assumption) | exact s46 (by assumption) | exact min11 (by assumption) (by assumption)) | (unfold vp_in; decide) | exact (by with_reducible first | assumption | ((repeat (first | assumption | refine sf_lays (by first | assumption | exact m20 (by assumption) (by assumption)) (by first | exact w2 (by assumption) | exact w2 (min4 (by assumption)) | (unfold vp_in; decide)) ?_ | refine sf_adds (by unfold vp_in; decide) ?_ | refine sf_u (by omega) ?_)); done)) | exact s46 (by with_reducible first | assumption | ((repeat (first | assumption | refine sf_lays (by first | assumption | exact m20 (by assumption) (by assumption)) (by first | exact w2 (by assumption) | exact w2 (min4 (by assumption)) | (unfold vp_in; decide)) ?_ | refine sf_adds (by unfold vp_in; decide) ?_ | refine sf_u (by omega) ?_)); done)) | exact w2 (s46 (by with_reducible first | assumption | ((repeat (first | assumption | refine sf_lays (by first | assumption | exact m20 (by assumption) (by assumption)) (by first | exact w2 (by assumption) | exact w2 (min4 (by assumption)) | (unfold vp_in; decide)) ?_ | refine sf_adds (by unfold vp_in; decide) ?_ | refine sf_u (by omega) ?_)); done))))) (cwV 1 hts gX6_number_X6_signAt rfl rfl rfl (by decide +kernel) ⟨Nat.le_of_ble_eq_true rfl, Nat.le_of_ble_eq_true rfl⟩) hP hK hX hS 0 5 md_0 rfl rfl hl.1 rfl (Nat.le_of_ble_eq_true rfl) dX6_number_14 ⟨Nat.zero_le _, Nat.zero_le _⟩ ?_
        refine lv_bipush (v := 48) hx hb dX6_number_17 (by decide) ?_
        refine lv_bipush (v := 57) hx hb dX6_number_19 (by decide) ?_
        refine roS CF (c_X6_in l D cI cC cW t _ _ _ ) (va_cwS 3 hts gX6_number_X6_in rfl rfl rfl (by decide +kernel) ⟨Nat.le_of_ble_eq_true rfl, Nat.le_of_ble_eq_true rfl⟩) vP_nil hK hX hS rfl hl.1 rfl (Nat.le_of_ble_eq_true rfl) dX6_number_21 ⟨Nat.zero_le _, Nat.zero_le _⟩ ?_
        refine lv_if_eq (tgt := 60) hx hb dX6_number_24 (by decide) (fun c24 => ?_) (fun c24 => ?_)
        · refine lv_iload_n hx hb dX6_number_60 rfl (lv_at hl 1 rfl) ?_
          refine lv_if_ne (tgt := 68) hx hb dX6_number_61 (by decide) (fun c61 => ?_) (fun c61 => ?_)
          · refine lv_iload_n hx hb dX6_number_68 rfl (lv_at hl 0 rfl) ?_
            exact rw_ret _ hx hb hr hP hD hS (Eq.trans hsp4 (Eq.trans (lp4_X6_number_s _ _ _ _ _) (Eq.trans (if_neg c6) (Eq.trans (if_pos c24) (Eq.trans (if_neg c61) (rfl)))))) dX6_number_69 hlocks
          · refine lv_iconst (v := -1) hx hb dX6_number_64 (by decide) ?_
            refine lv_goto (tgt := 69) hx hb dX6_number_65 (by decide) ?_
            exact rw_ret _ hx hb hr hP hD hS (Eq.trans hsp4 (Eq.trans (lp4_X6_number_s _ _ _ _ _) (Eq.trans (if_neg c6) (Eq.trans (if_pos c24) (Eq.trans (if_pos c61) (rfl)))))) dX6_number_69 hlocks
        · refine lv_bipush (v := 10) hx hb dX6_number_27 (by decide) ?_
          refine lv_iload_n hx hb dX6_number_29 rfl (lv_at hl 0 rfl) ?_
          refine lv_imul hx hb dX6_number_30 ?_
          refine lv_aload_n hx hb dX6_number_31 rfl (lv_at hl 2 rfl) ?_
          refine lv_aload_n hx hb dX6_number_32 rfl (lv_at hl 2 rfl) ?_
          refine va_get (D := D) (ci := 5) (C := RX6) (T := TX6) (N := 17) hx hb hts hi6 hown hK hP 0 md_0 rfl 11 (by decide) w1 (fun _ h9 => h9) rfl dX6_number_33 ?_
          refine roV CF (c_X6_signAt l D cI cC cW t _ _ _ _ (by first | (with_reducible first | assumption | exact m20 (by assumption) (by assumption) | exact ga20 (by assumption) (by assumption) | exact w2 (by assumption) | exact w2 (min4 (by assumption)) | exact w2 (s46 (by assumption)) | exact min4 (by assumption) | exact s46 (by assumption) | exact min11 (by assumption) (by assumption)) | (unfold vp_in; decide) | exact (by with_reducible first | assumption | ((repeat (first | assumption | refine sf_lays (by first | assumption | exact m20 (by assumption) (by assumption)) (by first | exact w2 (by assumption) | exact w2 (min4 (by assumption)) | (unfold vp_in; decide)) ?_ | refine sf_adds (by unfold vp_in; decide) ?_ | refine sf_u (by omega) ?_)); done)) | exact s46 (by with_reducible first | assumption | ((repeat (first | assumption | refine sf_lays (by first | assumption | exact m20 (by assumption) (by assumption)) (by first | exact w2 (by assumption) | exact w2 (min4 (by assumption)) | (unfold vp_in; decide)) ?_ | refine sf_adds (by unfold vp_in; decide) ?_ | refine sf_u (by omega) ?_)); done)) | exact w2 (s46 (by with_reducible first | assumption | ((repeat (first | assumption | refine sf_lays (by first | assumption | exact m20 (by assumption) (by assumption)) (by first | exact w2 (by assumption) | exact w2 (min4 (by assumption)) | (unfold vp_in; decide)) ?_ | refine sf_adds (by unfold vp_in; decide) ?_ | refine sf_u (by omega) ?_)); done)))) (by first | (with_reducible first | assumption | exact m20 (by assumption) (by assumption) | exact ga20 (by assumption) (by assumption) | exact w2 (by assumption) | exact w2 (min4 (by assumption)) | exact w2 (s46 (by assumption)) | exact min4 (by assumption) | exact s46 (by assumption) | exact min11 (by assumption) (by assumption)) | (unfold vp_in; decide) | exact (by with_reducible first | assumption | ((repeat (first | assumption | refine sf_lays (by first | assumption | exact m20 (by assumption) (by assumption)) (by first | exact w2 (by assumption) | exact w2 (min4 (by assumption)) | (unfold vp_in; decide)) ?_ | refine sf_adds (by unfold vp_in; decide) ?_ | refine sf_u (by omega) ?_)); done)) | exact s46 (by with_reducible first | assumption | ((repeat (first | assumption | refine sf_lays (by first | assumption | exact m20 (by assumption) (by assumption)) (by first | exact w2 (by assumption) | exact w2 (min4 (by assumption)) | (unfold vp_in; decide)) ?_ | refine sf_adds (by unfold vp_in; decide) ?_ | refine sf_u (by omega) ?_)); done)) | exact w2 (s46 (by with_reducible first | assumption | ((repeat (first | assumption | refine sf_lays (by first | assumption | exact m20 (by assumption) (by assumption)) (by first | exact w2 (by assumption) | exact w2 (min4 (by assumption)) | (unfold vp_in; decide)) ?_ | refine sf_adds (by unfold vp_in; decide) ?_ | refine sf_u (by omega) ?_)); done))))) (cwV 1 hts gX6_number_X6_signAt rfl rfl rfl (by decide +kernel) ⟨Nat.le_of_ble_eq_true rfl, Nat.le_of_ble_eq_true rfl⟩) hP hK hX hS 0 5 md_0 rfl rfl hl.1 rfl (Nat.le_of_ble_eq_true rfl) dX6_number_36 ⟨Nat.zero_le _, Nat.zero_le _⟩ ?_
          refine lv_iadd hx hb dX6_number_39 ?_
          refine lv_bipush (v := 48) hx hb dX6_number_40 (by decide) ?_
          refine lv_isub hx hb dX6_number_42 ?_
          refine lv_istore_n (lv' := [(1, .int _), (2, .int _), (0, .ref _)]) hx hb dX6_number_43 rfl hl (by decide) rfl (fun ls hl => ?_)
          refine lv_aload_n hx hb dX6_number_44 rfl (lv_at hl 2 rfl) ?_
          refine lv_dup hx hb dX6_number_45 rfl ?_
          refine va_get (D := D) (ci := 5) (C := RX6) (T := TX6) (N := 17) hx hb hts hi6 hown hK hP 0 md_0 rfl 11 (by decide) w1 (fun _ h9 => h9) rfl dX6_number_46 ?_
          refine lv_iconst (v := 1) hx hb dX6_number_49 (by decide) ?_
          refine lv_iadd hx hb dX6_number_50 ?_
          refine my_put (D := D) (ci := 5) (C := RX6) (T := TX6) (N := 17) (ty := .int) hx hb hts hi6 tyX6 tyX6_ok nmX6 hown hK hP hD hS 0 md_0 rfl 11 (by decide) w1 (fun _ h9 => h9) rfl (by decide +kernel) rfl rfl (Nat.le_of_ble_eq_true rfl) (md_f11 _) dX6_number_51 (fun H locs hP hD hS => ?_)
          refine lv_iinc (v := _ + (1 : Int32)) (lv' := [(2, .int _), (1, .int _), (0, .ref _)]) hx hb dX6_number_54 hl (k := 1) rfl rfl (by decide) rfl (fun ls hl => ?_)
          refine lv_goto (tgt := 4) hx hb dX6_number_57 (by decide) ?_
          exact ih4 _ _ _ (cs1 i1 c6) (cs2 c6) (csm c6 im) (at_digit ha c24) (ty_zu (by decide) ht) (Eq.trans hsp4 (Eq.trans (lp4_X6_number_s _ _ _ _ _) (Eq.trans (if_neg c6) (Eq.trans (if_neg c24) (rfl))))) _ (lv_sub hl [1, 0, 2] rfl) _ _ hP hD hS
  exact L4 4 _ _ _ (by decide) (by decide) (by decide) (h0) (hty) (rfl) _ (lv_sub hl [1, 0, 2] rfl) _ _ hP hD hS

def sp_X6_isThere (N : Nat → Int32) (Z : Nat → Nat → Int32) : Int32 :=
  if (Z 0 6) = (119 : Int32) then ((1 : Int32)) else (if (sp_X6_isGood N Z (Z 0 7)) = 0 then ((0 : Int32)) else (if (Z 0 6) = (109 : Int32) then (if (sp_X6_isSlot (Z 0 8)) = 0 then ((0 : Int32)) else (if (Z 0 6) = (120 : Int32) then (if (sp_X6_isGood N Z (Z 0 8)) = 0 then ((0 : Int32)) else ((1 : Int32))) else ((1 : Int32)))) else (if (Z 0 6) = (120 : Int32) then (if (sp_X6_isGood N Z (Z 0 8)) = 0 then ((0 : Int32)) else ((1 : Int32))) else ((1 : Int32)))))
set_option maxHeartbeats 4000000 in
set_option maxRecDepth 100000 in
theorem c_X6_isThere (l : Launch) (D : va_G) (cI cC cW : ClassId) (t : Nat → Nat) (a : Nat → Nat) (N : Nat → Int32) (Z : Nat → Nat → Int32)  : Met l yX6_isThere wsX6_isThere ({ frames := 2, cells := 0, slots := 0, locals := 43 }) (va_Pc [.ref (a 0)] (roP D (tyL cI cC cW) (md cI a N Z) t)) (vp_Si (fun r => r = sp_X6_isThere N Z)) 0 0 (fun _ => False) := by
  refine Met.ofW (cc := cX6_isThere) (maxL := 1) (ret := (some .boolean)) (by decide) rfl ?_
  intro p e s m args below meth c s₁ B hml hv
  obtain ⟨rfl, hP, hK, hX⟩ := hv
  have hx := B.exec
  have hb := B.bytes
  have hr := B.returns
  have hts := atoms_spec (ws := wsX6_isThere) B.pre
  have hown : s.vm.findClass RX6 = some m.cls := findClass_of_methodNamed B.named
  have hlocks := B.notSynchronized
  have hS : va_S (fun _ => False) s.heap s.heap [] := va_S.rf
  have w1 : (Cond.fieldLink RX6 165 "PickSlotsModel" "letter" "I").before [.ref (a 0)].toArray s = true := hts _ (List.mem_of_getElem? (i := 1) rfl)
  have w2 : (Cond.fieldLink RX6 168 "PickSlotsModel" "first" "I").before [.ref (a 0)].toArray s = true := hts _ (List.mem_of_getElem? (i := 2) rfl)
  have w3 : (Cond.fieldLink RX6 171 "PickSlotsModel" "second" "I").before [.ref (a 0)].toArray s = true := hts _ (List.mem_of_getElem? (i := 3) rfl)
  have hi6 : ∀ w ∈ wsX60, w ∈ wsX6_isThere := fun w h => List.mem_cons_of_mem _ (List.mem_append_right _ (h))
  have CF : CallFix p m c cX6_isThere 1 s [.ref (a 0)].toArray wsX6_isThere RX6 := ⟨hx, hb, hml, hown, hts⟩
  have hl := lv_entry ([.ref (a 0)]) (n := 1) (Nat.le_of_ble_eq_true rfl)
  rw [lg_entry_eq]
  generalize (lg_sl ([.ref (a 0)]) ++ List.replicate (1 - (lg_sl ([.ref (a 0)])).length) Slot.unset).toArray = ls at hl ⊢
  have hl : lv_has ls 1 [(0, .ref (a 0))] := hl
  refine lv_aload_n hx hb dX6_isThere_0 rfl (lv_at hl 0 rfl) ?_
  refine va_get (D := D) (ci := 5) (C := RX6) (T := TX6) (N := 17) hx hb hts hi6 hown hK hP 0 md_0 rfl 12 (by decide) w1 (fun _ h9 => h9) rfl dX6_isThere_1 ?_
  refine lv_bipush (v := 119) hx hb dX6_isThere_4 (by decide) ?_
  refine lv_icmp_eq (tgt := 59) hx hb dX6_isThere_6 (by decide) (fun c6 => ?_) (fun c6 => ?_)
  · refine lv_iconst (v := 1) hx hb dX6_isThere_59 (by decide) ?_
    refine lv_goto (tgt := 64) hx hb dX6_isThere_60 (by decide) ?_
    exact ro_zret hx hb hr (rfl) (Eq.trans (if_pos c6) (rfl)) dX6_isThere_64 hlocks
  · refine lv_aload_n hx hb dX6_isThere_9 rfl (lv_at hl 0 rfl) ?_
    refine lv_aload_n hx hb dX6_isThere_10 rfl (lv_at hl 0 rfl) ?_
    refine va_get (D := D) (ci := 5) (C := RX6) (T := TX6) (N := 17) hx hb hts hi6 hown hK hP 0 md_0 rfl 13 (by decide) w2 (fun _ h9 => h9) rfl dX6_isThere_11 ?_
    refine roV CF (c_X6_isGood l D cI cC cW t _ _ _ _ ) (cwV 1 hts gX6_isThere_X6_isGood rfl rfl rfl (by decide +kernel) ⟨Nat.le_of_ble_eq_true rfl, Nat.le_of_ble_eq_true rfl⟩) hP hK hX hS 0 5 md_0 rfl rfl hl.1 rfl (Nat.le_of_ble_eq_true rfl) dX6_isThere_14 ⟨Nat.zero_le _, Nat.zero_le _⟩ ?_
    refine lv_if_eq (tgt := 63) hx hb dX6_isThere_17 (by decide) (fun c17 => ?_) (fun c17 => ?_)
    · refine lv_iconst (v := 0) hx hb dX6_isThere_63 (by decide) ?_
      exact ro_zret hx hb hr (rfl) (Eq.trans (if_neg c6) (Eq.trans (if_pos c17) (rfl))) dX6_isThere_64 hlocks
    · refine lv_aload_n hx hb dX6_isThere_20 rfl (lv_at hl 0 rfl) ?_
      refine va_get (D := D) (ci := 5) (C := RX6) (T := TX6) (N := 17) hx hb hts hi6 hown hK hP 0 md_0 rfl 12 (by decide) w1 (fun _ h9 => h9) rfl dX6_isThere_21 ?_
      refine lv_bipush (v := 109) hx hb dX6_isThere_24 (by decide) ?_
      refine lv_icmp_ne (tgt := 39) hx hb dX6_isThere_26 (by decide) (fun c26 => ?_) (fun c26 => ?_)
      · refine lv_aload_n hx hb dX6_isThere_39 rfl (lv_at hl 0 rfl) ?_
        refine va_get (D := D) (ci := 5) (C := RX6) (T := TX6) (N := 17) hx hb hts hi6 hown hK hP 0 md_0 rfl 12 (by decide) w1 (fun _ h9 => h9) rfl dX6_isThere_40 ?_
        refine lv_bipush (v := 120) hx hb dX6_isThere_43 (by decide) ?_
        refine lv_icmp_ne (tgt := 59) hx hb dX6_isThere_45 (by decide) (fun c45 => ?_) (fun c45 => ?_)
        · refine lv_iconst (v := 1) hx hb dX6_isThere_59 (by decide) ?_
          refine lv_goto (tgt := 64) hx hb dX6_isThere_60 (by decide) ?_
          exact ro_zret hx hb hr (rfl) (Eq.trans (if_neg c6) (Eq.trans (if_neg c17) (Eq.trans (if_neg c26) (Eq.trans (if_neg c45) (rfl))))) dX6_isThere_64 hlocks
        · refine lv_aload_n hx hb dX6_isThere_48 rfl (lv_at hl 0 rfl) ?_
          refine lv_aload_n hx hb dX6_isThere_49 rfl (lv_at hl 0 rfl) ?_
          refine va_get (D := D) (ci := 5) (C := RX6) (T := TX6) (N := 17) hx hb hts hi6 hown hK hP 0 md_0 rfl 14 (by decide) w3 (fun _ h9 => h9) rfl dX6_isThere_50 ?_
          refine roV CF (c_X6_isGood l D cI cC cW t _ _ _ _ ) (cwV 1 hts gX6_isThere_X6_isGood rfl rfl rfl (by decide +kernel) ⟨Nat.le_of_ble_eq_true rfl, Nat.le_of_ble_eq_true rfl⟩) hP hK hX hS 0 5 md_0 rfl rfl hl.1 rfl (Nat.le_of_ble_eq_true rfl) dX6_isThere_53 ⟨Nat.zero_le _, Nat.zero_le _⟩ ?_
          refine lv_if_eq (tgt := 63) hx hb dX6_isThere_56 (by decide) (fun c56 => ?_) (fun c56 => ?_)
          · refine lv_iconst (v := 0) hx hb dX6_isThere_63 (by decide) ?_
            exact ro_zret hx hb hr (rfl) (Eq.trans (if_neg c6) (Eq.trans (if_neg c17) (Eq.trans (if_neg c26) (Eq.trans (if_pos c45) (Eq.trans (if_pos c56) (rfl)))))) dX6_isThere_64 hlocks
          · refine lv_iconst (v := 1) hx hb dX6_isThere_59 (by decide) ?_
            refine lv_goto (tgt := 64) hx hb dX6_isThere_60 (by decide) ?_
            exact ro_zret hx hb hr (rfl) (Eq.trans (if_neg c6) (Eq.trans (if_neg c17) (Eq.trans (if_neg c26) (Eq.trans (if_pos c45) (Eq.trans (if_neg c56) (rfl)))))) dX6_isThere_64 hlocks
      · refine lv_aload_n hx hb dX6_isThere_29 rfl (lv_at hl 0 rfl) ?_
        refine va_get (D := D) (ci := 5) (C := RX6) (T := TX6) (N := 17) hx hb hts hi6 hown hK hP 0 md_0 rfl 14 (by decide) w3 (fun _ h9 => h9) rfl dX6_isThere_30 ?_
        refine roS CF (c_X6_isSlot l D cI cC cW t _ ) (va_cwS 1 hts gX6_isThere_X6_isSlot rfl rfl rfl (by decide +kernel) ⟨Nat.le_of_ble_eq_true rfl, Nat.le_of_ble_eq_true rfl⟩) vP_nil hK hX hS rfl hl.1 rfl (Nat.le_of_ble_eq_true rfl) dX6_isThere_33 ⟨Nat.zero_le _, Nat.zero_le _⟩ ?_
        refine lv_if_eq (tgt := 63) hx hb dX6_isThere_36 (by decide) (fun c36 => ?_) (fun c36 => ?_)
        · refine lv_iconst (v := 0) hx hb dX6_isThere_63 (by decide) ?_
          exact ro_zret hx hb hr (rfl) (Eq.trans (if_neg c6) (Eq.trans (if_neg c17) (Eq.trans (if_pos c26) (Eq.trans (if_pos c36) (rfl))))) dX6_isThere_64 hlocks
        · refine lv_aload_n hx hb dX6_isThere_39 rfl (lv_at hl 0 rfl) ?_
          refine va_get (D := D) (ci := 5) (C := RX6) (T := TX6) (N := 17) hx hb hts hi6 hown hK hP 0 md_0 rfl 12 (by decide) w1 (fun _ h9 => h9) rfl dX6_isThere_40 ?_
          refine lv_bipush (v := 120) hx hb dX6_isThere_43 (by decide) ?_
          refine lv_icmp_ne (tgt := 59) hx hb dX6_isThere_45 (by decide) (fun c45 => ?_) (fun c45 => ?_)
          · refine lv_iconst (v := 1) hx hb dX6_isThere_59 (by decide) ?_
            refine lv_goto (tgt := 64) hx hb dX6_isThere_60 (by decide) ?_
            exact ro_zret hx hb hr (rfl) (Eq.trans (if_neg c6) (Eq.trans (if_neg c17) (Eq.trans (if_pos c26) (Eq.trans (if_neg c36) (Eq.trans (if_neg c45) (rfl)))))) dX6_isThere_64 hlocks
          · refine lv_aload_n hx hb dX6_isThere_48 rfl (lv_at hl 0 rfl) ?_
            refine lv_aload_n hx hb dX6_isThere_49 rfl (lv_at hl 0 rfl) ?_
            refine va_get (D := D) (ci := 5) (C := RX6) (T := TX6) (N := 17) hx hb hts hi6 hown hK hP 0 md_0 rfl 14 (by decide) w3 (fun _ h9 => h9) rfl dX6_isThere_50 ?_
            refine roV CF (c_X6_isGood l D cI cC cW t _ _ _ _ ) (cwV 1 hts gX6_isThere_X6_isGood rfl rfl rfl (by decide +kernel) ⟨Nat.le_of_ble_eq_true rfl, Nat.le_of_ble_eq_true rfl⟩) hP hK hX hS 0 5 md_0 rfl rfl hl.1 rfl (Nat.le_of_ble_eq_true rfl) dX6_isThere_53 ⟨Nat.zero_le _, Nat.zero_le _⟩ ?_
            refine lv_if_eq (tgt := 63) hx hb dX6_isThere_56 (by decide) (fun c56 => ?_) (fun c56 => ?_)
            · refine lv_iconst (v := 0) hx hb dX6_isThere_63 (by decide) ?_
              exact ro_zret hx hb hr (rfl) (Eq.trans (if_neg c6) (Eq.trans (if_neg c17) (Eq.trans (if_pos c26) (Eq.trans (if_neg c36) (Eq.trans (if_pos c45) (Eq.trans (if_pos c56) (rfl))))))) dX6_isThere_64 hlocks
            · refine lv_iconst (v := 1) hx hb dX6_isThere_59 (by decide) ?_
              refine lv_goto (tgt := 64) hx hb dX6_isThere_60 (by decide) ?_
              exact ro_zret hx hb hr (rfl) (Eq.trans (if_neg c6) (Eq.trans (if_neg c17) (Eq.trans (if_pos c26) (Eq.trans (if_neg c36) (Eq.trans (if_pos c45) (Eq.trans (if_neg c56) (rfl))))))) dX6_isThere_64 hlocks
theorem zb_X6_isThere {N : Nat → Int32} {Z : Nat → Nat → Int32} : narrow .boolean (.int (sp_X6_isThere N Z)) = .int (sp_X6_isThere N Z) := by
  unfold sp_X6_isThere
  (repeat' split) <;> first | (with_reducible exact zb_X6_isGood) | (with_reducible exact zb_X6_isSlot) | rfl
