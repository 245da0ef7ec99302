/-! the text and the sorted rows (printed by wip/whole/m11.py) -/
def sp_X1_isDigit (x1 : Int32) : Int32 :=
  if x1 < (48 : Int32) then ((0 : Int32)) else (if (57 : Int32) < x1 then ((0 : Int32)) else ((1 : Int32)))
set_option maxHeartbeats 4000000 in
set_option maxRecDepth 100000 in
theorem c_X1_isDigit (l : Launch) (D : va_G) (cI cC cW : ClassId) (t : Nat → Nat) (x1 : Int32)  : Met l yX1_isDigit wsX1_isDigit ({ frames := 0, cells := 0, slots := 0, locals := 0 }) (va_Pc [.int x1] (roP D (tyL cI cC cW) [] t)) (vp_Si (fun r => r = sp_X1_isDigit x1)) 0 0 (fun _ => False) := by
  refine Met.ofW (cc := cX1_isDigit) (maxL := 1) (ret := (some .boolean)) (by decide) rfl ?_
  intro p e s m args below meth c s₁ B hml hv
  obtain ⟨rfl, hP, hK, hX⟩ := hv
  have hx := B.exec
  have hb := B.bytes
  have hr := B.returns
  have hts := atoms_spec (ws := wsX1_isDigit) B.pre
  have hown : s.vm.findClass RX1 = some m.cls := findClass_of_methodNamed B.named
  have hlocks := B.notSynchronized
  have hS : va_S (fun _ => False) s.heap s.heap [] := va_S.rf
  have hl := lv_entry ([.int x1]) (n := 1) (Nat.le_of_ble_eq_true rfl)
  rw [lg_entry_eq]
  generalize (lg_sl ([.int x1]) ++ List.replicate (1 - (lg_sl ([.int x1])).length) Slot.unset).toArray = ls at hl ⊢
  have hl : lv_has ls 1 [(0, .int x1)] := hl
  refine lv_iload_n hx hb dX1_isDigit_0 rfl (lv_at hl 0 rfl) ?_
  refine lv_bipush (v := 48) hx hb dX1_isDigit_1 (by decide) ?_
  refine lv_icmp_lt (tgt := 16) hx hb dX1_isDigit_3 (by decide) (fun c3 => ?_) (fun c3 => ?_)
  · refine lv_iconst (v := 0) hx hb dX1_isDigit_16 (by decide) ?_
    exact ro_zret hx hb hr (rfl) (Eq.trans (if_pos c3) (rfl)) dX1_isDigit_17 hlocks
  · refine lv_iload_n hx hb dX1_isDigit_6 rfl (lv_at hl 0 rfl) ?_
    refine lv_bipush (v := 57) hx hb dX1_isDigit_7 (by decide) ?_
    refine lv_icmp_gt (tgt := 16) hx hb dX1_isDigit_9 (by decide) (fun c9 => ?_) (fun c9 => ?_)
    · refine lv_iconst (v := 0) hx hb dX1_isDigit_16 (by decide) ?_
      exact ro_zret hx hb hr (rfl) (Eq.trans (if_neg c3) (Eq.trans (if_pos c9) (rfl))) dX1_isDigit_17 hlocks
    · refine lv_iconst (v := 1) hx hb dX1_isDigit_12 (by decide) ?_
      refine lv_goto (tgt := 17) hx hb dX1_isDigit_13 (by decide) ?_
      exact ro_zret hx hb hr (rfl) (Eq.trans (if_neg c3) (Eq.trans (if_neg c9) (rfl))) dX1_isDigit_17 hlocks
theorem zb_X1_isDigit {x1 : Int32} : narrow .boolean (.int (sp_X1_isDigit x1)) = .int (sp_X1_isDigit x1) := by
  unfold sp_X1_isDigit
  (repeat' split) <;> first | rfl

def sp_X1_startReading (S : Nat → Int32) (q : Nat → Int32) : Nat → Int32 :=
  let q1 : Nat → Int32 := upd q (1) (0 : Int32); q1
set_option maxHeartbeats 4000000 in
set_option maxRecDepth 100000 in
theorem c_X1_startReading (l : Launch) (D : va_G) (cI cC cW : ClassId) (t : Nat → Nat) (a : Nat → Nat) (sz : Nat) (S : Nat → Int32) (q : Nat → Int32)  : Met l yX1_startReading wsX1_startReading ({ frames := 0, cells := 0, slots := 0, locals := 0 }) (va_Pc [.ref (a 0)] (rwP D (tyL cI cC cW) (tx cC a S q) t sz)) (va_Qv (fun (u : Nat → Int32) => u = sp_X1_startReading S q) (fun u => rwB D (va_A (tx cC a S q) sz) (tx cC a S u)) (va_A (tx cC a S q) sz)) 0 0 (va_A (tx cC a S q) sz) := by
  refine Met.ofW (cc := cX1_startReading) (maxL := 1) (ret := none) (by decide) rfl ?_
  intro p e s m args below meth c s₁ B hml hv
  obtain ⟨rfl, hsz, hP, hK, hD0, hX⟩ := hv
  have hx := B.exec
  have hb := B.bytes
  have hr := B.returns
  have hts := atoms_spec (ws := wsX1_startReading) B.pre
  have hown : s.vm.findClass RX1 = some m.cls := findClass_of_methodNamed B.named
  have hlocks := B.notSynchronized
  subst hsz
  have hD := hD0.self (sz := s.heap.size)
  generalize hAe : va_A (tx cC a S q) s.heap.size = A at hD hX ⊢
  have hA : ∀ q : Nat, s.heap.size ≤ q → A q := fun q h => by rw [← hAe]; exact Or.inr h
  have hS : va_S A s.heap s.heap [] := va_S.rf
  have wd1 : (Cond.fieldLink RX1 23 "PickSlots$OrderText" "at" "I").before [.ref (a 0)].toArray s = true := hts _ (List.mem_of_getElem? (i := 1) rfl)
  have hi1 : ∀ w ∈ wsX10, w ∈ wsX1_startReading := fun w h => List.mem_cons_of_mem _ (List.mem_append_right _ (h))
  have hl := lv_entry ([.ref (a 0)]) (n := 1) (Nat.le_of_ble_eq_true rfl)
  rw [lg_entry_eq]
  generalize (lg_sl ([.ref (a 0)]) ++ List.replicate (1 - (lg_sl ([.ref (a 0)])).length) Slot.unset).toArray = ls at hl ⊢
  have hl : lv_has ls 1 [(0, .ref (a 0))] := hl
  refine lv_aload_n hx hb dX1_startReading_0 rfl (lv_at hl 0 rfl) ?_
  refine lv_iconst (v := 0) hx hb dX1_startReading_1 (by decide) ?_
  refine my_put (D := D) (ci := 1) (C := RX1) (T := TX1) (N := 6) (ty := .int) hx hb hts hi1 tyX1 tyX1_ok nmX1 hown hK hP hD hS 0 tx_0 rfl 2 (by decide) wd1 (fun _ h9 => h9) rfl (by decide +kernel) rfl rfl (Nat.le_of_ble_eq_true rfl) (tx_f2 _) dX1_startReading_2 (fun H locs hP hD hS => ?_)
  exact rw_vret _ hx hb hr hP hD hS (rfl) dX1_startReading_5 hlocks

def sp_X1_isAtEnd (S : Nat → Int32) (q : Nat → Int32) : Int32 :=
  if (q 1) < (q 0) then ((0 : Int32)) else ((1 : Int32))
set_option maxHeartbeats 4000000 in
set_option maxRecDepth 100000 in
theorem c_X1_isAtEnd (l : Launch) (D : va_G) (cI cC cW : ClassId) (t : Nat → Nat) (a : Nat → Nat) (S : Nat → Int32) (q : Nat → Int32)  : Met l yX1_isAtEnd wsX1_isAtEnd ({ frames := 0, cells := 0, slots := 0, locals := 0 }) (va_Pc [.ref (a 0)] (roP D (tyL cI cC cW) (tx cC a S q) t)) (vp_Si (fun r => r = sp_X1_isAtEnd S q)) 0 0 (fun _ => False) := by
  refine Met.ofW (cc := cX1_isAtEnd) (maxL := 1) (ret := (some .boolean)) (by decide) rfl ?_
  intro p e s m args below meth c s₁ B hml hv
  obtain ⟨rfl, hP, hK, hX⟩ := hv
  have hx := B.exec
  have hb := B.bytes
  have hr := B.returns
  have hts := atoms_spec (ws := wsX1_isAtEnd) B.pre
  have hown : s.vm.findClass RX1 = some m.cls := findClass_of_methodNamed B.named
  have hlocks := B.notSynchronized
  have hS : va_S (fun _ => False) s.heap s.heap [] := va_S.rf
  have wd1 : (Cond.fieldLink RX1 23 "PickSlots$OrderText" "at" "I").before [.ref (a 0)].toArray s = true := hts _ (List.mem_of_getElem? (i := 1) rfl)
  have wd2 : (Cond.fieldLink RX1 19 "PickSlots$OrderText" "length" "I").before [.ref (a 0)].toArray s = true := hts _ (List.mem_of_getElem? (i := 2) rfl)
  have hi1 : ∀ w ∈ wsX10, w ∈ wsX1_isAtEnd := fun w h => List.mem_cons_of_mem _ (List.mem_append_right _ (h))
  have hl := lv_entry ([.ref (a 0)]) (n := 1) (Nat.le_of_ble_eq_true rfl)
  rw [lg_entry_eq]
  generalize (lg_sl ([.ref (a 0)]) ++ List.replicate (1 - (lg_sl ([.ref (a 0)])).length) Slot.unset).toArray = ls at hl ⊢
  have hl : lv_has ls 1 [(0, .ref (a 0))] := hl
  refine lv_aload_n hx hb dX1_isAtEnd_0 rfl (lv_at hl 0 rfl) ?_
  refine va_get (D := D) (ci := 1) (C := RX1) (T := TX1) (N := 6) hx hb hts hi1 hown hK hP 0 tx_0 rfl 2 (by decide) wd1 (fun _ h9 => h9) rfl dX1_isAtEnd_1 ?_
  refine lv_aload_n hx hb dX1_isAtEnd_4 rfl (lv_at hl 0 rfl) ?_
  refine va_get (D := D) (ci := 1) (C := RX1) (T := TX1) (N := 6) hx hb hts hi1 hown hK hP 0 tx_0 rfl 1 (by decide) wd2 (fun _ h9 => h9) rfl dX1_isAtEnd_5 ?_
  refine lv_icmp_lt (tgt := 15) hx hb dX1_isAtEnd_8 (by decide) (fun c8 => ?_) (fun c8 => ?_)
  · refine lv_iconst (v := 0) hx hb dX1_isAtEnd_15 (by decide) ?_
    exact ro_zret hx hb hr (rfl) (Eq.trans (if_pos c8) (rfl)) dX1_isAtEnd_16 hlocks
  · refine lv_iconst (v := 1) hx hb dX1_isAtEnd_11 (by decide) ?_
    refine lv_goto (tgt := 16) hx hb dX1_isAtEnd_12 (by decide) ?_
    exact ro_zret hx hb hr (rfl) (Eq.trans (if_neg c8) (rfl)) dX1_isAtEnd_16 hlocks
theorem zb_X1_isAtEnd {S : Nat → Int32} {q : Nat → Int32} : narrow .boolean (.int (sp_X1_isAtEnd S q)) = .int (sp_X1_isAtEnd S q) := by
  unfold sp_X1_isAtEnd
  (repeat' split) <;> first | rfl

def sp_X1_nextSign (S : Nat → Int32) (q : Nat → Int32) : Int32 :=
  if (q 1) < 0 then ((32 : Int32)) else (if (q 0) ≤ (q 1) then ((32 : Int32)) else (if (60 : Int32) ≤ (q 1) then ((32 : Int32)) else ((S ((ix (q 1)))))))
set_option maxHeartbeats 4000000 in
set_option maxRecDepth 100000 in
theorem c_X1_nextSign (l : Launch) (D : va_G) (cI cC cW : ClassId) (t : Nat → Nat) (a : Nat → Nat) (S : Nat → Int32) (q : Nat → Int32) (hch : ∀ i, narrow .char (.int (S i)) = .int (S i)) : Met l yX1_nextSign wsX1_nextSign ({ frames := 0, cells := 0, slots := 0, locals := 0 }) (va_Pc [.ref (a 0)] (roP D (tyL cI cC cW) (tx cC a S q) t)) (vp_Si (fun r => r = sp_X1_nextSign S q)) 0 0 (fun _ => False) := by
  refine Met.ofW (cc := cX1_nextSign) (maxL := 1) (ret := (some .char)) (by decide) rfl ?_
  intro p e s m args below meth c s₁ B hml hv
  obtain ⟨rfl, hP, hK, hX⟩ := hv
  have hx := B.exec
  have hb := B.bytes
  have hr := B.returns
  have hts := atoms_spec (ws := wsX1_nextSign) B.pre
  have hown : s.vm.findClass RX1 = some m.cls := findClass_of_methodNamed B.named
  have hlocks := B.notSynchronized
  have hS : va_S (fun _ => False) s.heap s.heap [] := va_S.rf
  have wd1 : (Cond.fieldLink RX1 23 "PickSlots$OrderText" "at" "I").before [.ref (a 0)].toArray s = true := hts _ (List.mem_of_getElem? (i := 1) rfl)
  have wd2 : (Cond.fieldLink RX1 19 "PickSlots$OrderText" "length" "I").before [.ref (a 0)].toArray s = true := hts _ (List.mem_of_getElem? (i := 2) rfl)
  have wd3 : (Cond.fieldLink RX1 9 "PickSlots$OrderText" "signs" "[C").before [.ref (a 0)].toArray s = true := hts _ (List.mem_of_getElem? (i := 3) rfl)
  have hi1 : ∀ w ∈ wsX10, w ∈ wsX1_nextSign := fun w h => List.mem_cons_of_mem _ (List.mem_append_right _ (h))
  have hl := lv_entry ([.ref (a 0)]) (n := 1) (Nat.le_of_ble_eq_true rfl)
  rw [lg_entry_eq]
  generalize (lg_sl ([.ref (a 0)]) ++ List.replicate (1 - (lg_sl ([.ref (a 0)])).length) Slot.unset).toArray = ls at hl ⊢
  have hl : lv_has ls 1 [(0, .ref (a 0))] := hl
  refine lv_aload_n hx hb dX1_nextSign_0 rfl (lv_at hl 0 rfl) ?_
  refine va_get (D := D) (ci := 1) (C := RX1) (T := TX1) (N := 6) hx hb hts hi1 hown hK hP 0 tx_0 rfl 2 (by decide) wd1 (fun _ h9 => h9) rfl dX1_nextSign_1 ?_
  refine lv_if_lt (tgt := 39) hx hb dX1_nextSign_4 (by decide) (fun c4 => ?_) (fun c4 => ?_)
  · refine lv_bipush (v := 32) hx hb dX1_nextSign_39 (by decide) ?_
    exact ro_zret hx hb hr (by first | exact hch _ | rfl) (Eq.trans (if_pos c4) (rfl)) dX1_nextSign_41 hlocks
  · refine lv_aload_n hx hb dX1_nextSign_7 rfl (lv_at hl 0 rfl) ?_
    refine va_get (D := D) (ci := 1) (C := RX1) (T := TX1) (N := 6) hx hb hts hi1 hown hK hP 0 tx_0 rfl 2 (by decide) wd1 (fun _ h9 => h9) rfl dX1_nextSign_8 ?_
    refine lv_aload_n hx hb dX1_nextSign_11 rfl (lv_at hl 0 rfl) ?_
    refine va_get (D := D) (ci := 1) (C := RX1) (T := TX1) (N := 6) hx hb hts hi1 hown hK hP 0 tx_0 rfl 1 (by decide) wd2 (fun _ h9 => h9) rfl dX1_nextSign_12 ?_
    refine lv_icmp_ge (tgt := 39) hx hb dX1_nextSign_15 (by decide) (fun c15 => ?_) (fun c15 => ?_)
    · refine lv_bipush (v := 32) hx hb dX1_nextSign_39 (by decide) ?_
      exact ro_zret hx hb hr (by first | exact hch _ | rfl) (Eq.trans (if_neg c4) (Eq.trans (if_pos c15) (rfl))) dX1_nextSign_41 hlocks
    · refine lv_aload_n hx hb dX1_nextSign_18 rfl (lv_at hl 0 rfl) ?_
      refine va_get (D := D) (ci := 1) (C := RX1) (T := TX1) (N := 6) hx hb hts hi1 hown hK hP 0 tx_0 rfl 2 (by decide) wd1 (fun _ h9 => h9) rfl dX1_nextSign_19 ?_
      refine lv_bipush (v := 60) hx hb dX1_nextSign_22 (by decide) ?_
      refine lv_icmp_ge (tgt := 39) hx hb dX1_nextSign_24 (by decide) (fun c24 => ?_) (fun c24 => ?_)
      · refine lv_bipush (v := 32) hx hb dX1_nextSign_39 (by decide) ?_
        exact ro_zret hx hb hr (by first | exact hch _ | rfl) (Eq.trans (if_neg c4) (Eq.trans (if_neg c15) (Eq.trans (if_pos c24) (rfl)))) dX1_nextSign_41 hlocks
      · refine lv_aload_n hx hb dX1_nextSign_27 rfl (lv_at hl 0 rfl) ?_
        refine va_get (D := D) (ci := 1) (C := RX1) (T := TX1) (N := 6) hx hb hts hi1 hown hK hP 0 tx_0 rfl 0 (by decide) wd3 (fun _ h9 => h9) rfl dX1_nextSign_28 ?_
        refine lv_aload_n hx hb dX1_nextSign_31 rfl (lv_at hl 0 rfl) ?_
        refine va_get (D := D) (ci := 1) (C := RX1) (T := TX1) (N := 6) hx hb hts hi1 hown hK hP 0 tx_0 rfl 2 (by decide) wd1 (fun _ h9 => h9) rfl dX1_nextSign_32 ?_
        refine va_cald hx hb hK hP 1 1 tx_1 rfl (inT (by rw [lt_toInt, i0] at c4; omega) (by rw [le_toInt, show (60 : Int32).toInt = 60 from by decide] at c24; omega)) dX1_nextSign_35 ?_
        refine lv_goto (tgt := 41) hx hb dX1_nextSign_36 (by decide) ?_
        exact ro_zret hx hb hr (by first | exact hch _ | rfl) (Eq.trans (if_neg c4) (Eq.trans (if_neg c15) (Eq.trans (if_neg c24) (rfl)))) dX1_nextSign_41 hlocks

def sp_X1_readSign (S : Nat → Int32) (q : Nat → Int32) (x1 : Int32) : Int32 × (Nat → Int32) :=
  if (sp_X1_nextSign S q) = x1 then (let q1 : Nat → Int32 := upd q (1) ((q 1) + (1 : Int32)); ((1 : Int32), q1)) else (((0 : Int32), q))
set_option maxHeartbeats 4000000 in
set_option maxRecDepth 100000 in
theorem c_X1_readSign (l : Launch) (D : va_G) (cI cC cW : ClassId) (t : Nat → Nat) (a : Nat → Nat) (sz : Nat) (S : Nat → Int32) (q : Nat → Int32) (x1 : Int32) (hch : ∀ i, narrow .char (.int (S i)) = .int (S i)) : Met l yX1_readSign wsX1_readSign ({ frames := 1, cells := 0, slots := 0, locals := 20 }) (va_Pc [.ref (a 0), .int x1] (rwP D (tyL cI cC cW) (tx cC a S q) t sz)) (va_Qi (fun (r : Int32) (u : Nat → Int32) => (r, u) = sp_X1_readSign S q x1) (fun u => rwB D (va_A (tx cC a S q) sz) (tx cC a S u)) (va_A (tx cC a S q) sz)) 0 0 (va_A (tx cC a S q) sz) := by
  refine Met.ofW (cc := cX1_readSign) (maxL := 2) (ret := (some .boolean)) (by decide) rfl ?_
  intro p e s m args below meth c s₁ B hml hv
  obtain ⟨rfl, hsz, hP, hK, hD0, hX⟩ := hv
  have hx := B.exec
  have hb := B.bytes
  have hr := B.returns
  have hts := atoms_spec (ws := wsX1_readSign) B.pre
  have hown : s.vm.findClass RX1 = some m.cls := findClass_of_methodNamed B.named
  have hlocks := B.notSynchronized
  subst hsz
  have hD := hD0.self (sz := s.heap.size)
  generalize hAe : va_A (tx cC a S q) s.heap.size = A at hD hX ⊢
  have hA : ∀ q : Nat, s.heap.size ≤ q → A q := fun q h => by rw [← hAe]; exact Or.inr h
  have hS : va_S A s.heap s.heap [] := va_S.rf
  have wd1 : (Cond.fieldLink RX1 23 "PickSlots$OrderText" "at" "I").before [.ref (a 0), .int x1].toArray s = true := hts _ (List.mem_of_getElem? (i := 1) rfl)
  have hi1 : ∀ w ∈ wsX10, w ∈ wsX1_readSign := fun w h => List.mem_cons_of_mem _ (List.mem_append_right _ (h))
  have CF : CallFix p m c cX1_readSign 2 s [.ref (a 0), .int x1].toArray wsX1_readSign RX1 := ⟨hx, hb, hml, hown, hts⟩
  have hl := lv_entry ([.ref (a 0), .int x1]) (n := 2) (Nat.le_of_ble_eq_true rfl)
  rw [lg_entry_eq]
  generalize (lg_sl ([.ref (a 0), .int x1]) ++ List.replicate (2 - (lg_sl ([.ref (a 0), .int x1])).length) Slot.unset).toArray = ls at hl ⊢
  have hl : lv_has ls 2 [(0, .ref (a 0)), (1, .int x1)] := hl
  refine lv_aload_n hx hb dX1_readSign_0 rfl (lv_at hl 0 rfl) ?_
  refine roV CF (c_X1_nextSign l D cI cC cW t _ _ _  (by assumption)) (cwV 0 hts gX1_readSign_X1_nextSign rfl rfl rfl (by decide +kernel) ⟨Nat.le_of_ble_eq_true rfl, Nat.le_of_ble_eq_true rfl⟩) hP hK hX hS 0 1 tx_0 rfl rfl hl.1 rfl (Nat.le_of_ble_eq_true rfl) dX1_readSign_1 ⟨Nat.zero_le _, Nat.zero_le _⟩ ?_
  refine lv_iload_n hx hb dX1_readSign_4 rfl (lv_at hl 1 rfl) ?_
  refine lv_icmp_eq (tgt := 10) hx hb dX1_readSign_5 (by decide) (fun c5 => ?_) (fun c5 => ?_)
  · refine lv_aload_n hx hb dX1_readSign_10 rfl (lv_at hl 0 rfl) ?_
    refine lv_dup hx hb dX1_readSign_11 rfl ?_
    refine va_get (D := D) (ci := 1) (C := RX1) (T := TX1) (N := 6) hx hb hts hi1 hown hK hP 0 tx_0 rfl 2 (by decide) wd1 (fun _ h9 => h9) rfl dX1_readSign_12 ?_
    refine lv_iconst (v := 1) hx hb dX1_readSign_15 (by decide) ?_
    refine lv_iadd hx hb dX1_readSign_16 ?_
    refine my_put (D := D) (ci := 1) (C := RX1) (T := TX1) (N := 6) (ty := .int) hx hb hts hi1 tyX1 tyX1_ok nmX1 hown hK hP hD hS 0 tx_0 rfl 2 (by decide) wd1 (fun _ h9 => h9) rfl (by decide +kernel) rfl rfl (Nat.le_of_ble_eq_true rfl) (tx_f2 _) dX1_readSign_17 (fun H locs hP hD hS => ?_)
    refine lv_iconst (v := 1) hx hb dX1_readSign_20 (by decide) ?_
    exact rw_zret _ hx hb hr (rfl) hP hD hS (Eq.trans (if_pos c5) (rfl)) dX1_readSign_21 hlocks
  · refine lv_iconst (v := 0) hx hb dX1_readSign_8 (by decide) ?_
    exact rw_zret _ hx hb hr (rfl) hP hD hS (Eq.trans (if_neg c5) (rfl)) dX1_readSign_9 hlocks
theorem zb_X1_readSign {S q : Nat → Int32} {x : Int32} : narrow .boolean (.int (sp_X1_readSign S q x).1) = .int (sp_X1_readSign S q x).1 := by
  unfold sp_X1_readSign
  split
  · exact (rfl : narrow .boolean (.int 1) = .int 1)
  · exact (rfl : narrow .boolean (.int 0) = .int 0)

def lp4_X1_readNumber (S : Nat → Int32) : Nat → Int32 → Int32 → (Nat → Int32) → Int32 × (Nat → Int32)
  | 0, v1, v2, qw => (0, qw)
  | n + 1, v1, v2, qw => if (3 : Int32) ≤ v2 then (if v2 = 0 then (((-1 : Int32), qw)) else ((v1, qw))) else (if (sp_X1_isDigit (sp_X1_nextSign S qw)) = 0 then (if v2 = 0 then (((-1 : Int32), qw)) else ((v1, qw))) else (let q101 : Nat → Int32 := upd qw (1) ((qw 1) + (1 : Int32)); lp4_X1_readNumber S n (((10 : Int32) * v1) + ((sp_X1_nextSign S qw) - (48 : Int32))) (v2 + (1 : Int32)) q101))
theorem lp4_X1_readNumber_s (S : Nat → Int32) (n : Nat) (v1 : Int32) (v2 : Int32) (qw : Nat → Int32) : lp4_X1_readNumber S (n + 1) v1 v2 qw = if (3 : Int32) ≤ v2 then (if v2 = 0 then (((-1 : Int32), qw)) else ((v1, qw))) else (if (sp_X1_isDigit (sp_X1_nextSign S qw)) = 0 then (if v2 = 0 then (((-1 : Int32), qw)) else ((v1, qw))) else (let q101 : Nat → Int32 := upd qw (1) ((qw 1) + (1 : Int32)); lp4_X1_readNumber S n (((10 : Int32) * v1) + ((sp_X1_nextSign S qw) - (48 : Int32))) (v2 + (1 : Int32)) q101)) := rfl
def sp_X1_readNumber (S : Nat → Int32) (q : Nat → Int32) : Int32 × (Nat → Int32) :=
  lp4_X1_readNumber S 4 (0 : Int32) (0 : Int32) q
set_option maxHeartbeats 4000000 in
set_option maxRecDepth 100000 in
theorem c_X1_readNumber (l : Launch) (D : va_G) (cI cC cW : ClassId) (t : Nat → Nat) (a : Nat → Nat) (sz : Nat) (S : Nat → Int32) (q : Nat → Int32) (hch : ∀ i, narrow .char (.int (S i)) = .int (S i)) : Met l yX1_readNumber wsX1_readNumber ({ frames := 1, cells := 0, slots := 0, locals := 20 }) (va_Pc [.ref (a 0)] (rwP D (tyL cI cC cW) (tx cC a S q) t sz)) (va_Qi (fun (r : Int32) (u : Nat → Int32) => (r, u) = sp_X1_readNumber S q) (fun u => rwB D (va_A (tx cC a S q) sz) (tx cC a S u)) (va_A (tx cC a S q) sz)) 0 0 (va_A (tx cC a S q) sz) := by
  refine Met.ofW (cc := cX1_readNumber) (maxL := 3) (ret := (some .int)) (by decide) rfl ?_
  intro p e s m args below meth c s₁ B hml hv
  obtain ⟨rfl, hsz, hP, hK, hD0, hX⟩ := hv
  have hx := B.exec
  have hb := B.bytes
  have hr := B.returns
  have hts := atoms_spec (ws := wsX1_readNumber) B.pre
  have hown : s.vm.findClass RX1 = some m.cls := findClass_of_methodNamed B.named
  have hlocks := B.notSynchronized
  subst hsz
  have hD := hD0.self (sz := s.heap.size)
  generalize hAe : va_A (tx cC a S q) s.heap.size = A at hD hX ⊢
  have hA : ∀ q : Nat, s.heap.size ≤ q → A q := fun q h => by rw [← hAe]; exact Or.inr h
  have hS : va_S A s.heap s.heap [] := va_S.rf
  have wd1 : (Cond.fieldLink RX1 23 "PickSlots$OrderText" "at" "I").before [.ref (a 0)].toArray s = true := hts _ (List.mem_of_getElem? (i := 1) rfl)
  have hi1 : ∀ w ∈ wsX10, w ∈ wsX1_readNumber := fun w h => List.mem_cons_of_mem _ (List.mem_append_right _ (h))
  have CF : CallFix p m c cX1_readNumber 3 s [.ref (a 0)].toArray wsX1_readNumber RX1 := ⟨hx, hb, hml, hown, hts⟩
  have hl := lv_entry ([.ref (a 0)]) (n := 3) (Nat.le_of_ble_eq_true rfl)
  rw [lg_entry_eq]
  generalize (lg_sl ([.ref (a 0)]) ++ List.replicate (3 - (lg_sl ([.ref (a 0)])).length) Slot.unset).toArray = ls at hl ⊢
  have hl : lv_has ls 3 [(0, .ref (a 0))] := hl
  refine lv_iconst (v := 0) hx hb dX1_readNumber_0 (by decide) ?_
  refine lv_istore_n (lv' := [(1, .int _), (0, .ref _)]) hx hb dX1_readNumber_1 rfl hl (by decide) rfl (fun ls hl => ?_)
  refine lv_iconst (v := 0) hx hb dX1_readNumber_2 (by decide) ?_
  refine lv_istore_n (lv' := [(2, .int _), (1, .int _), (0, .ref _)]) hx hb dX1_readNumber_3 rfl hl (by decide) rfl (fun ls hl => ?_)
  have L4 : ∀ (n4 : Nat) (v1 v2 : Int32) (qw : Nat → Int32), (0 ≤ v2.toInt) → (v2.toInt ≤ (3 : Int32).toInt) → ((3 : Int32).toInt - v2.toInt < (n4 : Int)) → sp_X1_readNumber S q = lp4_X1_readNumber S (n4) v1 v2 qw → ∀ (ls : Array Slot), lv_has ls 3 [(1, .int v1), (2, .int v2), (0, .ref (a 0))] → ∀ (H : Heap) (locs : List Loc), va_P D vwCl (tx cC a S qw) H → va_D A (tx cC a S qw) → va_S A s.heap H locs → W p l e (headSpec wsX1_readNumber ({ frames := 1, cells := 0, slots := 0, locals := 20 } : Room)).room s m [.ref (a 0)].toArray below meth c H locs 0 0 (MQ below (va_Qi (fun (r : Int32) (u : Nat → Int32) => (r, u) = sp_X1_readNumber S q) (fun u => rwB D A (tx cC a S u)) A) [.ref (a 0)].toArray s 0 0 A) (F0 m 4 ls []) := by
    intro n4
    induction n4 with
    | zero => intro v1 v2 qw i1 i2 im; exfalso; omega
    | succ n4 ih4 =>
      intro v1 v2 qw i1 i2 im hsp4 ls hl H locs hP hD hS
      refine lv_iload_n hx hb dX1_readNumber_4 rfl (lv_at hl 1 rfl) ?_
      refine lv_iconst (v := 3) hx hb dX1_readNumber_5 (by decide) ?_
      refine lv_icmp_ge (tgt := 48) hx hb dX1_readNumber_6 (by decide) (fun c6 => ?_) (fun c6 => ?_)
      · refine lv_iload_n hx hb dX1_readNumber_48 rfl (lv_at hl 1 rfl) ?_
        refine lv_if_ne (tgt := 56) hx hb dX1_readNumber_49 (by decide) (fun c49 => ?_) (fun c49 => ?_)
        · refine lv_iload_n hx hb dX1_readNumber_56 rfl (lv_at hl 0 rfl) ?_
          exact rw_ret _ hx hb hr hP hD hS (Eq.trans hsp4 (Eq.trans (lp4_X1_readNumber_s _ _ _ _ _) (Eq.trans (if_pos c6) (Eq.trans (if_neg c49) (rfl))))) dX1_readNumber_57 hlocks
        · refine lv_iconst (v := -1) hx hb dX1_readNumber_52 (by decide) ?_
          refine lv_goto (tgt := 57) hx hb dX1_readNumber_53 (by decide) ?_
          exact rw_ret _ hx hb hr hP hD hS (Eq.trans hsp4 (Eq.trans (lp4_X1_readNumber_s _ _ _ _ _) (Eq.trans (if_pos c6) (Eq.trans (if_pos c49) (rfl))))) dX1_readNumber_57 hlocks
      · refine lv_aload_n hx hb dX1_readNumber_9 rfl (lv_at hl 2 rfl) ?_
        refine roV CF (c_X1_nextSign l D cI cC cW t _ _ _  (by assumption)) (cwV 0 hts gX1_readNumber_X1_nextSign rfl rfl rfl (by decide +kernel) ⟨Nat.le_of_ble_eq_true rfl, Nat.le_of_ble_eq_true rfl⟩) hP hK hX hS 0 1 tx_0 rfl rfl hl.1 rfl (Nat.le_of_ble_eq_true rfl) dX1_readNumber_10 ⟨Nat.zero_le _, Nat.zero_le _⟩ ?_
        refine roS CF (c_X1_isDigit l D cI cC cW t _ ) (va_cwS 1 hts gX1_readNumber_X1_isDigit rfl rfl rfl (by decide +kernel) ⟨Nat.le_of_ble_eq_true rfl, Nat.le_of_ble_eq_true rfl⟩) vP_nil hK hX hS rfl hl.1 rfl (Nat.le_of_ble_eq_true rfl) dX1_readNumber_13 ⟨Nat.zero_le _, Nat.zero_le _⟩ ?_
        refine lv_if_eq (tgt := 48) hx hb dX1_readNumber_16 (by decide) (fun c16 => ?_) (fun c16 => ?_)
        · refine lv_iload_n hx hb dX1_readNumber_48 rfl (lv_at hl 1 rfl) ?_
          refine lv_if_ne (tgt := 56) hx hb dX1_readNumber_49 (by decide) (fun c49 => ?_) (fun c49 => ?_)
          · refine lv_iload_n hx hb dX1_readNumber_56 rfl (lv_at hl 0 rfl) ?_
            exact rw_ret _ hx hb hr hP hD hS (Eq.trans hsp4 (Eq.trans (lp4_X1_readNumber_s _ _ _ _ _) (Eq.trans (if_neg c6) (Eq.trans (if_pos c16) (Eq.trans (if_neg c49) (rfl)))))) dX1_readNumber_57 hlocks
          · refine lv_iconst (v := -1) hx hb dX1_readNumber_52 (by decide) ?_
            refine lv_goto (tgt := 57) hx hb dX1_readNumber_53 (by decide) ?_
            exact rw_ret _ hx hb hr hP hD hS (Eq.trans hsp4 (Eq.trans (lp4_X1_readNumber_s _ _ _ _ _) (Eq.trans (if_neg c6) (Eq.trans (if_pos c16) (Eq.trans (if_pos c49) (rfl)))))) dX1_readNumber_57 hlocks
        · refine lv_bipush (v := 10) hx hb dX1_readNumber_19 (by decide) ?_
          refine lv_iload_n hx hb dX1_readNumber_21 rfl (lv_at hl 0 rfl) ?_
          refine lv_imul hx hb dX1_readNumber_22 ?_
          refine lv_aload_n hx hb dX1_readNumber_23 rfl (lv_at hl 2 rfl) ?_
          refine roV CF (c_X1_nextSign l D cI cC cW t _ _ _  (by assumption)) (cwV 0 hts gX1_readNumber_X1_nextSign rfl rfl rfl (by decide +kernel) ⟨Nat.le_of_ble_eq_true rfl, Nat.le_of_ble_eq_true rfl⟩) hP hK hX hS 0 1 tx_0 rfl rfl hl.1 rfl (Nat.le_of_ble_eq_true rfl) dX1_readNumber_24 ⟨Nat.zero_le _, Nat.zero_le _⟩ ?_
          refine lv_bipush (v := 48) hx hb dX1_readNumber_27 (by decide) ?_
          refine lv_isub hx hb dX1_readNumber_29 ?_
          refine lv_iadd hx hb dX1_readNumber_30 ?_
          refine lv_istore_n (lv' := [(1, .int _), (2, .int _), (0, .ref _)]) hx hb dX1_readNumber_31 rfl hl (by decide) rfl (fun ls hl => ?_)
          refine lv_iinc (v := _ + (1 : Int32)) (lv' := [(2, .int _), (1, .int _), (0, .ref _)]) hx hb dX1_readNumber_32 hl (k := 1) rfl rfl (by decide) rfl (fun ls hl => ?_)
          refine lv_aload_n hx hb dX1_readNumber_35 rfl (lv_at hl 2 rfl) ?_
          refine lv_dup hx hb dX1_readNumber_36 rfl ?_
          refine va_get (D := D) (ci := 1) (C := RX1) (T := TX1) (N := 6) hx hb hts hi1 hown hK hP 0 tx_0 rfl 2 (by decide) wd1 (fun _ h9 => h9) rfl dX1_readNumber_37 ?_
          refine lv_iconst (v := 1) hx hb dX1_readNumber_40 (by decide) ?_
          refine lv_iadd hx hb dX1_readNumber_41 ?_
          refine my_put (D := D) (ci := 1) (C := RX1) (T := TX1) (N := 6) (ty := .int) hx hb hts hi1 tyX1 tyX1_ok nmX1 hown hK hP hD hS 0 tx_0 rfl 2 (by decide) wd1 (fun _ h9 => h9) rfl (by decide +kernel) rfl rfl (Nat.le_of_ble_eq_true rfl) (tx_f2 _) dX1_readNumber_42 (fun H locs hP hD hS => ?_)
          refine lv_goto (tgt := 4) hx hb dX1_readNumber_45 (by decide) ?_
          exact ih4 _ _ _ (cs1 i1 c6) (cs2 c6) (csm c6 im) (Eq.trans hsp4 (Eq.trans (lp4_X1_readNumber_s _ _ _ _ _) (Eq.trans (if_neg c6) (Eq.trans (if_neg c16) (rfl))))) _ (lv_sub hl [1, 0, 2] rfl) _ _ hP hD hS
  exact L4 4 _ _ _ (by decide) (by decide) (by decide) (rfl) _ (lv_sub hl [1, 0, 2] rfl) _ _ hP hD hS

def sp_X1_readTwoNumbers (S : Nat → Int32) (q : Nat → Int32) : Int32 × (Nat → Int32) :=
  let k2_1 : Int32 × (Nat → Int32) := sp_X1_readNumber S q; let q2 : Nat → Int32 := k2_1.2; let q3 : Nat → Int32 := upd q2 (3) k2_1.1; if (q3 3) < 0 then (((0 : Int32), q3)) else (let k18_4 : Int32 × (Nat → Int32) := sp_X1_readSign S q3 (44 : Int32); let q5 : Nat → Int32 := k18_4.2; if k18_4.1 = 0 then (((0 : Int32), q5)) else (let k28_6 : Int32 × (Nat → Int32) := sp_X1_readNumber S q5; let q7 : Nat → Int32 := k28_6.2; let q8 : Nat → Int32 := upd q7 (4) k28_6.1; if (q8 4) < 0 then (((0 : Int32), q8)) else (((1 : Int32), q8))))
set_option maxHeartbeats 4000000 in
set_option maxRecDepth 100000 in
theorem c_X1_readTwoNumbers (l : Launch) (D : va_G) (cI cC cW : ClassId) (t : Nat → Nat) (a : Nat → Nat) (sz : Nat) (S : Nat → Int32) (q : Nat → Int32) (hch : ∀ i, narrow .char (.int (S i)) = .int (S i)) : Met l yX1_readTwoNumbers wsX1_readTwoNumbers ({ frames := 2, cells := 0, slots := 0, locals := 42 }) (va_Pc [.ref (a 0)] (rwP D (tyL cI cC cW) (tx cC a S q) t sz)) (va_Qi (fun (r : Int32) (u : Nat → Int32) => (r, u) = sp_X1_readTwoNumbers S q) (fun u => rwB D (va_A (tx cC a S q) sz) (tx cC a S u)) (va_A (tx cC a S q) sz)) 0 0 (va_A (tx cC a S q) sz) := by
  refine Met.ofW (cc := cX1_readTwoNumbers) (maxL := 1) (ret := (some .boolean)) (by decide) rfl ?_
  intro p e s m args below meth c s₁ B hml hv
  obtain ⟨rfl, hsz, hP, hK, hD0, hX⟩ := hv
  have hx := B.exec
  have hb := B.bytes
  have hr := B.returns
  have hts := atoms_spec (ws := wsX1_readTwoNumbers) B.pre
  have hown : s.vm.findClass RX1 = some m.cls := findClass_of_methodNamed B.named
  have hlocks := B.notSynchronized
  subst hsz
  have hD := hD0.self (sz := s.heap.size)
  generalize hAe : va_A (tx cC a S q) s.heap.size = A at hD hX ⊢
  have hA : ∀ q : Nat, s.heap.size ≤ q → A q := fun q h => by rw [← hAe]; exact Or.inr h
  have hS : va_S A s.heap s.heap [] := va_S.rf
  have wd1 : (Cond.fieldLink RX1 41 "PickSlots$OrderText" "first" "I").before [.ref (a 0)].toArray s = true := hts _ (List.mem_of_getElem? (i := 1) rfl)
  have wd2 : (Cond.fieldLink RX1 48 "PickSlots$OrderText" "second" "I").before [.ref (a 0)].toArray s = true := hts _ (List.mem_of_getElem? (i := 2) rfl)
  have hi1 : ∀ w ∈ wsX10, w ∈ wsX1_readTwoNumbers := fun w h => List.mem_cons_of_mem _ (List.mem_append_right _ (h))
  have CF : CallFix p m c cX1_readTwoNumbers 1 s [.ref (a 0)].toArray wsX1_readTwoNumbers RX1 := ⟨hx, hb, hml, hown, hts⟩
  have hl := lv_entry ([.ref (a 0)]) (n := 1) (Nat.le_of_ble_eq_true rfl)
  rw [lg_entry_eq]
  generalize (lg_sl ([.ref (a 0)]) ++ List.replicate (1 - (lg_sl ([.ref (a 0)])).length) Slot.unset).toArray = ls at hl ⊢
  have hl : lv_has ls 1 [(0, .ref (a 0))] := hl
  refine lv_aload_n hx hb dX1_readTwoNumbers_0 rfl (lv_at hl 0 rfl) ?_
  refine lv_aload_n hx hb dX1_readTwoNumbers_1 rfl (lv_at hl 0 rfl) ?_
  refine rwV CF (c_X1_readNumber l D cI cC cW t _ _ _ _  (by assumption)) (cwV 0 hts gX1_readTwoNumbers_X1_readNumber rfl rfl rfl (by decide +kernel) ⟨Nat.le_of_ble_eq_true rfl, Nat.le_of_ble_eq_true rfl⟩) hP hD hK hX hS hA 0 1 tx_0 rfl rfl hl.1 rfl (Nat.le_of_ble_eq_true rfl) dX1_readTwoNumbers_2 ⟨Nat.zero_le _, Nat.zero_le _⟩ (fun H locs hP hD hS => ?_)
  refine my_put (D := D) (ci := 1) (C := RX1) (T := TX1) (N := 6) (ty := .int) hx hb hts hi1 tyX1 tyX1_ok nmX1 hown hK hP hD hS 0 tx_0 rfl 4 (by decide) wd1 (fun _ h9 => h9) rfl (by decide +kernel) rfl rfl (Nat.le_of_ble_eq_true rfl) (tx_f4 _) dX1_readTwoNumbers_5 (fun H locs hP hD hS => ?_)
  refine lv_aload_n hx hb dX1_readTwoNumbers_8 rfl (lv_at hl 0 rfl) ?_
  refine va_get (D := D) (ci := 1) (C := RX1) (T := TX1) (N := 6) hx hb hts hi1 hown hK hP 0 tx_0 rfl 4 (by decide) wd1 (fun _ h9 => h9) rfl dX1_readTwoNumbers_9 ?_
  refine lv_if_lt (tgt := 24) hx hb dX1_readTwoNumbers_12 (by decide) (fun c12 => ?_) (fun c12 => ?_)
  · refine lv_iconst (v := 0) hx hb dX1_readTwoNumbers_24 (by decide) ?_
    exact rw_zret _ hx hb hr (rfl) hP hD hS (Eq.trans (if_pos c12) (rfl)) dX1_readTwoNumbers_25 hlocks
  · refine lv_aload_n hx hb dX1_readTwoNumbers_15 rfl (lv_at hl 0 rfl) ?_
    refine lv_bipush (v := 44) hx hb dX1_readTwoNumbers_16 (by decide) ?_
    refine rwV CF (c_X1_readSign l D cI cC cW t _ _ _ _ _ (by assumption)) (cwV 1 hts gX1_readTwoNumbers_X1_readSign rfl rfl rfl (by decide +kernel) ⟨Nat.le_of_ble_eq_true rfl, Nat.le_of_ble_eq_true rfl⟩) hP hD hK hX hS hA 0 1 tx_0 rfl rfl hl.1 rfl (Nat.le_of_ble_eq_true rfl) dX1_readTwoNumbers_18 ⟨Nat.zero_le _, Nat.zero_le _⟩ (fun H locs hP hD hS => ?_)
    refine lv_if_ne (tgt := 26) hx hb dX1_readTwoNumbers_21 (by decide) (fun c21 => ?_) (fun c21 => ?_)
    · refine lv_aload_n hx hb dX1_readTwoNumbers_26 rfl (lv_at hl 0 rfl) ?_
      refine lv_aload_n hx hb dX1_readTwoNumbers_27 rfl (lv_at hl 0 rfl) ?_
      refine rwV CF (c_X1_readNumber l D cI cC cW t _ _ _ _  (by assumption)) (cwV 0 hts gX1_readTwoNumbers_X1_readNumber rfl rfl rfl (by decide +kernel) ⟨Nat.le_of_ble_eq_true rfl, Nat.le_of_ble_eq_true rfl⟩) hP hD hK hX hS hA 0 1 tx_0 rfl rfl hl.1 rfl (Nat.le_of_ble_eq_true rfl) dX1_readTwoNumbers_28 ⟨Nat.zero_le _, Nat.zero_le _⟩ (fun H locs hP hD hS => ?_)
      refine my_put (D := D) (ci := 1) (C := RX1) (T := TX1) (N := 6) (ty := .int) hx hb hts hi1 tyX1 tyX1_ok nmX1 hown hK hP hD hS 0 tx_0 rfl 5 (by decide) wd2 (fun _ h9 => h9) rfl (by decide +kernel) rfl rfl (Nat.le_of_ble_eq_true rfl) (tx_f5 _) dX1_readTwoNumbers_31 (fun H locs hP hD hS => ?_)
      refine lv_aload_n hx hb dX1_readTwoNumbers_34 rfl (lv_at hl 0 rfl) ?_
      refine va_get (D := D) (ci := 1) (C := RX1) (T := TX1) (N := 6) hx hb hts hi1 hown hK hP 0 tx_0 rfl 5 (by decide) wd2 (fun _ h9 => h9) rfl dX1_readTwoNumbers_35 ?_
      refine lv_if_lt (tgt := 45) hx hb dX1_readTwoNumbers_38 (by decide) (fun c38 => ?_) (fun c38 => ?_)
      · refine lv_iconst (v := 0) hx hb dX1_readTwoNumbers_45 (by decide) ?_
        exact rw_zret _ hx hb hr (rfl) hP hD hS (Eq.trans (if_neg c12) (Eq.trans (if_neg c21) (Eq.trans (if_pos c38) (rfl)))) dX1_readTwoNumbers_46 hlocks
      · refine lv_iconst (v := 1) hx hb dX1_readTwoNumbers_41 (by decide) ?_
        refine lv_goto (tgt := 46) hx hb dX1_readTwoNumbers_42 (by decide) ?_
        exact rw_zret _ hx hb hr (rfl) hP hD hS (Eq.trans (if_neg c12) (Eq.trans (if_neg c21) (Eq.trans (if_neg c38) (rfl)))) dX1_readTwoNumbers_46 hlocks
    · refine lv_iconst (v := 0) hx hb dX1_readTwoNumbers_24 (by decide) ?_
      exact rw_zret _ hx hb hr (rfl) hP hD hS (Eq.trans (if_neg c12) (Eq.trans (if_pos c21) (rfl))) dX1_readTwoNumbers_25 hlocks

def sp_X1_readOrder (S : Nat → Int32) (q : Nat → Int32) : Int32 × (Nat → Int32) :=
  let q1 : Nat → Int32 := upd q (2) (sp_X1_nextSign S q); let q2 : Nat → Int32 := upd q1 (1) ((q1 1) + (1 : Int32)); if (q2 2) = (109 : Int32) then (let k122_3 : Int32 × (Nat → Int32) := sp_X1_readTwoNumbers S q2; let q4 : Nat → Int32 := k122_3.2; if k122_3.1 = 0 then (((0 : Int32), q4)) else (let k131_5 : Int32 × (Nat → Int32) := sp_X1_readSign S q4 (59 : Int32); let q6 : Nat → Int32 := k131_5.2; if k131_5.1 = 0 then (((0 : Int32), q6)) else (((1 : Int32), q6)))) else (if (q2 2) = (110 : Int32) then (((0 : Int32), q2)) else (if (q2 2) = (111 : Int32) then (((0 : Int32), q2)) else (if (q2 2) = (112 : Int32) then (let k122_3 : Int32 × (Nat → Int32) := sp_X1_readTwoNumbers S q2; let q4 : Nat → Int32 := k122_3.2; if k122_3.1 = 0 then (((0 : Int32), q4)) else (let k131_5 : Int32 × (Nat → Int32) := sp_X1_readSign S q4 (59 : Int32); let q6 : Nat → Int32 := k131_5.2; if k131_5.1 = 0 then (((0 : Int32), q6)) else (((1 : Int32), q6)))) else (if (q2 2) = (113 : Int32) then (((0 : Int32), q2)) else (if (q2 2) = (114 : Int32) then (let k93_3 : Int32 × (Nat → Int32) := sp_X1_readNumber S q2; let q4 : Nat → Int32 := k93_3.2; let q5 : Nat → Int32 := upd q4 (3) k93_3.1; if (q5 3) < 0 then (((0 : Int32), q5)) else (let k109_6 : Int32 × (Nat → Int32) := sp_X1_readSign S q5 (59 : Int32); let q7 : Nat → Int32 := k109_6.2; if k109_6.1 = 0 then (((0 : Int32), q7)) else (((1 : Int32), q7)))) else (if (q2 2) = (115 : Int32) then (((0 : Int32), q2)) else (if (q2 2) = (116 : Int32) then (((0 : Int32), q2)) else (if (q2 2) = (117 : Int32) then (((0 : Int32), q2)) else (if (q2 2) = (118 : Int32) then (((0 : Int32), q2)) else (if (q2 2) = (119 : Int32) then (let k87_3 : Int32 × (Nat → Int32) := sp_X1_readSign S q2 (59 : Int32); let q4 : Nat → Int32 := k87_3.2; (k87_3.1, q4)) else (if (q2 2) = (120 : Int32) then (let k122_3 : Int32 × (Nat → Int32) := sp_X1_readTwoNumbers S q2; let q4 : Nat → Int32 := k122_3.2; if k122_3.1 = 0 then (((0 : Int32), q4)) else (let k131_5 : Int32 × (Nat → Int32) := sp_X1_readSign S q4 (59 : Int32); let q6 : Nat → Int32 := k131_5.2; if k131_5.1 = 0 then (((0 : Int32), q6)) else (((1 : Int32), q6)))) else (((0 : Int32), q2)))))))))))))
set_option maxHeartbeats 4000000 in
set_option maxRecDepth 100000 in
theorem c_X1_readOrder (l : Launch) (D : va_G) (cI cC cW : ClassId) (t : Nat → Nat) (a : Nat → Nat) (sz : Nat) (S : Nat → Int32) (q : Nat → Int32) (hch : ∀ i, narrow .char (.int (S i)) = .int (S i)) : Met l yX1_readOrder wsX1_readOrder ({ frames := 3, cells := 0, slots := 0, locals := 62 }) (va_Pc [.ref (a 0)] (rwP D (tyL cI cC cW) (tx cC a S q) t sz)) (va_Qi (fun (r : Int32) (u : Nat → Int32) => (r, u) = sp_X1_readOrder S q) (fun u => rwB D (va_A (tx cC a S q) sz) (tx cC a S u)) (va_A (tx cC a S q) sz)) 0 0 (va_A (tx cC a S q) sz) := by
  refine Met.ofW (cc := cX1_readOrder) (maxL := 1) (ret := (some .boolean)) (by decide) rfl ?_
  intro p e s m args below meth c s₁ B hml hv
  obtain ⟨rfl, hsz, hP, hK, hD0, hX⟩ := hv
  have hx := B.exec
  have hb := B.bytes
  have hr := B.returns
  have hts := atoms_spec (ws := wsX1_readOrder) B.pre
  have hown : s.vm.findClass RX1 = some m.cls := findClass_of_methodNamed B.named
  have hlocks := B.notSynchronized
  subst hsz
  have hD := hD0.self (sz := s.heap.size)
  generalize hAe : va_A (tx cC a S q) s.heap.size = A at hD hX ⊢
  have hA : ∀ q : Nat, s.heap.size ≤ q → A q := fun q h => by rw [← hAe]; exact Or.inr h
  have hS : va_S A s.heap s.heap [] := va_S.rf
  have wd1 : (Cond.fieldLink RX1 30 "PickSlots$OrderText" "kind" "I").before [.ref (a 0)].toArray s = true := hts _ (List.mem_of_getElem? (i := 1) rfl)
  have wd2 : (Cond.fieldLink RX1 23 "PickSlots$OrderText" "at" "I").before [.ref (a 0)].toArray s = true := hts _ (List.mem_of_getElem? (i := 2) rfl)
  have wd3 : (Cond.fieldLink RX1 41 "PickSlots$OrderText" "first" "I").before [.ref (a 0)].toArray s = true := hts _ (List.mem_of_getElem? (i := 3) rfl)
  have hi1 : ∀ w ∈ wsX10, w ∈ wsX1_readOrder := fun w h => List.mem_cons_of_mem _ (List.mem_append_right _ (h))
  have CF : CallFix p m c cX1_readOrder 1 s [.ref (a 0)].toArray wsX1_readOrder RX1 := ⟨hx, hb, hml, hown, hts⟩
  have hl := lv_entry ([.ref (a 0)]) (n := 1) (Nat.le_of_ble_eq_true rfl)
  rw [lg_entry_eq]
  generalize (lg_sl ([.ref (a 0)]) ++ List.replicate (1 - (lg_sl ([.ref (a 0)])).length) Slot.unset).toArray = ls at hl ⊢
  have hl : lv_has ls 1 [(0, .ref (a 0))] := hl
  refine lv_aload_n hx hb dX1_readOrder_0 rfl (lv_at hl 0 rfl) ?_
  refine lv_aload_n hx hb dX1_readOrder_1 rfl (lv_at hl 0 rfl) ?_
  refine roV CF (c_X1_nextSign l D cI cC cW t _ _ _  (by assumption)) (cwV 0 hts gX1_readOrder_X1_nextSign rfl rfl rfl (by decide +kernel) ⟨Nat.le_of_ble_eq_true rfl, Nat.le_of_ble_eq_true rfl⟩) hP hK hX hS 0 1 tx_0 rfl rfl hl.1 rfl (Nat.le_of_ble_eq_true rfl) dX1_readOrder_2 ⟨Nat.zero_le _, Nat.zero_le _⟩ ?_
  refine my_put (D := D) (ci := 1) (C := RX1) (T := TX1) (N := 6) (ty := .int) hx hb hts hi1 tyX1 tyX1_ok nmX1 hown hK hP hD hS 0 tx_0 rfl 3 (by decide) wd1 (fun _ h9 => h9) rfl (by decide +kernel) rfl rfl (Nat.le_of_ble_eq_true rfl) (tx_f3 _) dX1_readOrder_5 (fun H locs hP hD hS => ?_)
  refine lv_aload_n hx hb dX1_readOrder_8 rfl (lv_at hl 0 rfl) ?_
  refine lv_dup hx hb dX1_readOrder_9 rfl ?_
  refine va_get (D := D) (ci := 1) (C := RX1) (T := TX1) (N := 6) hx hb hts hi1 hown hK hP 0 tx_0 rfl 2 (by decide) wd2 (fun _ h9 => h9) rfl dX1_readOrder_10 ?_
  refine lv_iconst (v := 1) hx hb dX1_readOrder_13 (by decide) ?_
  refine lv_iadd hx hb dX1_readOrder_14 ?_
  refine my_put (D := D) (ci := 1) (C := RX1) (T := TX1) (N := 6) (ty := .int) hx hb hts hi1 tyX1 tyX1_ok nmX1 hown hK hP hD hS 0 tx_0 rfl 2 (by decide) wd2 (fun _ h9 => h9) rfl (by decide +kernel) rfl rfl (Nat.le_of_ble_eq_true rfl) (tx_f2 _) dX1_readOrder_15 (fun H locs hP hD hS => ?_)
  refine lv_aload_n hx hb dX1_readOrder_18 rfl (lv_at hl 0 rfl) ?_
  refine va_get (D := D) (ci := 1) (C := RX1) (T := TX1) (N := 6) hx hb hts hi1 hown hK hP 0 tx_0 rfl 3 (by decide) wd1 (fun _ h9 => h9) rfl dX1_readOrder_19 ?_
  refine lv_topi (fun y22 ey22 => ?_)
  by_cases c22_109 : y22 = (109 : Int32)
  · refine lv_tableIn (tgt := 121) hx hb dX1_readOrder_22 (by rw [c22_109]; decide) (by rw [c22_109]; decide) (by rw [c22_109]; rfl) (by decide) ?_
    subst ey22
    refine lv_aload_n hx hb dX1_readOrder_121 rfl (lv_at hl 0 rfl) ?_
    refine rwV CF (c_X1_readTwoNumbers l D cI cC cW t _ _ _ _  (by assumption)) (cwV 0 hts gX1_readOrder_X1_readTwoNumbers rfl rfl rfl (by decide +kernel) ⟨Nat.le_of_ble_eq_true rfl, Nat.le_of_ble_eq_true rfl⟩) hP hD hK hX hS hA 0 1 tx_0 rfl rfl hl.1 rfl (Nat.le_of_ble_eq_true rfl) dX1_readOrder_122 ⟨Nat.zero_le _, Nat.zero_le _⟩ (fun H locs hP hD hS => ?_)
    refine lv_if_eq (tgt := 141) hx hb dX1_readOrder_125 (by decide) (fun c125 => ?_) (fun c125 => ?_)
    · refine lv_iconst (v := 0) hx hb dX1_readOrder_141 (by decide) ?_
      exact rw_zret _ hx hb hr (rfl) hP hD hS (Eq.trans (if_pos c22_109) (Eq.trans (if_pos c125) (rfl))) dX1_readOrder_142 hlocks
    · refine lv_aload_n hx hb dX1_readOrder_128 rfl (lv_at hl 0 rfl) ?_
      refine lv_bipush (v := 59) hx hb dX1_readOrder_129 (by decide) ?_
      refine rwV CF (c_X1_readSign l D cI cC cW t _ _ _ _ _ (by assumption)) (cwV 1 hts gX1_readOrder_X1_readSign rfl rfl rfl (by decide +kernel) ⟨Nat.le_of_ble_eq_true rfl, Nat.le_of_ble_eq_true rfl⟩) hP hD hK hX hS hA 0 1 tx_0 rfl rfl hl.1 rfl (Nat.le_of_ble_eq_true rfl) dX1_readOrder_131 ⟨Nat.zero_le _, Nat.zero_le _⟩ (fun H locs hP hD hS => ?_)
      refine lv_if_eq (tgt := 141) hx hb dX1_readOrder_134 (by decide) (fun c134 => ?_) (fun c134 => ?_)
      · refine lv_iconst (v := 0) hx hb dX1_readOrder_141 (by decide) ?_
        exact rw_zret _ hx hb hr (rfl) hP hD hS (Eq.trans (if_pos c22_109) (Eq.trans (if_neg c125) (Eq.trans (if_pos c134) (rfl)))) dX1_readOrder_142 hlocks
      · refine lv_iconst (v := 1) hx hb dX1_readOrder_137 (by decide) ?_
        refine lv_goto (tgt := 142) hx hb dX1_readOrder_138 (by decide) ?_
        exact rw_zret _ hx hb hr (rfl) hP hD hS (Eq.trans (if_pos c22_109) (Eq.trans (if_neg c125) (Eq.trans (if_neg c134) (rfl)))) dX1_readOrder_142 hlocks
  · by_cases c22_110 : y22 = (110 : Int32)
    · refine lv_tableIn (tgt := 143) hx hb dX1_readOrder_22 (by rw [c22_110]; decide) (by rw [c22_110]; decide) (by rw [c22_110]; rfl) (by decide) ?_
      subst ey22
      refine lv_iconst (v := 0) hx hb dX1_readOrder_143 (by decide) ?_
      exact rw_zret _ hx hb hr (rfl) hP hD hS (Eq.trans (if_neg c22_109) (Eq.trans (if_pos c22_110) (rfl))) dX1_readOrder_144 hlocks
    · by_cases c22_111 : y22 = (111 : Int32)
      · refine lv_tableIn (tgt := 143) hx hb dX1_readOrder_22 (by rw [c22_111]; decide) (by rw [c22_111]; decide) (by rw [c22_111]; rfl) (by decide) ?_
        subst ey22
        refine lv_iconst (v := 0) hx hb dX1_readOrder_143 (by decide) ?_
        exact rw_zret _ hx hb hr (rfl) hP hD hS (Eq.trans (if_neg c22_109) (Eq.trans (if_neg c22_110) (Eq.trans (if_pos c22_111) (rfl)))) dX1_readOrder_144 hlocks
      · by_cases c22_112 : y22 = (112 : Int32)
        · refine lv_tableIn (tgt := 121) hx hb dX1_readOrder_22 (by rw [c22_112]; decide) (by rw [c22_112]; decide) (by rw [c22_112]; rfl) (by decide) ?_
          subst ey22
          refine lv_aload_n hx hb dX1_readOrder_121 rfl (lv_at hl 0 rfl) ?_
          refine rwV CF (c_X1_readTwoNumbers l D cI cC cW t _ _ _ _  (by assumption)) (cwV 0 hts gX1_readOrder_X1_readTwoNumbers rfl rfl rfl (by decide +kernel) ⟨Nat.le_of_ble_eq_true rfl, Nat.le_of_ble_eq_true rfl⟩) hP hD hK hX hS hA 0 1 tx_0 rfl rfl hl.1 rfl (Nat.le_of_ble_eq_true rfl) dX1_readOrder_122 ⟨Nat.zero_le _, Nat.zero_le _⟩ (fun H locs hP hD hS => ?_)
          refine lv_if_eq (tgt := 141) hx hb dX1_readOrder_125 (by decide) (fun c125 => ?_) (fun c125 => ?_)
          · refine lv_iconst (v := 0) hx hb dX1_readOrder_141 (by decide) ?_
            exact rw_zret _ hx hb hr (rfl) hP hD hS (Eq.trans (if_neg c22_109) (Eq.trans (if_neg c22_110) (Eq.trans (if_neg c22_111) (Eq.trans (if_pos c22_112) (Eq.trans (if_pos c125) (rfl)))))) dX1_readOrder_142 hlocks
          · refine lv_aload_n hx hb dX1_readOrder_128 rfl (lv_at hl 0 rfl) ?_
            refine lv_bipush (v := 59) hx hb dX1_readOrder_129 (by decide) ?_
            refine rwV CF (c_X1_readSign l D cI cC cW t _ _ _ _ _ (by assumption)) (cwV 1 hts gX1_readOrder_X1_readSign rfl rfl rfl (by decide +kernel) ⟨Nat.le_of_ble_eq_true rfl, Nat.le_of_ble_eq_true rfl⟩) hP hD hK hX hS hA 0 1 tx_0 rfl rfl hl.1 rfl (Nat.le_of_ble_eq_true rfl) dX1_readOrder_131 ⟨Nat.zero_le _, Nat.zero_le _⟩ (fun H locs hP hD hS => ?_)
            refine lv_if_eq (tgt := 141) hx hb dX1_readOrder_134 (by decide) (fun c134 => ?_) (fun c134 => ?_)
            · refine lv_iconst (v := 0) hx hb dX1_readOrder_141 (by decide) ?_
              exact rw_zret _ hx hb hr (rfl) hP hD hS (Eq.trans (if_neg c22_109) (Eq.trans (if_neg c22_110) (Eq.trans (if_neg c22_111) (Eq.trans (if_pos c22_112) (Eq.trans (if_neg c125) (Eq.trans (if_pos c134) (rfl))))))) dX1_readOrder_142 hlocks
            · refine lv_iconst (v := 1) hx hb dX1_readOrder_137 (by decide) ?_
              refine lv_goto (tgt := 142) hx hb dX1_readOrder_138 (by decide) ?_
              exact rw_zret _ hx hb hr (rfl) hP hD hS (Eq.trans (if_neg c22_109) (Eq.trans (if_neg c22_110) (Eq.trans (if_neg c22_111) (Eq.trans (if_pos c22_112) (Eq.trans (if_neg c125) (Eq.trans (if_neg c134) (rfl))))))) dX1_readOrder_142 hlocks
        · by_cases c22_113 : y22 = (113 : Int32)
          · refine lv_tableIn (tgt := 143) hx hb dX1_readOrder_22 (by rw [c22_113]; decide) (by rw [c22_113]; decide) (by rw [c22_113]; rfl) (by decide) ?_
            subst ey22
            refine lv_iconst (v := 0) hx hb dX1_readOrder_143 (by decide) ?_
            exact rw_zret _ hx hb hr (rfl) hP hD hS (Eq.trans (if_neg c22_109) (Eq.trans (if_neg c22_110) (Eq.trans (if_neg c22_111) (Eq.trans (if_neg c22_112) (Eq.trans (if_pos c22_113) (rfl)))))) dX1_readOrder_144 hlocks
          · by_cases c22_114 : y22 = (114 : Int32)
            · refine lv_tableIn (tgt := 91) hx hb dX1_readOrder_22 (by rw [c22_114]; decide) (by rw [c22_114]; decide) (by rw [c22_114]; rfl) (by decide) ?_
              subst ey22
              refine lv_aload_n hx hb dX1_readOrder_91 rfl (lv_at hl 0 rfl) ?_
              refine lv_aload_n hx hb dX1_readOrder_92 rfl (lv_at hl 0 rfl) ?_
              refine rwV CF (c_X1_readNumber l D cI cC cW t _ _ _ _  (by assumption)) (cwV 0 hts gX1_readOrder_X1_readNumber rfl rfl rfl (by decide +kernel) ⟨Nat.le_of_ble_eq_true rfl, Nat.le_of_ble_eq_true rfl⟩) hP hD hK hX hS hA 0 1 tx_0 rfl rfl hl.1 rfl (Nat.le_of_ble_eq_true rfl) dX1_readOrder_93 ⟨Nat.zero_le _, Nat.zero_le _⟩ (fun H locs hP hD hS => ?_)
              refine my_put (D := D) (ci := 1) (C := RX1) (T := TX1) (N := 6) (ty := .int) hx hb hts hi1 tyX1 tyX1_ok nmX1 hown hK hP hD hS 0 tx_0 rfl 4 (by decide) wd3 (fun _ h9 => h9) rfl (by decide +kernel) rfl rfl (Nat.le_of_ble_eq_true rfl) (tx_f4 _) dX1_readOrder_96 (fun H locs hP hD hS => ?_)
              refine lv_aload_n hx hb dX1_readOrder_99 rfl (lv_at hl 0 rfl) ?_
              refine va_get (D := D) (ci := 1) (C := RX1) (T := TX1) (N := 6) hx hb hts hi1 hown hK hP 0 tx_0 rfl 4 (by decide) wd3 (fun _ h9 => h9) rfl dX1_readOrder_100 ?_
              refine lv_if_lt (tgt := 119) hx hb dX1_readOrder_103 (by decide) (fun c103 => ?_) (fun c103 => ?_)
              · refine lv_iconst (v := 0) hx hb dX1_readOrder_119 (by decide) ?_
                exact rw_zret _ hx hb hr (rfl) hP hD hS (Eq.trans (if_neg c22_109) (Eq.trans (if_neg c22_110) (Eq.trans (if_neg c22_111) (Eq.trans (if_neg c22_112) (Eq.trans (if_neg c22_113) (Eq.trans (if_pos c22_114) (Eq.trans (if_pos c103) (rfl)))))))) dX1_readOrder_120 hlocks
              · refine lv_aload_n hx hb dX1_readOrder_106 rfl (lv_at hl 0 rfl) ?_
                refine lv_bipush (v := 59) hx hb dX1_readOrder_107 (by decide) ?_
                refine rwV CF (c_X1_readSign l D cI cC cW t _ _ _ _ _ (by assumption)) (cwV 1 hts gX1_readOrder_X1_readSign rfl rfl rfl (by decide +kernel) ⟨Nat.le_of_ble_eq_true rfl, Nat.le_of_ble_eq_true rfl⟩) hP hD hK hX hS hA 0 1 tx_0 rfl rfl hl.1 rfl (Nat.le_of_ble_eq_true rfl) dX1_readOrder_109 ⟨Nat.zero_le _, Nat.zero_le _⟩ (fun H locs hP hD hS => ?_)
                refine lv_if_eq (tgt := 119) hx hb dX1_readOrder_112 (by decide) (fun c112 => ?_) (fun c112 => ?_)
                · refine lv_iconst (v := 0) hx hb dX1_readOrder_119 (by decide) ?_
                  exact rw_zret _ hx hb hr (rfl) hP hD hS (Eq.trans (if_neg c22_109) (Eq.trans (if_neg c22_110) (Eq.trans (if_neg c22_111) (Eq.trans (if_neg c22_112) (Eq.trans (if_neg c22_113) (Eq.trans (if_pos c22_114) (Eq.trans (if_neg c103) (Eq.trans (if_pos c112) (rfl))))))))) dX1_readOrder_120 hlocks
                · refine lv_iconst (v := 1) hx hb dX1_readOrder_115 (by decide) ?_
                  refine lv_goto (tgt := 120) hx hb dX1_readOrder_116 (by decide) ?_
                  exact rw_zret _ hx hb hr (rfl) hP hD hS (Eq.trans (if_neg c22_109) (Eq.trans (if_neg c22_110) (Eq.trans (if_neg c22_111) (Eq.trans (if_neg c22_112) (Eq.trans (if_neg c22_113) (Eq.trans (if_pos c22_114) (Eq.trans (if_neg c103) (Eq.trans (if_neg c112) (rfl))))))))) dX1_readOrder_120 hlocks
            · by_cases c22_115 : y22 = (115 : Int32)
              · refine lv_tableIn (tgt := 143) hx hb dX1_readOrder_22 (by rw [c22_115]; decide) (by rw [c22_115]; decide) (by rw [c22_115]; rfl) (by decide) ?_
                subst ey22
                refine lv_iconst (v := 0) hx hb dX1_readOrder_143 (by decide) ?_
                exact rw_zret _ hx hb hr (rfl) hP hD hS (Eq.trans (if_neg c22_109) (Eq.trans (if_neg c22_110) (Eq.trans (if_neg c22_111) (Eq.trans (if_neg c22_112) (Eq.trans (if_neg c22_113) (Eq.trans (if_neg c22_114) (Eq.trans (if_pos c22_115) (rfl)))))))) dX1_readOrder_144 hlocks
              · by_cases c22_116 : y22 = (116 : Int32)
                · refine lv_tableIn (tgt := 143) hx hb dX1_readOrder_22 (by rw [c22_116]; decide) (by rw [c22_116]; decide) (by rw [c22_116]; rfl) (by decide) ?_
                  subst ey22
                  refine lv_iconst (v := 0) hx hb dX1_readOrder_143 (by decide) ?_
                  exact rw_zret _ hx hb hr (rfl) hP hD hS (Eq.trans (if_neg c22_109) (Eq.trans (if_neg c22_110) (Eq.trans (if_neg c22_111) (Eq.trans (if_neg c22_112) (Eq.trans (if_neg c22_113) (Eq.trans (if_neg c22_114) (Eq.trans (if_neg c22_115) (Eq.trans (if_pos c22_116) (rfl))))))))) dX1_readOrder_144 hlocks
                · by_cases c22_117 : y22 = (117 : Int32)
                  · refine lv_tableIn (tgt := 143) hx hb dX1_readOrder_22 (by rw [c22_117]; decide) (by rw [c22_117]; decide) (by rw [c22_117]; rfl) (by decide) ?_
                    subst ey22
                    refine lv_iconst (v := 0) hx hb dX1_readOrder_143 (by decide) ?_
                    exact rw_zret _ hx hb hr (rfl) hP hD hS (Eq.trans (if_neg c22_109) (Eq.trans (if_neg c22_110) (Eq.trans (if_neg c22_111) (Eq.trans (if_neg c22_112) (Eq.trans (if_neg c22_113) (Eq.trans (if_neg c22_114) (Eq.trans (if_neg c22_115) (Eq.trans (if_neg c22_116) (Eq.trans (if_pos c22_117) (rfl)))))))))) dX1_readOrder_144 hlocks
                  · by_cases c22_118 : y22 = (118 : Int32)
                    · refine lv_tableIn (tgt := 143) hx hb dX1_readOrder_22 (by rw [c22_118]; decide) (by rw [c22_118]; decide) (by rw [c22_118]; rfl) (by decide) ?_
                      subst ey22
                      refine lv_iconst (v := 0) hx hb dX1_readOrder_143 (by decide) ?_
                      exact rw_zret _ hx hb hr (rfl) hP hD hS (Eq.trans (if_neg c22_109) (Eq.trans (if_neg c22_110) (Eq.trans (if_neg c22_111) (Eq.trans (if_neg c22_112) (Eq.trans (if_neg c22_113) (Eq.trans (if_neg c22_114) (Eq.trans (if_neg c22_115) (Eq.trans (if_neg c22_116) (Eq.trans (if_neg c22_117) (Eq.trans (if_pos c22_118) (rfl))))))))))) dX1_readOrder_144 hlocks
                    · by_cases c22_119 : y22 = (119 : Int32)
                      · refine lv_tableIn (tgt := 84) hx hb dX1_readOrder_22 (by rw [c22_119]; decide) (by rw [c22_119]; decide) (by rw [c22_119]; rfl) (by decide) ?_
                        subst ey22
                        refine lv_aload_n hx hb dX1_readOrder_84 rfl (lv_at hl 0 rfl) ?_
                        refine lv_bipush (v := 59) hx hb dX1_readOrder_85 (by decide) ?_
                        refine rwV CF (c_X1_readSign l D cI cC cW t _ _ _ _ _ (by assumption)) (cwV 1 hts gX1_readOrder_X1_readSign rfl rfl rfl (by decide +kernel) ⟨Nat.le_of_ble_eq_true rfl, Nat.le_of_ble_eq_true rfl⟩) hP hD hK hX hS hA 0 1 tx_0 rfl rfl hl.1 rfl (Nat.le_of_ble_eq_true rfl) dX1_readOrder_87 ⟨Nat.zero_le _, Nat.zero_le _⟩ (fun H locs hP hD hS => ?_)
                        exact rw_zret _ hx hb hr (zb_X1_readSign) hP hD hS (Eq.trans (if_neg c22_109) (Eq.trans (if_neg c22_110) (Eq.trans (if_neg c22_111) (Eq.trans (if_neg c22_112) (Eq.trans (if_neg c22_113) (Eq.trans (if_neg c22_114) (Eq.trans (if_neg c22_115) (Eq.trans (if_neg c22_116) (Eq.trans (if_neg c22_117) (Eq.trans (if_neg c22_118) (Eq.trans (if_pos c22_119) (rfl)))))))))))) dX1_readOrder_90 hlocks
                      · by_cases c22_120 : y22 = (120 : Int32)
                        · refine lv_tableIn (tgt := 121) hx hb dX1_readOrder_22 (by rw [c22_120]; decide) (by rw [c22_120]; decide) (by rw [c22_120]; rfl) (by decide) ?_
                          subst ey22
                          refine lv_aload_n hx hb dX1_readOrder_121 rfl (lv_at hl 0 rfl) ?_
                          refine rwV CF (c_X1_readTwoNumbers l D cI cC cW t _ _ _ _  (by assumption)) (cwV 0 hts gX1_readOrder_X1_readTwoNumbers rfl rfl rfl (by decide +kernel) ⟨Nat.le_of_ble_eq_true rfl, Nat.le_of_ble_eq_true rfl⟩) hP hD hK hX hS hA 0 1 tx_0 rfl rfl hl.1 rfl (Nat.le_of_ble_eq_true rfl) dX1_readOrder_122 ⟨Nat.zero_le _, Nat.zero_le _⟩ (fun H locs hP hD hS => ?_)
                          refine lv_if_eq (tgt := 141) hx hb dX1_readOrder_125 (by decide) (fun c125 => ?_) (fun c125 => ?_)
                          · refine lv_iconst (v := 0) hx hb dX1_readOrder_141 (by decide) ?_
                            exact rw_zret _ hx hb hr (rfl) hP hD hS (Eq.trans (if_neg c22_109) (Eq.trans (if_neg c22_110) (Eq.trans (if_neg c22_111) (Eq.trans (if_neg c22_112) (Eq.trans (if_neg c22_113) (Eq.trans (if_neg c22_114) (Eq.trans (if_neg c22_115) (Eq.trans (if_neg c22_116) (Eq.trans (if_neg c22_117) (Eq.trans (if_neg c22_118) (Eq.trans (if_neg c22_119) (Eq.trans (if_pos c22_120) (Eq.trans (if_pos c125) (rfl)))))))))))))) dX1_readOrder_142 hlocks
                          · refine lv_aload_n hx hb dX1_readOrder_128 rfl (lv_at hl 0 rfl) ?_
                            refine lv_bipush (v := 59) hx hb dX1_readOrder_129 (by decide) ?_
                            refine rwV CF (c_X1_readSign l D cI cC cW t _ _ _ _ _ (by assumption)) (cwV 1 hts gX1_readOrder_X1_readSign rfl rfl rfl (by decide +kernel) ⟨Nat.le_of_ble_eq_true rfl, Nat.le_of_ble_eq_true rfl⟩) hP hD hK hX hS hA 0 1 tx_0 rfl rfl hl.1 rfl (Nat.le_of_ble_eq_true rfl) dX1_readOrder_131 ⟨Nat.zero_le _, Nat.zero_le _⟩ (fun H locs hP hD hS => ?_)
                            refine lv_if_eq (tgt := 141) hx hb dX1_readOrder_134 (by decide) (fun c134 => ?_) (fun c134 => ?_)
                            · refine lv_iconst (v := 0) hx hb dX1_readOrder_141 (by decide) ?_
                              exact rw_zret _ hx hb hr (rfl) hP hD hS (Eq.trans (if_neg c22_109) (Eq.trans (if_neg c22_110) (Eq.trans (if_neg c22_111) (Eq.trans (if_neg c22_112) (Eq.trans (if_neg c22_113) (Eq.trans (if_neg c22_114) (Eq.trans (if_neg c22_115) (Eq.trans (if_neg c22_116) (Eq.trans (if_neg c22_117) (Eq.trans (if_neg c22_118) (Eq.trans (if_neg c22_119) (Eq.trans (if_pos c22_120) (Eq.trans (if_neg c125) (Eq.trans (if_pos c134) (rfl))))))))))))))) dX1_readOrder_142 hlocks
                            · refine lv_iconst (v := 1) hx hb dX1_readOrder_137 (by decide) ?_
                              refine lv_goto (tgt := 142) hx hb dX1_readOrder_138 (by decide) ?_
                              exact rw_zret _ hx hb hr (rfl) hP hD hS (Eq.trans (if_neg c22_109) (Eq.trans (if_neg c22_110) (Eq.trans (if_neg c22_111) (Eq.trans (if_neg c22_112) (Eq.trans (if_neg c22_113) (Eq.trans (if_neg c22_114) (Eq.trans (if_neg c22_115) (Eq.trans (if_neg c22_116) (Eq.trans (if_neg c22_117) (Eq.trans (if_neg c22_118) (Eq.trans (if_neg c22_119) (Eq.trans (if_pos c22_120) (Eq.trans (if_neg c125) (Eq.trans (if_neg c134) (rfl))))))))))))))) dX1_readOrder_142 hlocks
                        · refine lv_tableOut (tgt := 143) hx hb dX1_readOrder_22 (by have q0 := lv_neT c22_109 (a := 109) (by decide); have q1 := lv_neT c22_110 (a := 110) (by decide); have q2 := lv_neT c22_111 (a := 111) (by decide); have q3 := lv_neT c22_112 (a := 112) (by decide); have q4 := lv_neT c22_113 (a := 113) (by decide); have q5 := lv_neT c22_114 (a := 114) (by decide); have q6 := lv_neT c22_115 (a := 115) (by decide); have q7 := lv_neT c22_116 (a := 116) (by decide); have q8 := lv_neT c22_117 (a := 117) (by decide); have q9 := lv_neT c22_118 (a := 118) (by decide); have q10 := lv_neT c22_119 (a := 119) (by decide); have q11 := lv_neT c22_120 (a := 120) (by decide); omega) (by decide) ?_
                          subst ey22
                          refine lv_iconst (v := 0) hx hb dX1_readOrder_143 (by decide) ?_
                          exact rw_zret _ hx hb hr (rfl) hP hD hS (Eq.trans (if_neg c22_109) (Eq.trans (if_neg c22_110) (Eq.trans (if_neg c22_111) (Eq.trans (if_neg c22_112) (Eq.trans (if_neg c22_113) (Eq.trans (if_neg c22_114) (Eq.trans (if_neg c22_115) (Eq.trans (if_neg c22_116) (Eq.trans (if_neg c22_117) (Eq.trans (if_neg c22_118) (Eq.trans (if_neg c22_119) (Eq.trans (if_neg c22_120) (rfl))))))))))))) dX1_readOrder_144 hlocks

def sp_X1_append (S : Nat → Int32) (q : Nat → Int32) (x1 : Int32) : Int32 × ((Nat → Int32) × (Nat → Int32)) :=
  if (sp_X5_isIn x1 (32 : Int32) (126 : Int32)) = 0 then (((-1 : Int32), (S, q))) else (if (q 0) < (60 : Int32) then (let S1 : Nat → Int32 := upd S ((ix (q 0))) (vp_nar .char ((x1.toUInt32 % 65536).toInt32)); let q2 : Nat → Int32 := upd q (0) ((q 0) + (1 : Int32)); ((q2 0), (S1, q2))) else (((-3 : Int32), (S, q))))
set_option maxHeartbeats 4000000 in
set_option maxRecDepth 100000 in
theorem c_X1_append (l : Launch) (D : va_G) (cI cC cW : ClassId) (t : Nat → Nat) (a : Nat → Nat) (sz : Nat) (S : Nat → Int32) (q : Nat → Int32) (x1 : Int32) (hln : 0 ≤ (q 0).toInt) : Met l yX1_append wsX1_append ({ frames := 1, cells := 0, slots := 0, locals := 22 }) (va_Pc [.ref (a 0), .int x1] (rwP D (tyL cI cC cW) (tx cC a S q) t sz)) (va_Qi (fun (r : Int32) (u : ((Nat → Int32) × (Nat → Int32))) => (r, u) = sp_X1_append S q x1) (fun u => rwB D (va_A (tx cC a S q) sz) (tx cC a u.1 u.2)) (va_A (tx cC a S q) sz)) 0 0 (va_A (tx cC a S q) sz) := by
  refine Met.ofW (cc := cX1_append) (maxL := 2) (ret := (some .int)) (by decide) rfl ?_
  intro p e s m args below meth c s₁ B hml hv
  obtain ⟨rfl, hsz, hP, hK, hD0, hX⟩ := hv
  have hx := B.exec
  have hb := B.bytes
  have hr := B.returns
  have hts := atoms_spec (ws := wsX1_append) B.pre
  have hown : s.vm.findClass RX1 = some m.cls := findClass_of_methodNamed B.named
  have hlocks := B.notSynchronized
  subst hsz
  have hD := hD0.self (sz := s.heap.size)
  generalize hAe : va_A (tx cC a S q) s.heap.size = A at hD hX ⊢
  have hA : ∀ q : Nat, s.heap.size ≤ q → A q := fun q h => by rw [← hAe]; exact Or.inr h
  have hS : va_S A s.heap s.heap [] := va_S.rf
  have wd4 : (Cond.initialized RX5).before [.ref (a 0), .int x1].toArray s = true := hts _ (List.mem_of_getElem? (i := 4) rfl)
  have wd3 : (Cond.static yX5_isIn).before [.ref (a 0), .int x1].toArray s = true := hts _ (List.mem_of_getElem? (i := 3) rfl)
  have wd1 : (Cond.fieldLink RX1 19 "PickSlots$OrderText" "length" "I").before [.ref (a 0), .int x1].toArray s = true := hts _ (List.mem_of_getElem? (i := 1) rfl)
  have wd2 : (Cond.fieldLink RX1 9 "PickSlots$OrderText" "signs" "[C").before [.ref (a 0), .int x1].toArray s = true := hts _ (List.mem_of_getElem? (i := 2) rfl)
  have hi1 : ∀ w ∈ wsX10, w ∈ wsX1_append := fun w h => List.mem_cons_of_mem _ (List.mem_append_right _ (h))
  have CF : CallFix p m c cX1_append 2 s [.ref (a 0), .int x1].toArray wsX1_append RX1 := ⟨hx, hb, hml, hown, hts⟩
  have hl := lv_entry ([.ref (a 0), .int x1]) (n := 2) (Nat.le_of_ble_eq_true rfl)
  rw [lg_entry_eq]
  generalize (lg_sl ([.ref (a 0), .int x1]) ++ List.replicate (2 - (lg_sl ([.ref (a 0), .int x1])).length) Slot.unset).toArray = ls at hl ⊢
  have hl : lv_has ls 2 [(0, .ref (a 0)), (1, .int x1)] := hl
  refine lv_iload_n hx hb dX1_append_0 rfl (lv_at hl 1 rfl) ?_
  refine lv_bipush (v := 32) hx hb dX1_append_1 (by decide) ?_
  refine lv_bipush (v := 126) hx hb dX1_append_3 (by decide) ?_
  refine roSN CF (c_X5_isIn l D cI cC cW t _ _ _ ) (va_cnB 3 hts gX1_append_X5_isIn_n15 rfl rfl rfl (hX.1.2 ("PickSlots$OrderText", 15, yX5_isIn) (List.mem_of_getElem? (i := 5) rfl)) wd4 (by decide +kernel) ⟨Nat.le_of_ble_eq_true rfl, Nat.le_of_ble_eq_true rfl⟩) wd3 vP_nil hK hX hS rfl hl.1 rfl (Nat.le_of_ble_eq_true rfl) dX1_append_5 ⟨Nat.zero_le _, Nat.zero_le _⟩ ?_
  refine lv_if_ne (tgt := 13) hx hb dX1_append_8 (by decide) (fun c8 => ?_) (fun c8 => ?_)
  · refine lv_aload_n hx hb dX1_append_13 rfl (lv_at hl 0 rfl) ?_
    refine va_get (D := D) (ci := 1) (C := RX1) (T := TX1) (N := 6) hx hb hts hi1 hown hK hP 0 tx_0 rfl 1 (by decide) wd1 (fun _ h9 => h9) rfl dX1_append_14 ?_
    refine lv_bipush (v := 60) hx hb dX1_append_17 (by decide) ?_
    refine lv_icmp_lt (tgt := 25) hx hb dX1_append_19 (by decide) (fun c19 => ?_) (fun c19 => ?_)
    · refine lv_aload_n hx hb dX1_append_25 rfl (lv_at hl 0 rfl) ?_
      refine va_get (D := D) (ci := 1) (C := RX1) (T := TX1) (N := 6) hx hb hts hi1 hown hK hP 0 tx_0 rfl 0 (by decide) wd2 (fun _ h9 => h9) rfl dX1_append_26 ?_
      refine lv_aload_n hx hb dX1_append_29 rfl (lv_at hl 0 rfl) ?_
      refine va_get (D := D) (ci := 1) (C := RX1) (T := TX1) (N := 6) hx hb hts hi1 hown hK hP 0 tx_0 rfl 1 (by decide) wd1 (fun _ h9 => h9) rfl dX1_append_30 ?_
      refine lv_iload_n hx hb dX1_append_33 rfl (lv_at hl 1 rfl) ?_
      refine lv_i2c hx hb dX1_append_34 rfl ?_
      refine my_cast hx hb hK hP hD hS 1 1 tx_1 rfl (tx_s1 _ _) (inT hln (by rw [lt_toInt, show (60 : Int32).toInt = 60 from by decide] at c19; omega)) dX1_append_35 (fun H locs hP hD hS => ?_)
      refine lv_aload_n hx hb dX1_append_36 rfl (lv_at hl 0 rfl) ?_
      refine lv_dup hx hb dX1_append_37 rfl ?_
      refine va_get (D := D) (ci := 1) (C := RX1) (T := TX1) (N := 6) hx hb hts hi1 hown hK hP 0 tx_0 rfl 1 (by decide) wd1 (fun _ h9 => h9) rfl dX1_append_38 ?_
      refine lv_iconst (v := 1) hx hb dX1_append_41 (by decide) ?_
      refine lv_iadd hx hb dX1_append_42 ?_
      refine my_put (D := D) (ci := 1) (C := RX1) (T := TX1) (N := 6) (ty := .int) hx hb hts hi1 tyX1 tyX1_ok nmX1 hown hK hP hD hS 0 tx_0 rfl 1 (by decide) wd1 (fun _ h9 => h9) rfl (by decide +kernel) rfl rfl (Nat.le_of_ble_eq_true rfl) (tx_f1 _) dX1_append_43 (fun H locs hP hD hS => ?_)
      refine lv_aload_n hx hb dX1_append_46 rfl (lv_at hl 0 rfl) ?_
      refine va_get (D := D) (ci := 1) (C := RX1) (T := TX1) (N := 6) hx hb hts hi1 hown hK hP 0 tx_0 rfl 1 (by decide) wd1 (fun _ h9 => h9) rfl dX1_append_47 ?_
      exact rw_ret (_, _) hx hb hr hP hD hS (Eq.trans (if_neg c8) (Eq.trans (if_pos c19) (rfl))) dX1_append_50 hlocks
    · refine lv_bipush (v := -3) hx hb dX1_append_22 (by decide) ?_
      exact rw_ret (_, _) hx hb hr hP hD hS (Eq.trans (if_neg c8) (Eq.trans (if_neg c19) (rfl))) dX1_append_24 hlocks
  · refine lv_iconst (v := -1) hx hb dX1_append_11 (by decide) ?_
    exact rw_ret (_, _) hx hb hr hP hD hS (Eq.trans (if_pos c8) (rfl)) dX1_append_12 hlocks

def sp_X3_valueAt (V : Nat → Int32) (z : Int32) (x1 : Int32) : Int32 :=
  if x1 < 0 then ((0 : Int32)) else (if z ≤ x1 then ((0 : Int32)) else ((V ((ix x1)))))
set_option maxHeartbeats 4000000 in
set_option maxRecDepth 100000 in
theorem c_X3_valueAt (l : Launch) (D : va_G) (cI cC cW : ClassId) (t : Nat → Nat) (a : Nat → Nat) (V : Nat → Int32) (z : Int32) (x1 : Int32) (hz : z.toInt ≤ 20) : Met l yX3_valueAt wsX3_valueAt ({ frames := 0, cells := 0, slots := 0, locals := 0 }) (va_Pc [.ref (a 0), .int x1] (roP D (tyL cI cC cW) (sr cI a V z) t)) (vp_Si (fun r => r = sp_X3_valueAt V z x1)) 0 0 (fun _ => False) := by
  refine Met.ofW (cc := cX3_valueAt) (maxL := 2) (ret := (some .int)) (by decide) rfl ?_
  intro p e s m args below meth c s₁ B hml hv
  obtain ⟨rfl, hP, hK, hX⟩ := hv
  have hx := B.exec
  have hb := B.bytes
  have hr := B.returns
  have hts := atoms_spec (ws := wsX3_valueAt) B.pre
  have hown : s.vm.findClass RX3 = some m.cls := findClass_of_methodNamed B.named
  have hlocks := B.notSynchronized
  have hS : va_S (fun _ => False) s.heap s.heap [] := va_S.rf
  have wd1 : (Cond.fieldLink RX3 15 "PickSlots$SortedRow" "size" "I").before [.ref (a 0), .int x1].toArray s = true := hts _ (List.mem_of_getElem? (i := 1) rfl)
  have wd2 : (Cond.fieldLink RX3 9 "PickSlots$SortedRow" "values" "[I").before [.ref (a 0), .int x1].toArray s = true := hts _ (List.mem_of_getElem? (i := 2) rfl)
  have hi3 : ∀ w ∈ wsX30, w ∈ wsX3_valueAt := fun w h => List.mem_cons_of_mem _ (List.mem_append_right _ (h))
  have hl := lv_entry ([.ref (a 0), .int x1]) (n := 2) (Nat.le_of_ble_eq_true rfl)
  rw [lg_entry_eq]
  generalize (lg_sl ([.ref (a 0), .int x1]) ++ List.replicate (2 - (lg_sl ([.ref (a 0), .int x1])).length) Slot.unset).toArray = ls at hl ⊢
  have hl : lv_has ls 2 [(0, .ref (a 0)), (1, .int x1)] := hl
  refine lv_iload_n hx hb dX3_valueAt_0 rfl (lv_at hl 1 rfl) ?_
  refine lv_if_lt (tgt := 21) hx hb dX3_valueAt_1 (by decide) (fun c1 => ?_) (fun c1 => ?_)
  · refine lv_iconst (v := 0) hx hb dX3_valueAt_21 (by decide) ?_
    exact ro_ret hx hb hr (Eq.trans (if_pos c1) (rfl)) dX3_valueAt_22 hlocks
  · refine lv_iload_n hx hb dX3_valueAt_4 rfl (lv_at hl 1 rfl) ?_
    refine lv_aload_n hx hb dX3_valueAt_5 rfl (lv_at hl 0 rfl) ?_
    refine va_get (D := D) (ci := 2) (C := RX3) (T := TX3) (N := 2) hx hb hts hi3 hown hK hP 0 sr_0 rfl 1 (by decide) wd1 (fun _ h9 => h9) rfl dX3_valueAt_6 ?_
    refine lv_icmp_ge (tgt := 21) hx hb dX3_valueAt_9 (by decide) (fun c9 => ?_) (fun c9 => ?_)
    · refine lv_iconst (v := 0) hx hb dX3_valueAt_21 (by decide) ?_
      exact ro_ret hx hb hr (Eq.trans (if_neg c1) (Eq.trans (if_pos c9) (rfl))) dX3_valueAt_22 hlocks
    · refine lv_aload_n hx hb dX3_valueAt_12 rfl (lv_at hl 0 rfl) ?_
      refine va_get (D := D) (ci := 2) (C := RX3) (T := TX3) (N := 2) hx hb hts hi3 hown hK hP 0 sr_0 rfl 0 (by decide) wd2 (fun _ h9 => h9) rfl dX3_valueAt_13 ?_
      refine lv_iload_n hx hb dX3_valueAt_16 rfl (lv_at hl 1 rfl) ?_
      refine va_iald hx hb hK hP 1 0 sr_1 rfl (inT (by rw [lt_toInt, i0] at c1; omega) (by rw [le_toInt] at c9; omega)) dX3_valueAt_17 ?_
      refine lv_goto (tgt := 22) hx hb dX3_valueAt_18 (by decide) ?_
      exact ro_ret hx hb hr (Eq.trans (if_neg c1) (Eq.trans (if_neg c9) (rfl))) dX3_valueAt_22 hlocks

def lp22_X3_insert (z : Int32) (x1 : Int32) : Nat → Int32 → (Nat → Int32) → ((Nat → Int32) × Int32)
  | 0, v2, Vw => (Vw, z)
  | n + 1, v2, Vw => if v2 ≤ 0 then (let V101 : Nat → Int32 := upd Vw ((ix v2)) x1; let z102 : Int32 := (z + (1 : Int32)); (V101, z102)) else (if (Vw ((ix (v2 - (1 : Int32))))) ≤ x1 then (let V101 : Nat → Int32 := upd Vw ((ix v2)) x1; let z102 : Int32 := (z + (1 : Int32)); (V101, z102)) else (let V101 : Nat → Int32 := upd Vw ((ix v2)) (Vw ((ix (v2 - (1 : Int32))))); lp22_X3_insert z x1 n (v2 + (-1 : Int32)) V101))
theorem lp22_X3_insert_s (z : Int32) (x1 : Int32) (n : Nat) (v2 : Int32) (Vw : Nat → Int32) : lp22_X3_insert z x1 (n + 1) v2 Vw = if v2 ≤ 0 then (let V101 : Nat → Int32 := upd Vw ((ix v2)) x1; let z102 : Int32 := (z + (1 : Int32)); (V101, z102)) else (if (Vw ((ix (v2 - (1 : Int32))))) ≤ x1 then (let V101 : Nat → Int32 := upd Vw ((ix v2)) x1; let z102 : Int32 := (z + (1 : Int32)); (V101, z102)) else (let V101 : Nat → Int32 := upd Vw ((ix v2)) (Vw ((ix (v2 - (1 : Int32))))); lp22_X3_insert z x1 n (v2 + (-1 : Int32)) V101)) := rfl
def sp_X3_insert (V : Nat → Int32) (z : Int32) (x1 : Int32) : ((Nat → Int32) × Int32) :=
  if z < 0 then ((V, z)) else (if z < (20 : Int32) then (lp22_X3_insert z x1 21 z V) else ((V, z)))
set_option maxHeartbeats 4000000 in
set_option maxRecDepth 100000 in
theorem c_X3_insert (l : Launch) (D : va_G) (cI cC cW : ClassId) (t : Nat → Nat) (a : Nat → Nat) (sz : Nat) (V : Nat → Int32) (z : Int32) (x1 : Int32)  : Met l yX3_insert wsX3_insert ({ frames := 0, cells := 0, slots := 0, locals := 0 }) (va_Pc [.ref (a 0), .int x1] (rwP D (tyL cI cC cW) (sr cI a V z) t sz)) (va_Qv (fun (u : ((Nat → Int32) × Int32)) => u = sp_X3_insert V z x1) (fun u => rwB D (va_A (sr cI a V z) sz) (sr cI a u.1 u.2)) (va_A (sr cI a V z) sz)) 0 0 (va_A (sr cI a V z) sz) := by
  refine Met.ofW (cc := cX3_insert) (maxL := 3) (ret := none) (by decide) rfl ?_
  intro p e s m args below meth c s₁ B hml hv
  obtain ⟨rfl, hsz, hP, hK, hD0, hX⟩ := hv
  have hx := B.exec
  have hb := B.bytes
  have hr := B.returns
  have hts := atoms_spec (ws := wsX3_insert) B.pre
  have hown : s.vm.findClass RX3 = some m.cls := findClass_of_methodNamed B.named
  have hlocks := B.notSynchronized
  subst hsz
  have hD := hD0.self (sz := s.heap.size)
  generalize hAe : va_A (sr cI a V z) s.heap.size = A at hD hX ⊢
  have hA : ∀ q : Nat, s.heap.size ≤ q → A q := fun q h => by rw [← hAe]; exact Or.inr h
  have hS : va_S A s.heap s.heap [] := va_S.rf
  have wd1 : (Cond.fieldLink RX3 15 "PickSlots$SortedRow" "size" "I").before [.ref (a 0), .int x1].toArray s = true := hts _ (List.mem_of_getElem? (i := 1) rfl)
  have wd2 : (Cond.fieldLink RX3 9 "PickSlots$SortedRow" "values" "[I").before [.ref (a 0), .int x1].toArray s = true := hts _ (List.mem_of_getElem? (i := 2) rfl)
  have hi3 : ∀ w ∈ wsX30, w ∈ wsX3_insert := fun w h => List.mem_cons_of_mem _ (List.mem_append_right _ (h))
  have hl := lv_entry ([.ref (a 0), .int x1]) (n := 3) (Nat.le_of_ble_eq_true rfl)
  rw [lg_entry_eq]
  generalize (lg_sl ([.ref (a 0), .int x1]) ++ List.replicate (3 - (lg_sl ([.ref (a 0), .int x1])).length) Slot.unset).toArray = ls at hl ⊢
  have hl : lv_has ls 3 [(0, .ref (a 0)), (1, .int x1)] := hl
  refine lv_aload_n hx hb dX3_insert_0 rfl (lv_at hl 0 rfl) ?_
  refine va_get (D := D) (ci := 2) (C := RX3) (T := TX3) (N := 2) hx hb hts hi3 hown hK hP 0 sr_0 rfl 1 (by decide) wd1 (fun _ h9 => h9) rfl dX3_insert_1 ?_
  refine lv_if_lt (tgt := 16) hx hb dX3_insert_4 (by decide) (fun c4 => ?_) (fun c4 => ?_)
  · exact rw_vret (_, _) hx hb hr hP hD hS (Eq.trans (if_pos c4) (rfl)) dX3_insert_16 hlocks
  · refine lv_aload_n hx hb dX3_insert_7 rfl (lv_at hl 0 rfl) ?_
    refine va_get (D := D) (ci := 2) (C := RX3) (T := TX3) (N := 2) hx hb hts hi3 hown hK hP 0 sr_0 rfl 1 (by decide) wd1 (fun _ h9 => h9) rfl dX3_insert_8 ?_
    refine lv_bipush (v := 20) hx hb dX3_insert_11 (by decide) ?_
    refine lv_icmp_lt (tgt := 17) hx hb dX3_insert_13 (by decide) (fun c13 => ?_) (fun c13 => ?_)
    · refine lv_aload_n hx hb dX3_insert_17 rfl (lv_at hl 0 rfl) ?_
      refine va_get (D := D) (ci := 2) (C := RX3) (T := TX3) (N := 2) hx hb hts hi3 hown hK hP 0 sr_0 rfl 1 (by decide) wd1 (fun _ h9 => h9) rfl dX3_insert_18 ?_
      refine lv_istore_n (lv' := [(2, .int _), (0, .ref _), (1, .int _)]) hx hb dX3_insert_21 rfl hl (by decide) rfl (fun ls hl => ?_)
      have L22 : ∀ (n22 : Nat) (v2 : Int32) (Vw : Nat → Int32), (0 ≤ v2.toInt) → (v2.toInt ≤ 19) → (v2.toInt < (n22 : Int)) → sp_X3_insert V z x1 = lp22_X3_insert z x1 (n22) v2 Vw → ∀ (ls : Array Slot), lv_has ls 3 [(2, .int v2), (0, .ref (a 0)), (1, .int x1)] → ∀ (H : Heap) (locs : List Loc), va_P D vwCl (sr cI a Vw z) H → va_D A (sr cI a Vw z) → va_S A s.heap H locs → W p l e (headSpec wsX3_insert ({ frames := 0, cells := 0, slots := 0, locals := 0 } : Room)).room s m [.ref (a 0), .int x1].toArray below meth c H locs 0 0 (MQ below (va_Qv (fun (u : ((Nat → Int32) × Int32)) => u = sp_X3_insert V z x1) (fun u => rwB D A (sr cI a u.1 u.2)) A) [.ref (a 0), .int x1].toArray s 0 0 A) (F0 m 22 ls []) := by
        intro n22
        induction n22 with
        | zero => intro v2 Vw i1 i2 im; exfalso; omega
        | succ n22 ih22 =>
          intro v2 Vw i1 i2 im hsp22 ls hl H locs hP hD hS
          refine lv_iload_n hx hb dX3_insert_22 rfl (lv_at hl 0 rfl) ?_
          refine lv_if_le (tgt := 58) hx hb dX3_insert_23 (by decide) (fun c23 => ?_) (fun c23 => ?_)
          · refine lv_aload_n hx hb dX3_insert_58 rfl (lv_at hl 1 rfl) ?_
            refine va_get (D := D) (ci := 2) (C := RX3) (T := TX3) (N := 2) hx hb hts hi3 hown hK hP 0 sr_0 rfl 0 (by decide) wd2 (fun _ h9 => h9) rfl dX3_insert_59 ?_
            refine lv_iload_n hx hb dX3_insert_62 rfl (lv_at hl 0 rfl) ?_
            refine lv_iload_n hx hb dX3_insert_63 rfl (lv_at hl 2 rfl) ?_
            refine my_iast hx hb hK hP hD hS 1 0 sr_1 rfl (sr_s1 _ _) (inT i1 (by omega)) dX3_insert_64 (fun H locs hP hD hS => ?_)
            refine lv_aload_n hx hb dX3_insert_65 rfl (lv_at hl 1 rfl) ?_
            refine lv_dup hx hb dX3_insert_66 rfl ?_
            refine va_get (D := D) (ci := 2) (C := RX3) (T := TX3) (N := 2) hx hb hts hi3 hown hK hP 0 sr_0 rfl 1 (by decide) wd1 (fun _ h9 => h9) rfl dX3_insert_67 ?_
            refine lv_iconst (v := 1) hx hb dX3_insert_70 (by decide) ?_
            refine lv_iadd hx hb dX3_insert_71 ?_
            refine my_put (D := D) (ci := 2) (C := RX3) (T := TX3) (N := 2) (ty := .int) hx hb hts hi3 tyX3 tyX3_ok nmX3 hown hK hP hD hS 0 sr_0 rfl 1 (by decide) wd1 (fun _ h9 => h9) rfl (by decide +kernel) rfl rfl (Nat.le_of_ble_eq_true rfl) (sr_f1 _) dX3_insert_72 (fun H locs hP hD hS => ?_)
            exact rw_vret (_, _) hx hb hr hP hD hS (Eq.trans hsp22 (Eq.trans (lp22_X3_insert_s _ _ _ _ _) (Eq.trans (if_pos c23) (rfl)))) dX3_insert_75 hlocks
          · refine lv_aload_n hx hb dX3_insert_26 rfl (lv_at hl 1 rfl) ?_
            refine va_get (D := D) (ci := 2) (C := RX3) (T := TX3) (N := 2) hx hb hts hi3 hown hK hP 0 sr_0 rfl 0 (by decide) wd2 (fun _ h9 => h9) rfl dX3_insert_27 ?_
            refine lv_iload_n hx hb dX3_insert_30 rfl (lv_at hl 0 rfl) ?_
            refine lv_iconst (v := 1) hx hb dX3_insert_31 (by decide) ?_
            refine lv_isub hx hb dX3_insert_32 ?_
            refine va_iald hx hb hK hP 1 0 sr_1 rfl (ins1 i1 i2 c23) dX3_insert_33 ?_
            refine lv_iload_n hx hb dX3_insert_34 rfl (lv_at hl 2 rfl) ?_
            refine lv_icmp_le (tgt := 58) hx hb dX3_insert_35 (by decide) (fun c35 => ?_) (fun c35 => ?_)
            · refine lv_aload_n hx hb dX3_insert_58 rfl (lv_at hl 1 rfl) ?_
              refine va_get (D := D) (ci := 2) (C := RX3) (T := TX3) (N := 2) hx hb hts hi3 hown hK hP 0 sr_0 rfl 0 (by decide) wd2 (fun _ h9 => h9) rfl dX3_insert_59 ?_
              refine lv_iload_n hx hb dX3_insert_62 rfl (lv_at hl 0 rfl) ?_
              refine lv_iload_n hx hb dX3_insert_63 rfl (lv_at hl 2 rfl) ?_
              refine my_iast hx hb hK hP hD hS 1 0 sr_1 rfl (sr_s1 _ _) (inT i1 (by omega)) dX3_insert_64 (fun H locs hP hD hS => ?_)
              refine lv_aload_n hx hb dX3_insert_65 rfl (lv_at hl 1 rfl) ?_
              refine lv_dup hx hb dX3_insert_66 rfl ?_
              refine va_get (D := D) (ci := 2) (C := RX3) (T := TX3) (N := 2) hx hb hts hi3 hown hK hP 0 sr_0 rfl 1 (by decide) wd1 (fun _ h9 => h9) rfl dX3_insert_67 ?_
              refine lv_iconst (v := 1) hx hb dX3_insert_70 (by decide) ?_
              refine lv_iadd hx hb dX3_insert_71 ?_
              refine my_put (D := D) (ci := 2) (C := RX3) (T := TX3) (N := 2) (ty := .int) hx hb hts hi3 tyX3 tyX3_ok nmX3 hown hK hP hD hS 0 sr_0 rfl 1 (by decide) wd1 (fun _ h9 => h9) rfl (by decide +kernel) rfl rfl (Nat.le_of_ble_eq_true rfl) (sr_f1 _) dX3_insert_72 (fun H locs hP hD hS => ?_)
              exact rw_vret (_, _) hx hb hr hP hD hS (Eq.trans hsp22 (Eq.trans (lp22_X3_insert_s _ _ _ _ _) (Eq.trans (if_neg c23) (Eq.trans (if_pos c35) (rfl))))) dX3_insert_75 hlocks
            · refine lv_aload_n hx hb dX3_insert_38 rfl (lv_at hl 1 rfl) ?_
              refine va_get (D := D) (ci := 2) (C := RX3) (T := TX3) (N := 2) hx hb hts hi3 hown hK hP 0 sr_0 rfl 0 (by decide) wd2 (fun _ h9 => h9) rfl dX3_insert_39 ?_
              refine lv_iload_n hx hb dX3_insert_42 rfl (lv_at hl 0 rfl) ?_
              refine lv_aload_n hx hb dX3_insert_43 rfl (lv_at hl 1 rfl) ?_
              refine va_get (D := D) (ci := 2) (C := RX3) (T := TX3) (N := 2) hx hb hts hi3 hown hK hP 0 sr_0 rfl 0 (by decide) wd2 (fun _ h9 => h9) rfl dX3_insert_44 ?_
              refine lv_iload_n hx hb dX3_insert_47 rfl (lv_at hl 0 rfl) ?_
              refine lv_iconst (v := 1) hx hb dX3_insert_48 (by decide) ?_
              refine lv_isub hx hb dX3_insert_49 ?_
              refine va_iald hx hb hK hP 1 0 sr_1 rfl (ins1 i1 i2 c23) dX3_insert_50 ?_
              refine my_iast hx hb hK hP hD hS 1 0 sr_1 rfl (sr_s1 _ _) (inT i1 (by omega)) dX3_insert_51 (fun H locs hP hD hS => ?_)
              refine lv_iinc (v := _ + (-1 : Int32)) (lv' := [(2, .int _), (0, .ref _), (1, .int _)]) hx hb dX3_insert_52 hl (k := 0) rfl rfl (by decide) rfl (fun ls hl => ?_)
              refine lv_goto (tgt := 22) hx hb dX3_insert_55 (by decide) ?_
              exact ih22 _ _ (ins4 i1 c23) (ins5 i1 i2 c23) (ins6 i1 c23 im) (Eq.trans hsp22 (Eq.trans (lp22_X3_insert_s _ _ _ _ _) (Eq.trans (if_neg c23) (Eq.trans (if_neg c35) (rfl))))) _ (lv_sub hl [0, 1, 2] rfl) _ _ hP hD hS
      exact L22 21 _ _ (ins0 c4) (ins2 c13) (ins3 c13) (Eq.trans (if_neg c4) (Eq.trans (if_pos c13) (rfl))) _ (lv_sub hl [0, 1, 2] rfl) _ _ hP hD hS
    · exact rw_vret (_, _) hx hb hr hP hD hS (Eq.trans (if_neg c4) (Eq.trans (if_neg c13) (rfl))) dX3_insert_16 hlocks
