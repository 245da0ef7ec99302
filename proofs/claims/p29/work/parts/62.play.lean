/-! PickSlots: a text played (printed by wip/whole/m14.py) -/
def sp_X5_play (Y : Nat → va_H) (S : Nat → Int32) (q : Nat → Int32) (V : Nat → Int32) (z : Int32) (U : Nat → Int32) (y : Int32) (I : Nat → Int32) : Int32 × ((Nat → va_H) × (Nat → Int32) × (Nat → Int32)) :=
  let k1_1 : Int32 × ((Nat → va_H) × (Nat → Int32) × (Nat → Int32)) := sp_X5_tryText Y S q V z U y I; let Y2 : Nat → va_H := k1_1.2.1; let q3 : Nat → Int32 := k1_1.2.2.1; let I4 : Nat → Int32 := k1_1.2.2.2; if (I4 2) = 0 then (let k19_5 : Int32 × ((Nat → va_H) × (Nat → Int32)) := sp_X5_endTrial Y2 S q3 V z U y I4 k1_1.1; let Y6 : Nat → va_H := k19_5.2.1; let I7 : Nat → Int32 := k19_5.2.2; (k19_5.1, (Y6, q3, I7))) else (let k19_5 : Int32 × ((Nat → va_H) × (Nat → Int32)) := sp_X5_endTrial Y2 S q3 V z U y I4 (-2 : Int32); let Y6 : Nat → va_H := k19_5.2.1; let I7 : Nat → Int32 := k19_5.2.2; (k19_5.1, (Y6, q3, I7)))
set_option maxHeartbeats 4000000 in
set_option maxRecDepth 100000 in
theorem c_X5_play (l : Launch) (D : va_G) (cI cC cW : ClassId) (t : Nat → Nat) (h : Nat → Nat) (sz : Nat) (Y : Nat → va_H) (S : Nat → Int32) (q : Nat → Int32) (V : Nat → Int32) (z : Int32) (U : Nat → Int32) (y : Int32) (I : Nat → Int32) (hsf : sfN (Y 4).2.1) (hch : ∀ i, narrow .char (.int (S i)) = .int (S i)) (hst : 0 ≤ (I 0).toInt) : Met l yX5_play wsX5_play ({ frames := 7, cells := 0, slots := 0, locals := 151 }) (va_Pc [.ref (h 0)] (rwP D (tyL cI cC cW) (ps cI cC cW h Y S q V z U y I) t sz)) (va_Qi (fun (r : Int32) (u : ((Nat → va_H) × (Nat → Int32) × (Nat → Int32))) => (r, u) = sp_X5_play Y S q V z U y I) (fun u => rwB D (va_A (ps cI cC cW h Y S q V z U y I) sz) (ps cI cC cW h u.1 S u.2.1 V z U y u.2.2)) (va_A (ps cI cC cW h Y S q V z U y I) sz)) 0 0 (va_A (ps cI cC cW h Y S q V z U y I) sz) := by
  refine Met.ofW (cc := cX5_play) (maxL := 2) (ret := (some .int)) (by decide) rfl ?_
  intro p e s m args below meth c s₁ B hml hv
  obtain ⟨rfl, hsz, hP, hK, hD0, hX⟩ := hv
  have hx := B.exec
  have hb := B.bytes
  have hr := B.returns
  have hts := atoms_spec (ws := wsX5_play) B.pre
  have hown : s.vm.findClass RX5 = some m.cls := findClass_of_methodNamed B.named
  have hlocks := B.notSynchronized
  subst hsz
  have hD := hD0.self (sz := s.heap.size)
  generalize hAe : va_A (ps cI cC cW h Y S q V z U y I) s.heap.size = A at hD hX ⊢
  have hA : ∀ q : Nat, s.heap.size ≤ q → A q := fun q h => by rw [← hAe]; exact Or.inr h
  have hS : va_S A s.heap s.heap [] := va_S.rf
  have wd1 : (Cond.fieldLink RX5 131 "PickSlots" "faultReason" "I").before [.ref (h 0)].toArray s = true := hts _ (List.mem_of_getElem? (i := 1) rfl)
  have hi5 : ∀ w ∈ wsX50, w ∈ wsX5_play := fun w h => List.mem_cons_of_mem _ (List.mem_append_left _ (List.mem_append_left _ (List.mem_append_left _ (List.mem_append_right _ (h)))))
  have CF : CallFix p m c cX5_play 2 s [.ref (h 0)].toArray wsX5_play RX5 := ⟨hx, hb, hml, hown, hts⟩
  have hl := lv_entry ([.ref (h 0)]) (n := 2) (Nat.le_of_ble_eq_true rfl)
  rw [lg_entry_eq]
  generalize (lg_sl ([.ref (h 0)]) ++ List.replicate (2 - (lg_sl ([.ref (h 0)])).length) Slot.unset).toArray = ls at hl ⊢
  have hl : lv_has ls 2 [(0, .ref (h 0))] := hl
  refine lv_aload_n hx hb dX5_play_0 rfl (lv_at hl 0 rfl) ?_
  refine rwV CF (c_X5_tryText l D cI cC cW t _ _ _ _ _ _ _ _ _ _  (by assumption) (by assumption)) (cwV 0 hts gX5_play_X5_tryText rfl rfl rfl (by decide +kernel) ⟨Nat.le_of_ble_eq_true rfl, Nat.le_of_ble_eq_true rfl⟩) hP hD hK hX hS hA 0 4 ps_0 rfl rfl hl.1 rfl (Nat.le_of_ble_eq_true rfl) dX5_play_1 ⟨Nat.zero_le _, Nat.zero_le _⟩ (fun H locs hP hD hS => ?_)
  refine lv_istore_n (lv' := [(1, .int _), (0, .ref _)]) hx hb dX5_play_4 rfl hl (by decide) rfl (fun ls hl => ?_)
  refine lv_aload_n hx hb dX5_play_5 rfl (lv_at hl 1 rfl) ?_
  refine lv_aload_n hx hb dX5_play_6 rfl (lv_at hl 1 rfl) ?_
  refine va_get (D := D) (ci := 4) (C := RX5) (T := TX5) (N := 9) hx hb hts hi5 hown hK hP 0 ps_0 rfl 8 (by decide) wd1 (fun _ h9 => h9) rfl dX5_play_7 ?_
  refine lv_if_ne (tgt := 17) hx hb dX5_play_10 (by decide) (fun c10 => ?_) (fun c10 => ?_)
  · refine lv_bipush (v := -2) hx hb dX5_play_17 (by decide) ?_
    refine rwV CF (c_X5_endTrial l D cI cC cW t _ _ _ _ _ _ _ _ _ _ _ (tt_I hst)) (cwV 1 hts gX5_play_X5_endTrial rfl rfl rfl (by decide +kernel) ⟨Nat.le_of_ble_eq_true rfl, Nat.le_of_ble_eq_true rfl⟩) hP hD hK hX hS hA 0 4 ps_0 rfl rfl hl.1 rfl (Nat.le_of_ble_eq_true rfl) dX5_play_19 ⟨Nat.zero_le _, Nat.zero_le _⟩ (fun H locs hP hD hS => ?_)
    exact rw_ret (_, _, _) hx hb hr hP hD hS (Eq.trans (if_neg c10) (rfl)) dX5_play_22 hlocks
  · refine lv_iload_n hx hb dX5_play_13 rfl (lv_at hl 0 rfl) ?_
    refine lv_goto (tgt := 19) hx hb dX5_play_14 (by decide) ?_
    refine rwV CF (c_X5_endTrial l D cI cC cW t _ _ _ _ _ _ _ _ _ _ _ (tt_I hst)) (cwV 1 hts gX5_play_X5_endTrial rfl rfl rfl (by decide +kernel) ⟨Nat.le_of_ble_eq_true rfl, Nat.le_of_ble_eq_true rfl⟩) hP hD hK hX hS hA 0 4 ps_0 rfl rfl hl.1 rfl (Nat.le_of_ble_eq_true rfl) dX5_play_19 ⟨Nat.zero_le _, Nat.zero_le _⟩ (fun H locs hP hD hS => ?_)
    exact rw_ret (_, _, _) hx hb hr hP hD hS (Eq.trans (if_pos c10) (rfl)) dX5_play_22 hlocks
