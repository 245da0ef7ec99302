/-! the model: an order done (printed by wip/whole/m8.py) -/
def sp_X6_does (N : Nat → Int32) (Z : Nat → Nat → Int32) : Nat → Int32 :=
  if (Z 0 6) = (109 : Int32) then (let k93_1 : Int32 × (Nat → Int32) := sp_X6_goes N Z (Z 0 7) (Z 0 8); let N2 : Nat → Int32 := k93_1.2; N2) else (if (Z 0 6) = (112 : Int32) then (let k57_1 : Int32 × (Nat → Int32) := sp_X6_picks N Z (Z 0 7) (Z 0 8); let N2 : Nat → Int32 := k57_1.2; N2) else (if (Z 0 6) = (114 : Int32) then (let k77_1 : Int32 × (Nat → Int32) := sp_X6_brings N Z (Z 0 7) (sp_X6_room N Z (Z 0 7)); let N2 : Nat → Int32 := k77_1.2; N2) else (if (Z 0 6) = (120 : Int32) then (let k115_1 : Int32 × (Nat → Int32) := sp_X6_goes N Z (Z 0 7) (sp_X6_of N Z (Z 0 8) (6 : Int32)); let N2 : Nat → Int32 := k115_1.2; N2) else (let k123_1 : Nat → Int32 := sp_X6_ends N Z; k123_1))))
set_option maxHeartbeats 4000000 in
set_option maxRecDepth 100000 in
theorem c_X6_does (l : Launch) (D : va_G) (cI cC cW : ClassId) (t : Nat → Nat) (a : Nat → Nat) (sz : Nat) (N : Nat → Int32) (Z : Nat → Nat → Int32) (hsf : sfN N) (hth : ¬ sp_X6_isThere N Z = 0) (hcan : ¬ sp_X6_can N Z = 0) (hld : ¬ N 3 = 0) : Met l yX6_does wsX6_does ({ frames := 4, cells := 0, slots := 0, locals := 94 }) (va_Pc [.ref (a 0)] (rwP D (tyL cI cC cW) (md cI a N Z) t sz)) (va_Qv (fun (u : Nat → Int32) => u = sp_X6_does N Z) (fun u => rwB D (va_A (md cI a N Z) sz) (md cI a u Z)) (va_A (md cI a N Z) sz)) 0 0 (va_A (md cI a N Z) sz) := by
  refine Met.ofW (cc := cX6_does) (maxL := 2) (ret := none) (by decide) rfl ?_
  intro p e s m args below meth c s₁ B hml hv
  obtain ⟨rfl, hsz, hP, hK, hD0, hX⟩ := hv
  have hx := B.exec
  have hb := B.bytes
  have hr := B.returns
  have hts := atoms_spec (ws := wsX6_does) B.pre
  have hown : s.vm.findClass RX6 = some m.cls := findClass_of_methodNamed B.named
  have hlocks := B.notSynchronized
  subst hsz
  have hD := hD0.self (sz := s.heap.size)
  generalize hAe : va_A (md cI a N Z) s.heap.size = A at hD hX ⊢
  have hA : ∀ q : Nat, s.heap.size ≤ q → A q := fun q h => by rw [← hAe]; exact Or.inr h
  have hS : va_S A s.heap s.heap [] := va_S.rf
  have wd1 : (Cond.fieldLink RX6 165 "PickSlotsModel" "letter" "I").before [.ref (a 0)].toArray s = true := hts _ (List.mem_of_getElem? (i := 1) rfl)
  have wd2 : (Cond.fieldLink RX6 168 "PickSlotsModel" "first" "I").before [.ref (a 0)].toArray s = true := hts _ (List.mem_of_getElem? (i := 2) rfl)
  have wd3 : (Cond.fieldLink RX6 171 "PickSlotsModel" "second" "I").before [.ref (a 0)].toArray s = true := hts _ (List.mem_of_getElem? (i := 3) rfl)
  have hi6 : ∀ w ∈ wsX60, w ∈ wsX6_does := fun w h => List.mem_cons_of_mem _ (List.mem_append_right _ (h))
  have CF : CallFix p m c cX6_does 2 s [.ref (a 0)].toArray wsX6_does RX6 := ⟨hx, hb, hml, hown, hts⟩
  have hl := lv_entry ([.ref (a 0)]) (n := 2) (Nat.le_of_ble_eq_true rfl)
  rw [lg_entry_eq]
  generalize (lg_sl ([.ref (a 0)]) ++ List.replicate (2 - (lg_sl ([.ref (a 0)])).length) Slot.unset).toArray = ls at hl ⊢
  have hl : lv_has ls 2 [(0, .ref (a 0))] := hl
  refine lv_iconst (v := 0) hx hb dX6_does_0 (by decide) ?_
  refine lv_istore_n (lv' := [(1, .int _), (0, .ref _)]) hx hb dX6_does_1 rfl hl (by decide) rfl (fun ls hl => ?_)
  refine lv_aload_n hx hb dX6_does_2 rfl (lv_at hl 1 rfl) ?_
  refine va_get (D := D) (ci := 5) (C := RX6) (T := TX6) (N := 17) hx hb hts hi6 hown hK hP 0 md_0 rfl 12 (by decide) wd1 (fun _ h9 => h9) rfl dX6_does_3 ?_
  by_cases c6_109 : (Z 0 6) = (109 : Int32)
  · refine lv_lookup (off := 78) (tgt := 84) hx hb dX6_does_6 (by decide) (by rw [c6_109]; first | done | rfl) (by decide) ?_
    refine lv_aload_n hx hb dX6_does_84 rfl (lv_at hl 1 rfl) ?_
    refine lv_aload_n hx hb dX6_does_85 rfl (lv_at hl 1 rfl) ?_
    refine va_get (D := D) (ci := 5) (C := RX6) (T := TX6) (N := 17) hx hb hts hi6 hown hK hP 0 md_0 rfl 13 (by decide) wd2 (fun _ h9 => h9) rfl dX6_does_86 ?_
    refine lv_aload_n hx hb dX6_does_89 rfl (lv_at hl 1 rfl) ?_
    refine va_get (D := D) (ci := 5) (C := RX6) (T := TX6) (N := 17) hx hb hts hi6 hown hK hP 0 md_0 rfl 14 (by decide) wd3 (fun _ h9 => h9) rfl dX6_does_90 ?_
    refine rwV CF (c_X6_goes l D cI cC cW t _ _ _ _ _ _ (hsf) (thF hsf hth (by rw [c6_109]; decide))) (cwV 2 hts gX6_does_X6_goes rfl rfl rfl (by decide +kernel) ⟨Nat.le_of_ble_eq_true rfl, Nat.le_of_ble_eq_true rfl⟩) hP hD hK hX hS hA 0 5 md_0 rfl rfl hl.1 rfl (Nat.le_of_ble_eq_true rfl) dX6_does_93 ⟨Nat.zero_le _, Nat.zero_le _⟩ (fun H locs hP hD hS => ?_)
    refine lv_istore_n (lv' := [(1, .int _), (0, .ref _)]) hx hb dX6_does_96 rfl hl (by decide) rfl (fun ls hl => ?_)
    refine lv_goto (tgt := 126) hx hb dX6_does_97 (by decide) ?_
    exact rw_vret _ hx hb hr hP hD hS (Eq.trans (if_pos c6_109) (rfl)) dX6_does_126 hlocks
  · by_cases c6_112 : (Z 0 6) = (112 : Int32)
    · refine lv_lookup (off := 42) (tgt := 48) hx hb dX6_does_6 (by decide) (by rw [c6_112]; first | done | rfl) (by decide) ?_
      refine lv_aload_n hx hb dX6_does_48 rfl (lv_at hl 1 rfl) ?_
      refine lv_aload_n hx hb dX6_does_49 rfl (lv_at hl 1 rfl) ?_
      refine va_get (D := D) (ci := 5) (C := RX6) (T := TX6) (N := 17) hx hb hts hi6 hown hK hP 0 md_0 rfl 13 (by decide) wd2 (fun _ h9 => h9) rfl dX6_does_50 ?_
      refine lv_aload_n hx hb dX6_does_53 rfl (lv_at hl 1 rfl) ?_
      refine va_get (D := D) (ci := 5) (C := RX6) (T := TX6) (N := 17) hx hb hts hi6 hown hK hP 0 md_0 rfl 14 (by decide) wd3 (fun _ h9 => h9) rfl dX6_does_54 ?_
      refine rwV CF (c_X6_picks l D cI cC cW t _ _ _ _ _ _ (thF hsf hth (by rw [c6_112]; decide)) (hld)) (cwV 2 hts gX6_does_X6_picks rfl rfl rfl (by decide +kernel) ⟨Nat.le_of_ble_eq_true rfl, Nat.le_of_ble_eq_true rfl⟩) hP hD hK hX hS hA 0 5 md_0 rfl rfl hl.1 rfl (Nat.le_of_ble_eq_true rfl) dX6_does_57 ⟨Nat.zero_le _, Nat.zero_le _⟩ (fun H locs hP hD hS => ?_)
      refine lv_istore_n (lv' := [(1, .int _), (0, .ref _)]) hx hb dX6_does_60 rfl hl (by decide) rfl (fun ls hl => ?_)
      refine lv_goto (tgt := 126) hx hb dX6_does_61 (by decide) ?_
      exact rw_vret _ hx hb hr hP hD hS (Eq.trans (if_neg c6_109) (Eq.trans (if_pos c6_112) (rfl))) dX6_does_126 hlocks
    · by_cases c6_114 : (Z 0 6) = (114 : Int32)
      · refine lv_lookup (off := 58) (tgt := 64) hx hb dX6_does_6 (by decide) (by rw [c6_114]; first | done | rfl) (by decide) ?_
        refine lv_aload_n hx hb dX6_does_64 rfl (lv_at hl 1 rfl) ?_
        refine lv_aload_n hx hb dX6_does_65 rfl (lv_at hl 1 rfl) ?_
        refine va_get (D := D) (ci := 5) (C := RX6) (T := TX6) (N := 17) hx hb hts hi6 hown hK hP 0 md_0 rfl 13 (by decide) wd2 (fun _ h9 => h9) rfl dX6_does_66 ?_
        refine lv_aload_n hx hb dX6_does_69 rfl (lv_at hl 1 rfl) ?_
        refine lv_aload_n hx hb dX6_does_70 rfl (lv_at hl 1 rfl) ?_
        refine va_get (D := D) (ci := 5) (C := RX6) (T := TX6) (N := 17) hx hb hts hi6 hown hK hP 0 md_0 rfl 13 (by decide) wd2 (fun _ h9 => h9) rfl dX6_does_71 ?_
        refine roV CF (c_X6_room l D cI cC cW t _ _ _ _ (thF hsf hth (by rw [c6_114]; decide))) (cwV 1 hts gX6_does_X6_room rfl rfl rfl (by decide +kernel) ⟨Nat.le_of_ble_eq_true rfl, Nat.le_of_ble_eq_true rfl⟩) hP hK hX hS 0 5 md_0 rfl rfl hl.1 rfl (Nat.le_of_ble_eq_true rfl) dX6_does_74 ⟨Nat.zero_le _, Nat.zero_le _⟩ ?_
        refine rwV CF (c_X6_brings l D cI cC cW t _ _ _ _ _ _ (thF hsf hth (by rw [c6_114]; decide)) (hld)) (cwV 2 hts gX6_does_X6_brings rfl rfl rfl (by decide +kernel) ⟨Nat.le_of_ble_eq_true rfl, Nat.le_of_ble_eq_true rfl⟩) hP hD hK hX hS hA 0 5 md_0 rfl rfl hl.1 rfl (Nat.le_of_ble_eq_true rfl) dX6_does_77 ⟨Nat.zero_le _, Nat.zero_le _⟩ (fun H locs hP hD hS => ?_)
        refine lv_istore_n (lv' := [(1, .int _), (0, .ref _)]) hx hb dX6_does_80 rfl hl (by decide) rfl (fun ls hl => ?_)
        refine lv_goto (tgt := 126) hx hb dX6_does_81 (by decide) ?_
        exact rw_vret _ hx hb hr hP hD hS (Eq.trans (if_neg c6_109) (Eq.trans (if_neg c6_112) (Eq.trans (if_pos c6_114) (rfl)))) dX6_does_126 hlocks
      · by_cases c6_120 : (Z 0 6) = (120 : Int32)
        · refine lv_lookup (off := 94) (tgt := 100) hx hb dX6_does_6 (by decide) (by rw [c6_120]; first | done | rfl) (by decide) ?_
          refine lv_aload_n hx hb dX6_does_100 rfl (lv_at hl 1 rfl) ?_
          refine lv_aload_n hx hb dX6_does_101 rfl (lv_at hl 1 rfl) ?_
          refine va_get (D := D) (ci := 5) (C := RX6) (T := TX6) (N := 17) hx hb hts hi6 hown hK hP 0 md_0 rfl 13 (by decide) wd2 (fun _ h9 => h9) rfl dX6_does_102 ?_
          refine lv_aload_n hx hb dX6_does_105 rfl (lv_at hl 1 rfl) ?_
          refine lv_aload_n hx hb dX6_does_106 rfl (lv_at hl 1 rfl) ?_
          refine va_get (D := D) (ci := 5) (C := RX6) (T := TX6) (N := 17) hx hb hts hi6 hown hK hP 0 md_0 rfl 14 (by decide) wd3 (fun _ h9 => h9) rfl dX6_does_107 ?_
          refine lv_bipush (v := 6) hx hb dX6_does_110 (by decide) ?_
          refine roV CF (c_X6_of l D cI cC cW t _ _ _ _ _ (thS hsf hth c6_120) (v11_6)) (cwV 2 hts gX6_does_X6_of rfl rfl rfl (by decide +kernel) ⟨Nat.le_of_ble_eq_true rfl, Nat.le_of_ble_eq_true rfl⟩) hP hK hX hS 0 5 md_0 rfl rfl hl.1 rfl (Nat.le_of_ble_eq_true rfl) dX6_does_112 ⟨Nat.zero_le _, Nat.zero_le _⟩ ?_
          refine rwV CF (c_X6_goes l D cI cC cW t _ _ _ _ _ _ (hsf) (thF hsf hth (by rw [c6_120]; decide))) (cwV 2 hts gX6_does_X6_goes rfl rfl rfl (by decide +kernel) ⟨Nat.le_of_ble_eq_true rfl, Nat.le_of_ble_eq_true rfl⟩) hP hD hK hX hS hA 0 5 md_0 rfl rfl hl.1 rfl (Nat.le_of_ble_eq_true rfl) dX6_does_115 ⟨Nat.zero_le _, Nat.zero_le _⟩ (fun H locs hP hD hS => ?_)
          refine lv_istore_n (lv' := [(1, .int _), (0, .ref _)]) hx hb dX6_does_118 rfl hl (by decide) rfl (fun ls hl => ?_)
          refine lv_goto (tgt := 126) hx hb dX6_does_119 (by decide) ?_
          exact rw_vret _ hx hb hr hP hD hS (Eq.trans (if_neg c6_109) (Eq.trans (if_neg c6_112) (Eq.trans (if_neg c6_114) (Eq.trans (if_pos c6_120) (rfl))))) dX6_does_126 hlocks
        · refine lv_lookup (off := 116) (tgt := 122) hx hb dX6_does_6 (by decide) ((lv_osw c6_109 (by decide)).trans ((lv_osw c6_112 (by decide)).trans ((lv_osw c6_114 (by decide)).trans ((lv_osw c6_120 (by decide)).trans (rfl))))) (by decide) ?_
          refine lv_aload_n hx hb dX6_does_122 rfl (lv_at hl 1 rfl) ?_
          refine rwVv CF (c_X6_ends l D cI cC cW t _ _ _ _  (hsf) (canW hcan c6_109 c6_112 c6_114 c6_120)) (cwV 0 hts gX6_does_X6_ends rfl rfl rfl (by decide +kernel) ⟨Nat.le_of_ble_eq_true rfl, Nat.le_of_ble_eq_true rfl⟩) hP hD hK hX hS hA 0 5 md_0 rfl rfl hl.1 rfl (Nat.le_of_ble_eq_true rfl) dX6_does_123 ⟨Nat.zero_le _, Nat.zero_le _⟩ (fun H locs hP hD hS => ?_)
          exact rw_vret _ hx hb hr hP hD hS (Eq.trans (if_neg c6_109) (Eq.trans (if_neg c6_112) (Eq.trans (if_neg c6_114) (Eq.trans (if_neg c6_120) (rfl))))) dX6_does_126 hlocks
