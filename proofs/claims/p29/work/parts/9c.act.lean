/-! the law: act (printed by wip/p29/m_act.py) -/
theorem u5_r {x : Int32} : 1 ≤ ((1 : Int32) + upF x (5000 : Int32)).toInt ∧ ((1 : Int32) + upF x (5000 : Int32)).toInt ≤ 5000 := by
  obtain ⟨k, hk, e⟩ := upF_r (x := x) (w := 5000) (by decide)
  rw [show (5000 : Int32).toInt = 5000 from by decide] at hk
  rw [e, show (1 : Int32) + nI k = nI (1 + k) from nI_add 1 k, nI_toInt (by omega)]
  omega
set_option maxHeartbeats 4000000 in
set_option maxRecDepth 100000 in
theorem c_L_act (l : Launch) (D : va_G) (cI cC cW : ClassId) (t : Nat → Nat) (h : Nat → Nat) (dd : Nat) (sz : Nat) (Y : Nat → va_H) (S : Nat → Int32) (q : Nat → Int32) (V : Nat → Int32) (z : Int32) (U : Nat → Int32) (y : Int32) (I : Nat → Int32) (d : Nat → Int32) (x : Int32) (b BB : Int) (hw : wf b (Y 4).2.1 (Y 4).2.2) (hxt : xt BB (Y 4).2.1 d) (hbb : b ≤ 100000) (hB : BB ≤ 900000) (hn1 : 1 ≤ ((Y 4).2.1 0).toInt) (hst1 : 0 ≤ (I 0).toInt) (hst2 : (I 0).toInt ≤ 4) : Met l yL_act wsL_act ({ frames := 7, cells := 0, slots := 0, locals := 150 }) (va_Pc [.ref (h 0), .int x, .ref dd] (rwP D (tyL cI cC cW) (ps cI cC cW h Y S q V z U y I ++ dv cI dd d) t sz)) (va_Qi (fun (r : Int32) (u : (Nat → va_H) × (Nat → Int32) × (Nat → Int32)) => actP b BB Y I d x r u.1 u.2.1 u.2.2) (fun u => rwB D (va_A (ps cI cC cW h Y S q V z U y I ++ dv cI dd d) sz) (ps cI cC cW h u.1 S q V z U y u.2.1 ++ dv cI dd u.2.2)) (va_A (ps cI cC cW h Y S q V z U y I ++ dv cI dd d) sz)) 0 0 (va_A (ps cI cC cW h Y S q V z U y I ++ dv cI dd d) sz) := by
  refine Met.ofW (cc := cL_act) (maxL := 8) (ret := (some .int)) (by decide) rfl ?_
  intro p e s m args below meth c s₁ B hml hv
  obtain ⟨rfl, hsz, hP, hK, hD0, hX⟩ := hv
  have hx := B.exec
  have hb := B.bytes
  have hr := B.returns
  have hts := atoms_spec (ws := wsL_act) B.pre
  have hown : s.vm.findClass RL = some m.cls := findClass_of_methodNamed B.named
  have hlocks := B.notSynchronized
  subst hsz
  have hD := hD0.self (sz := s.heap.size)
  generalize hAe : va_A (ps cI cC cW h Y S q V z U y I ++ dv cI dd d) s.heap.size = A at hD hX ⊢
  have hA : ∀ q : Nat, s.heap.size ≤ q → A q := fun q h => by rw [← hAe]; exact Or.inr h
  have hS : va_S A s.heap s.heap [] := va_S.rf
  have CF : CallFix p m c cL_act 8 s [.ref (h 0), .int x, .ref dd].toArray wsL_act RL := ⟨hx, hb, hml, hown, hts⟩
  have hl := lv_entry ([.ref (h 0), .int x, .ref dd]) (n := 8) (Nat.le_of_ble_eq_true rfl)
  rw [lg_entry_eq]
  generalize (lg_sl ([.ref (h 0), .int x, .ref dd]) ++ List.replicate (8 - (lg_sl ([.ref (h 0), .int x, .ref dd])).length) Slot.unset).toArray = ls at hl ⊢
  have hl : lv_has ls 8 [(0, .ref (h 0)), (1, .int x), (2, .ref dd)] := hl
  have hsf := hw.sf
  have hB : BB ≤ 1000000 := by omega
  have hn0 : ¬ (Y 4).2.1 0 = 0 := fun w => by rw [w, i0] at hn1; omega
  obtain ⟨gi, hgl, egi⟩ := upF_r (x := x >>> ((4 : Int32) &&& 31)) hn1
  have h20 : gi < 20 := hw.n20 hgl
  have hgi : gK x ((Y 4).2.1 0) = gi := by unfold gK; rw [egi, xI (by omega)]
  have hun := u5_r (x := x >>> ((8 : Int32) &&& 31))
  refine lv_aload_n hx hb dL_act_0 rfl (lv_at hl 0 rfl) ?_
  refine lv_iconst (v := 0) hx hb dL_act_1 (by decide) ?_
  refine roV CF (c_X5_count l D cI cC cW t h Y S q V z U y I (0 : Int32) hsf) (cwV 1 hts gL_act_X5_count rfl rfl rfl (by decide +kernel) ⟨Nat.le_of_ble_eq_true rfl, Nat.le_of_ble_eq_true rfl⟩) (vP_l hP) hK hX hS 0 4 ps_0 rfl rfl hl.1 rfl (Nat.le_of_ble_eq_true rfl) dL_act_2 ⟨Nat.zero_le _, Nat.zero_le _⟩ ?_
  refine lv_top_eq (y := ((Y 4).2.1 0)) cnt0 ?_
  refine lv_istore_n (lv' := [(3, .int _), (0, .ref _), (1, .int _), (2, .ref _)]) hx hb dL_act_5 rfl hl (by decide) rfl (fun ls hl => ?_)
  refine lv_iload_n hx hb dL_act_6 rfl (lv_at hl 2 rfl) ?_
  refine lv_iconst (v := 4) hx hb dL_act_7 (by decide) ?_
  refine lv_ishr hx hb dL_act_8 ?_
  refine lv_iload_n hx hb dL_act_9 rfl (lv_at hl 0 rfl) ?_
  refine roS CF (c_L_up l D cI cC cW t (x >>> ((4 : Int32) &&& 31)) ((Y 4).2.1 0) hn0) (va_cwS 2 hts gL_act_L_up rfl rfl rfl (by decide +kernel) ⟨Nat.le_of_ble_eq_true rfl, Nat.le_of_ble_eq_true rfl⟩) vP_nil hK hX hS rfl hl.1 rfl (Nat.le_of_ble_eq_true rfl) dL_act_10 ⟨Nat.zero_le _, Nat.zero_le _⟩ ?_
  refine lv_top_eq (y := (nI gi)) egi ?_
  refine lv_istore (lv' := [(4, .int _), (3, .int _), (0, .ref _), (1, .int _), (2, .ref _)]) hx hb dL_act_13 hl (by decide) rfl (fun ls hl => ?_)
  refine lv_iload_n hx hb dL_act_15 rfl (lv_at hl 3 rfl) ?_
  refine lv_bipush (v := 8) hx hb dL_act_16 (by decide) ?_
  refine lv_ishr hx hb dL_act_18 ?_
  refine lv_bipush (v := 60) hx hb dL_act_19 (by decide) ?_
  refine roS CF (c_L_up l D cI cC cW t (x >>> ((8 : Int32) &&& 31)) (60 : Int32) (by decide)) (va_cwS 2 hts gL_act_L_up rfl rfl rfl (by decide +kernel) ⟨Nat.le_of_ble_eq_true rfl, Nat.le_of_ble_eq_true rfl⟩) vP_nil hK hX hS rfl hl.1 rfl (Nat.le_of_ble_eq_true rfl) dL_act_21 ⟨Nat.zero_le _, Nat.zero_le _⟩ ?_
  refine lv_istore (lv' := [(5, .int _), (4, .int _), (3, .int _), (0, .ref _), (1, .int _), (2, .ref _)]) hx hb dL_act_24 hl (by decide) rfl (fun ls hl => ?_)
  refine lv_iload_n hx hb dL_act_26 rfl (lv_at hl 4 rfl) ?_
  refine lv_bipush (v := 12) hx hb dL_act_27 (by decide) ?_
  refine roS CF (c_L_up l D cI cC cW t x (12 : Int32) (by decide)) (va_cwS 2 hts gL_act_L_up rfl rfl rfl (by decide +kernel) ⟨Nat.le_of_ble_eq_true rfl, Nat.le_of_ble_eq_true rfl⟩) vP_nil hK hX hS rfl hl.1 rfl (Nat.le_of_ble_eq_true rfl) dL_act_29 ⟨Nat.zero_le _, Nat.zero_le _⟩ ?_
  refine lv_topi (fun y32 ey32 => ?_)
  by_cases c32_0 : y32 = (0 : Int32)
  · refine lv_tableIn (tgt := 92) hx hb dL_act_32 (by rw [c32_0]; decide) (by rw [c32_0]; decide) (by rw [c32_0]; rfl) (by decide) ?_
    refine lv_aload_n hx hb dL_act_92 rfl (lv_at hl 3 rfl) ?_
    refine lv_iload hx hb dL_act_93 (lv_at hl 1 rfl) ?_
    refine lv_iconst (v := 1) hx hb dL_act_95 (by decide) ?_
    refine lv_iload_n hx hb dL_act_96 rfl (lv_at hl 4 rfl) ?_
    refine lv_bipush (v := 8) hx hb dL_act_97 (by decide) ?_
    refine lv_ishr hx hb dL_act_99 ?_
    refine lv_bipush (v := 40) hx hb dL_act_100 (by decide) ?_
    refine roS CF (c_L_up l D cI cC cW t (x >>> ((8 : Int32) &&& 31)) (40 : Int32) (by decide)) (va_cwS 2 hts gL_act_L_up rfl rfl rfl (by decide +kernel) ⟨Nat.le_of_ble_eq_true rfl, Nat.le_of_ble_eq_true rfl⟩) vP_nil hK hX hS rfl hl.1 rfl (Nat.le_of_ble_eq_true rfl) dL_act_102 ⟨Nat.zero_le _, Nat.zero_le _⟩ ?_
    refine lv_iadd hx hb dL_act_105 ?_
    obtain ⟨rk, Yk, Ik, ek⟩ : ∃ (r : Int32) (Y1 : Nat → va_H) (I1 : Nat → Int32), sp_X5_pick Y S q V z U y I (nI gi) ((1 : Int32) + (upF (x >>> ((8 : Int32) &&& 31)) (40 : Int32))) = (r, (Y1, I1)) := ⟨_, _, _, rfl⟩
    refine rwVse (wc := ps cI cC cW h Y S q V z U y I) (Rr := dv cI dd d) (wn := fun u : (Nat → va_H) × (Nat → Int32) => ps cI cC cW h u.1 S q V z U y u.2) (w1 := fun u : (Nat → va_H) × (Nat → Int32) => ps cI cC cW h u.1 S q V z U y u.2 ++ dv cI dd d) (r0 := rk) (u0 := (Yk, Ik)) ek (List.Perm.refl _) (fun _ => List.Perm.refl _) CF (c_X5_pick l D cI cC cW t h _ Y S q V z U y I (nI gi) ((1 : Int32) + (upF (x >>> ((8 : Int32) &&& 31)) (40 : Int32))) hsf hst1) (cwV 2 hts gL_act_X5_pick rfl rfl rfl (by decide +kernel) ⟨Nat.le_of_ble_eq_true rfl, Nat.le_of_ble_eq_true rfl⟩) hP hD hK hX hS hA 0 4 ps_0 rfl rfl hl.1 rfl (Nat.le_of_ble_eq_true rfl) dL_act_106 ⟨Nat.zero_le _, Nat.zero_le _⟩ (fun H locs hP hD hS => ?_)
    have hP : va_P D vwCl (ps cI cC cW h Yk S q V z U y Ik ++ dv cI dd d) H := hP
    have hD : va_D A (ps cI cC cW h Yk S q V z U y Ik ++ dv cI dd d) := hD
    exact W.iret hx hb hr (fun T hT _ => ⟨⟨_, (Yk, Ik, d), rfl, (act_n hst1 hst2 (x_pick hbb hB hw hxt) (Int.le_refl _) (show chg Y S q V z U y I (sp_X4_pickUnits (Y 4).2.1 (Y 4).2.2 (nI gi) ((1 : Int32) + (upF (x >>> ((8 : Int32) &&& 31)) (40 : Int32)))) = (rk, (Yk, Ik)) from ek) (by rw [← ey32, c32_0]; unfold mvK; decide)), by rw [hT]; exact hP, hD⟩, hS.F hT⟩) hS.2.2 dL_act_109 hlocks
  by_cases c32_1 : y32 = (1 : Int32)
  · refine lv_tableIn (tgt := 92) hx hb dL_act_32 (by rw [c32_1]; decide) (by rw [c32_1]; decide) (by rw [c32_1]; rfl) (by decide) ?_
    refine lv_aload_n hx hb dL_act_92 rfl (lv_at hl 3 rfl) ?_
    refine lv_iload hx hb dL_act_93 (lv_at hl 1 rfl) ?_
    refine lv_iconst (v := 1) hx hb dL_act_95 (by decide) ?_
    refine lv_iload_n hx hb dL_act_96 rfl (lv_at hl 4 rfl) ?_
    refine lv_bipush (v := 8) hx hb dL_act_97 (by decide) ?_
    refine lv_ishr hx hb dL_act_99 ?_
    refine lv_bipush (v := 40) hx hb dL_act_100 (by decide) ?_
    refine roS CF (c_L_up l D cI cC cW t (x >>> ((8 : Int32) &&& 31)) (40 : Int32) (by decide)) (va_cwS 2 hts gL_act_L_up rfl rfl rfl (by decide +kernel) ⟨Nat.le_of_ble_eq_true rfl, Nat.le_of_ble_eq_true rfl⟩) vP_nil hK hX hS rfl hl.1 rfl (Nat.le_of_ble_eq_true rfl) dL_act_102 ⟨Nat.zero_le _, Nat.zero_le _⟩ ?_
    refine lv_iadd hx hb dL_act_105 ?_
    obtain ⟨rk, Yk, Ik, ek⟩ : ∃ (r : Int32) (Y1 : Nat → va_H) (I1 : Nat → Int32), sp_X5_pick Y S q V z U y I (nI gi) ((1 : Int32) + (upF (x >>> ((8 : Int32) &&& 31)) (40 : Int32))) = (r, (Y1, I1)) := ⟨_, _, _, rfl⟩
    refine rwVse (wc := ps cI cC cW h Y S q V z U y I) (Rr := dv cI dd d) (wn := fun u : (Nat → va_H) × (Nat → Int32) => ps cI cC cW h u.1 S q V z U y u.2) (w1 := fun u : (Nat → va_H) × (Nat → Int32) => ps cI cC cW h u.1 S q V z U y u.2 ++ dv cI dd d) (r0 := rk) (u0 := (Yk, Ik)) ek (List.Perm.refl _) (fun _ => List.Perm.refl _) CF (c_X5_pick l D cI cC cW t h _ Y S q V z U y I (nI gi) ((1 : Int32) + (upF (x >>> ((8 : Int32) &&& 31)) (40 : Int32))) hsf hst1) (cwV 2 hts gL_act_X5_pick rfl rfl rfl (by decide +kernel) ⟨Nat.le_of_ble_eq_true rfl, Nat.le_of_ble_eq_true rfl⟩) hP hD hK hX hS hA 0 4 ps_0 rfl rfl hl.1 rfl (Nat.le_of_ble_eq_true rfl) dL_act_106 ⟨Nat.zero_le _, Nat.zero_le _⟩ (fun H locs hP hD hS => ?_)
    have hP : va_P D vwCl (ps cI cC cW h Yk S q V z U y Ik ++ dv cI dd d) H := hP
    have hD : va_D A (ps cI cC cW h Yk S q V z U y Ik ++ dv cI dd d) := hD
    exact W.iret hx hb hr (fun T hT _ => ⟨⟨_, (Yk, Ik, d), rfl, (act_n hst1 hst2 (x_pick hbb hB hw hxt) (Int.le_refl _) (show chg Y S q V z U y I (sp_X4_pickUnits (Y 4).2.1 (Y 4).2.2 (nI gi) ((1 : Int32) + (upF (x >>> ((8 : Int32) &&& 31)) (40 : Int32)))) = (rk, (Yk, Ik)) from ek) (by rw [← ey32, c32_1]; unfold mvK; decide)), by rw [hT]; exact hP, hD⟩, hS.F hT⟩) hS.2.2 dL_act_109 hlocks
  by_cases c32_2 : y32 = (2 : Int32)
  · refine lv_tableIn (tgt := 110) hx hb dL_act_32 (by rw [c32_2]; decide) (by rw [c32_2]; decide) (by rw [c32_2]; rfl) (by decide) ?_
    refine lv_aload_n hx hb dL_act_110 rfl (lv_at hl 3 rfl) ?_
    refine lv_iload hx hb dL_act_111 (lv_at hl 1 rfl) ?_
    obtain ⟨rk, Yk, Ik, ek⟩ : ∃ (r : Int32) (Y1 : Nat → va_H) (I1 : Nat → Int32), sp_X5_refill Y S q V z U y I (nI gi) = (r, (Y1, I1)) := ⟨_, _, _, rfl⟩
    refine rwVse (wc := ps cI cC cW h Y S q V z U y I) (Rr := dv cI dd d) (wn := fun u : (Nat → va_H) × (Nat → Int32) => ps cI cC cW h u.1 S q V z U y u.2) (w1 := fun u : (Nat → va_H) × (Nat → Int32) => ps cI cC cW h u.1 S q V z U y u.2 ++ dv cI dd d) (r0 := rk) (u0 := (Yk, Ik)) ek (List.Perm.refl _) (fun _ => List.Perm.refl _) CF (c_X5_refill l D cI cC cW t h _ Y S q V z U y I (nI gi) hsf hst1) (cwV 1 hts gL_act_X5_refill rfl rfl rfl (by decide +kernel) ⟨Nat.le_of_ble_eq_true rfl, Nat.le_of_ble_eq_true rfl⟩) hP hD hK hX hS hA 0 4 ps_0 rfl rfl hl.1 rfl (Nat.le_of_ble_eq_true rfl) dL_act_113 ⟨Nat.zero_le _, Nat.zero_le _⟩ (fun H locs hP hD hS => ?_)
    have hP : va_P D vwCl (ps cI cC cW h Yk S q V z U y Ik ++ dv cI dd d) H := hP
    have hD : va_D A (ps cI cC cW h Yk S q V z U y Ik ++ dv cI dd d) := hD
    exact W.iret hx hb hr (fun T hT _ => ⟨⟨_, (Yk, Ik, d), rfl, (act_n hst1 hst2 (x_refill hw hxt) (by omega) (show chg Y S q V z U y I (sp_X4_refillSlot (Y 4).2.1 (Y 4).2.2 (nI gi)) = (rk, (Yk, Ik)) from ek) (by rw [← ey32, c32_2]; unfold mvK; decide)), by rw [hT]; exact hP, hD⟩, hS.F hT⟩) hS.2.2 dL_act_116 hlocks
  by_cases c32_3 : y32 = (3 : Int32)
  · refine lv_tableIn (tgt := 117) hx hb dL_act_32 (by rw [c32_3]; decide) (by rw [c32_3]; decide) (by rw [c32_3]; rfl) (by decide) ?_
    refine lv_aload_n hx hb dL_act_117 rfl (lv_at hl 3 rfl) ?_
    obtain ⟨rk, Yk, Ik, ek⟩ : ∃ (r : Int32) (Y1 : Nat → va_H) (I1 : Nat → Int32), sp_X5_endWeek Y S q V z U y I = (r, (Y1, I1)) := ⟨_, _, _, rfl⟩
    refine rwVse (wc := ps cI cC cW h Y S q V z U y I) (Rr := dv cI dd d) (wn := fun u : (Nat → va_H) × (Nat → Int32) => ps cI cC cW h u.1 S q V z U y u.2) (w1 := fun u : (Nat → va_H) × (Nat → Int32) => ps cI cC cW h u.1 S q V z U y u.2 ++ dv cI dd d) (r0 := rk) (u0 := (Yk, Ik)) ek (List.Perm.refl _) (fun _ => List.Perm.refl _) CF (c_X5_endWeek l D cI cC cW t h _ Y S q V z U y I  hsf hst1) (cwV 0 hts gL_act_X5_endWeek rfl rfl rfl (by decide +kernel) ⟨Nat.le_of_ble_eq_true rfl, Nat.le_of_ble_eq_true rfl⟩) hP hD hK hX hS hA 0 4 ps_0 rfl rfl hl.1 rfl (Nat.le_of_ble_eq_true rfl) dL_act_118 ⟨Nat.zero_le _, Nat.zero_le _⟩ (fun H locs hP hD hS => ?_)
    have hP : va_P D vwCl (ps cI cC cW h Yk S q V z U y Ik ++ dv cI dd d) H := hP
    have hD : va_D A (ps cI cC cW h Yk S q V z U y Ik ++ dv cI dd d) := hD
    exact W.iret hx hb hr (fun T hT _ => ⟨⟨_, (Yk, Ik, d), rfl, (act_n hst1 hst2 (x_endWeek hbb hw hxt) (by omega) (show chg Y S q V z U y I (sp_X4_finishWeek (Y 4).2.1 (Y 4).2.2) = (rk, (Yk, Ik)) from ek) (by rw [← ey32, c32_3]; unfold mvK; decide)), by rw [hT]; exact hP, hD⟩, hS.F hT⟩) hS.2.2 dL_act_121 hlocks
  by_cases c32_4 : y32 = (4 : Int32)
  · refine lv_tableIn (tgt := 122) hx hb dL_act_32 (by rw [c32_4]; decide) (by rw [c32_4]; decide) (by rw [c32_4]; rfl) (by decide) ?_
    refine lv_aload_n hx hb dL_act_122 rfl (lv_at hl 3 rfl) ?_
    refine lv_iload hx hb dL_act_123 (lv_at hl 1 rfl) ?_
    refine lv_iload hx hb dL_act_125 (lv_at hl 0 rfl) ?_
    obtain ⟨rk, Yk, Ik, ek⟩ : ∃ (r : Int32) (Y1 : Nat → va_H) (I1 : Nat → Int32), sp_X5_move Y S q V z U y I (nI gi) (upF (x >>> ((8 : Int32) &&& 31)) (60 : Int32)) = (r, (Y1, I1)) := ⟨_, _, _, rfl⟩
    refine rwVse (wc := ps cI cC cW h Y S q V z U y I) (Rr := dv cI dd d) (wn := fun u : (Nat → va_H) × (Nat → Int32) => ps cI cC cW h u.1 S q V z U y u.2) (w1 := fun u : (Nat → va_H) × (Nat → Int32) => ps cI cC cW h u.1 S q V z U y u.2 ++ dv cI dd d) (r0 := rk) (u0 := (Yk, Ik)) ek (List.Perm.refl _) (fun _ => List.Perm.refl _) CF (c_X5_move l D cI cC cW t h _ Y S q V z U y I (nI gi) (upF (x >>> ((8 : Int32) &&& 31)) (60 : Int32)) hsf hst1) (cwV 2 hts gL_act_X5_move rfl rfl rfl (by decide +kernel) ⟨Nat.le_of_ble_eq_true rfl, Nat.le_of_ble_eq_true rfl⟩) hP hD hK hX hS hA 0 4 ps_0 rfl rfl hl.1 rfl (Nat.le_of_ble_eq_true rfl) dL_act_127 ⟨Nat.zero_le _, Nat.zero_le _⟩ (fun H locs hP hD hS => ?_)
    have hP : va_P D vwCl (ps cI cC cW h Yk S q V z U y Ik ++ dv cI dd d) H := hP
    have hD : va_D A (ps cI cC cW h Yk S q V z U y Ik ++ dv cI dd d) := hD
    exact W.iret hx hb hr (fun T hT _ => ⟨⟨_, (Yk, Ik, d), rfl, (act_45 hst1 hst2 (x_move hw hxt) (show chg Y S q V z U y I (sp_X4_moveGood (Y 4).2.1 (Y 4).2.2 (nI gi) (upF (x >>> ((8 : Int32) &&& 31)) (60 : Int32))) = (rk, (Yk, Ik)) from ek) (by rw [← ey32, c32_4]; exact Or.inl rfl)), by rw [hT]; exact hP, hD⟩, hS.F hT⟩) hS.2.2 dL_act_130 hlocks
  by_cases c32_5 : y32 = (5 : Int32)
  · refine lv_tableIn (tgt := 131) hx hb dL_act_32 (by rw [c32_5]; decide) (by rw [c32_5]; decide) (by rw [c32_5]; rfl) (by decide) ?_
    refine lv_aload_n hx hb dL_act_131 rfl (lv_at hl 3 rfl) ?_
    refine lv_iload hx hb dL_act_132 (lv_at hl 1 rfl) ?_
    refine lv_iload_n hx hb dL_act_134 rfl (lv_at hl 4 rfl) ?_
    refine lv_bipush (v := 8) hx hb dL_act_135 (by decide) ?_
    refine lv_ishr hx hb dL_act_137 ?_
    refine lv_iload_n hx hb dL_act_138 rfl (lv_at hl 2 rfl) ?_
    refine roS CF (c_L_up l D cI cC cW t (x >>> ((8 : Int32) &&& 31)) ((Y 4).2.1 0) hn0) (va_cwS 2 hts gL_act_L_up rfl rfl rfl (by decide +kernel) ⟨Nat.le_of_ble_eq_true rfl, Nat.le_of_ble_eq_true rfl⟩) vP_nil hK hX hS rfl hl.1 rfl (Nat.le_of_ble_eq_true rfl) dL_act_139 ⟨Nat.zero_le _, Nat.zero_le _⟩ ?_
    obtain ⟨rk, Yk, Ik, ek⟩ : ∃ (r : Int32) (Y1 : Nat → va_H) (I1 : Nat → Int32), sp_X5_exchange Y S q V z U y I (nI gi) (upF (x >>> ((8 : Int32) &&& 31)) ((Y 4).2.1 0)) = (r, (Y1, I1)) := ⟨_, _, _, rfl⟩
    refine rwVse (wc := ps cI cC cW h Y S q V z U y I) (Rr := dv cI dd d) (wn := fun u : (Nat → va_H) × (Nat → Int32) => ps cI cC cW h u.1 S q V z U y u.2) (w1 := fun u : (Nat → va_H) × (Nat → Int32) => ps cI cC cW h u.1 S q V z U y u.2 ++ dv cI dd d) (r0 := rk) (u0 := (Yk, Ik)) ek (List.Perm.refl _) (fun _ => List.Perm.refl _) CF (c_X5_exchange l D cI cC cW t h _ Y S q V z U y I (nI gi) (upF (x >>> ((8 : Int32) &&& 31)) ((Y 4).2.1 0)) hsf hst1) (cwV 2 hts gL_act_X5_exchange rfl rfl rfl (by decide +kernel) ⟨Nat.le_of_ble_eq_true rfl, Nat.le_of_ble_eq_true rfl⟩) hP hD hK hX hS hA 0 4 ps_0 rfl rfl hl.1 rfl (Nat.le_of_ble_eq_true rfl) dL_act_142 ⟨Nat.zero_le _, Nat.zero_le _⟩ (fun H locs hP hD hS => ?_)
    have hP : va_P D vwCl (ps cI cC cW h Yk S q V z U y Ik ++ dv cI dd d) H := hP
    have hD : va_D A (ps cI cC cW h Yk S q V z U y Ik ++ dv cI dd d) := hD
    exact W.iret hx hb hr (fun T hT _ => ⟨⟨_, (Yk, Ik, d), rfl, (act_45 hst1 hst2 (x_exchange hw hxt) (show chg Y S q V z U y I (sp_X4_exchangeGoods (Y 4).2.1 (Y 4).2.2 (nI gi) (upF (x >>> ((8 : Int32) &&& 31)) ((Y 4).2.1 0))) = (rk, (Yk, Ik)) from ek) (by rw [← ey32, c32_5]; exact Or.inr rfl)), by rw [hT]; exact hP, hD⟩, hS.F hT⟩) hS.2.2 dL_act_145 hlocks
  by_cases c32_6 : y32 = (6 : Int32)
  · refine lv_tableIn (tgt := 146) hx hb dL_act_32 (by rw [c32_6]; decide) (by rw [c32_6]; decide) (by rw [c32_6]; rfl) (by decide) ?_
    refine lv_aload_n hx hb dL_act_146 rfl (lv_at hl 3 rfl) ?_
    refine lv_iconst (v := 1) hx hb dL_act_147 (by decide) ?_
    refine lv_iload_n hx hb dL_act_148 rfl (lv_at hl 4 rfl) ?_
    refine lv_bipush (v := 8) hx hb dL_act_149 (by decide) ?_
    refine lv_ishr hx hb dL_act_151 ?_
    refine lv_iconst (v := 3) hx hb dL_act_152 (by decide) ?_
    refine roS CF (c_L_up l D cI cC cW t (x >>> ((8 : Int32) &&& 31)) (3 : Int32) (by decide)) (va_cwS 2 hts gL_act_L_up rfl rfl rfl (by decide +kernel) ⟨Nat.le_of_ble_eq_true rfl, Nat.le_of_ble_eq_true rfl⟩) vP_nil hK hX hS rfl hl.1 rfl (Nat.le_of_ble_eq_true rfl) dL_act_153 ⟨Nat.zero_le _, Nat.zero_le _⟩ ?_
    refine lv_iadd hx hb dL_act_156 ?_
    obtain ⟨rk, Yk, Ik, ek⟩ : ∃ (r : Int32) (Y1 : Nat → va_H) (I1 : Nat → Int32), sp_X5_improve Y S q V z U y I ((1 : Int32) + (upF (x >>> ((8 : Int32) &&& 31)) (3 : Int32))) = (r, (Y1, I1)) := ⟨_, _, _, rfl⟩
    refine rwVse (wc := ps cI cC cW h Y S q V z U y I) (Rr := dv cI dd d) (wn := fun u : (Nat → va_H) × (Nat → Int32) => ps cI cC cW h u.1 S q V z U y u.2) (w1 := fun u : (Nat → va_H) × (Nat → Int32) => ps cI cC cW h u.1 S q V z U y u.2 ++ dv cI dd d) (r0 := rk) (u0 := (Yk, Ik)) ek (List.Perm.refl _) (fun _ => List.Perm.refl _) CF (c_X5_improve l D cI cC cW t h _ Y S q V z U y I ((1 : Int32) + (upF (x >>> ((8 : Int32) &&& 31)) (3 : Int32))) hsf hst1) (cwV 1 hts gL_act_X5_improve rfl rfl rfl (by decide +kernel) ⟨Nat.le_of_ble_eq_true rfl, Nat.le_of_ble_eq_true rfl⟩) hP hD hK hX hS hA 0 4 ps_0 rfl rfl hl.1 rfl (Nat.le_of_ble_eq_true rfl) dL_act_157 ⟨Nat.zero_le _, Nat.zero_le _⟩ (fun H locs hP hD hS => ?_)
    have hP : va_P D vwCl (ps cI cC cW h Yk S q V z U y Ik ++ dv cI dd d) H := hP
    have hD : va_D A (ps cI cC cW h Yk S q V z U y Ik ++ dv cI dd d) := hD
    exact W.iret hx hb hr (fun T hT _ => ⟨⟨_, (Yk, Ik, d), rfl, (act_6 hst1 hst2 (x_improve hw hxt) (show chg Y S q V z U y I (sp_X4_doBest (Y 4).2.1 (Y 4).2.2 ((1 : Int32) + (upF (x >>> ((8 : Int32) &&& 31)) (3 : Int32)))) = (rk, (Yk, Ik)) from ek) (by rw [← ey32, c32_6])), by rw [hT]; exact hP, hD⟩, hS.F hT⟩) hS.2.2 dL_act_160 hlocks
  by_cases c32_7 : y32 = (7 : Int32)
  · refine lv_tableIn (tgt := 161) hx hb dL_act_32 (by rw [c32_7]; decide) (by rw [c32_7]; decide) (by rw [c32_7]; rfl) (by decide) ?_
    refine lv_aload_n hx hb dL_act_161 rfl (lv_at hl 3 rfl) ?_
    refine lv_iload hx hb dL_act_162 (lv_at hl 1 rfl) ?_
    obtain ⟨rk, Yk, Ik, ek⟩ : ∃ (r : Int32) (Y1 : Nat → va_H) (I1 : Nat → Int32), sp_X5_take Y S q V z U y I (nI gi) = (r, (Y1, I1)) := ⟨_, _, _, rfl⟩
    refine rwVse (wc := ps cI cC cW h Y S q V z U y I) (Rr := dv cI dd d) (wn := fun u : (Nat → va_H) × (Nat → Int32) => ps cI cC cW h u.1 S q V z U y u.2) (w1 := fun u : (Nat → va_H) × (Nat → Int32) => ps cI cC cW h u.1 S q V z U y u.2 ++ dv cI dd d) (r0 := rk) (u0 := (Yk, Ik)) ek (List.Perm.refl _) (fun _ => List.Perm.refl _) CF (c_X5_take l D cI cC cW t h _ Y S q V z U y I (nI gi) hsf hst1) (cwV 1 hts gL_act_X5_take rfl rfl rfl (by decide +kernel) ⟨Nat.le_of_ble_eq_true rfl, Nat.le_of_ble_eq_true rfl⟩) hP hD hK hX hS hA 0 4 ps_0 rfl rfl hl.1 rfl (Nat.le_of_ble_eq_true rfl) dL_act_164 ⟨Nat.zero_le _, Nat.zero_le _⟩ (fun H locs hP hD hS => ?_)
    have hP : va_P D vwCl (ps cI cC cW h Yk S q V z U y Ik ++ dv cI dd d) H := hP
    have hD : va_D A (ps cI cC cW h Yk S q V z U y Ik ++ dv cI dd d) := hD
    exact W.iret hx hb hr (fun T hT _ => ⟨⟨_, (Yk, Ik, d), rfl, (act_n hst1 hst2 (x_take hw hxt) (by omega) (show chg Y S q V z U y I (sp_X4_takeOutOfSlot (Y 4).2.1 (Y 4).2.2 (nI gi)) = (rk, (Yk, Ik)) from ek) (by rw [← ey32, c32_7]; unfold mvK; decide)), by rw [hT]; exact hP, hD⟩, hS.F hT⟩) hS.2.2 dL_act_167 hlocks
  by_cases c32_8 : y32 = (8 : Int32)
  · refine lv_tableIn (tgt := 168) hx hb dL_act_32 (by rw [c32_8]; decide) (by rw [c32_8]; decide) (by rw [c32_8]; rfl) (by decide) ?_
    refine lv_aload_n hx hb dL_act_168 rfl (lv_at hl 3 rfl) ?_
    refine lv_iload hx hb dL_act_169 (lv_at hl 1 rfl) ?_
    refine lv_iload_n hx hb dL_act_171 rfl (lv_at hl 4 rfl) ?_
    refine lv_bipush (v := 8) hx hb dL_act_172 (by decide) ?_
    refine lv_ishr hx hb dL_act_174 ?_
    refine lv_iconst (v := 4) hx hb dL_act_175 (by decide) ?_
    refine roS CF (c_L_up l D cI cC cW t (x >>> ((8 : Int32) &&& 31)) (4 : Int32) (by decide)) (va_cwS 2 hts gL_act_L_up rfl rfl rfl (by decide +kernel) ⟨Nat.le_of_ble_eq_true rfl, Nat.le_of_ble_eq_true rfl⟩) vP_nil hK hX hS rfl hl.1 rfl (Nat.le_of_ble_eq_true rfl) dL_act_176 ⟨Nat.zero_le _, Nat.zero_le _⟩ ?_
    refine lv_iload_n hx hb dL_act_179 rfl (lv_at hl 4 rfl) ?_
    refine lv_bipush (v := 10) hx hb dL_act_180 (by decide) ?_
    refine lv_ishr hx hb dL_act_182 ?_
    refine lv_sipush (v := 1000) hx hb dL_act_183 (by decide) ?_
    refine roS CF (c_L_up l D cI cC cW t (x >>> ((10 : Int32) &&& 31)) (1000 : Int32) (by decide)) (va_cwS 2 hts gL_act_L_up rfl rfl rfl (by decide +kernel) ⟨Nat.le_of_ble_eq_true rfl, Nat.le_of_ble_eq_true rfl⟩) vP_nil hK hX hS rfl hl.1 rfl (Nat.le_of_ble_eq_true rfl) dL_act_186 ⟨Nat.zero_le _, Nat.zero_le _⟩ ?_
    obtain ⟨rk, Yk, Ik, ek⟩ : ∃ (r : Int32) (Y1 : Nat → va_H) (I1 : Nat → Int32), sp_X5_demand Y S q V z U y I (nI gi) (upF (x >>> ((8 : Int32) &&& 31)) (4 : Int32)) (upF (x >>> ((10 : Int32) &&& 31)) (1000 : Int32)) = (r, (Y1, I1)) := ⟨_, _, _, rfl⟩
    refine rwVse (wc := ps cI cC cW h Y S q V z U y I) (Rr := dv cI dd d) (wn := fun u : (Nat → va_H) × (Nat → Int32) => ps cI cC cW h u.1 S q V z U y u.2) (w1 := fun u : (Nat → va_H) × (Nat → Int32) => ps cI cC cW h u.1 S q V z U y u.2 ++ dv cI dd d) (r0 := rk) (u0 := (Yk, Ik)) ek (List.Perm.refl _) (fun _ => List.Perm.refl _) CF (c_X5_demand l D cI cC cW t h _ Y S q V z U y I (nI gi) (upF (x >>> ((8 : Int32) &&& 31)) (4 : Int32)) (upF (x >>> ((10 : Int32) &&& 31)) (1000 : Int32)) hsf hst1) (cwV 3 hts gL_act_X5_demand rfl rfl rfl (by decide +kernel) ⟨Nat.le_of_ble_eq_true rfl, Nat.le_of_ble_eq_true rfl⟩) hP hD hK hX hS hA 0 4 ps_0 rfl rfl hl.1 rfl (Nat.le_of_ble_eq_true rfl) dL_act_189 ⟨Nat.zero_le _, Nat.zero_le _⟩ (fun H locs hP hD hS => ?_)
    have hP : va_P D vwCl (ps cI cC cW h Yk S q V z U y Ik ++ dv cI dd d) H := hP
    have hD : va_D A (ps cI cC cW h Yk S q V z U y Ik ++ dv cI dd d) := hD
    exact W.iret hx hb hr (fun T hT _ => ⟨⟨_, (Yk, Ik, d), rfl, (act_n hst1 hst2 (x_demand hw hxt) (by omega) (show chg Y S q V z U y I (sp_X4_changeDemand (Y 4).2.1 (Y 4).2.2 (nI gi) (upF (x >>> ((8 : Int32) &&& 31)) (4 : Int32)) (upF (x >>> ((10 : Int32) &&& 31)) (1000 : Int32))) = (rk, (Yk, Ik)) from ek) (by rw [← ey32, c32_8]; unfold mvK; decide)), by rw [hT]; exact hP, hD⟩, hS.F hT⟩) hS.2.2 dL_act_192 hlocks
  by_cases c32_9 : y32 = (9 : Int32)
  · refine lv_tableIn (tgt := 193) hx hb dL_act_32 (by rw [c32_9]; decide) (by rw [c32_9]; decide) (by rw [c32_9]; rfl) (by decide) ?_
    refine lv_aload_n hx hb dL_act_193 rfl (lv_at hl 3 rfl) ?_
    refine lv_iload_n hx hb dL_act_194 rfl (lv_at hl 4 rfl) ?_
    refine lv_iconst (v := 4) hx hb dL_act_195 (by decide) ?_
    refine lv_ishr hx hb dL_act_196 ?_
    refine lv_iconst (v := 3) hx hb dL_act_197 (by decide) ?_
    refine roS CF (c_L_up l D cI cC cW t (x >>> ((4 : Int32) &&& 31)) (3 : Int32) (by decide)) (va_cwS 2 hts gL_act_L_up rfl rfl rfl (by decide +kernel) ⟨Nat.le_of_ble_eq_true rfl, Nat.le_of_ble_eq_true rfl⟩) vP_nil hK hX hS rfl hl.1 rfl (Nat.le_of_ble_eq_true rfl) dL_act_198 ⟨Nat.zero_le _, Nat.zero_le _⟩ ?_
    refine lv_iload_n hx hb dL_act_201 rfl (lv_at hl 4 rfl) ?_
    refine lv_bipush (v := 6) hx hb dL_act_202 (by decide) ?_
    refine lv_ishr hx hb dL_act_204 ?_
    refine lv_bipush (v := 120) hx hb dL_act_205 (by decide) ?_
    refine roS CF (c_L_up l D cI cC cW t (x >>> ((6 : Int32) &&& 31)) (120 : Int32) (by decide)) (va_cwS 2 hts gL_act_L_up rfl rfl rfl (by decide +kernel) ⟨Nat.le_of_ble_eq_true rfl, Nat.le_of_ble_eq_true rfl⟩) vP_nil hK hX hS rfl hl.1 rfl (Nat.le_of_ble_eq_true rfl) dL_act_207 ⟨Nat.zero_le _, Nat.zero_le _⟩ ?_
    obtain ⟨rk, Yk, Ik, ek⟩ : ∃ (r : Int32) (Y1 : Nat → va_H) (I1 : Nat → Int32), sp_X5_set Y S q V z U y I (upF (x >>> ((4 : Int32) &&& 31)) (3 : Int32)) (upF (x >>> ((6 : Int32) &&& 31)) (120 : Int32)) = (r, (Y1, I1)) := ⟨_, _, _, rfl⟩
    refine rwVse (wc := ps cI cC cW h Y S q V z U y I) (Rr := dv cI dd d) (wn := fun u : (Nat → va_H) × (Nat → Int32) => ps cI cC cW h u.1 S q V z U y u.2) (w1 := fun u : (Nat → va_H) × (Nat → Int32) => ps cI cC cW h u.1 S q V z U y u.2 ++ dv cI dd d) (r0 := rk) (u0 := (Yk, Ik)) ek (List.Perm.refl _) (fun _ => List.Perm.refl _) CF (c_X5_set l D cI cC cW t h _ Y S q V z U y I (upF (x >>> ((4 : Int32) &&& 31)) (3 : Int32)) (upF (x >>> ((6 : Int32) &&& 31)) (120 : Int32)) hst1) (cwV 2 hts gL_act_X5_set rfl rfl rfl (by decide +kernel) ⟨Nat.le_of_ble_eq_true rfl, Nat.le_of_ble_eq_true rfl⟩) hP hD hK hX hS hA 0 4 ps_0 rfl rfl hl.1 rfl (Nat.le_of_ble_eq_true rfl) dL_act_210 ⟨Nat.zero_le _, Nat.zero_le _⟩ (fun H locs hP hD hS => ?_)
    have hP : va_P D vwCl (ps cI cC cW h Yk S q V z U y Ik ++ dv cI dd d) H := hP
    have hD : va_D A (ps cI cC cW h Yk S q V z U y Ik ++ dv cI dd d) := hD
    exact W.iret hx hb hr (fun T hT _ => ⟨⟨_, (Yk, Ik, d), rfl, (act_n hst1 hst2 (x_set hw hxt) (by omega) (show chg Y S q V z U y I (sp_X4_changeSetting (Y 4).2.1 (Y 4).2.2 (upF (x >>> ((4 : Int32) &&& 31)) (3 : Int32)) (upF (x >>> ((6 : Int32) &&& 31)) (120 : Int32))) = (rk, (Yk, Ik)) from ek) (by rw [← ey32, c32_9]; unfold mvK; decide)), by rw [hT]; exact hP, hD⟩, hS.F hT⟩) hS.2.2 dL_act_213 hlocks
  by_cases c32_10 : y32 = (10 : Int32)
  · refine lv_tableIn (tgt := 214) hx hb dL_act_32 (by rw [c32_10]; decide) (by rw [c32_10]; decide) (by rw [c32_10]; rfl) (by decide) ?_
    refine lv_aload_n hx hb dL_act_214 rfl (lv_at hl 3 rfl) ?_
    refine lv_iload hx hb dL_act_215 (lv_at hl 1 rfl) ?_
    refine lv_iload hx hb dL_act_217 (lv_at hl 0 rfl) ?_
    obtain ⟨rk, Yk, Ik, ek⟩ : ∃ (r : Int32) (Y1 : Nat → va_H) (I1 : Nat → Int32), sp_X5_place Y S q V z U y I (nI gi) (upF (x >>> ((8 : Int32) &&& 31)) (60 : Int32)) = (r, (Y1, I1)) := ⟨_, _, _, rfl⟩
    refine rwVse (wc := ps cI cC cW h Y S q V z U y I) (Rr := dv cI dd d) (wn := fun u : (Nat → va_H) × (Nat → Int32) => ps cI cC cW h u.1 S q V z U y u.2) (w1 := fun u : (Nat → va_H) × (Nat → Int32) => ps cI cC cW h u.1 S q V z U y u.2 ++ dv cI dd d) (r0 := rk) (u0 := (Yk, Ik)) ek (List.Perm.refl _) (fun _ => List.Perm.refl _) CF (c_X5_place l D cI cC cW t h _ Y S q V z U y I (nI gi) (upF (x >>> ((8 : Int32) &&& 31)) (60 : Int32)) hsf hst1) (cwV 2 hts gL_act_X5_place rfl rfl rfl (by decide +kernel) ⟨Nat.le_of_ble_eq_true rfl, Nat.le_of_ble_eq_true rfl⟩) hP hD hK hX hS hA 0 4 ps_0 rfl rfl hl.1 rfl (Nat.le_of_ble_eq_true rfl) dL_act_219 ⟨Nat.zero_le _, Nat.zero_le _⟩ (fun H locs hP hD hS => ?_)
    have hP : va_P D vwCl (ps cI cC cW h Yk S q V z U y Ik ++ dv cI dd d) H := hP
    have hD : va_D A (ps cI cC cW h Yk S q V z U y Ik ++ dv cI dd d) := hD
    exact W.iret hx hb hr (fun T hT _ => ⟨⟨_, (Yk, Ik, d), rfl, (act_n hst1 hst2 (x_place hw hxt) (by omega) (show chg Y S q V z U y I (sp_X4_putIntoSlot (Y 4).2.1 (Y 4).2.2 (nI gi) (upF (x >>> ((8 : Int32) &&& 31)) (60 : Int32))) = (rk, (Yk, Ik)) from ek) (by rw [← ey32, c32_10]; unfold mvK; decide)), by rw [hT]; exact hP, hD⟩, hS.F hT⟩) hS.2.2 dL_act_222 hlocks
  refine lv_tableOut (tgt := 223) hx hb dL_act_32 (by have q0 := lv_neT c32_0 (a := 0) (by decide); have q1 := lv_neT c32_1 (a := 1) (by decide); have q2 := lv_neT c32_2 (a := 2) (by decide); have q3 := lv_neT c32_3 (a := 3) (by decide); have q4 := lv_neT c32_4 (a := 4) (by decide); have q5 := lv_neT c32_5 (a := 5) (by decide); have q6 := lv_neT c32_6 (a := 6) (by decide); have q7 := lv_neT c32_7 (a := 7) (by decide); have q8 := lv_neT c32_8 (a := 8) (by decide); have q9 := lv_neT c32_9 (a := 9) (by decide); have q10 := lv_neT c32_10 (a := 10) (by decide); omega) (by decide) ?_
  refine lv_iconst (v := 1) hx hb dL_act_223 (by decide) ?_
  refine lv_iload_n hx hb dL_act_224 rfl (lv_at hl 4 rfl) ?_
  refine lv_bipush (v := 8) hx hb dL_act_225 (by decide) ?_
  refine lv_ishr hx hb dL_act_227 ?_
  refine lv_sipush (v := 5000) hx hb dL_act_228 (by decide) ?_
  refine roS CF (c_L_up l D cI cC cW t (x >>> ((8 : Int32) &&& 31)) (5000 : Int32) (by decide)) (va_cwS 2 hts gL_act_L_up rfl rfl rfl (by decide +kernel) ⟨Nat.le_of_ble_eq_true rfl, Nat.le_of_ble_eq_true rfl⟩) vP_nil hK hX hS rfl hl.1 rfl (Nat.le_of_ble_eq_true rfl) dL_act_231 ⟨Nat.zero_le _, Nat.zero_le _⟩ ?_
  refine lv_iadd hx hb dL_act_234 ?_
  refine lv_istore (lv' := [(6, .int _), (5, .int _), (4, .int _), (3, .int _), (0, .ref _), (1, .int _), (2, .ref _)]) hx hb dL_act_235 hl (by decide) rfl (fun ls hl => ?_)
  refine lv_aload_n hx hb dL_act_237 rfl (lv_at hl 4 rfl) ?_
  refine lv_iload hx hb dL_act_238 (lv_at hl 2 rfl) ?_
  refine lv_iload hx hb dL_act_240 (lv_at hl 0 rfl) ?_
  obtain ⟨rk, Yk, Ik, ek⟩ : ∃ (r : Int32) (Y1 : Nat → va_H) (I1 : Nat → Int32), sp_X5_deliver Y S q V z U y I (nI gi) ((1 : Int32) + (upF (x >>> ((8 : Int32) &&& 31)) (5000 : Int32))) = (r, (Y1, I1)) := ⟨_, _, _, rfl⟩
  refine rwVse (wc := ps cI cC cW h Y S q V z U y I) (Rr := dv cI dd d) (wn := fun u : (Nat → va_H) × (Nat → Int32) => ps cI cC cW h u.1 S q V z U y u.2) (w1 := fun u : (Nat → va_H) × (Nat → Int32) => ps cI cC cW h u.1 S q V z U y u.2 ++ dv cI dd d) (r0 := rk) (u0 := (Yk, Ik)) ek (List.Perm.refl _) (fun _ => List.Perm.refl _) CF (c_X5_deliver l D cI cC cW t h _ Y S q V z U y I (nI gi) ((1 : Int32) + (upF (x >>> ((8 : Int32) &&& 31)) (5000 : Int32))) hsf hst1) (cwV 2 hts gL_act_X5_deliver rfl rfl rfl (by decide +kernel) ⟨Nat.le_of_ble_eq_true rfl, Nat.le_of_ble_eq_true rfl⟩) hP hD hK hX hS hA 0 4 ps_0 rfl rfl hl.1 rfl (Nat.le_of_ble_eq_true rfl) dL_act_242 ⟨Nat.zero_le _, Nat.zero_le _⟩ (fun H locs hP hD hS => ?_)
  have hP : va_P D vwCl (ps cI cC cW h Yk S q V z U y Ik ++ dv cI dd d) H := hP
  have hD : va_D A (ps cI cC cW h Yk S q V z U y Ik ++ dv cI dd d) := hD
  refine lv_istore (lv' := [(7, .int _), (6, .int _), (5, .int _), (4, .int _), (3, .int _), (0, .ref _), (1, .int _), (2, .ref _)]) hx hb dL_act_245 hl (by decide) rfl (fun ls hl => ?_)
  refine lv_aload_n hx hb dL_act_247 rfl (lv_at hl 7 rfl) ?_
  refine lv_iload hx hb dL_act_248 (lv_at hl 3 rfl) ?_
  refine lv_dup2_11 hx hb dL_act_250 rfl rfl ?_
  refine va_iald hx hb hK hP 80 0 dv_at rfl (vp_in_nI h20 (by decide)) dL_act_251 ?_
  refine lv_iload hx hb dL_act_252 (lv_at hl 0 rfl) ?_
  have J254 : ∀ v254 : Int32, v254 = (if rk ≤ 0 then (0 : Int32) else ((1 : Int32) + (upF (x >>> ((8 : Int32) &&& 31)) (5000 : Int32)))) → W p l e (headSpec wsL_act ({ frames := 7, cells := 0, slots := 0, locals := 150 } : Room)).room s m [.ref (h 0), .int x, .ref dd].toArray below meth c H locs 0 0 (MQ below (va_Qi (fun (r : Int32) (u : (Nat → va_H) × (Nat → Int32) × (Nat → Int32)) => actP b BB Y I d x r u.1 u.2.1 u.2.2) (fun u => rwB D A (ps cI cC cW h u.1 S q V z U y u.2.1 ++ dv cI dd u.2.2)) A) [.ref (h 0), .int x, .ref dd].toArray s 0 0 A) (F0 m 263 ls [.int v254, .int (d (ix (nI gi))), .int (nI gi), .ref dd]) := by
    intro v254 ev254
    refine lv_iadd hx hb dL_act_263 ?_
    refine my_iast hx hb hK hP hD hS 80 0 dv_at rfl dv_set (vp_in_nI h20 (by decide)) dL_act_264 (fun H locs hP hD hS => ?_)
    have e264_d : (upd d (ix (nI gi)) ((d (ix (nI gi))) + v254)) = (upd d gi (d gi + v254)) := (by rw [xI (show gi < 1000 by omega)])
    rw [e264_d] at hP hD
    refine lv_iload hx hb dL_act_265 (lv_at hl 0 rfl) ?_
    exact W.iret hx hb hr (fun T hT _ => ⟨⟨_, (Yk, Ik, (upd d gi (d gi + v254))), rfl, (act_d hst1 hst2 hgi (x_deliver hw hxt hB hgl hun).1 (fun c => ((x_deliver hw hxt hB hgl hun).2 c).2) (show chg Y S q V z U y I (sp_X4_addToStore (Y 4).2.1 (Y 4).2.2 (nI gi) ((1 : Int32) + (upF (x >>> ((8 : Int32) &&& 31)) (5000 : Int32)))) = (rk, (Yk, Ik)) from ek) (by rw [← ey32]; exact nmv c32_4 c32_5 c32_6) ev254), by rw [hT]; exact hP, hD⟩, hS.F hT⟩) hS.2.2 dL_act_267 hlocks
  refine lv_if_le (tgt := 262) hx hb dL_act_254 (by decide) (fun c254 => ?_) (fun c254 => ?_)
  · refine lv_iconst (v := 0) hx hb dL_act_262 (by decide) ?_
    exact J254 _ ((if_pos c254).symm)
  · refine lv_iload hx hb dL_act_257 (lv_at hl 1 rfl) ?_
    refine lv_goto (tgt := 263) hx hb dL_act_259 (by decide) ?_
    exact J254 _ ((if_neg c254).symm)
