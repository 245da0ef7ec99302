/-! the law: fails (printed by wip/p29/m_fails.py) -/
set_option maxHeartbeats 4000000 in
set_option maxRecDepth 100000 in
theorem c_L_fails (l : Launch) (D : va_G) (cI cC cW : ClassId) (t : Nat → Nat) (h : Nat → Nat) (sz : Nat) (Y : Nat → va_H) (S : Nat → Int32) (q : Nat → Int32) (V : Nat → Int32) (z : Int32) (U : Nat → Int32) (y : Int32) (I : Nat → Int32) (hsf : sfN (Y 4).2.1) (hst : 0 ≤ (I 0).toInt) (hln : 0 ≤ (q 0).toInt) (hch : ∀ i, narrow .char (.int (S i)) = .int (S i)) : Met l yL_fails wsL_fails ({ frames := 8, cells := 0, slots := 0, locals := 172 }) (va_Pc [.ref (h 0)] (rwP D (tyL cI cC cW) (ps cI cC cW h Y S q V z U y I) t sz)) (va_Qi (fun (r : Int32) (u : Nat → va_H) => r = 1 ∧ FR Y u) (fun u => rwB D (va_A (ps cI cC cW h Y S q V z U y I) sz) (ps cI cC cW h u S q V z U y I)) (va_A (ps cI cC cW h Y S q V z U y I) sz)) 0 0 (va_A (ps cI cC cW h Y S q V z U y I) sz) := by
  refine Met.ofW (cc := cL_fails) (maxL := 6) (ret := (some .boolean)) (by decide) rfl ?_
  intro p e s m args below meth c s₁ B hml hv
  obtain ⟨rfl, hsz, hP, hK, hD0, hX⟩ := hv
  have hx := B.exec
  have hb := B.bytes
  have hr := B.returns
  have hts := atoms_spec (ws := wsL_fails) B.pre
  have hown : s.vm.findClass RL = some m.cls := findClass_of_methodNamed B.named
  have hlocks := B.notSynchronized
  subst hsz
  have hD := hD0.self (sz := s.heap.size)
  generalize hAe : va_A (ps cI cC cW h Y S q V z U y I) s.heap.size = A at hD hX ⊢
  have hA : ∀ q : Nat, s.heap.size ≤ q → A q := fun q h => by rw [← hAe]; exact Or.inr h
  have hS : va_S A s.heap s.heap [] := va_S.rf
  have CF : CallFix p m c cL_fails 6 s [.ref (h 0)].toArray wsL_fails RL := ⟨hx, hb, hml, hown, hts⟩
  have hl := lv_entry ([.ref (h 0)]) (n := 6) (Nat.le_of_ble_eq_true rfl)
  rw [lg_entry_eq]
  generalize (lg_sl ([.ref (h 0)]) ++ List.replicate (6 - (lg_sl ([.ref (h 0)])).length) Slot.unset).toArray = ls at hl ⊢
  have hl : lv_has ls 6 [(0, .ref (h 0))] := hl
  refine lv_aload_n hx hb dL_fails_0 rfl (lv_at hl 0 rfl) ?_
  refine roSl CF (c_L_mark l D cI cC cW t h Y S q V z U y I hsf) (va_cwS 1 hts gL_fails_L_mark rfl rfl rfl (by decide +kernel) ⟨Nat.le_of_ble_eq_true rfl, Nat.le_of_ble_eq_true rfl⟩) hP hK hX hS rfl hl.1 rfl (Nat.le_of_ble_eq_true rfl) dL_fails_1 ⟨Nat.zero_le _, Nat.zero_le _⟩ ?_
  refine lv_lstore_n (lv' := [(1, .long _), (0, .ref _)]) hx hb dL_fails_4 rfl hl (by decide) rfl (fun ls hl => ?_)
  refine lv_aload_n hx hb dL_fails_5 rfl (lv_at hl 1 rfl) ?_
  refine lv_bipush (v := 8) hx hb dL_fails_6 (by decide) ?_
  refine roV CF (c_X5_count l D cI cC cW t h Y S q V z U y I (8 : Int32) hsf) (cwV 1 hts gL_fails_X5_count rfl rfl rfl (by decide +kernel) ⟨Nat.le_of_ble_eq_true rfl, Nat.le_of_ble_eq_true rfl⟩) hP hK hX hS 0 4 ps_0 rfl rfl hl.1 rfl (Nat.le_of_ble_eq_true rfl) dL_fails_8 ⟨Nat.zero_le _, Nat.zero_le _⟩ ?_
  refine lv_top_eq (y := (I 0)) cnt8 ?_
  refine lv_istore_n (lv' := [(3, .int _), (1, .long _), (0, .ref _)]) hx hb dL_fails_11 rfl hl (by decide) rfl (fun ls hl => ?_)
  refine lv_aload_n hx hb dL_fails_12 rfl (lv_at hl 2 rfl) ?_
  refine lv_iconst (v := 0) hx hb dL_fails_13 (by decide) ?_
  refine roV CF (c_X5_count l D cI cC cW t h Y S q V z U y I (0 : Int32) hsf) (cwV 1 hts gL_fails_X5_count rfl rfl rfl (by decide +kernel) ⟨Nat.le_of_ble_eq_true rfl, Nat.le_of_ble_eq_true rfl⟩) hP hK hX hS 0 4 ps_0 rfl rfl hl.1 rfl (Nat.le_of_ble_eq_true rfl) dL_fails_14 ⟨Nat.zero_le _, Nat.zero_le _⟩ ?_
  refine lv_top_eq (y := ((Y 4).2.1 0)) cnt0 ?_
  refine lv_istore (lv' := [(4, .int _), (3, .int _), (1, .long _), (0, .ref _)]) hx hb dL_fails_17 hl (by decide) rfl (fun ls hl => ?_)
  refine lv_aload_n hx hb dL_fails_19 rfl (lv_at hl 3 rfl) ?_
  refine lv_iconst (v := 0) hx hb dL_fails_20 (by decide) ?_
  refine lv_iconst (v := 1) hx hb dL_fails_21 (by decide) ?_
  obtain ⟨Y22, e22, f22⟩ := fl_c (Y0 := Y) (Y := Y) (S := S) (q := q) (V := V) (z := z) (U := U) (y := y) (I := I) (f := sp_X4_addGood (Y 4).2.1 (Y 4).2.2 (0 : Int32) (1 : Int32)) FR.rf (fe_0)
  have e22 : sp_X5_good Y S q V z U y I (0 : Int32) (1 : Int32) = (-1, (Y22, I)) := e22
  refine rwVse (wc := ps cI cC cW h Y S q V z U y I) (Rr := []) (wn := fun u : (Nat → va_H) × (Nat → Int32) => ps cI cC cW h u.1 S q V z U y u.2) (w1 := fun u : (Nat → va_H) × (Nat → Int32) => ps cI cC cW h u.1 S q V z U y u.2) (r0 := (-1 : Int32)) (u0 := (Y22, I)) e22 (List.Perm.of_eq (List.append_nil _).symm) (fun _ => List.Perm.of_eq (List.append_nil _)) CF (c_X5_good l D cI cC cW t h _ Y S q V z U y I (0 : Int32) (1 : Int32) hsf hst) (cwV 2 hts gL_fails_X5_good rfl rfl rfl (by decide +kernel) ⟨Nat.le_of_ble_eq_true rfl, Nat.le_of_ble_eq_true rfl⟩) hP hD hK hX hS hA 0 4 ps_0 rfl rfl hl.1 rfl (Nat.le_of_ble_eq_true rfl) dL_fails_22 ⟨Nat.zero_le _, Nat.zero_le _⟩ (fun H locs hP hD hS => ?_)
  have hP : va_P D vwCl (ps cI cC cW h Y22 S q V z U y I) H := hP
  have hD : va_D A (ps cI cC cW h Y22 S q V z U y I) := hD
  refine lv_iconst (v := -1) hx hb dL_fails_25 (by decide) ?_
  refine lv_icmp_ne (tgt := 178) hx hb dL_fails_26 (by decide) (fun c9 => absurd (by decide) c9) (fun _ => ?_)
  refine lv_aload_n hx hb dL_fails_29 rfl (lv_at hl 3 rfl) ?_
  refine lv_bipush (v := 41) hx hb dL_fails_30 (by decide) ?_
  refine lv_iconst (v := 1) hx hb dL_fails_32 (by decide) ?_
  obtain ⟨Y33, e33, f33⟩ := fl_c (Y0 := Y) (Y := Y22) (S := S) (q := q) (V := V) (z := z) (U := U) (y := y) (I := I) (f := sp_X4_addGood (Y22 4).2.1 (Y22 4).2.2 (41 : Int32) (1 : Int32)) f22 (fe_1)
  have e33 : sp_X5_good Y22 S q V z U y I (41 : Int32) (1 : Int32) = (-1, (Y33, I)) := e33
  refine rwVse (wc := ps cI cC cW h Y22 S q V z U y I) (Rr := []) (wn := fun u : (Nat → va_H) × (Nat → Int32) => ps cI cC cW h u.1 S q V z U y u.2) (w1 := fun u : (Nat → va_H) × (Nat → Int32) => ps cI cC cW h u.1 S q V z U y u.2) (r0 := (-1 : Int32)) (u0 := (Y33, I)) e33 (List.Perm.of_eq (List.append_nil _).symm) (fun _ => List.Perm.of_eq (List.append_nil _)) CF (c_X5_good l D cI cC cW t h _ Y22 S q V z U y I (41 : Int32) (1 : Int32) (f22.sf hsf) hst) (cwV 2 hts gL_fails_X5_good rfl rfl rfl (by decide +kernel) ⟨Nat.le_of_ble_eq_true rfl, Nat.le_of_ble_eq_true rfl⟩) hP hD hK hX hS hA 0 4 ps_0 rfl rfl hl.1 rfl (Nat.le_of_ble_eq_true rfl) dL_fails_33 ⟨Nat.zero_le _, Nat.zero_le _⟩ (fun H locs hP hD hS => ?_)
  have hP : va_P D vwCl (ps cI cC cW h Y33 S q V z U y I) H := hP
  have hD : va_D A (ps cI cC cW h Y33 S q V z U y I) := hD
  refine lv_iconst (v := -1) hx hb dL_fails_36 (by decide) ?_
  refine lv_icmp_ne (tgt := 178) hx hb dL_fails_37 (by decide) (fun c9 => absurd (by decide) c9) (fun _ => ?_)
  refine lv_aload_n hx hb dL_fails_40 rfl (lv_at hl 3 rfl) ?_
  refine lv_iconst (v := 1) hx hb dL_fails_41 (by decide) ?_
  refine lv_iconst (v := 0) hx hb dL_fails_42 (by decide) ?_
  obtain ⟨Y43, e43, f43⟩ := fl_c (Y0 := Y) (Y := Y33) (S := S) (q := q) (V := V) (z := z) (U := U) (y := y) (I := I) (f := sp_X4_addGood (Y33 4).2.1 (Y33 4).2.2 (1 : Int32) (0 : Int32)) f33 (fe_2)
  have e43 : sp_X5_good Y33 S q V z U y I (1 : Int32) (0 : Int32) = (-1, (Y43, I)) := e43
  refine rwVse (wc := ps cI cC cW h Y33 S q V z U y I) (Rr := []) (wn := fun u : (Nat → va_H) × (Nat → Int32) => ps cI cC cW h u.1 S q V z U y u.2) (w1 := fun u : (Nat → va_H) × (Nat → Int32) => ps cI cC cW h u.1 S q V z U y u.2) (r0 := (-1 : Int32)) (u0 := (Y43, I)) e43 (List.Perm.of_eq (List.append_nil _).symm) (fun _ => List.Perm.of_eq (List.append_nil _)) CF (c_X5_good l D cI cC cW t h _ Y33 S q V z U y I (1 : Int32) (0 : Int32) (f33.sf hsf) hst) (cwV 2 hts gL_fails_X5_good rfl rfl rfl (by decide +kernel) ⟨Nat.le_of_ble_eq_true rfl, Nat.le_of_ble_eq_true rfl⟩) hP hD hK hX hS hA 0 4 ps_0 rfl rfl hl.1 rfl (Nat.le_of_ble_eq_true rfl) dL_fails_43 ⟨Nat.zero_le _, Nat.zero_le _⟩ (fun H locs hP hD hS => ?_)
  have hP : va_P D vwCl (ps cI cC cW h Y43 S q V z U y I) H := hP
  have hD : va_D A (ps cI cC cW h Y43 S q V z U y I) := hD
  refine lv_iconst (v := -1) hx hb dL_fails_46 (by decide) ?_
  refine lv_icmp_ne (tgt := 178) hx hb dL_fails_47 (by decide) (fun c9 => absurd (by decide) c9) (fun _ => ?_)
  refine lv_aload_n hx hb dL_fails_50 rfl (lv_at hl 3 rfl) ?_
  refine lv_iconst (v := 1) hx hb dL_fails_51 (by decide) ?_
  refine lv_sipush (v := 201) hx hb dL_fails_52 (by decide) ?_
  obtain ⟨Y55, e55, f55⟩ := fl_c (Y0 := Y) (Y := Y43) (S := S) (q := q) (V := V) (z := z) (U := U) (y := y) (I := I) (f := sp_X4_addGood (Y43 4).2.1 (Y43 4).2.2 (1 : Int32) (201 : Int32)) f43 (fe_3)
  have e55 : sp_X5_good Y43 S q V z U y I (1 : Int32) (201 : Int32) = (-1, (Y55, I)) := e55
  refine rwVse (wc := ps cI cC cW h Y43 S q V z U y I) (Rr := []) (wn := fun u : (Nat → va_H) × (Nat → Int32) => ps cI cC cW h u.1 S q V z U y u.2) (w1 := fun u : (Nat → va_H) × (Nat → Int32) => ps cI cC cW h u.1 S q V z U y u.2) (r0 := (-1 : Int32)) (u0 := (Y55, I)) e55 (List.Perm.of_eq (List.append_nil _).symm) (fun _ => List.Perm.of_eq (List.append_nil _)) CF (c_X5_good l D cI cC cW t h _ Y43 S q V z U y I (1 : Int32) (201 : Int32) (f43.sf hsf) hst) (cwV 2 hts gL_fails_X5_good rfl rfl rfl (by decide +kernel) ⟨Nat.le_of_ble_eq_true rfl, Nat.le_of_ble_eq_true rfl⟩) hP hD hK hX hS hA 0 4 ps_0 rfl rfl hl.1 rfl (Nat.le_of_ble_eq_true rfl) dL_fails_55 ⟨Nat.zero_le _, Nat.zero_le _⟩ (fun H locs hP hD hS => ?_)
  have hP : va_P D vwCl (ps cI cC cW h Y55 S q V z U y I) H := hP
  have hD : va_D A (ps cI cC cW h Y55 S q V z U y I) := hD
  refine lv_iconst (v := -1) hx hb dL_fails_58 (by decide) ?_
  refine lv_icmp_ne (tgt := 178) hx hb dL_fails_59 (by decide) (fun c9 => absurd (by decide) c9) (fun _ => ?_)
  refine lv_aload_n hx hb dL_fails_62 rfl (lv_at hl 3 rfl) ?_
  refine lv_iload hx hb dL_fails_63 (lv_at hl 0 rfl) ?_
  refine lv_iconst (v := 0) hx hb dL_fails_65 (by decide) ?_
  refine lv_iconst (v := 0) hx hb dL_fails_66 (by decide) ?_
  obtain ⟨Y67, e67, f67⟩ := fl_c (Y0 := Y) (Y := Y55) (S := S) (q := q) (V := V) (z := z) (U := U) (y := y) (I := I) (f := sp_X4_changeDemand (Y55 4).2.1 (Y55 4).2.2 ((Y 4).2.1 0) (0 : Int32) (0 : Int32)) f55 (fe_4 (by rw [f55.n4]))
  have e67 : sp_X5_demand Y55 S q V z U y I ((Y 4).2.1 0) (0 : Int32) (0 : Int32) = (-1, (Y67, I)) := e67
  refine rwVse (wc := ps cI cC cW h Y55 S q V z U y I) (Rr := []) (wn := fun u : (Nat → va_H) × (Nat → Int32) => ps cI cC cW h u.1 S q V z U y u.2) (w1 := fun u : (Nat → va_H) × (Nat → Int32) => ps cI cC cW h u.1 S q V z U y u.2) (r0 := (-1 : Int32)) (u0 := (Y67, I)) e67 (List.Perm.of_eq (List.append_nil _).symm) (fun _ => List.Perm.of_eq (List.append_nil _)) CF (c_X5_demand l D cI cC cW t h _ Y55 S q V z U y I ((Y 4).2.1 0) (0 : Int32) (0 : Int32) (f55.sf hsf) hst) (cwV 3 hts gL_fails_X5_demand rfl rfl rfl (by decide +kernel) ⟨Nat.le_of_ble_eq_true rfl, Nat.le_of_ble_eq_true rfl⟩) hP hD hK hX hS hA 0 4 ps_0 rfl rfl hl.1 rfl (Nat.le_of_ble_eq_true rfl) dL_fails_67 ⟨Nat.zero_le _, Nat.zero_le _⟩ (fun H locs hP hD hS => ?_)
  have hP : va_P D vwCl (ps cI cC cW h Y67 S q V z U y I) H := hP
  have hD : va_D A (ps cI cC cW h Y67 S q V z U y I) := hD
  refine lv_iconst (v := -1) hx hb dL_fails_70 (by decide) ?_
  refine lv_icmp_ne (tgt := 178) hx hb dL_fails_71 (by decide) (fun c9 => absurd (by decide) c9) (fun _ => ?_)
  refine lv_aload_n hx hb dL_fails_74 rfl (lv_at hl 3 rfl) ?_
  refine lv_iconst (v := 0) hx hb dL_fails_75 (by decide) ?_
  refine lv_iconst (v := 4) hx hb dL_fails_76 (by decide) ?_
  refine lv_iconst (v := 0) hx hb dL_fails_77 (by decide) ?_
  obtain ⟨Y78, e78, f78⟩ := fl_c (Y0 := Y) (Y := Y67) (S := S) (q := q) (V := V) (z := z) (U := U) (y := y) (I := I) (f := sp_X4_changeDemand (Y67 4).2.1 (Y67 4).2.2 (0 : Int32) (4 : Int32) (0 : Int32)) f67 (fe_5)
  have e78 : sp_X5_demand Y67 S q V z U y I (0 : Int32) (4 : Int32) (0 : Int32) = (-1, (Y78, I)) := e78
  refine rwVse (wc := ps cI cC cW h Y67 S q V z U y I) (Rr := []) (wn := fun u : (Nat → va_H) × (Nat → Int32) => ps cI cC cW h u.1 S q V z U y u.2) (w1 := fun u : (Nat → va_H) × (Nat → Int32) => ps cI cC cW h u.1 S q V z U y u.2) (r0 := (-1 : Int32)) (u0 := (Y78, I)) e78 (List.Perm.of_eq (List.append_nil _).symm) (fun _ => List.Perm.of_eq (List.append_nil _)) CF (c_X5_demand l D cI cC cW t h _ Y67 S q V z U y I (0 : Int32) (4 : Int32) (0 : Int32) (f67.sf hsf) hst) (cwV 3 hts gL_fails_X5_demand rfl rfl rfl (by decide +kernel) ⟨Nat.le_of_ble_eq_true rfl, Nat.le_of_ble_eq_true rfl⟩) hP hD hK hX hS hA 0 4 ps_0 rfl rfl hl.1 rfl (Nat.le_of_ble_eq_true rfl) dL_fails_78 ⟨Nat.zero_le _, Nat.zero_le _⟩ (fun H locs hP hD hS => ?_)
  have hP : va_P D vwCl (ps cI cC cW h Y78 S q V z U y I) H := hP
  have hD : va_D A (ps cI cC cW h Y78 S q V z U y I) := hD
  refine lv_iconst (v := -1) hx hb dL_fails_81 (by decide) ?_
  refine lv_icmp_ne (tgt := 178) hx hb dL_fails_82 (by decide) (fun c9 => absurd (by decide) c9) (fun _ => ?_)
  refine lv_aload_n hx hb dL_fails_85 rfl (lv_at hl 3 rfl) ?_
  refine lv_iconst (v := 0) hx hb dL_fails_86 (by decide) ?_
  refine lv_iconst (v := 0) hx hb dL_fails_87 (by decide) ?_
  refine lv_sipush (v := 1000) hx hb dL_fails_88 (by decide) ?_
  obtain ⟨Y91, e91, f91⟩ := fl_c (Y0 := Y) (Y := Y78) (S := S) (q := q) (V := V) (z := z) (U := U) (y := y) (I := I) (f := sp_X4_changeDemand (Y78 4).2.1 (Y78 4).2.2 (0 : Int32) (0 : Int32) (1000 : Int32)) f78 (fe_6)
  have e91 : sp_X5_demand Y78 S q V z U y I (0 : Int32) (0 : Int32) (1000 : Int32) = (-1, (Y91, I)) := e91
  refine rwVse (wc := ps cI cC cW h Y78 S q V z U y I) (Rr := []) (wn := fun u : (Nat → va_H) × (Nat → Int32) => ps cI cC cW h u.1 S q V z U y u.2) (w1 := fun u : (Nat → va_H) × (Nat → Int32) => ps cI cC cW h u.1 S q V z U y u.2) (r0 := (-1 : Int32)) (u0 := (Y91, I)) e91 (List.Perm.of_eq (List.append_nil _).symm) (fun _ => List.Perm.of_eq (List.append_nil _)) CF (c_X5_demand l D cI cC cW t h _ Y78 S q V z U y I (0 : Int32) (0 : Int32) (1000 : Int32) (f78.sf hsf) hst) (cwV 3 hts gL_fails_X5_demand rfl rfl rfl (by decide +kernel) ⟨Nat.le_of_ble_eq_true rfl, Nat.le_of_ble_eq_true rfl⟩) hP hD hK hX hS hA 0 4 ps_0 rfl rfl hl.1 rfl (Nat.le_of_ble_eq_true rfl) dL_fails_91 ⟨Nat.zero_le _, Nat.zero_le _⟩ (fun H locs hP hD hS => ?_)
  have hP : va_P D vwCl (ps cI cC cW h Y91 S q V z U y I) H := hP
  have hD : va_D A (ps cI cC cW h Y91 S q V z U y I) := hD
  refine lv_iconst (v := -1) hx hb dL_fails_94 (by decide) ?_
  refine lv_icmp_ne (tgt := 178) hx hb dL_fails_95 (by decide) (fun c9 => absurd (by decide) c9) (fun _ => ?_)
  refine lv_aload_n hx hb dL_fails_98 rfl (lv_at hl 3 rfl) ?_
  refine lv_iconst (v := 0) hx hb dL_fails_99 (by decide) ?_
  refine lv_iconst (v := 0) hx hb dL_fails_100 (by decide) ?_
  refine lv_iconst (v := -1) hx hb dL_fails_101 (by decide) ?_
  obtain ⟨Y102, e102, f102⟩ := fl_c (Y0 := Y) (Y := Y91) (S := S) (q := q) (V := V) (z := z) (U := U) (y := y) (I := I) (f := sp_X4_changeDemand (Y91 4).2.1 (Y91 4).2.2 (0 : Int32) (0 : Int32) (-1 : Int32)) f91 (fe_7)
  have e102 : sp_X5_demand Y91 S q V z U y I (0 : Int32) (0 : Int32) (-1 : Int32) = (-1, (Y102, I)) := e102
  refine rwVse (wc := ps cI cC cW h Y91 S q V z U y I) (Rr := []) (wn := fun u : (Nat → va_H) × (Nat → Int32) => ps cI cC cW h u.1 S q V z U y u.2) (w1 := fun u : (Nat → va_H) × (Nat → Int32) => ps cI cC cW h u.1 S q V z U y u.2) (r0 := (-1 : Int32)) (u0 := (Y102, I)) e102 (List.Perm.of_eq (List.append_nil _).symm) (fun _ => List.Perm.of_eq (List.append_nil _)) CF (c_X5_demand l D cI cC cW t h _ Y91 S q V z U y I (0 : Int32) (0 : Int32) (-1 : Int32) (f91.sf hsf) hst) (cwV 3 hts gL_fails_X5_demand rfl rfl rfl (by decide +kernel) ⟨Nat.le_of_ble_eq_true rfl, Nat.le_of_ble_eq_true rfl⟩) hP hD hK hX hS hA 0 4 ps_0 rfl rfl hl.1 rfl (Nat.le_of_ble_eq_true rfl) dL_fails_102 ⟨Nat.zero_le _, Nat.zero_le _⟩ (fun H locs hP hD hS => ?_)
  have hP : va_P D vwCl (ps cI cC cW h Y102 S q V z U y I) H := hP
  have hD : va_D A (ps cI cC cW h Y102 S q V z U y I) := hD
  refine lv_iconst (v := -1) hx hb dL_fails_105 (by decide) ?_
  refine lv_icmp_ne (tgt := 178) hx hb dL_fails_106 (by decide) (fun c9 => absurd (by decide) c9) (fun _ => ?_)
  refine lv_aload_n hx hb dL_fails_109 rfl (lv_at hl 3 rfl) ?_
  refine lv_iload hx hb dL_fails_110 (lv_at hl 0 rfl) ?_
  refine lv_iconst (v := 1) hx hb dL_fails_112 (by decide) ?_
  obtain ⟨Y113, e113, f113⟩ := fl_c (Y0 := Y) (Y := Y102) (S := S) (q := q) (V := V) (z := z) (U := U) (y := y) (I := I) (f := sp_X4_addToStore (Y102 4).2.1 (Y102 4).2.2 ((Y 4).2.1 0) (1 : Int32)) f102 (fe_8 (by rw [f102.n4]))
  have e113 : sp_X5_deliver Y102 S q V z U y I ((Y 4).2.1 0) (1 : Int32) = (-1, (Y113, I)) := e113
  refine rwVse (wc := ps cI cC cW h Y102 S q V z U y I) (Rr := []) (wn := fun u : (Nat → va_H) × (Nat → Int32) => ps cI cC cW h u.1 S q V z U y u.2) (w1 := fun u : (Nat → va_H) × (Nat → Int32) => ps cI cC cW h u.1 S q V z U y u.2) (r0 := (-1 : Int32)) (u0 := (Y113, I)) e113 (List.Perm.of_eq (List.append_nil _).symm) (fun _ => List.Perm.of_eq (List.append_nil _)) CF (c_X5_deliver l D cI cC cW t h _ Y102 S q V z U y I ((Y 4).2.1 0) (1 : Int32) (f102.sf hsf) hst) (cwV 2 hts gL_fails_X5_deliver rfl rfl rfl (by decide +kernel) ⟨Nat.le_of_ble_eq_true rfl, Nat.le_of_ble_eq_true rfl⟩) hP hD hK hX hS hA 0 4 ps_0 rfl rfl hl.1 rfl (Nat.le_of_ble_eq_true rfl) dL_fails_113 ⟨Nat.zero_le _, Nat.zero_le _⟩ (fun H locs hP hD hS => ?_)
  have hP : va_P D vwCl (ps cI cC cW h Y113 S q V z U y I) H := hP
  have hD : va_D A (ps cI cC cW h Y113 S q V z U y I) := hD
  refine lv_iconst (v := -1) hx hb dL_fails_116 (by decide) ?_
  refine lv_icmp_ne (tgt := 178) hx hb dL_fails_117 (by decide) (fun c9 => absurd (by decide) c9) (fun _ => ?_)
  refine lv_aload_n hx hb dL_fails_120 rfl (lv_at hl 3 rfl) ?_
  refine lv_iconst (v := 0) hx hb dL_fails_121 (by decide) ?_
  refine lv_iconst (v := 0) hx hb dL_fails_122 (by decide) ?_
  obtain ⟨Y123, e123, f123⟩ := fl_c (Y0 := Y) (Y := Y113) (S := S) (q := q) (V := V) (z := z) (U := U) (y := y) (I := I) (f := sp_X4_addToStore (Y113 4).2.1 (Y113 4).2.2 (0 : Int32) (0 : Int32)) f113 (fe_9)
  have e123 : sp_X5_deliver Y113 S q V z U y I (0 : Int32) (0 : Int32) = (-1, (Y123, I)) := e123
  refine rwVse (wc := ps cI cC cW h Y113 S q V z U y I) (Rr := []) (wn := fun u : (Nat → va_H) × (Nat → Int32) => ps cI cC cW h u.1 S q V z U y u.2) (w1 := fun u : (Nat → va_H) × (Nat → Int32) => ps cI cC cW h u.1 S q V z U y u.2) (r0 := (-1 : Int32)) (u0 := (Y123, I)) e123 (List.Perm.of_eq (List.append_nil _).symm) (fun _ => List.Perm.of_eq (List.append_nil _)) CF (c_X5_deliver l D cI cC cW t h _ Y113 S q V z U y I (0 : Int32) (0 : Int32) (f113.sf hsf) hst) (cwV 2 hts gL_fails_X5_deliver rfl rfl rfl (by decide +kernel) ⟨Nat.le_of_ble_eq_true rfl, Nat.le_of_ble_eq_true rfl⟩) hP hD hK hX hS hA 0 4 ps_0 rfl rfl hl.1 rfl (Nat.le_of_ble_eq_true rfl) dL_fails_123 ⟨Nat.zero_le _, Nat.zero_le _⟩ (fun H locs hP hD hS => ?_)
  have hP : va_P D vwCl (ps cI cC cW h Y123 S q V z U y I) H := hP
  have hD : va_D A (ps cI cC cW h Y123 S q V z U y I) := hD
  refine lv_iconst (v := -1) hx hb dL_fails_126 (by decide) ?_
  refine lv_icmp_ne (tgt := 178) hx hb dL_fails_127 (by decide) (fun c9 => absurd (by decide) c9) (fun _ => ?_)
  refine lv_aload_n hx hb dL_fails_130 rfl (lv_at hl 3 rfl) ?_
  refine lv_iconst (v := 0) hx hb dL_fails_131 (by decide) ?_
  refine lv_sipush (v := 5001) hx hb dL_fails_132 (by decide) ?_
  obtain ⟨Y135, e135, f135⟩ := fl_c (Y0 := Y) (Y := Y123) (S := S) (q := q) (V := V) (z := z) (U := U) (y := y) (I := I) (f := sp_X4_addToStore (Y123 4).2.1 (Y123 4).2.2 (0 : Int32) (5001 : Int32)) f123 (fe_10)
  have e135 : sp_X5_deliver Y123 S q V z U y I (0 : Int32) (5001 : Int32) = (-1, (Y135, I)) := e135
  refine rwVse (wc := ps cI cC cW h Y123 S q V z U y I) (Rr := []) (wn := fun u : (Nat → va_H) × (Nat → Int32) => ps cI cC cW h u.1 S q V z U y u.2) (w1 := fun u : (Nat → va_H) × (Nat → Int32) => ps cI cC cW h u.1 S q V z U y u.2) (r0 := (-1 : Int32)) (u0 := (Y135, I)) e135 (List.Perm.of_eq (List.append_nil _).symm) (fun _ => List.Perm.of_eq (List.append_nil _)) CF (c_X5_deliver l D cI cC cW t h _ Y123 S q V z U y I (0 : Int32) (5001 : Int32) (f123.sf hsf) hst) (cwV 2 hts gL_fails_X5_deliver rfl rfl rfl (by decide +kernel) ⟨Nat.le_of_ble_eq_true rfl, Nat.le_of_ble_eq_true rfl⟩) hP hD hK hX hS hA 0 4 ps_0 rfl rfl hl.1 rfl (Nat.le_of_ble_eq_true rfl) dL_fails_135 ⟨Nat.zero_le _, Nat.zero_le _⟩ (fun H locs hP hD hS => ?_)
  have hP : va_P D vwCl (ps cI cC cW h Y135 S q V z U y I) H := hP
  have hD : va_D A (ps cI cC cW h Y135 S q V z U y I) := hD
  refine lv_iconst (v := -1) hx hb dL_fails_138 (by decide) ?_
  refine lv_icmp_ne (tgt := 178) hx hb dL_fails_139 (by decide) (fun c9 => absurd (by decide) c9) (fun _ => ?_)
  refine lv_aload_n hx hb dL_fails_142 rfl (lv_at hl 3 rfl) ?_
  refine lv_iload hx hb dL_fails_143 (lv_at hl 0 rfl) ?_
  refine lv_iconst (v := 0) hx hb dL_fails_145 (by decide) ?_
  obtain ⟨Y146, e146, f146⟩ := fl_c (Y0 := Y) (Y := Y135) (S := S) (q := q) (V := V) (z := z) (U := U) (y := y) (I := I) (f := sp_X4_putIntoSlot (Y135 4).2.1 (Y135 4).2.2 ((Y 4).2.1 0) (0 : Int32)) f135 (fe_11 (by rw [f135.n4]))
  have e146 : sp_X5_place Y135 S q V z U y I ((Y 4).2.1 0) (0 : Int32) = (-1, (Y146, I)) := e146
  refine rwVse (wc := ps cI cC cW h Y135 S q V z U y I) (Rr := []) (wn := fun u : (Nat → va_H) × (Nat → Int32) => ps cI cC cW h u.1 S q V z U y u.2) (w1 := fun u : (Nat → va_H) × (Nat → Int32) => ps cI cC cW h u.1 S q V z U y u.2) (r0 := (-1 : Int32)) (u0 := (Y146, I)) e146 (List.Perm.of_eq (List.append_nil _).symm) (fun _ => List.Perm.of_eq (List.append_nil _)) CF (c_X5_place l D cI cC cW t h _ Y135 S q V z U y I ((Y 4).2.1 0) (0 : Int32) (f135.sf hsf) hst) (cwV 2 hts gL_fails_X5_place rfl rfl rfl (by decide +kernel) ⟨Nat.le_of_ble_eq_true rfl, Nat.le_of_ble_eq_true rfl⟩) hP hD hK hX hS hA 0 4 ps_0 rfl rfl hl.1 rfl (Nat.le_of_ble_eq_true rfl) dL_fails_146 ⟨Nat.zero_le _, Nat.zero_le _⟩ (fun H locs hP hD hS => ?_)
  have hP : va_P D vwCl (ps cI cC cW h Y146 S q V z U y I) H := hP
  have hD : va_D A (ps cI cC cW h Y146 S q V z U y I) := hD
  refine lv_iconst (v := -1) hx hb dL_fails_149 (by decide) ?_
  refine lv_icmp_ne (tgt := 178) hx hb dL_fails_150 (by decide) (fun c9 => absurd (by decide) c9) (fun _ => ?_)
  refine lv_aload_n hx hb dL_fails_153 rfl (lv_at hl 3 rfl) ?_
  refine lv_iconst (v := 0) hx hb dL_fails_154 (by decide) ?_
  refine lv_bipush (v := 60) hx hb dL_fails_155 (by decide) ?_
  obtain ⟨Y157, e157, f157⟩ := fl_c (Y0 := Y) (Y := Y146) (S := S) (q := q) (V := V) (z := z) (U := U) (y := y) (I := I) (f := sp_X4_putIntoSlot (Y146 4).2.1 (Y146 4).2.2 (0 : Int32) (60 : Int32)) f146 (fe_12)
  have e157 : sp_X5_place Y146 S q V z U y I (0 : Int32) (60 : Int32) = (-1, (Y157, I)) := e157
  refine rwVse (wc := ps cI cC cW h Y146 S q V z U y I) (Rr := []) (wn := fun u : (Nat → va_H) × (Nat → Int32) => ps cI cC cW h u.1 S q V z U y u.2) (w1 := fun u : (Nat → va_H) × (Nat → Int32) => ps cI cC cW h u.1 S q V z U y u.2) (r0 := (-1 : Int32)) (u0 := (Y157, I)) e157 (List.Perm.of_eq (List.append_nil _).symm) (fun _ => List.Perm.of_eq (List.append_nil _)) CF (c_X5_place l D cI cC cW t h _ Y146 S q V z U y I (0 : Int32) (60 : Int32) (f146.sf hsf) hst) (cwV 2 hts gL_fails_X5_place rfl rfl rfl (by decide +kernel) ⟨Nat.le_of_ble_eq_true rfl, Nat.le_of_ble_eq_true rfl⟩) hP hD hK hX hS hA 0 4 ps_0 rfl rfl hl.1 rfl (Nat.le_of_ble_eq_true rfl) dL_fails_157 ⟨Nat.zero_le _, Nat.zero_le _⟩ (fun H locs hP hD hS => ?_)
  have hP : va_P D vwCl (ps cI cC cW h Y157 S q V z U y I) H := hP
  have hD : va_D A (ps cI cC cW h Y157 S q V z U y I) := hD
  refine lv_iconst (v := -1) hx hb dL_fails_160 (by decide) ?_
  refine lv_icmp_ne (tgt := 178) hx hb dL_fails_161 (by decide) (fun c9 => absurd (by decide) c9) (fun _ => ?_)
  refine lv_aload_n hx hb dL_fails_164 rfl (lv_at hl 3 rfl) ?_
  refine lv_iload hx hb dL_fails_165 (lv_at hl 0 rfl) ?_
  obtain ⟨Y167, e167, f167⟩ := fl_c (Y0 := Y) (Y := Y157) (S := S) (q := q) (V := V) (z := z) (U := U) (y := y) (I := I) (f := sp_X4_takeOutOfSlot (Y157 4).2.1 (Y157 4).2.2 ((Y 4).2.1 0)) f157 (fe_13 (by rw [f157.n4]))
  have e167 : sp_X5_take Y157 S q V z U y I ((Y 4).2.1 0) = (-1, (Y167, I)) := e167
  refine rwVse (wc := ps cI cC cW h Y157 S q V z U y I) (Rr := []) (wn := fun u : (Nat → va_H) × (Nat → Int32) => ps cI cC cW h u.1 S q V z U y u.2) (w1 := fun u : (Nat → va_H) × (Nat → Int32) => ps cI cC cW h u.1 S q V z U y u.2) (r0 := (-1 : Int32)) (u0 := (Y167, I)) e167 (List.Perm.of_eq (List.append_nil _).symm) (fun _ => List.Perm.of_eq (List.append_nil _)) CF (c_X5_take l D cI cC cW t h _ Y157 S q V z U y I ((Y 4).2.1 0) (f157.sf hsf) hst) (cwV 1 hts gL_fails_X5_take rfl rfl rfl (by decide +kernel) ⟨Nat.le_of_ble_eq_true rfl, Nat.le_of_ble_eq_true rfl⟩) hP hD hK hX hS hA 0 4 ps_0 rfl rfl hl.1 rfl (Nat.le_of_ble_eq_true rfl) dL_fails_167 ⟨Nat.zero_le _, Nat.zero_le _⟩ (fun H locs hP hD hS => ?_)
  have hP : va_P D vwCl (ps cI cC cW h Y167 S q V z U y I) H := hP
  have hD : va_D A (ps cI cC cW h Y167 S q V z U y I) := hD
  refine lv_iconst (v := -1) hx hb dL_fails_170 (by decide) ?_
  refine lv_icmp_ne (tgt := 178) hx hb dL_fails_171 (by decide) (fun c9 => absurd (by decide) c9) (fun _ => ?_)
  refine lv_iconst (v := 1) hx hb dL_fails_174 (by decide) ?_
  refine lv_goto (tgt := 179) hx hb dL_fails_175 (by decide) ?_
  refine lv_istore (lv' := [(5, .int _), (4, .int _), (3, .int _), (1, .long _), (0, .ref _)]) hx hb dL_fails_179 hl (by decide) rfl (fun ls hl => ?_)
  refine lv_iload hx hb dL_fails_181 (lv_at hl 0 rfl) ?_
  refine lv_if_eq (tgt := 362) hx hb dL_fails_183 (by decide) (fun c9 => absurd c9 (by decide)) (fun _ => ?_)
  refine lv_aload_n hx hb dL_fails_186 rfl (lv_at hl 4 rfl) ?_
  refine lv_iload hx hb dL_fails_187 (lv_at hl 1 rfl) ?_
  refine lv_iconst (v := 0) hx hb dL_fails_189 (by decide) ?_
  refine roV CF (c_X5_goodOf l D cI cC cW t h Y167 S q V z U y I ((Y 4).2.1 0) (0 : Int32) (f167.sf hsf)) (cwV 2 hts gL_fails_X5_goodOf rfl rfl rfl (by decide +kernel) ⟨Nat.le_of_ble_eq_true rfl, Nat.le_of_ble_eq_true rfl⟩) hP hK hX hS 0 4 ps_0 rfl rfl hl.1 rfl (Nat.le_of_ble_eq_true rfl) dL_fails_190 ⟨Nat.zero_le _, Nat.zero_le _⟩ ?_
  refine lv_top_eq (y := (-1 : Int32)) (fe_14 (by rw [f167.n4])) ?_
  refine lv_iconst (v := -1) hx hb dL_fails_193 (by decide) ?_
  refine lv_icmp_ne (tgt := 362) hx hb dL_fails_194 (by decide) (fun c9 => absurd (by decide) c9) (fun _ => ?_)
  refine lv_aload_n hx hb dL_fails_197 rfl (lv_at hl 4 rfl) ?_
  refine lv_iconst (v := 0) hx hb dL_fails_198 (by decide) ?_
  refine lv_bipush (v := 12) hx hb dL_fails_199 (by decide) ?_
  refine roV CF (c_X5_goodOf l D cI cC cW t h Y167 S q V z U y I (0 : Int32) (12 : Int32) (f167.sf hsf)) (cwV 2 hts gL_fails_X5_goodOf rfl rfl rfl (by decide +kernel) ⟨Nat.le_of_ble_eq_true rfl, Nat.le_of_ble_eq_true rfl⟩) hP hK hX hS 0 4 ps_0 rfl rfl hl.1 rfl (Nat.le_of_ble_eq_true rfl) dL_fails_201 ⟨Nat.zero_le _, Nat.zero_le _⟩ ?_
  refine lv_top_eq (y := (-1 : Int32)) fe_15 ?_
  refine lv_iconst (v := -1) hx hb dL_fails_204 (by decide) ?_
  refine lv_icmp_ne (tgt := 362) hx hb dL_fails_205 (by decide) (fun c9 => absurd (by decide) c9) (fun _ => ?_)
  refine lv_aload_n hx hb dL_fails_208 rfl (lv_at hl 4 rfl) ?_
  refine lv_bipush (v := 60) hx hb dL_fails_209 (by decide) ?_
  refine lv_iconst (v := 0) hx hb dL_fails_211 (by decide) ?_
  refine roV CF (c_X5_slotOf l D cI cC cW t h Y167 S q V z U y I (60 : Int32) (0 : Int32) ) (cwV 2 hts gL_fails_X5_slotOf rfl rfl rfl (by decide +kernel) ⟨Nat.le_of_ble_eq_true rfl, Nat.le_of_ble_eq_true rfl⟩) hP hK hX hS 0 4 ps_0 rfl rfl hl.1 rfl (Nat.le_of_ble_eq_true rfl) dL_fails_212 ⟨Nat.zero_le _, Nat.zero_le _⟩ ?_
  refine lv_top_eq (y := (-1 : Int32)) fe_16 ?_
  refine lv_iconst (v := -1) hx hb dL_fails_215 (by decide) ?_
  refine lv_icmp_ne (tgt := 362) hx hb dL_fails_216 (by decide) (fun c9 => absurd (by decide) c9) (fun _ => ?_)
  refine lv_aload_n hx hb dL_fails_219 rfl (lv_at hl 4 rfl) ?_
  refine lv_iconst (v := 0) hx hb dL_fails_220 (by decide) ?_
  refine lv_iconst (v := 3) hx hb dL_fails_221 (by decide) ?_
  refine roV CF (c_X5_slotOf l D cI cC cW t h Y167 S q V z U y I (0 : Int32) (3 : Int32) ) (cwV 2 hts gL_fails_X5_slotOf rfl rfl rfl (by decide +kernel) ⟨Nat.le_of_ble_eq_true rfl, Nat.le_of_ble_eq_true rfl⟩) hP hK hX hS 0 4 ps_0 rfl rfl hl.1 rfl (Nat.le_of_ble_eq_true rfl) dL_fails_222 ⟨Nat.zero_le _, Nat.zero_le _⟩ ?_
  refine lv_top_eq (y := (-1 : Int32)) fe_17 ?_
  refine lv_iconst (v := -1) hx hb dL_fails_225 (by decide) ?_
  refine lv_icmp_ne (tgt := 362) hx hb dL_fails_226 (by decide) (fun c9 => absurd (by decide) c9) (fun _ => ?_)
  refine lv_aload_n hx hb dL_fails_229 rfl (lv_at hl 4 rfl) ?_
  refine lv_iload hx hb dL_fails_230 (lv_at hl 1 rfl) ?_
  refine roV CF (c_X5_nearest l D cI cC cW t h Y167 S q V z U y I ((Y 4).2.1 0) (f167.sf hsf)) (cwV 1 hts gL_fails_X5_nearest rfl rfl rfl (by decide +kernel) ⟨Nat.le_of_ble_eq_true rfl, Nat.le_of_ble_eq_true rfl⟩) hP hK hX hS 0 4 ps_0 rfl rfl hl.1 rfl (Nat.le_of_ble_eq_true rfl) dL_fails_232 ⟨Nat.zero_le _, Nat.zero_le _⟩ ?_
  refine lv_top_eq (y := (-1 : Int32)) (fe_18 (by rw [f167.n4])) ?_
  refine lv_iconst (v := -1) hx hb dL_fails_235 (by decide) ?_
  refine lv_icmp_ne (tgt := 362) hx hb dL_fails_236 (by decide) (fun c9 => absurd (by decide) c9) (fun _ => ?_)
  refine lv_aload_n hx hb dL_fails_239 rfl (lv_at hl 4 rfl) ?_
  refine lv_iload hx hb dL_fails_240 (lv_at hl 1 rfl) ?_
  refine lv_iconst (v := 1) hx hb dL_fails_242 (by decide) ?_
  obtain ⟨Y243, e243, f243⟩ := fl_c (Y0 := Y) (Y := Y167) (S := S) (q := q) (V := V) (z := z) (U := U) (y := y) (I := I) (f := sp_X4_pickUnits (Y167 4).2.1 (Y167 4).2.2 ((Y 4).2.1 0) (1 : Int32)) f167 (fe_19 (by rw [f167.n4]))
  have e243 : sp_X5_pick Y167 S q V z U y I ((Y 4).2.1 0) (1 : Int32) = (-1, (Y243, I)) := e243
  refine rwVse (wc := ps cI cC cW h Y167 S q V z U y I) (Rr := []) (wn := fun u : (Nat → va_H) × (Nat → Int32) => ps cI cC cW h u.1 S q V z U y u.2) (w1 := fun u : (Nat → va_H) × (Nat → Int32) => ps cI cC cW h u.1 S q V z U y u.2) (r0 := (-1 : Int32)) (u0 := (Y243, I)) e243 (List.Perm.of_eq (List.append_nil _).symm) (fun _ => List.Perm.of_eq (List.append_nil _)) CF (c_X5_pick l D cI cC cW t h _ Y167 S q V z U y I ((Y 4).2.1 0) (1 : Int32) (f167.sf hsf) hst) (cwV 2 hts gL_fails_X5_pick rfl rfl rfl (by decide +kernel) ⟨Nat.le_of_ble_eq_true rfl, Nat.le_of_ble_eq_true rfl⟩) hP hD hK hX hS hA 0 4 ps_0 rfl rfl hl.1 rfl (Nat.le_of_ble_eq_true rfl) dL_fails_243 ⟨Nat.zero_le _, Nat.zero_le _⟩ (fun H locs hP hD hS => ?_)
  have hP : va_P D vwCl (ps cI cC cW h Y243 S q V z U y I) H := hP
  have hD : va_D A (ps cI cC cW h Y243 S q V z U y I) := hD
  refine lv_iconst (v := -1) hx hb dL_fails_246 (by decide) ?_
  refine lv_icmp_ne (tgt := 362) hx hb dL_fails_247 (by decide) (fun c9 => absurd (by decide) c9) (fun _ => ?_)
  refine lv_aload_n hx hb dL_fails_250 rfl (lv_at hl 4 rfl) ?_
  refine lv_iconst (v := 0) hx hb dL_fails_251 (by decide) ?_
  refine lv_iconst (v := 0) hx hb dL_fails_252 (by decide) ?_
  obtain ⟨Y253, e253, f253⟩ := fl_c (Y0 := Y) (Y := Y243) (S := S) (q := q) (V := V) (z := z) (U := U) (y := y) (I := I) (f := sp_X4_pickUnits (Y243 4).2.1 (Y243 4).2.2 (0 : Int32) (0 : Int32)) f243 (fe_20)
  have e253 : sp_X5_pick Y243 S q V z U y I (0 : Int32) (0 : Int32) = (-1, (Y253, I)) := e253
  refine rwVse (wc := ps cI cC cW h Y243 S q V z U y I) (Rr := []) (wn := fun u : (Nat → va_H) × (Nat → Int32) => ps cI cC cW h u.1 S q V z U y u.2) (w1 := fun u : (Nat → va_H) × (Nat → Int32) => ps cI cC cW h u.1 S q V z U y u.2) (r0 := (-1 : Int32)) (u0 := (Y253, I)) e253 (List.Perm.of_eq (List.append_nil _).symm) (fun _ => List.Perm.of_eq (List.append_nil _)) CF (c_X5_pick l D cI cC cW t h _ Y243 S q V z U y I (0 : Int32) (0 : Int32) (f243.sf hsf) hst) (cwV 2 hts gL_fails_X5_pick rfl rfl rfl (by decide +kernel) ⟨Nat.le_of_ble_eq_true rfl, Nat.le_of_ble_eq_true rfl⟩) hP hD hK hX hS hA 0 4 ps_0 rfl rfl hl.1 rfl (Nat.le_of_ble_eq_true rfl) dL_fails_253 ⟨Nat.zero_le _, Nat.zero_le _⟩ (fun H locs hP hD hS => ?_)
  have hP : va_P D vwCl (ps cI cC cW h Y253 S q V z U y I) H := hP
  have hD : va_D A (ps cI cC cW h Y253 S q V z U y I) := hD
  refine lv_iconst (v := -1) hx hb dL_fails_256 (by decide) ?_
  refine lv_icmp_ne (tgt := 362) hx hb dL_fails_257 (by decide) (fun c9 => absurd (by decide) c9) (fun _ => ?_)
  refine lv_aload_n hx hb dL_fails_260 rfl (lv_at hl 4 rfl) ?_
  refine lv_iconst (v := 0) hx hb dL_fails_261 (by decide) ?_
  refine lv_sipush (v := 201) hx hb dL_fails_262 (by decide) ?_
  obtain ⟨Y265, e265, f265⟩ := fl_c (Y0 := Y) (Y := Y253) (S := S) (q := q) (V := V) (z := z) (U := U) (y := y) (I := I) (f := sp_X4_pickUnits (Y253 4).2.1 (Y253 4).2.2 (0 : Int32) (201 : Int32)) f253 (fe_21)
  have e265 : sp_X5_pick Y253 S q V z U y I (0 : Int32) (201 : Int32) = (-1, (Y265, I)) := e265
  refine rwVse (wc := ps cI cC cW h Y253 S q V z U y I) (Rr := []) (wn := fun u : (Nat → va_H) × (Nat → Int32) => ps cI cC cW h u.1 S q V z U y u.2) (w1 := fun u : (Nat → va_H) × (Nat → Int32) => ps cI cC cW h u.1 S q V z U y u.2) (r0 := (-1 : Int32)) (u0 := (Y265, I)) e265 (List.Perm.of_eq (List.append_nil _).symm) (fun _ => List.Perm.of_eq (List.append_nil _)) CF (c_X5_pick l D cI cC cW t h _ Y253 S q V z U y I (0 : Int32) (201 : Int32) (f253.sf hsf) hst) (cwV 2 hts gL_fails_X5_pick rfl rfl rfl (by decide +kernel) ⟨Nat.le_of_ble_eq_true rfl, Nat.le_of_ble_eq_true rfl⟩) hP hD hK hX hS hA 0 4 ps_0 rfl rfl hl.1 rfl (Nat.le_of_ble_eq_true rfl) dL_fails_265 ⟨Nat.zero_le _, Nat.zero_le _⟩ (fun H locs hP hD hS => ?_)
  have hP : va_P D vwCl (ps cI cC cW h Y265 S q V z U y I) H := hP
  have hD : va_D A (ps cI cC cW h Y265 S q V z U y I) := hD
  refine lv_iconst (v := -1) hx hb dL_fails_268 (by decide) ?_
  refine lv_icmp_ne (tgt := 362) hx hb dL_fails_269 (by decide) (fun c9 => absurd (by decide) c9) (fun _ => ?_)
  refine lv_aload_n hx hb dL_fails_272 rfl (lv_at hl 4 rfl) ?_
  refine lv_iconst (v := -1) hx hb dL_fails_273 (by decide) ?_
  obtain ⟨Y274, e274, f274⟩ := fl_c (Y0 := Y) (Y := Y265) (S := S) (q := q) (V := V) (z := z) (U := U) (y := y) (I := I) (f := sp_X4_refillSlot (Y265 4).2.1 (Y265 4).2.2 (-1 : Int32)) f265 (fe_22)
  have e274 : sp_X5_refill Y265 S q V z U y I (-1 : Int32) = (-1, (Y274, I)) := e274
  refine rwVse (wc := ps cI cC cW h Y265 S q V z U y I) (Rr := []) (wn := fun u : (Nat → va_H) × (Nat → Int32) => ps cI cC cW h u.1 S q V z U y u.2) (w1 := fun u : (Nat → va_H) × (Nat → Int32) => ps cI cC cW h u.1 S q V z U y u.2) (r0 := (-1 : Int32)) (u0 := (Y274, I)) e274 (List.Perm.of_eq (List.append_nil _).symm) (fun _ => List.Perm.of_eq (List.append_nil _)) CF (c_X5_refill l D cI cC cW t h _ Y265 S q V z U y I (-1 : Int32) (f265.sf hsf) hst) (cwV 1 hts gL_fails_X5_refill rfl rfl rfl (by decide +kernel) ⟨Nat.le_of_ble_eq_true rfl, Nat.le_of_ble_eq_true rfl⟩) hP hD hK hX hS hA 0 4 ps_0 rfl rfl hl.1 rfl (Nat.le_of_ble_eq_true rfl) dL_fails_274 ⟨Nat.zero_le _, Nat.zero_le _⟩ (fun H locs hP hD hS => ?_)
  have hP : va_P D vwCl (ps cI cC cW h Y274 S q V z U y I) H := hP
  have hD : va_D A (ps cI cC cW h Y274 S q V z U y I) := hD
  refine lv_iconst (v := -1) hx hb dL_fails_277 (by decide) ?_
  refine lv_icmp_ne (tgt := 362) hx hb dL_fails_278 (by decide) (fun c9 => absurd (by decide) c9) (fun _ => ?_)
  refine lv_aload_n hx hb dL_fails_281 rfl (lv_at hl 4 rfl) ?_
  refine lv_iload hx hb dL_fails_282 (lv_at hl 1 rfl) ?_
  refine lv_iconst (v := 0) hx hb dL_fails_284 (by decide) ?_
  obtain ⟨Y285, e285, f285⟩ := fl_c (Y0 := Y) (Y := Y274) (S := S) (q := q) (V := V) (z := z) (U := U) (y := y) (I := I) (f := sp_X4_moveGood (Y274 4).2.1 (Y274 4).2.2 ((Y 4).2.1 0) (0 : Int32)) f274 (fe_23 (by rw [f274.n4]))
  have e285 : sp_X5_move Y274 S q V z U y I ((Y 4).2.1 0) (0 : Int32) = (-1, (Y285, I)) := e285
  refine rwVse (wc := ps cI cC cW h Y274 S q V z U y I) (Rr := []) (wn := fun u : (Nat → va_H) × (Nat → Int32) => ps cI cC cW h u.1 S q V z U y u.2) (w1 := fun u : (Nat → va_H) × (Nat → Int32) => ps cI cC cW h u.1 S q V z U y u.2) (r0 := (-1 : Int32)) (u0 := (Y285, I)) e285 (List.Perm.of_eq (List.append_nil _).symm) (fun _ => List.Perm.of_eq (List.append_nil _)) CF (c_X5_move l D cI cC cW t h _ Y274 S q V z U y I ((Y 4).2.1 0) (0 : Int32) (f274.sf hsf) hst) (cwV 2 hts gL_fails_X5_move rfl rfl rfl (by decide +kernel) ⟨Nat.le_of_ble_eq_true rfl, Nat.le_of_ble_eq_true rfl⟩) hP hD hK hX hS hA 0 4 ps_0 rfl rfl hl.1 rfl (Nat.le_of_ble_eq_true rfl) dL_fails_285 ⟨Nat.zero_le _, Nat.zero_le _⟩ (fun H locs hP hD hS => ?_)
  have hP : va_P D vwCl (ps cI cC cW h Y285 S q V z U y I) H := hP
  have hD : va_D A (ps cI cC cW h Y285 S q V z U y I) := hD
  refine lv_iconst (v := -1) hx hb dL_fails_288 (by decide) ?_
  refine lv_icmp_ne (tgt := 362) hx hb dL_fails_289 (by decide) (fun c9 => absurd (by decide) c9) (fun _ => ?_)
  refine lv_aload_n hx hb dL_fails_292 rfl (lv_at hl 4 rfl) ?_
  refine lv_iconst (v := 0) hx hb dL_fails_293 (by decide) ?_
  refine lv_iconst (v := -1) hx hb dL_fails_294 (by decide) ?_
  obtain ⟨Y295, e295, f295⟩ := fl_c (Y0 := Y) (Y := Y285) (S := S) (q := q) (V := V) (z := z) (U := U) (y := y) (I := I) (f := sp_X4_moveGood (Y285 4).2.1 (Y285 4).2.2 (0 : Int32) (-1 : Int32)) f285 (fe_24)
  have e295 : sp_X5_move Y285 S q V z U y I (0 : Int32) (-1 : Int32) = (-1, (Y295, I)) := e295
  refine rwVse (wc := ps cI cC cW h Y285 S q V z U y I) (Rr := []) (wn := fun u : (Nat → va_H) × (Nat → Int32) => ps cI cC cW h u.1 S q V z U y u.2) (w1 := fun u : (Nat → va_H) × (Nat → Int32) => ps cI cC cW h u.1 S q V z U y u.2) (r0 := (-1 : Int32)) (u0 := (Y295, I)) e295 (List.Perm.of_eq (List.append_nil _).symm) (fun _ => List.Perm.of_eq (List.append_nil _)) CF (c_X5_move l D cI cC cW t h _ Y285 S q V z U y I (0 : Int32) (-1 : Int32) (f285.sf hsf) hst) (cwV 2 hts gL_fails_X5_move rfl rfl rfl (by decide +kernel) ⟨Nat.le_of_ble_eq_true rfl, Nat.le_of_ble_eq_true rfl⟩) hP hD hK hX hS hA 0 4 ps_0 rfl rfl hl.1 rfl (Nat.le_of_ble_eq_true rfl) dL_fails_295 ⟨Nat.zero_le _, Nat.zero_le _⟩ (fun H locs hP hD hS => ?_)
  have hP : va_P D vwCl (ps cI cC cW h Y295 S q V z U y I) H := hP
  have hD : va_D A (ps cI cC cW h Y295 S q V z U y I) := hD
  refine lv_iconst (v := -1) hx hb dL_fails_298 (by decide) ?_
  refine lv_icmp_ne (tgt := 362) hx hb dL_fails_299 (by decide) (fun c9 => absurd (by decide) c9) (fun _ => ?_)
  refine lv_aload_n hx hb dL_fails_302 rfl (lv_at hl 4 rfl) ?_
  refine lv_iload hx hb dL_fails_303 (lv_at hl 1 rfl) ?_
  refine lv_iconst (v := 0) hx hb dL_fails_305 (by decide) ?_
  obtain ⟨Y306, e306, f306⟩ := fl_c (Y0 := Y) (Y := Y295) (S := S) (q := q) (V := V) (z := z) (U := U) (y := y) (I := I) (f := sp_X4_exchangeGoods (Y295 4).2.1 (Y295 4).2.2 ((Y 4).2.1 0) (0 : Int32)) f295 (fe_25 (by rw [f295.n4]))
  have e306 : sp_X5_exchange Y295 S q V z U y I ((Y 4).2.1 0) (0 : Int32) = (-1, (Y306, I)) := e306
  refine rwVse (wc := ps cI cC cW h Y295 S q V z U y I) (Rr := []) (wn := fun u : (Nat → va_H) × (Nat → Int32) => ps cI cC cW h u.1 S q V z U y u.2) (w1 := fun u : (Nat → va_H) × (Nat → Int32) => ps cI cC cW h u.1 S q V z U y u.2) (r0 := (-1 : Int32)) (u0 := (Y306, I)) e306 (List.Perm.of_eq (List.append_nil _).symm) (fun _ => List.Perm.of_eq (List.append_nil _)) CF (c_X5_exchange l D cI cC cW t h _ Y295 S q V z U y I ((Y 4).2.1 0) (0 : Int32) (f295.sf hsf) hst) (cwV 2 hts gL_fails_X5_exchange rfl rfl rfl (by decide +kernel) ⟨Nat.le_of_ble_eq_true rfl, Nat.le_of_ble_eq_true rfl⟩) hP hD hK hX hS hA 0 4 ps_0 rfl rfl hl.1 rfl (Nat.le_of_ble_eq_true rfl) dL_fails_306 ⟨Nat.zero_le _, Nat.zero_le _⟩ (fun H locs hP hD hS => ?_)
  have hP : va_P D vwCl (ps cI cC cW h Y306 S q V z U y I) H := hP
  have hD : va_D A (ps cI cC cW h Y306 S q V z U y I) := hD
  refine lv_iconst (v := -1) hx hb dL_fails_309 (by decide) ?_
  refine lv_icmp_ne (tgt := 362) hx hb dL_fails_310 (by decide) (fun c9 => absurd (by decide) c9) (fun _ => ?_)
  refine lv_aload_n hx hb dL_fails_313 rfl (lv_at hl 4 rfl) ?_
  refine lv_iconst (v := 0) hx hb dL_fails_314 (by decide) ?_
  refine lv_iconst (v := 0) hx hb dL_fails_315 (by decide) ?_
  obtain ⟨Y316, e316, f316⟩ := fl_c (Y0 := Y) (Y := Y306) (S := S) (q := q) (V := V) (z := z) (U := U) (y := y) (I := I) (f := sp_X4_exchangeGoods (Y306 4).2.1 (Y306 4).2.2 (0 : Int32) (0 : Int32)) f306 (fe_26)
  have e316 : sp_X5_exchange Y306 S q V z U y I (0 : Int32) (0 : Int32) = (-1, (Y316, I)) := e316
  refine rwVse (wc := ps cI cC cW h Y306 S q V z U y I) (Rr := []) (wn := fun u : (Nat → va_H) × (Nat → Int32) => ps cI cC cW h u.1 S q V z U y u.2) (w1 := fun u : (Nat → va_H) × (Nat → Int32) => ps cI cC cW h u.1 S q V z U y u.2) (r0 := (-1 : Int32)) (u0 := (Y316, I)) e316 (List.Perm.of_eq (List.append_nil _).symm) (fun _ => List.Perm.of_eq (List.append_nil _)) CF (c_X5_exchange l D cI cC cW t h _ Y306 S q V z U y I (0 : Int32) (0 : Int32) (f306.sf hsf) hst) (cwV 2 hts gL_fails_X5_exchange rfl rfl rfl (by decide +kernel) ⟨Nat.le_of_ble_eq_true rfl, Nat.le_of_ble_eq_true rfl⟩) hP hD hK hX hS hA 0 4 ps_0 rfl rfl hl.1 rfl (Nat.le_of_ble_eq_true rfl) dL_fails_316 ⟨Nat.zero_le _, Nat.zero_le _⟩ (fun H locs hP hD hS => ?_)
  have hP : va_P D vwCl (ps cI cC cW h Y316 S q V z U y I) H := hP
  have hD : va_D A (ps cI cC cW h Y316 S q V z U y I) := hD
  refine lv_iconst (v := -1) hx hb dL_fails_319 (by decide) ?_
  refine lv_icmp_ne (tgt := 362) hx hb dL_fails_320 (by decide) (fun c9 => absurd (by decide) c9) (fun _ => ?_)
  refine lv_aload_n hx hb dL_fails_323 rfl (lv_at hl 4 rfl) ?_
  refine lv_iload hx hb dL_fails_324 (lv_at hl 1 rfl) ?_
  refine lv_iconst (v := 0) hx hb dL_fails_326 (by decide) ?_
  refine lv_iconst (v := 0) hx hb dL_fails_327 (by decide) ?_
  refine roV CF (c_X5_worth l D cI cC cW t h Y316 S q V z U y I ((Y 4).2.1 0) (0 : Int32) (0 : Int32) (f316.sf hsf)) (cwV 3 hts gL_fails_X5_worth rfl rfl rfl (by decide +kernel) ⟨Nat.le_of_ble_eq_true rfl, Nat.le_of_ble_eq_true rfl⟩) hP hK hX hS 0 4 ps_0 rfl rfl hl.1 rfl (Nat.le_of_ble_eq_true rfl) dL_fails_328 ⟨Nat.zero_le _, Nat.zero_le _⟩ ?_
  refine lv_top_eq (y := (-1 : Int32)) (fe_27 (by rw [f316.n4])) ?_
  refine lv_iconst (v := -1) hx hb dL_fails_331 (by decide) ?_
  refine lv_icmp_ne (tgt := 362) hx hb dL_fails_332 (by decide) (fun c9 => absurd (by decide) c9) (fun _ => ?_)
  refine lv_aload_n hx hb dL_fails_335 rfl (lv_at hl 4 rfl) ?_
  refine lv_iconst (v := 0) hx hb dL_fails_336 (by decide) ?_
  refine lv_iconst (v := 0) hx hb dL_fails_337 (by decide) ?_
  refine lv_iconst (v := 3) hx hb dL_fails_338 (by decide) ?_
  refine roV CF (c_X5_worth l D cI cC cW t h Y316 S q V z U y I (0 : Int32) (0 : Int32) (3 : Int32) (f316.sf hsf)) (cwV 3 hts gL_fails_X5_worth rfl rfl rfl (by decide +kernel) ⟨Nat.le_of_ble_eq_true rfl, Nat.le_of_ble_eq_true rfl⟩) hP hK hX hS 0 4 ps_0 rfl rfl hl.1 rfl (Nat.le_of_ble_eq_true rfl) dL_fails_339 ⟨Nat.zero_le _, Nat.zero_le _⟩ ?_
  refine lv_top_eq (y := (-1 : Int32)) fe_28 ?_
  refine lv_iconst (v := -1) hx hb dL_fails_342 (by decide) ?_
  refine lv_icmp_ne (tgt := 362) hx hb dL_fails_343 (by decide) (fun c9 => absurd (by decide) c9) (fun _ => ?_)
  refine lv_aload_n hx hb dL_fails_346 rfl (lv_at hl 4 rfl) ?_
  refine lv_iconst (v := 0) hx hb dL_fails_347 (by decide) ?_
  refine lv_bipush (v := 60) hx hb dL_fails_348 (by decide) ?_
  refine lv_iconst (v := 0) hx hb dL_fails_350 (by decide) ?_
  refine roV CF (c_X5_worth l D cI cC cW t h Y316 S q V z U y I (0 : Int32) (60 : Int32) (0 : Int32) (f316.sf hsf)) (cwV 3 hts gL_fails_X5_worth rfl rfl rfl (by decide +kernel) ⟨Nat.le_of_ble_eq_true rfl, Nat.le_of_ble_eq_true rfl⟩) hP hK hX hS 0 4 ps_0 rfl rfl hl.1 rfl (Nat.le_of_ble_eq_true rfl) dL_fails_351 ⟨Nat.zero_le _, Nat.zero_le _⟩ ?_
  refine lv_top_eq (y := (-1 : Int32)) fe_29 ?_
  refine lv_iconst (v := -1) hx hb dL_fails_354 (by decide) ?_
  refine lv_icmp_ne (tgt := 362) hx hb dL_fails_355 (by decide) (fun c9 => absurd (by decide) c9) (fun _ => ?_)
  refine lv_iconst (v := 1) hx hb dL_fails_358 (by decide) ?_
  refine lv_goto (tgt := 363) hx hb dL_fails_359 (by decide) ?_
  refine lv_istore (lv' := [(5, .int _), (4, .int _), (3, .int _), (1, .long _), (0, .ref _)]) hx hb dL_fails_363 hl (by decide) rfl (fun ls hl => ?_)
  refine lv_iload hx hb dL_fails_365 (lv_at hl 0 rfl) ?_
  refine lv_if_eq (tgt := 530) hx hb dL_fails_367 (by decide) (fun c9 => absurd c9 (by decide)) (fun _ => ?_)
  refine lv_aload_n hx hb dL_fails_370 rfl (lv_at hl 4 rfl) ?_
  refine lv_iconst (v := 3) hx hb dL_fails_371 (by decide) ?_
  refine roV CF (c_X5_best l D cI cC cW t h Y316 S q V z U y I (3 : Int32) (f316.sf hsf)) (cwV 1 hts gL_fails_X5_best rfl rfl rfl (by decide +kernel) ⟨Nat.le_of_ble_eq_true rfl, Nat.le_of_ble_eq_true rfl⟩) hP hK hX hS 0 4 ps_0 rfl rfl hl.1 rfl (Nat.le_of_ble_eq_true rfl) dL_fails_372 ⟨Nat.zero_le _, Nat.zero_le _⟩ ?_
  refine lv_top_eq (y := (-1 : Int32)) fe_30 ?_
  refine lv_iconst (v := -1) hx hb dL_fails_375 (by decide) ?_
  refine lv_icmp_ne (tgt := 530) hx hb dL_fails_376 (by decide) (fun c9 => absurd (by decide) c9) (fun _ => ?_)
  refine lv_aload_n hx hb dL_fails_379 rfl (lv_at hl 4 rfl) ?_
  refine lv_iconst (v := -1) hx hb dL_fails_380 (by decide) ?_
  refine roV CF (c_X5_best l D cI cC cW t h Y316 S q V z U y I (-1 : Int32) (f316.sf hsf)) (cwV 1 hts gL_fails_X5_best rfl rfl rfl (by decide +kernel) ⟨Nat.le_of_ble_eq_true rfl, Nat.le_of_ble_eq_true rfl⟩) hP hK hX hS 0 4 ps_0 rfl rfl hl.1 rfl (Nat.le_of_ble_eq_true rfl) dL_fails_381 ⟨Nat.zero_le _, Nat.zero_le _⟩ ?_
  refine lv_top_eq (y := (-1 : Int32)) fe_31 ?_
  refine lv_iconst (v := -1) hx hb dL_fails_384 (by decide) ?_
  refine lv_icmp_ne (tgt := 530) hx hb dL_fails_385 (by decide) (fun c9 => absurd (by decide) c9) (fun _ => ?_)
  refine lv_aload_n hx hb dL_fails_388 rfl (lv_at hl 4 rfl) ?_
  refine lv_iconst (v := 0) hx hb dL_fails_389 (by decide) ?_
  obtain ⟨Y390, e390, f390⟩ := fl_c (Y0 := Y) (Y := Y316) (S := S) (q := q) (V := V) (z := z) (U := U) (y := y) (I := I) (f := sp_X4_doBest (Y316 4).2.1 (Y316 4).2.2 (0 : Int32)) f316 (fe_32)
  have e390 : sp_X5_improve Y316 S q V z U y I (0 : Int32) = (-1, (Y390, I)) := e390
  refine rwVse (wc := ps cI cC cW h Y316 S q V z U y I) (Rr := []) (wn := fun u : (Nat → va_H) × (Nat → Int32) => ps cI cC cW h u.1 S q V z U y u.2) (w1 := fun u : (Nat → va_H) × (Nat → Int32) => ps cI cC cW h u.1 S q V z U y u.2) (r0 := (-1 : Int32)) (u0 := (Y390, I)) e390 (List.Perm.of_eq (List.append_nil _).symm) (fun _ => List.Perm.of_eq (List.append_nil _)) CF (c_X5_improve l D cI cC cW t h _ Y316 S q V z U y I (0 : Int32) (f316.sf hsf) hst) (cwV 1 hts gL_fails_X5_improve rfl rfl rfl (by decide +kernel) ⟨Nat.le_of_ble_eq_true rfl, Nat.le_of_ble_eq_true rfl⟩) hP hD hK hX hS hA 0 4 ps_0 rfl rfl hl.1 rfl (Nat.le_of_ble_eq_true rfl) dL_fails_390 ⟨Nat.zero_le _, Nat.zero_le _⟩ (fun H locs hP hD hS => ?_)
  have hP : va_P D vwCl (ps cI cC cW h Y390 S q V z U y I) H := hP
  have hD : va_D A (ps cI cC cW h Y390 S q V z U y I) := hD
  refine lv_iconst (v := -1) hx hb dL_fails_393 (by decide) ?_
  refine lv_icmp_ne (tgt := 530) hx hb dL_fails_394 (by decide) (fun c9 => absurd (by decide) c9) (fun _ => ?_)
  refine lv_aload_n hx hb dL_fails_397 rfl (lv_at hl 4 rfl) ?_
  refine lv_bipush (v := 11) hx hb dL_fails_398 (by decide) ?_
  obtain ⟨Y400, e400, f400⟩ := fl_c (Y0 := Y) (Y := Y390) (S := S) (q := q) (V := V) (z := z) (U := U) (y := y) (I := I) (f := sp_X4_doBest (Y390 4).2.1 (Y390 4).2.2 (11 : Int32)) f390 (fe_33)
  have e400 : sp_X5_improve Y390 S q V z U y I (11 : Int32) = (-1, (Y400, I)) := e400
  refine rwVse (wc := ps cI cC cW h Y390 S q V z U y I) (Rr := []) (wn := fun u : (Nat → va_H) × (Nat → Int32) => ps cI cC cW h u.1 S q V z U y u.2) (w1 := fun u : (Nat → va_H) × (Nat → Int32) => ps cI cC cW h u.1 S q V z U y u.2) (r0 := (-1 : Int32)) (u0 := (Y400, I)) e400 (List.Perm.of_eq (List.append_nil _).symm) (fun _ => List.Perm.of_eq (List.append_nil _)) CF (c_X5_improve l D cI cC cW t h _ Y390 S q V z U y I (11 : Int32) (f390.sf hsf) hst) (cwV 1 hts gL_fails_X5_improve rfl rfl rfl (by decide +kernel) ⟨Nat.le_of_ble_eq_true rfl, Nat.le_of_ble_eq_true rfl⟩) hP hD hK hX hS hA 0 4 ps_0 rfl rfl hl.1 rfl (Nat.le_of_ble_eq_true rfl) dL_fails_400 ⟨Nat.zero_le _, Nat.zero_le _⟩ (fun H locs hP hD hS => ?_)
  have hP : va_P D vwCl (ps cI cC cW h Y400 S q V z U y I) H := hP
  have hD : va_D A (ps cI cC cW h Y400 S q V z U y I) := hD
  refine lv_iconst (v := -1) hx hb dL_fails_403 (by decide) ?_
  refine lv_icmp_ne (tgt := 530) hx hb dL_fails_404 (by decide) (fun c9 => absurd (by decide) c9) (fun _ => ?_)
  refine lv_aload_n hx hb dL_fails_407 rfl (lv_at hl 4 rfl) ?_
  refine lv_iconst (v := 4) hx hb dL_fails_408 (by decide) ?_
  refine roV CF (c_X5_weekly l D cI cC cW t h Y400 S q V z U y I (4 : Int32) (f400.sf hsf)) (cwV 1 hts gL_fails_X5_weekly rfl rfl rfl (by decide +kernel) ⟨Nat.le_of_ble_eq_true rfl, Nat.le_of_ble_eq_true rfl⟩) hP hK hX hS 0 4 ps_0 rfl rfl hl.1 rfl (Nat.le_of_ble_eq_true rfl) dL_fails_409 ⟨Nat.zero_le _, Nat.zero_le _⟩ ?_
  refine lv_top_eq (y := (-1 : Int32)) fe_wk ?_
  refine lv_iconst (v := -1) hx hb dL_fails_412 (by decide) ?_
  refine lv_icmp_ne (tgt := 530) hx hb dL_fails_413 (by decide) (fun c9 => absurd (by decide) c9) (fun _ => ?_)
  refine lv_aload_n hx hb dL_fails_416 rfl (lv_at hl 4 rfl) ?_
  refine lv_iconst (v := -1) hx hb dL_fails_417 (by decide) ?_
  refine rwVse (wc := ps cI cC cW h Y400 S q V z U y I) (Rr := []) (wn := fun u : (Nat → Int32) × (Int32) × (Nat → Int32) × (Int32) => ps cI cC cW h Y400 S q u.1 u.2.1 u.2.2.1 u.2.2.2 I) (w1 := fun u : (Nat → Int32) × (Int32) × (Nat → Int32) × (Int32) => ps cI cC cW h Y400 S q u.1 u.2.1 u.2.2.1 u.2.2.2 I) (r0 := (-1 : Int32)) (u0 := (V, z, U, y)) fe_ab (List.Perm.of_eq (List.append_nil _).symm) (fun _ => List.Perm.of_eq (List.append_nil _)) CF (c_X5_atBest l D cI cC cW t h _ Y400 S q V z U y I (-1 : Int32) (f400.sf hsf)) (cwV 1 hts gL_fails_X5_atBest rfl rfl rfl (by decide +kernel) ⟨Nat.le_of_ble_eq_true rfl, Nat.le_of_ble_eq_true rfl⟩) hP hD hK hX hS hA 0 4 ps_0 rfl rfl hl.1 rfl (Nat.le_of_ble_eq_true rfl) dL_fails_418 ⟨Nat.zero_le _, Nat.zero_le _⟩ (fun H locs hP hD hS => ?_)
  have hP : va_P D vwCl (ps cI cC cW h Y400 S q V z U y I) H := hP
  have hD : va_D A (ps cI cC cW h Y400 S q V z U y I) := hD
  refine lv_iconst (v := -1) hx hb dL_fails_421 (by decide) ?_
  refine lv_icmp_ne (tgt := 530) hx hb dL_fails_422 (by decide) (fun c9 => absurd (by decide) c9) (fun _ => ?_)
  refine lv_aload_n hx hb dL_fails_425 rfl (lv_at hl 4 rfl) ?_
  refine lv_bipush (v := 8) hx hb dL_fails_426 (by decide) ?_
  refine roV CF (c_X5_account l D cI cC cW t h Y400 S q V z U y I (8 : Int32) (f400.sf hsf)) (cwV 1 hts gL_fails_X5_account rfl rfl rfl (by decide +kernel) ⟨Nat.le_of_ble_eq_true rfl, Nat.le_of_ble_eq_true rfl⟩) hP hK hX hS 0 4 ps_0 rfl rfl hl.1 rfl (Nat.le_of_ble_eq_true rfl) dL_fails_428 ⟨Nat.zero_le _, Nat.zero_le _⟩ ?_
  refine lv_top_eq (y := (-1 : Int32)) fe_36 ?_
  refine lv_iconst (v := -1) hx hb dL_fails_431 (by decide) ?_
  refine lv_icmp_ne (tgt := 530) hx hb dL_fails_432 (by decide) (fun c9 => absurd (by decide) c9) (fun _ => ?_)
  refine lv_aload_n hx hb dL_fails_435 rfl (lv_at hl 4 rfl) ?_
  refine lv_bipush (v := 10) hx hb dL_fails_436 (by decide) ?_
  refine roV CF (c_X5_count l D cI cC cW t h Y400 S q V z U y I (10 : Int32) (f400.sf hsf)) (cwV 1 hts gL_fails_X5_count rfl rfl rfl (by decide +kernel) ⟨Nat.le_of_ble_eq_true rfl, Nat.le_of_ble_eq_true rfl⟩) hP hK hX hS 0 4 ps_0 rfl rfl hl.1 rfl (Nat.le_of_ble_eq_true rfl) dL_fails_438 ⟨Nat.zero_le _, Nat.zero_le _⟩ ?_
  refine lv_top_eq (y := (-1 : Int32)) ((cntk (by decide) (by decide)).trans fe_37) ?_
  refine lv_iconst (v := -1) hx hb dL_fails_441 (by decide) ?_
  refine lv_icmp_ne (tgt := 530) hx hb dL_fails_442 (by decide) (fun c9 => absurd (by decide) c9) (fun _ => ?_)
  refine lv_aload_n hx hb dL_fails_445 rfl (lv_at hl 4 rfl) ?_
  refine lv_bipush (v := 23) hx hb dL_fails_446 (by decide) ?_
  refine roV CF (c_X5_count l D cI cC cW t h Y400 S q V z U y I (23 : Int32) (f400.sf hsf)) (cwV 1 hts gL_fails_X5_count rfl rfl rfl (by decide +kernel) ⟨Nat.le_of_ble_eq_true rfl, Nat.le_of_ble_eq_true rfl⟩) hP hK hX hS 0 4 ps_0 rfl rfl hl.1 rfl (Nat.le_of_ble_eq_true rfl) dL_fails_448 ⟨Nat.zero_le _, Nat.zero_le _⟩ ?_
  refine lv_top_eq (y := (-1 : Int32)) ((cntk (by decide) (by decide)).trans fe_38) ?_
  refine lv_iconst (v := -1) hx hb dL_fails_451 (by decide) ?_
  refine lv_icmp_ne (tgt := 530) hx hb dL_fails_452 (by decide) (fun c9 => absurd (by decide) c9) (fun _ => ?_)
  refine lv_aload_n hx hb dL_fails_455 rfl (lv_at hl 4 rfl) ?_
  refine lv_iconst (v := 3) hx hb dL_fails_456 (by decide) ?_
  refine lv_iconst (v := 0) hx hb dL_fails_457 (by decide) ?_
  obtain ⟨Y458, e458, f458⟩ := fl_c (Y0 := Y) (Y := Y400) (S := S) (q := q) (V := V) (z := z) (U := U) (y := y) (I := I) (f := sp_X4_changeSetting (Y400 4).2.1 (Y400 4).2.2 (3 : Int32) (0 : Int32)) f400 (fe_39)
  have e458 : sp_X5_set Y400 S q V z U y I (3 : Int32) (0 : Int32) = (-1, (Y458, I)) := e458
  refine rwVse (wc := ps cI cC cW h Y400 S q V z U y I) (Rr := []) (wn := fun u : (Nat → va_H) × (Nat → Int32) => ps cI cC cW h u.1 S q V z U y u.2) (w1 := fun u : (Nat → va_H) × (Nat → Int32) => ps cI cC cW h u.1 S q V z U y u.2) (r0 := (-1 : Int32)) (u0 := (Y458, I)) e458 (List.Perm.of_eq (List.append_nil _).symm) (fun _ => List.Perm.of_eq (List.append_nil _)) CF (c_X5_set l D cI cC cW t h _ Y400 S q V z U y I (3 : Int32) (0 : Int32) hst) (cwV 2 hts gL_fails_X5_set rfl rfl rfl (by decide +kernel) ⟨Nat.le_of_ble_eq_true rfl, Nat.le_of_ble_eq_true rfl⟩) hP hD hK hX hS hA 0 4 ps_0 rfl rfl hl.1 rfl (Nat.le_of_ble_eq_true rfl) dL_fails_458 ⟨Nat.zero_le _, Nat.zero_le _⟩ (fun H locs hP hD hS => ?_)
  have hP : va_P D vwCl (ps cI cC cW h Y458 S q V z U y I) H := hP
  have hD : va_D A (ps cI cC cW h Y458 S q V z U y I) := hD
  refine lv_iconst (v := -1) hx hb dL_fails_461 (by decide) ?_
  refine lv_icmp_ne (tgt := 530) hx hb dL_fails_462 (by decide) (fun c9 => absurd (by decide) c9) (fun _ => ?_)
  refine lv_aload_n hx hb dL_fails_465 rfl (lv_at hl 4 rfl) ?_
  refine lv_iconst (v := 0) hx hb dL_fails_466 (by decide) ?_
  refine lv_sipush (v := 201) hx hb dL_fails_467 (by decide) ?_
  obtain ⟨Y470, e470, f470⟩ := fl_c (Y0 := Y) (Y := Y458) (S := S) (q := q) (V := V) (z := z) (U := U) (y := y) (I := I) (f := sp_X4_changeSetting (Y458 4).2.1 (Y458 4).2.2 (0 : Int32) (201 : Int32)) f458 (fe_40)
  have e470 : sp_X5_set Y458 S q V z U y I (0 : Int32) (201 : Int32) = (-1, (Y470, I)) := e470
  refine rwVse (wc := ps cI cC cW h Y458 S q V z U y I) (Rr := []) (wn := fun u : (Nat → va_H) × (Nat → Int32) => ps cI cC cW h u.1 S q V z U y u.2) (w1 := fun u : (Nat → va_H) × (Nat → Int32) => ps cI cC cW h u.1 S q V z U y u.2) (r0 := (-1 : Int32)) (u0 := (Y470, I)) e470 (List.Perm.of_eq (List.append_nil _).symm) (fun _ => List.Perm.of_eq (List.append_nil _)) CF (c_X5_set l D cI cC cW t h _ Y458 S q V z U y I (0 : Int32) (201 : Int32) hst) (cwV 2 hts gL_fails_X5_set rfl rfl rfl (by decide +kernel) ⟨Nat.le_of_ble_eq_true rfl, Nat.le_of_ble_eq_true rfl⟩) hP hD hK hX hS hA 0 4 ps_0 rfl rfl hl.1 rfl (Nat.le_of_ble_eq_true rfl) dL_fails_470 ⟨Nat.zero_le _, Nat.zero_le _⟩ (fun H locs hP hD hS => ?_)
  have hP : va_P D vwCl (ps cI cC cW h Y470 S q V z U y I) H := hP
  have hD : va_D A (ps cI cC cW h Y470 S q V z U y I) := hD
  refine lv_iconst (v := -1) hx hb dL_fails_473 (by decide) ?_
  refine lv_icmp_ne (tgt := 530) hx hb dL_fails_474 (by decide) (fun c9 => absurd (by decide) c9) (fun _ => ?_)
  refine lv_aload_n hx hb dL_fails_477 rfl (lv_at hl 4 rfl) ?_
  refine lv_iconst (v := 1) hx hb dL_fails_478 (by decide) ?_
  refine lv_iconst (v := 0) hx hb dL_fails_479 (by decide) ?_
  obtain ⟨Y480, e480, f480⟩ := fl_c (Y0 := Y) (Y := Y470) (S := S) (q := q) (V := V) (z := z) (U := U) (y := y) (I := I) (f := sp_X4_changeSetting (Y470 4).2.1 (Y470 4).2.2 (1 : Int32) (0 : Int32)) f470 (fe_41)
  have e480 : sp_X5_set Y470 S q V z U y I (1 : Int32) (0 : Int32) = (-1, (Y480, I)) := e480
  refine rwVse (wc := ps cI cC cW h Y470 S q V z U y I) (Rr := []) (wn := fun u : (Nat → va_H) × (Nat → Int32) => ps cI cC cW h u.1 S q V z U y u.2) (w1 := fun u : (Nat → va_H) × (Nat → Int32) => ps cI cC cW h u.1 S q V z U y u.2) (r0 := (-1 : Int32)) (u0 := (Y480, I)) e480 (List.Perm.of_eq (List.append_nil _).symm) (fun _ => List.Perm.of_eq (List.append_nil _)) CF (c_X5_set l D cI cC cW t h _ Y470 S q V z U y I (1 : Int32) (0 : Int32) hst) (cwV 2 hts gL_fails_X5_set rfl rfl rfl (by decide +kernel) ⟨Nat.le_of_ble_eq_true rfl, Nat.le_of_ble_eq_true rfl⟩) hP hD hK hX hS hA 0 4 ps_0 rfl rfl hl.1 rfl (Nat.le_of_ble_eq_true rfl) dL_fails_480 ⟨Nat.zero_le _, Nat.zero_le _⟩ (fun H locs hP hD hS => ?_)
  have hP : va_P D vwCl (ps cI cC cW h Y480 S q V z U y I) H := hP
  have hD : va_D A (ps cI cC cW h Y480 S q V z U y I) := hD
  refine lv_iconst (v := -1) hx hb dL_fails_483 (by decide) ?_
  refine lv_icmp_ne (tgt := 530) hx hb dL_fails_484 (by decide) (fun c9 => absurd (by decide) c9) (fun _ => ?_)
  refine lv_aload_n hx hb dL_fails_487 rfl (lv_at hl 4 rfl) ?_
  refine lv_iconst (v := 2) hx hb dL_fails_488 (by decide) ?_
  refine lv_iconst (v := 2) hx hb dL_fails_489 (by decide) ?_
  obtain ⟨Y490, e490, f490⟩ := fl_c (Y0 := Y) (Y := Y480) (S := S) (q := q) (V := V) (z := z) (U := U) (y := y) (I := I) (f := sp_X4_changeSetting (Y480 4).2.1 (Y480 4).2.2 (2 : Int32) (2 : Int32)) f480 (fe_42)
  have e490 : sp_X5_set Y480 S q V z U y I (2 : Int32) (2 : Int32) = (-1, (Y490, I)) := e490
  refine rwVse (wc := ps cI cC cW h Y480 S q V z U y I) (Rr := []) (wn := fun u : (Nat → va_H) × (Nat → Int32) => ps cI cC cW h u.1 S q V z U y u.2) (w1 := fun u : (Nat → va_H) × (Nat → Int32) => ps cI cC cW h u.1 S q V z U y u.2) (r0 := (-1 : Int32)) (u0 := (Y490, I)) e490 (List.Perm.of_eq (List.append_nil _).symm) (fun _ => List.Perm.of_eq (List.append_nil _)) CF (c_X5_set l D cI cC cW t h _ Y480 S q V z U y I (2 : Int32) (2 : Int32) hst) (cwV 2 hts gL_fails_X5_set rfl rfl rfl (by decide +kernel) ⟨Nat.le_of_ble_eq_true rfl, Nat.le_of_ble_eq_true rfl⟩) hP hD hK hX hS hA 0 4 ps_0 rfl rfl hl.1 rfl (Nat.le_of_ble_eq_true rfl) dL_fails_490 ⟨Nat.zero_le _, Nat.zero_le _⟩ (fun H locs hP hD hS => ?_)
  have hP : va_P D vwCl (ps cI cC cW h Y490 S q V z U y I) H := hP
  have hD : va_D A (ps cI cC cW h Y490 S q V z U y I) := hD
  refine lv_iconst (v := -1) hx hb dL_fails_493 (by decide) ?_
  refine lv_icmp_ne (tgt := 530) hx hb dL_fails_494 (by decide) (fun c9 => absurd (by decide) c9) (fun _ => ?_)
  refine lv_aload_n hx hb dL_fails_497 rfl (lv_at hl 4 rfl) ?_
  refine lv_bipush (v := 31) hx hb dL_fails_498 (by decide) ?_
  refine rwVse (wc := ps cI cC cW h Y490 S q V z U y I) (Rr := []) (wn := fun u : (Nat → Int32) × (Nat → Int32) => ps cI cC cW h Y490 u.1 u.2 V z U y I) (w1 := fun u : (Nat → Int32) × (Nat → Int32) => ps cI cC cW h Y490 u.1 u.2 V z U y I) (r0 := (-1 : Int32)) (u0 := (S, q)) (fe_ty (by decide)) (List.Perm.of_eq (List.append_nil _).symm) (fun _ => List.Perm.of_eq (List.append_nil _)) CF (c_X5_type l D cI cC cW t h _ Y490 S q V z U y I (31 : Int32) hln) (cwV 1 hts gL_fails_X5_type rfl rfl rfl (by decide +kernel) ⟨Nat.le_of_ble_eq_true rfl, Nat.le_of_ble_eq_true rfl⟩) hP hD hK hX hS hA 0 4 ps_0 rfl rfl hl.1 rfl (Nat.le_of_ble_eq_true rfl) dL_fails_500 ⟨Nat.zero_le _, Nat.zero_le _⟩ (fun H locs hP hD hS => ?_)
  have hP : va_P D vwCl (ps cI cC cW h Y490 S q V z U y I) H := hP
  have hD : va_D A (ps cI cC cW h Y490 S q V z U y I) := hD
  refine lv_iconst (v := -1) hx hb dL_fails_503 (by decide) ?_
  refine lv_icmp_ne (tgt := 530) hx hb dL_fails_504 (by decide) (fun c9 => absurd (by decide) c9) (fun _ => ?_)
  refine lv_aload_n hx hb dL_fails_507 rfl (lv_at hl 4 rfl) ?_
  refine lv_bipush (v := 127) hx hb dL_fails_508 (by decide) ?_
  refine rwVse (wc := ps cI cC cW h Y490 S q V z U y I) (Rr := []) (wn := fun u : (Nat → Int32) × (Nat → Int32) => ps cI cC cW h Y490 u.1 u.2 V z U y I) (w1 := fun u : (Nat → Int32) × (Nat → Int32) => ps cI cC cW h Y490 u.1 u.2 V z U y I) (r0 := (-1 : Int32)) (u0 := (S, q)) (fe_ty (by decide)) (List.Perm.of_eq (List.append_nil _).symm) (fun _ => List.Perm.of_eq (List.append_nil _)) CF (c_X5_type l D cI cC cW t h _ Y490 S q V z U y I (127 : Int32) hln) (cwV 1 hts gL_fails_X5_type rfl rfl rfl (by decide +kernel) ⟨Nat.le_of_ble_eq_true rfl, Nat.le_of_ble_eq_true rfl⟩) hP hD hK hX hS hA 0 4 ps_0 rfl rfl hl.1 rfl (Nat.le_of_ble_eq_true rfl) dL_fails_510 ⟨Nat.zero_le _, Nat.zero_le _⟩ (fun H locs hP hD hS => ?_)
  have hP : va_P D vwCl (ps cI cC cW h Y490 S q V z U y I) H := hP
  have hD : va_D A (ps cI cC cW h Y490 S q V z U y I) := hD
  refine lv_iconst (v := -1) hx hb dL_fails_513 (by decide) ?_
  refine lv_icmp_ne (tgt := 530) hx hb dL_fails_514 (by decide) (fun c9 => absurd (by decide) c9) (fun _ => ?_)
  refine lv_aload_n hx hb dL_fails_517 rfl (lv_at hl 4 rfl) ?_
  refine lv_iconst (v := 2) hx hb dL_fails_518 (by decide) ?_
  refine rwVse (wc := ps cI cC cW h Y490 S q V z U y I) (Rr := []) (wn := fun u : (Nat → va_H) × (Nat → Int32) × (Nat → Int32) => ps cI cC cW h u.1 S u.2.1 V z U y u.2.2) (w1 := fun u : (Nat → va_H) × (Nat → Int32) × (Nat → Int32) => ps cI cC cW h u.1 S u.2.1 V z U y u.2.2) (r0 := (-1 : Int32)) (u0 := (Y490, q, I)) fe_fa (List.Perm.of_eq (List.append_nil _).symm) (fun _ => List.Perm.of_eq (List.append_nil _)) CF (c_X5_fault l D cI cC cW t h _ Y490 S q V z U y I (2 : Int32) (f490.sf hsf) hch) (cwV 1 hts gL_fails_X5_fault rfl rfl rfl (by decide +kernel) ⟨Nat.le_of_ble_eq_true rfl, Nat.le_of_ble_eq_true rfl⟩) hP hD hK hX hS hA 0 4 ps_0 rfl rfl hl.1 rfl (Nat.le_of_ble_eq_true rfl) dL_fails_519 ⟨Nat.zero_le _, Nat.zero_le _⟩ (fun H locs hP hD hS => ?_)
  have hP : va_P D vwCl (ps cI cC cW h Y490 S q V z U y I) H := hP
  have hD : va_D A (ps cI cC cW h Y490 S q V z U y I) := hD
  refine lv_iconst (v := -1) hx hb dL_fails_522 (by decide) ?_
  refine lv_icmp_ne (tgt := 530) hx hb dL_fails_523 (by decide) (fun c9 => absurd (by decide) c9) (fun _ => ?_)
  refine lv_iconst (v := 1) hx hb dL_fails_526 (by decide) ?_
  refine lv_goto (tgt := 531) hx hb dL_fails_527 (by decide) ?_
  refine lv_istore (lv' := [(5, .int _), (4, .int _), (3, .int _), (1, .long _), (0, .ref _)]) hx hb dL_fails_531 hl (by decide) rfl (fun ls hl => ?_)
  refine lv_iload hx hb dL_fails_533 (lv_at hl 0 rfl) ?_
  refine lv_if_eq (tgt := 561) hx hb dL_fails_535 (by decide) (fun c9 => absurd c9 (by decide)) (fun _ => ?_)
  refine lv_aload_n hx hb dL_fails_538 rfl (lv_at hl 4 rfl) ?_
  refine roSl CF (c_L_mark l D cI cC cW t h Y490 S q V z U y I (f490.sf hsf)) (va_cwS 1 hts gL_fails_L_mark rfl rfl rfl (by decide +kernel) ⟨Nat.le_of_ble_eq_true rfl, Nat.le_of_ble_eq_true rfl⟩) hP hK hX hS rfl hl.1 rfl (Nat.le_of_ble_eq_true rfl) dL_fails_539 ⟨Nat.zero_le _, Nat.zero_le _⟩ ?_
  refine lv_topl (fun yl539 eyl539 => ?_)
  have eyl539 := eyl539.trans (mrk_FR f490)
  subst eyl539
  refine lv_lload_n hx hb dL_fails_542 rfl (lv_at hl 3 rfl) ?_
  refine W.lcmp hx hb dL_fails_543 ?_
  refine lv_if_ne (tgt := 561) hx hb dL_fails_544 (by decide) (fun c9 => absurd lcmp0 c9) (fun _ => ?_)
  refine lv_aload_n hx hb dL_fails_547 rfl (lv_at hl 4 rfl) ?_
  refine lv_bipush (v := 8) hx hb dL_fails_548 (by decide) ?_
  refine roV CF (c_X5_count l D cI cC cW t h Y490 S q V z U y I (8 : Int32) (f490.sf hsf)) (cwV 1 hts gL_fails_X5_count rfl rfl rfl (by decide +kernel) ⟨Nat.le_of_ble_eq_true rfl, Nat.le_of_ble_eq_true rfl⟩) hP hK hX hS 0 4 ps_0 rfl rfl hl.1 rfl (Nat.le_of_ble_eq_true rfl) dL_fails_550 ⟨Nat.zero_le _, Nat.zero_le _⟩ ?_
  refine lv_top_eq (y := (I 0)) cnt8 ?_
  refine lv_iload_n hx hb dL_fails_553 rfl (lv_at hl 2 rfl) ?_
  refine lv_icmp_ne (tgt := 561) hx hb dL_fails_554 (by decide) (fun c9 => absurd rfl c9) (fun _ => ?_)
  refine lv_iconst (v := 1) hx hb dL_fails_557 (by decide) ?_
  refine lv_goto (tgt := 562) hx hb dL_fails_558 (by decide) ?_
  exact W.zret hx hb hr rfl (fun T hT _ => ⟨⟨_, Y490, rfl, ⟨rfl, f490⟩, by rw [hT]; exact hP, hD⟩, hS.F hT⟩) hS.2.2 dL_fails_562 hlocks
