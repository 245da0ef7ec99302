/-! the law: acts (printed by wip/p29/m_acts.py) -/
theorem mv_r {a c : Int32} : a - c = (100000000 : Int32) + a - ((100000000 : Int32) + c) := by grind
set_option maxHeartbeats 4000000 in
set_option maxRecDepth 100000 in
theorem c_L_acts (l : Launch) (D : va_G) (cI cC cW : ClassId) (t : Nat → Nat) (h : Nat → Nat) (dd : Nat) (sz : Nat) (Y : Nat → va_H) (S : Nat → Int32) (q : Nat → Int32) (V : Nat → Int32) (z : Int32) (U : Nat → Int32) (y : Int32) (I : Nat → Int32) (d : Nat → Int32) (x : Int32) (b BB : Int) (hw : wf b (Y 4).2.1 (Y 4).2.2) (hxt : xt BB (Y 4).2.1 d) (hbb : b ≤ 90000) (hB : BB ≤ 800000) (hn1 : 1 ≤ ((Y 4).2.1 0).toInt) (hst1 : 0 ≤ (I 0).toInt) (hst2 : (I 0).toInt ≤ 4) : Met l yL_acts wsL_acts ({ frames := 8, cells := 0, slots := 0, locals := 177 }) (va_Pc [.ref (h 0), .int x, .ref dd] (rwP D (tyL cI cC cW) (ps cI cC cW h Y S q V z U y I ++ dv cI dd d) t sz)) (va_Qi (fun (r : Int32) (u : (Nat → va_H) × (Nat → Int32) × Int32 × (Nat → Int32) × Int32 × (Nat → Int32) × (Nat → Int32)) => r = 1 ∧ INVa (b + 1) (BB + 5000) u.1 u.2.2.2.2.2.1 u.2.2.2.2.2.2 ∧ (u.1 4).2.1 0 = (Y 4).2.1 0) (fun u => rwB D (va_A (ps cI cC cW h Y S q V z U y I ++ dv cI dd d) sz) (ps cI cC cW h u.1 S q u.2.1 u.2.2.1 u.2.2.2.1 u.2.2.2.2.1 u.2.2.2.2.2.1 ++ dv cI dd u.2.2.2.2.2.2)) (va_A (ps cI cC cW h Y S q V z U y I ++ dv cI dd d) sz)) 0 0 (va_A (ps cI cC cW h Y S q V z U y I ++ dv cI dd d) sz) := by
  refine Met.ofW (cc := cL_acts) (maxL := 13) (ret := (some .boolean)) (by decide) rfl ?_
  intro p e s m args below meth c s₁ B hml hv
  obtain ⟨rfl, hsz, hP, hK, hD0, hX⟩ := hv
  have hx := B.exec
  have hb := B.bytes
  have hr := B.returns
  have hts := atoms_spec (ws := wsL_acts) B.pre
  have hown : s.vm.findClass RL = some m.cls := findClass_of_methodNamed B.named
  have hlocks := B.notSynchronized
  subst hsz
  have hD := hD0.self (sz := s.heap.size)
  generalize hAe : va_A (ps cI cC cW h Y S q V z U y I ++ dv cI dd d) s.heap.size = A at hD hX ⊢
  have hA : ∀ q : Nat, s.heap.size ≤ q → A q := fun q h => by rw [← hAe]; exact Or.inr h
  have hS : va_S A s.heap s.heap [] := va_S.rf
  have wd1 : (Cond.constant RL 90 (100000000)).before [.ref (h 0), .int x, .ref dd].toArray s = true := hts _ (List.mem_of_getElem? (i := 1) rfl)
  have CF : CallFix p m c cL_acts 13 s [.ref (h 0), .int x, .ref dd].toArray wsL_acts RL := ⟨hx, hb, hml, hown, hts⟩
  have hl := lv_entry ([.ref (h 0), .int x, .ref dd]) (n := 13) (Nat.le_of_ble_eq_true rfl)
  rw [lg_entry_eq]
  generalize (lg_sl ([.ref (h 0), .int x, .ref dd]) ++ List.replicate (13 - (lg_sl ([.ref (h 0), .int x, .ref dd])).length) Slot.unset).toArray = ls at hl ⊢
  have hl : lv_has ls 13 [(0, .ref (h 0)), (1, .int x), (2, .ref dd)] := hl
  have hsf := hw.sf
  have hB : BB ≤ 900000 := by omega
  have hbb : b ≤ 100000 := by omega
  have hn0 : ¬ (Y 4).2.1 0 = 0 := fun w => by rw [w, i0] at hn1; omega
  obtain ⟨gi, hgl, egi⟩ := upF_r (x := x >>> ((4 : Int32) &&& 31)) hn1
  have h20 : gi < 20 := hw.n20 hgl
  have hgi : gK x ((Y 4).2.1 0) = gi := by unfold gK; rw [egi, xI (by omega)]
  refine lv_aload_n hx hb dL_acts_0 rfl (lv_at hl 0 rfl) ?_
  refine lv_bipush (v := 8) hx hb dL_acts_1 (by decide) ?_
  refine roV CF (c_X5_count l D cI cC cW t h Y S q V z U y I (8 : Int32) hsf) (cwV 1 hts gL_acts_X5_count rfl rfl rfl (by decide +kernel) ⟨Nat.le_of_ble_eq_true rfl, Nat.le_of_ble_eq_true rfl⟩) (vP_l hP) hK hX hS 0 4 ps_0 rfl rfl hl.1 rfl (Nat.le_of_ble_eq_true rfl) dL_acts_3 ⟨Nat.zero_le _, Nat.zero_le _⟩ ?_
  refine lv_top_eq (y := (I 0)) cnt8 ?_
  refine lv_istore_n (lv' := [(3, .int _), (0, .ref _), (1, .int _), (2, .ref _)]) hx hb dL_acts_6 rfl hl (by decide) rfl (fun ls hl => ?_)
  refine lv_aload_n hx hb dL_acts_7 rfl (lv_at hl 1 rfl) ?_
  refine roSl CF (c_L_mark l D cI cC cW t h Y S q V z U y I hsf) (va_cwS 1 hts gL_acts_L_mark rfl rfl rfl (by decide +kernel) ⟨Nat.le_of_ble_eq_true rfl, Nat.le_of_ble_eq_true rfl⟩) (vP_l hP) hK hX hS rfl hl.1 rfl (Nat.le_of_ble_eq_true rfl) dL_acts_8 ⟨Nat.zero_le _, Nat.zero_le _⟩ ?_
  refine lv_lstore (lv' := [(4, .long _), (3, .int _), (0, .ref _), (1, .int _), (2, .ref _)]) hx hb dL_acts_11 hl (by decide) rfl (fun ls hl => ?_)
  refine lv_aload_n hx hb dL_acts_13 rfl (lv_at hl 2 rfl) ?_
  refine lv_iconst (v := 4) hx hb dL_acts_14 (by decide) ?_
  refine roV CF (c_X5_account l D cI cC cW t h Y S q V z U y I (4 : Int32) hsf) (cwV 1 hts gL_acts_X5_account rfl rfl rfl (by decide +kernel) ⟨Nat.le_of_ble_eq_true rfl, Nat.le_of_ble_eq_true rfl⟩) (vP_l hP) hK hX hS 0 4 ps_0 rfl rfl hl.1 rfl (Nat.le_of_ble_eq_true rfl) dL_acts_15 ⟨Nat.zero_le _, Nat.zero_le _⟩ ?_
  refine lv_top_eq (y := ((100000000 : Int32) + (Y 4).2.1 9)) ra4 ?_
  refine lv_istore (lv' := [(6, .int _), (4, .long _), (3, .int _), (0, .ref _), (1, .int _), (2, .ref _)]) hx hb dL_acts_18 hl (by decide) rfl (fun ls hl => ?_)
  refine lv_aload_n hx hb dL_acts_20 rfl (lv_at hl 3 rfl) ?_
  refine lv_aload_n hx hb dL_acts_21 rfl (lv_at hl 3 rfl) ?_
  refine lv_iconst (v := 3) hx hb dL_acts_22 (by decide) ?_
  refine roV CF (c_X5_count l D cI cC cW t h Y S q V z U y I (3 : Int32) hsf) (cwV 1 hts gL_acts_X5_count rfl rfl rfl (by decide +kernel) ⟨Nat.le_of_ble_eq_true rfl, Nat.le_of_ble_eq_true rfl⟩) (vP_l hP) hK hX hS 0 4 ps_0 rfl rfl hl.1 rfl (Nat.le_of_ble_eq_true rfl) dL_acts_23 ⟨Nat.zero_le _, Nat.zero_le _⟩ ?_
  refine lv_top_eq (y := (nI (sea (Y 4).2.1))) ((cntk (by decide) (by decide)).trans (rcw3.trans (psea4 hsf))) ?_
  refine roV CF (c_X5_weekly l D cI cC cW t h Y S q V z U y I (nI (sea (Y 4).2.1)) hsf) (cwV 1 hts gL_acts_X5_weekly rfl rfl rfl (by decide +kernel) ⟨Nat.le_of_ble_eq_true rfl, Nat.le_of_ble_eq_true rfl⟩) (vP_l hP) hK hX hS 0 4 ps_0 rfl rfl hl.1 rfl (Nat.le_of_ble_eq_true rfl) dL_acts_26 ⟨Nat.zero_le _, Nat.zero_le _⟩ ?_
  refine lv_top_eq (y := (wkS (Y 4).2.1 (sea (Y 4).2.1))) ((wk5 sea_lt).trans (wk4 hw sea_lt)) ?_
  refine lv_istore (lv' := [(7, .int _), (6, .int _), (4, .long _), (3, .int _), (0, .ref _), (1, .int _), (2, .ref _)]) hx hb dL_acts_29 hl (by decide) rfl (fun ls hl => ?_)
  refine lv_iload_n hx hb dL_acts_31 rfl (lv_at hl 5 rfl) ?_
  refine lv_iconst (v := 4) hx hb dL_acts_32 (by decide) ?_
  refine lv_ishr hx hb dL_acts_33 ?_
  refine lv_aload_n hx hb dL_acts_34 rfl (lv_at hl 4 rfl) ?_
  refine lv_iconst (v := 0) hx hb dL_acts_35 (by decide) ?_
  refine roV CF (c_X5_count l D cI cC cW t h Y S q V z U y I (0 : Int32) hsf) (cwV 1 hts gL_acts_X5_count rfl rfl rfl (by decide +kernel) ⟨Nat.le_of_ble_eq_true rfl, Nat.le_of_ble_eq_true rfl⟩) (vP_l hP) hK hX hS 0 4 ps_0 rfl rfl hl.1 rfl (Nat.le_of_ble_eq_true rfl) dL_acts_36 ⟨Nat.zero_le _, Nat.zero_le _⟩ ?_
  refine lv_top_eq (y := ((Y 4).2.1 0)) cnt0 ?_
  refine roS CF (c_L_up l D cI cC cW t (x >>> ((4 : Int32) &&& 31)) ((Y 4).2.1 0) hn0) (va_cwS 2 hts gL_acts_L_up rfl rfl rfl (by decide +kernel) ⟨Nat.le_of_ble_eq_true rfl, Nat.le_of_ble_eq_true rfl⟩) vP_nil hK hX hS rfl hl.1 rfl (Nat.le_of_ble_eq_true rfl) dL_acts_39 ⟨Nat.zero_le _, Nat.zero_le _⟩ ?_
  refine lv_top_eq (y := (nI gi)) egi ?_
  refine lv_istore (lv' := [(8, .int _), (7, .int _), (6, .int _), (4, .long _), (3, .int _), (0, .ref _), (1, .int _), (2, .ref _)]) hx hb dL_acts_42 hl (by decide) rfl (fun ls hl => ?_)
  refine lv_aload_n hx hb dL_acts_44 rfl (lv_at hl 7 rfl) ?_
  refine lv_iload hx hb dL_acts_45 (lv_at hl 0 rfl) ?_
  refine va_iald hx hb hK hP 80 0 dv_at rfl (vp_in_nI h20 (by decide)) dL_acts_47 ?_
  refine lv_top_eq (y := (d gi)) (congrArg d (xI (show gi < 1000 by omega))) ?_
  refine lv_istore (lv' := [(9, .int _), (8, .int _), (7, .int _), (6, .int _), (4, .long _), (3, .int _), (0, .ref _), (1, .int _), (2, .ref _)]) hx hb dL_acts_48 hl (by decide) rfl (fun ls hl => ?_)
  refine lv_aload_n hx hb dL_acts_50 rfl (lv_at hl 6 rfl) ?_
  refine lv_iload_n hx hb dL_acts_51 rfl (lv_at hl 7 rfl) ?_
  refine lv_aload_n hx hb dL_acts_52 rfl (lv_at hl 8 rfl) ?_
  refine rwSr (wc := ps cI cC cW h Y S q V z U y I ++ dv cI dd d) (Rr := []) (wn := fun u : (Nat → va_H) × (Nat → Int32) × (Nat → Int32) => ps cI cC cW h u.1 S q V z U y u.2.1 ++ dv cI dd u.2.2) (w1 := fun u : (Nat → va_H) × (Nat → Int32) × (Nat → Int32) => ps cI cC cW h u.1 S q V z U y u.2.1 ++ dv cI dd u.2.2) (by rw [List.append_nil]) (fun _ => by rw [List.append_nil]) CF (c_L_act l D cI cC cW t h dd _ Y S q V z U y I d x b BB hw hxt hbb hB hn1 hst1 hst2) (va_cwS 3 hts gL_acts_L_act rfl rfl rfl (by decide +kernel) ⟨Nat.le_of_ble_eq_true rfl, Nat.le_of_ble_eq_true rfl⟩) hP hD hK hX hS hA rfl hl.1 rfl (Nat.le_of_ble_eq_true rfl) dL_acts_53 ⟨Nat.zero_le _, Nat.zero_le _⟩ (fun r53 u H locs hu hP hD hS => ?_)
  obtain ⟨Y1, I1, d1⟩ := u
  have hP : va_P D vwCl (ps cI cC cW h Y1 S q V z U y I1 ++ dv cI dd d1) H := hP
  have hD : va_D A (ps cI cC cW h Y1 S q V z U y I1 ++ dv cI dd d1) := hD
  have hu : actP b BB Y I d x r53 Y1 I1 d1 := hu
  refine lv_istore (lv' := [(10, .int _), (9, .int _), (8, .int _), (7, .int _), (6, .int _), (4, .long _), (3, .int _), (0, .ref _), (1, .int _), (2, .ref _)]) hx hb dL_acts_56 hl (by decide) rfl (fun ls hl => ?_)
  refine lv_iload hx hb dL_acts_58 (lv_at hl 0 rfl) ?_
  refine lv_if_ge (tgt := 89) hx hb dL_acts_60 (by decide) (fun c60 => ?_) (fun c60 => ?_)
  · obtain ⟨M, m1, iv, m3, kp, mv1, mv2, ek⟩ := act_pos hw hst1 hst2 hu c60
    have hd := hu.2
    clear hu
    have hP := n4_P m1 hP
    have hD := n4_D (M := M) hD
    have mvE := And.intro mv1 mv2
    clear mv1 mv2 m1
    generalize wn4 Y1 M = Y2 at *
    refine lv_iload_n hx hb dL_acts_89 rfl (lv_at hl 8 rfl) ?_
    refine lv_bipush (v := 12) hx hb dL_acts_90 (by decide) ?_
    refine roS CF (c_L_up l D cI cC cW t x (12 : Int32) (by decide)) (va_cwS 2 hts gL_acts_L_up rfl rfl rfl (by decide +kernel) ⟨Nat.le_of_ble_eq_true rfl, Nat.le_of_ble_eq_true rfl⟩) vP_nil hK hX hS rfl hl.1 rfl (Nat.le_of_ble_eq_true rfl) dL_acts_92 ⟨Nat.zero_le _, Nat.zero_le _⟩ ?_
    refine lv_iconst (v := 3) hx hb dL_acts_95 (by decide) ?_
    have J96 : ∀ v96 : Int32, v96 = (mvI (upF x (12 : Int32))) → W p l e (headSpec wsL_acts ({ frames := 8, cells := 0, slots := 0, locals := 177 } : Room)).room s m [.ref (h 0), .int x, .ref dd].toArray below meth c H locs 0 0 (MQ below (va_Qi (fun (r : Int32) (u : (Nat → va_H) × (Nat → Int32) × Int32 × (Nat → Int32) × Int32 × (Nat → Int32) × (Nat → Int32)) => r = 1 ∧ INVa (b + 1) (BB + 5000) u.1 u.2.2.2.2.2.1 u.2.2.2.2.2.2 ∧ (u.1 4).2.1 0 = (Y 4).2.1 0) (fun u => rwB D A (ps cI cC cW h u.1 S q u.2.1 u.2.2.1 u.2.2.2.1 u.2.2.2.2.1 u.2.2.2.2.2.1 ++ dv cI dd u.2.2.2.2.2.2)) A) [.ref (h 0), .int x, .ref dd].toArray s 0 0 A) (F0 m 115 ls [.int v96]) := by
      intro v96 ev96
      refine lv_istore (lv' := [(11, .int _), (10, .int _), (9, .int _), (8, .int _), (7, .int _), (6, .int _), (4, .long _), (3, .int _), (0, .ref _), (1, .int _), (2, .ref _)]) hx hb dL_acts_115 hl (by decide) rfl (fun ls hl => ?_)
      refine lv_aload_n hx hb dL_acts_117 rfl (lv_at hl 8 rfl) ?_
      refine lv_aload_n hx hb dL_acts_118 rfl (lv_at hl 10 rfl) ?_
      refine rwSr (wc := ps cI cC cW h Y2 S q V z U y I1 ++ dv cI dd d1) (Rr := []) (wn := fun u : (Nat → Int32) × (Int32) × (Nat → Int32) × (Int32) => ps cI cC cW h Y2 S q u.1 u.2.1 u.2.2.1 u.2.2.2 I1 ++ dv cI dd d1) (w1 := fun u : (Nat → Int32) × (Int32) × (Nat → Int32) × (Int32) => ps cI cC cW h Y2 S q u.1 u.2.1 u.2.2.1 u.2.2.2 I1 ++ dv cI dd d1) (by rw [List.append_nil]) (fun _ => by rw [List.append_nil]) CF (c_L_sound l D cI cC cW t h dd _ Y2 S q V z U y I1 d1  (b + 1) (BB + 5000) iv.1 iv.2.1 (by omega)) (va_cwS 2 hts gL_acts_L_sound rfl rfl rfl (by decide +kernel) ⟨Nat.le_of_ble_eq_true rfl, Nat.le_of_ble_eq_true rfl⟩) hP hD hK hX hS hA rfl hl.1 rfl (Nat.le_of_ble_eq_true rfl) dL_acts_119 ⟨Nat.zero_le _, Nat.zero_le _⟩ (fun r119 u H locs hu hP hD hS => ?_)
      obtain ⟨V2, z2, U2, y2⟩ := u
      have hP : va_P D vwCl (ps cI cC cW h Y2 S q V2 z2 U2 y2 I1 ++ dv cI dd d1) H := hP
      have hD : va_D A (ps cI cC cW h Y2 S q V2 z2 U2 y2 I1 ++ dv cI dd d1) := hD
      have hu : r119 = 1 := hu
      subst hu
      refine lv_if_eq (tgt := 191) hx hb dL_acts_122 (by decide) (fun c9 => absurd c9 (by decide)) (fun _ => ?_)
      refine lv_aload_n hx hb dL_acts_125 rfl (lv_at hl 8 rfl) ?_
      refine lv_bipush (v := 8) hx hb dL_acts_126 (by decide) ?_
      refine roV CF (c_X5_count l D cI cC cW t h Y2 S q V2 z2 U2 y2 I1 (8 : Int32) iv.1.sf) (cwV 1 hts gL_acts_X5_count rfl rfl rfl (by decide +kernel) ⟨Nat.le_of_ble_eq_true rfl, Nat.le_of_ble_eq_true rfl⟩) (vP_l hP) hK hX hS 0 4 ps_0 rfl rfl hl.1 rfl (Nat.le_of_ble_eq_true rfl) dL_acts_128 ⟨Nat.zero_le _, Nat.zero_le _⟩ ?_
      refine lv_top_eq (y := (I1 0)) cnt8 ?_
      refine lv_iload_n hx hb dL_acts_131 rfl (lv_at hl 7 rfl) ?_
      refine lv_iconst (v := 4) hx hb dL_acts_132 (by decide) ?_
      have J133 : ∀ v133 : Int32, v133 = (nx4 (I 0)) → W p l e (headSpec wsL_acts ({ frames := 8, cells := 0, slots := 0, locals := 177 } : Room)).room s m [.ref (h 0), .int x, .ref dd].toArray below meth c H locs 0 0 (MQ below (va_Qi (fun (r : Int32) (u : (Nat → va_H) × (Nat → Int32) × Int32 × (Nat → Int32) × Int32 × (Nat → Int32) × (Nat → Int32)) => r = 1 ∧ INVa (b + 1) (BB + 5000) u.1 u.2.2.2.2.2.1 u.2.2.2.2.2.2 ∧ (u.1 4).2.1 0 = (Y 4).2.1 0) (fun u => rwB D A (ps cI cC cW h u.1 S q u.2.1 u.2.2.1 u.2.2.2.1 u.2.2.2.2.1 u.2.2.2.2.2.1 ++ dv cI dd u.2.2.2.2.2.2)) A) [.ref (h 0), .int x, .ref dd].toArray s 0 0 A) (F0 m 143 ls [.int v133, .int (I1 0)]) := by
        intro v133 ev133
        refine lv_icmp_ne (tgt := 191) hx hb dL_acts_143 (by decide) (fun c9 => absurd (kp.1.trans ev133.symm) c9) (fun _ => ?_)
        refine lv_iload hx hb dL_acts_146 (lv_at hl 0 rfl) ?_
        have J148 : W p l e (headSpec wsL_acts ({ frames := 8, cells := 0, slots := 0, locals := 177 } : Room)).room s m [.ref (h 0), .int x, .ref dd].toArray below meth c H locs 0 0 (MQ below (va_Qi (fun (r : Int32) (u : (Nat → va_H) × (Nat → Int32) × Int32 × (Nat → Int32) × Int32 × (Nat → Int32) × (Nat → Int32)) => r = 1 ∧ INVa (b + 1) (BB + 5000) u.1 u.2.2.2.2.2.1 u.2.2.2.2.2.2 ∧ (u.1 4).2.1 0 = (Y 4).2.1 0) (fun u => rwB D A (ps cI cC cW h u.1 S q u.2.1 u.2.2.1 u.2.2.2.1 u.2.2.2.2.1 u.2.2.2.2.2.1 ++ dv cI dd u.2.2.2.2.2.2)) A) [.ref (h 0), .int x, .ref dd].toArray s 0 0 A) (F0 m 187 ls []) := by
          refine lv_iconst (v := 1) hx hb dL_acts_187 (by decide) ?_
          refine lv_goto (tgt := 192) hx hb dL_acts_188 (by decide) ?_
          refine lv_istore (lv' := [(12, .int _), (11, .int _), (10, .int _), (9, .int _), (8, .int _), (7, .int _), (6, .int _), (4, .long _), (3, .int _), (0, .ref _), (1, .int _), (2, .ref _)]) hx hb dL_acts_192 hl (by decide) rfl (fun ls hl => ?_)
          refine lv_iload hx hb dL_acts_194 (lv_at hl 0 rfl) ?_
          refine lv_if_eq (tgt := 275) hx hb dL_acts_196 (by decide) (fun c9 => absurd c9 (by decide)) (fun _ => ?_)
          refine lv_iload_n hx hb dL_acts_199 rfl (lv_at hl 10 rfl) ?_
          refine lv_bipush (v := 12) hx hb dL_acts_200 (by decide) ?_
          refine roS CF (c_L_up l D cI cC cW t x (12 : Int32) (by decide)) (va_cwS 2 hts gL_acts_L_up rfl rfl rfl (by decide +kernel) ⟨Nat.le_of_ble_eq_true rfl, Nat.le_of_ble_eq_true rfl⟩) vP_nil hK hX hS rfl hl.1 rfl (Nat.le_of_ble_eq_true rfl) dL_acts_202 ⟨Nat.zero_le _, Nat.zero_le _⟩ ?_
          refine lv_bipush (v := 6) hx hb dL_acts_205 (by decide) ?_
          have J207 : W p l e (headSpec wsL_acts ({ frames := 8, cells := 0, slots := 0, locals := 177 } : Room)).room s m [.ref (h 0), .int x, .ref dd].toArray below meth c H locs 0 0 (MQ below (va_Qi (fun (r : Int32) (u : (Nat → va_H) × (Nat → Int32) × Int32 × (Nat → Int32) × Int32 × (Nat → Int32) × (Nat → Int32)) => r = 1 ∧ INVa (b + 1) (BB + 5000) u.1 u.2.2.2.2.2.1 u.2.2.2.2.2.2 ∧ (u.1 4).2.1 0 = (Y 4).2.1 0) (fun u => rwB D A (ps cI cC cW h u.1 S q u.2.1 u.2.2.1 u.2.2.2.1 u.2.2.2.2.1 u.2.2.2.2.2.1 ++ dv cI dd u.2.2.2.2.2.2)) A) [.ref (h 0), .int x, .ref dd].toArray s 0 0 A) (F0 m 235 ls []) := by
            refine lv_iload_n hx hb dL_acts_235 rfl (lv_at hl 10 rfl) ?_
            refine lv_bipush (v := 12) hx hb dL_acts_236 (by decide) ?_
            refine roS CF (c_L_up l D cI cC cW t x (12 : Int32) (by decide)) (va_cwS 2 hts gL_acts_L_up rfl rfl rfl (by decide +kernel) ⟨Nat.le_of_ble_eq_true rfl, Nat.le_of_ble_eq_true rfl⟩) vP_nil hK hX hS rfl hl.1 rfl (Nat.le_of_ble_eq_true rfl) dL_acts_238 ⟨Nat.zero_le _, Nat.zero_le _⟩ ?_
            refine lv_iconst (v := 4) hx hb dL_acts_241 (by decide) ?_
            have J242 : W p l e (headSpec wsL_acts ({ frames := 8, cells := 0, slots := 0, locals := 177 } : Room)).room s m [.ref (h 0), .int x, .ref dd].toArray below meth c H locs 0 0 (MQ below (va_Qi (fun (r : Int32) (u : (Nat → va_H) × (Nat → Int32) × Int32 × (Nat → Int32) × Int32 × (Nat → Int32) × (Nat → Int32)) => r = 1 ∧ INVa (b + 1) (BB + 5000) u.1 u.2.2.2.2.2.1 u.2.2.2.2.2.2 ∧ (u.1 4).2.1 0 = (Y 4).2.1 0) (fun u => rwB D A (ps cI cC cW h u.1 S q u.2.1 u.2.2.1 u.2.2.2.1 u.2.2.2.2.1 u.2.2.2.2.2.1 ++ dv cI dd u.2.2.2.2.2.2)) A) [.ref (h 0), .int x, .ref dd].toArray s 0 0 A) (F0 m 271 ls []) := by
              refine lv_iconst (v := 1) hx hb dL_acts_271 (by decide) ?_
              refine lv_goto (tgt := 276) hx hb dL_acts_272 (by decide) ?_
              refine lv_istore (lv' := [(12, .int _), (11, .int _), (10, .int _), (9, .int _), (8, .int _), (7, .int _), (6, .int _), (4, .long _), (3, .int _), (0, .ref _), (1, .int _), (2, .ref _)]) hx hb dL_acts_276 hl (by decide) rfl (fun ls hl => ?_)
              refine lv_iload hx hb dL_acts_278 (lv_at hl 0 rfl) ?_
              refine lv_if_eq (tgt := 292) hx hb dL_acts_280 (by decide) (fun c9 => absurd c9 (by decide)) (fun _ => ?_)
              refine lv_iload_n hx hb dL_acts_283 rfl (lv_at hl 10 rfl) ?_
              refine lv_bipush (v := 20) hx hb dL_acts_284 (by decide) ?_
              refine lv_ishr hx hb dL_acts_286 ?_
              refine lv_iconst (v := 1) hx hb dL_acts_287 (by decide) ?_
              refine lv_iand hx hb dL_acts_288 ?_
              refine lv_if_ne (tgt := 295) hx hb dL_acts_289 (by decide) (fun c289 => ?_) (fun c289 => ?_)
              · refine lv_aload_n hx hb dL_acts_295 rfl (lv_at hl 11 rfl) ?_
                refine lv_iload hx hb dL_acts_296 (lv_at hl 4 rfl) ?_
                refine lv_iload hx hb dL_acts_298 (lv_at hl 3 rfl) ?_
                refine my_iast hx hb hK hP hD hS 80 0 dv_at rfl dv_set (vp_in_nI h20 (by decide)) dL_acts_300 (fun H locs hP hD hS => ?_)
                have e300_d : (upd d1 (ix (nI gi)) (d gi)) = d := (by rw [xI (show gi < 1000 by omega)]; exact upd_back (fun j hj => hd j (by rw [hgi]; exact hj)))
                rw [e300_d] at hP hD
                refine lv_aload_n hx hb dL_acts_301 rfl (lv_at hl 9 rfl) ?_
                obtain ⟨rU, Y3, I3, e3, hr3, hY3, hI3, hI4⟩ := undo_k (S := S) (q := q) (V := V2) (z := z2) (U := U2) (y := y2) hst1 hst2 kp
                refine rwVse (wc := ps cI cC cW h Y2 S q V2 z2 U2 y2 I1) (Rr := dv cI dd d) (wn := fun u : (Nat → va_H) × (Nat → Int32) => ps cI cC cW h u.1 S q V2 z2 U2 y2 u.2) (w1 := fun u : (Nat → va_H) × (Nat → Int32) => ps cI cC cW h u.1 S q V2 z2 U2 y2 u.2 ++ dv cI dd d) (r0 := rU) (u0 := (Y3, I3)) e3 (List.Perm.refl _) (fun _ => List.Perm.refl _) CF (c_X5_undo l D cI cC cW t h _ Y2 S q V2 z2 U2 y2 I1  iv.2.2.1 iv.2.2.2) (cwV 0 hts gL_acts_X5_undo rfl rfl rfl (by decide +kernel) ⟨Nat.le_of_ble_eq_true rfl, Nat.le_of_ble_eq_true rfl⟩) hP hD hK hX hS hA 0 4 ps_0 rfl rfl hl.1 rfl (Nat.le_of_ble_eq_true rfl) dL_acts_302 ⟨Nat.zero_le _, Nat.zero_le _⟩ (fun H locs hP hD hS => ?_)
                have hP : va_P D vwCl (ps cI cC cW h Y3 S q V2 z2 U2 y2 I3 ++ dv cI dd d) H := hP
                have hD : va_D A (ps cI cC cW h Y3 S q V2 z2 U2 y2 I3 ++ dv cI dd d) := hD
                refine lv_iload_n hx hb dL_acts_305 rfl (lv_at hl 8 rfl) ?_
                refine lv_iconst (v := 4) hx hb dL_acts_306 (by decide) ?_
                have J307 : ∀ v307 : Int32, v307 = (un4 (I 0)) → W p l e (headSpec wsL_acts ({ frames := 8, cells := 0, slots := 0, locals := 177 } : Room)).room s m [.ref (h 0), .int x, .ref dd].toArray below meth c H locs 0 0 (MQ below (va_Qi (fun (r : Int32) (u : (Nat → va_H) × (Nat → Int32) × Int32 × (Nat → Int32) × Int32 × (Nat → Int32) × (Nat → Int32)) => r = 1 ∧ INVa (b + 1) (BB + 5000) u.1 u.2.2.2.2.2.1 u.2.2.2.2.2.2 ∧ (u.1 4).2.1 0 = (Y 4).2.1 0) (fun u => rwB D A (ps cI cC cW h u.1 S q u.2.1 u.2.2.1 u.2.2.2.1 u.2.2.2.2.1 u.2.2.2.2.2.1 ++ dv cI dd u.2.2.2.2.2.2)) A) [.ref (h 0), .int x, .ref dd].toArray s 0 0 A) (F0 m 315 ls [.int v307, .int rU]) := by
                  intro v307 ev307
                  refine lv_icmp_ne (tgt := 332) hx hb dL_acts_315 (by decide) (fun c9 => absurd (hr3.trans ev307.symm) c9) (fun _ => ?_)
                  refine lv_aload_n hx hb dL_acts_318 rfl (lv_at hl 9 rfl) ?_
                  refine roSl CF (c_L_mark l D cI cC cW t h Y3 S q V2 z2 U2 y2 I3 (by rw [hY3]; exact hsf)) (va_cwS 1 hts gL_acts_L_mark rfl rfl rfl (by decide +kernel) ⟨Nat.le_of_ble_eq_true rfl, Nat.le_of_ble_eq_true rfl⟩) (vP_l hP) hK hX hS rfl hl.1 rfl (Nat.le_of_ble_eq_true rfl) dL_acts_319 ⟨Nat.zero_le _, Nat.zero_le _⟩ ?_
                  refine lv_topl (fun yl319 eyl319 => ?_)
                  have eyl319 := eyl319.trans (by rw [hY3])
                  subst eyl319
                  refine lv_lload hx hb dL_acts_322 (lv_at hl 7 rfl) ?_
                  refine W.lcmp hx hb dL_acts_324 ?_
                  refine lv_if_ne (tgt := 332) hx hb dL_acts_325 (by decide) (fun c9 => absurd lcmp0 c9) (fun _ => ?_)
                  refine lv_iconst (v := 1) hx hb dL_acts_328 (by decide) ?_
                  refine lv_goto (tgt := 333) hx hb dL_acts_329 (by decide) ?_
                  exact W.zret hx hb hr rfl (fun T hT _ => ⟨⟨_, (Y3, V2, z2, U2, y2, I3, d), rfl, ⟨rfl, (show INVa (b + 1) (BB + 5000) Y3 I3 d from INVa.of hY3 (hw.mono (by omega)) (hxt.mono (by omega)) hI3 hI4), n0_of hY3⟩, by rw [hT]; exact hP, hD⟩, hS.F hT⟩) hS.2.2 dL_acts_333 hlocks
                refine lv_icmp_ge (tgt := 314) hx hb dL_acts_307 (by decide) (fun c307 => ?_) (fun c307 => ?_)
                · refine lv_iconst (v := 3) hx hb dL_acts_314 (by decide) ?_
                  exact J307 _ (un4_t c307)
                · refine lv_iload_n hx hb dL_acts_310 rfl (lv_at hl 8 rfl) ?_
                  refine lv_goto (tgt := 315) hx hb dL_acts_311 (by decide) ?_
                  exact J307 _ (un4_f c307)
              · refine lv_iload hx hb dL_acts_292 (lv_at hl 0 rfl) ?_
                exact W.zret hx hb hr rfl (fun T hT _ => ⟨⟨_, (Y2, V2, z2, U2, y2, I1, d1), rfl, ⟨rfl, iv, m3⟩, by rw [hT]; exact hP, hD⟩, hS.F hT⟩) hS.2.2 dL_acts_294 hlocks
            refine lv_icmp_eq (tgt := 255) hx hb dL_acts_242 (by decide) (fun c242 => ?_) (fun c242 => ?_)
            · refine lv_iload hx hb dL_acts_255 (lv_at hl 2 rfl) ?_
              refine lv_ldc hx hb hown wd1 dL_acts_257 ?_
              refine lv_isub hx hb dL_acts_259 ?_
              refine lv_aload_n hx hb dL_acts_260 rfl (lv_at hl 9 rfl) ?_
              refine lv_iconst (v := 4) hx hb dL_acts_261 (by decide) ?_
              refine roV CF (c_X5_account l D cI cC cW t h Y2 S q V2 z2 U2 y2 I1 (4 : Int32) iv.1.sf) (cwV 1 hts gL_acts_X5_account rfl rfl rfl (by decide +kernel) ⟨Nat.le_of_ble_eq_true rfl, Nat.le_of_ble_eq_true rfl⟩) (vP_l hP) hK hX hS 0 4 ps_0 rfl rfl hl.1 rfl (Nat.le_of_ble_eq_true rfl) dL_acts_262 ⟨Nat.zero_le _, Nat.zero_le _⟩ ?_
              refine lv_top_eq (y := ((100000000 : Int32) + (Y2 4).2.1 9)) ra4 ?_
              refine lv_iload hx hb dL_acts_265 (lv_at hl 6 rfl) ?_
              refine lv_isub hx hb dL_acts_267 ?_
              refine lv_icmp_ne (tgt := 275) hx hb dL_acts_268 (by decide) (fun c9 => absurd ((ek.2 (Or.inl c242)).trans mv_r) c9) (fun _ => ?_)
              exact J242
            · refine lv_iload_n hx hb dL_acts_245 rfl (lv_at hl 10 rfl) ?_
              refine lv_bipush (v := 12) hx hb dL_acts_246 (by decide) ?_
              refine roS CF (c_L_up l D cI cC cW t x (12 : Int32) (by decide)) (va_cwS 2 hts gL_acts_L_up rfl rfl rfl (by decide +kernel) ⟨Nat.le_of_ble_eq_true rfl, Nat.le_of_ble_eq_true rfl⟩) vP_nil hK hX hS rfl hl.1 rfl (Nat.le_of_ble_eq_true rfl) dL_acts_248 ⟨Nat.zero_le _, Nat.zero_le _⟩ ?_
              refine lv_iconst (v := 5) hx hb dL_acts_251 (by decide) ?_
              refine lv_icmp_ne (tgt := 271) hx hb dL_acts_252 (by decide) (fun c252 => ?_) (fun c252 => ?_)
              · exact J242
              · refine lv_iload hx hb dL_acts_255 (lv_at hl 2 rfl) ?_
                refine lv_ldc hx hb hown wd1 dL_acts_257 ?_
                refine lv_isub hx hb dL_acts_259 ?_
                refine lv_aload_n hx hb dL_acts_260 rfl (lv_at hl 9 rfl) ?_
                refine lv_iconst (v := 4) hx hb dL_acts_261 (by decide) ?_
                refine roV CF (c_X5_account l D cI cC cW t h Y2 S q V2 z2 U2 y2 I1 (4 : Int32) iv.1.sf) (cwV 1 hts gL_acts_X5_account rfl rfl rfl (by decide +kernel) ⟨Nat.le_of_ble_eq_true rfl, Nat.le_of_ble_eq_true rfl⟩) (vP_l hP) hK hX hS 0 4 ps_0 rfl rfl hl.1 rfl (Nat.le_of_ble_eq_true rfl) dL_acts_262 ⟨Nat.zero_le _, Nat.zero_le _⟩ ?_
                refine lv_top_eq (y := ((100000000 : Int32) + (Y2 4).2.1 9)) ra4 ?_
                refine lv_iload hx hb dL_acts_265 (lv_at hl 6 rfl) ?_
                refine lv_isub hx hb dL_acts_267 ?_
                refine lv_icmp_ne (tgt := 275) hx hb dL_acts_268 (by decide) (fun c9 => absurd ((ek.2 (Or.inr c252)).trans mv_r) c9) (fun _ => ?_)
                exact J242
          refine lv_icmp_ne (tgt := 235) hx hb dL_acts_207 (by decide) (fun c207 => ?_) (fun c207 => ?_)
          · exact J207
          · refine lv_iload hx hb dL_acts_210 (lv_at hl 2 rfl) ?_
            refine lv_iconst (v := 1) hx hb dL_acts_212 (by decide) ?_
            refine lv_iload_n hx hb dL_acts_213 rfl (lv_at hl 10 rfl) ?_
            refine lv_bipush (v := 8) hx hb dL_acts_214 (by decide) ?_
            refine lv_ishr hx hb dL_acts_216 ?_
            refine lv_iconst (v := 3) hx hb dL_acts_217 (by decide) ?_
            refine roS CF (c_L_up l D cI cC cW t (x >>> ((8 : Int32) &&& 31)) (3 : Int32) (by decide)) (va_cwS 2 hts gL_acts_L_up rfl rfl rfl (by decide +kernel) ⟨Nat.le_of_ble_eq_true rfl, Nat.le_of_ble_eq_true rfl⟩) vP_nil hK hX hS rfl hl.1 rfl (Nat.le_of_ble_eq_true rfl) dL_acts_218 ⟨Nat.zero_le _, Nat.zero_le _⟩ ?_
            refine lv_iadd hx hb dL_acts_221 ?_
            refine lv_icmp_eq (tgt := 235) hx hb dL_acts_222 (by decide) (fun c222 => ?_) (fun c222 => ?_)
            · exact J207
            · refine lv_aload_n hx hb dL_acts_225 rfl (lv_at hl 9 rfl) ?_
              refine lv_iconst (v := 0) hx hb dL_acts_226 (by decide) ?_
              refine roV CF (c_X5_best l D cI cC cW t h Y2 S q V2 z2 U2 y2 I1 (0 : Int32) iv.1.sf) (cwV 1 hts gL_acts_X5_best rfl rfl rfl (by decide +kernel) ⟨Nat.le_of_ble_eq_true rfl, Nat.le_of_ble_eq_true rfl⟩) (vP_l hP) hK hX hS 0 4 ps_0 rfl rfl hl.1 rfl (Nat.le_of_ble_eq_true rfl) dL_acts_227 ⟨Nat.zero_le _, Nat.zero_le _⟩ ?_
              refine lv_top_eq (y := (sp_X4_numberOfBest (Y2 4).2.1 (Y2 4).2.2 0)) rfl ?_
              refine lv_bipush (v := -4) hx hb dL_acts_230 (by decide) ?_
              refine lv_icmp_ne (tgt := 275) hx hb dL_acts_232 (by decide) (fun c9 => absurd ((ek.1 c207).resolve_left c222) c9) (fun _ => ?_)
              exact J207
        refine lv_if_eq (tgt := 177) hx hb dL_acts_148 (by decide) (fun c148 => ?_) (fun c148 => ?_)
        · refine lv_aload_n hx hb dL_acts_177 rfl (lv_at hl 8 rfl) ?_
          refine lv_iconst (v := 4) hx hb dL_acts_178 (by decide) ?_
          refine roV CF (c_X5_account l D cI cC cW t h Y2 S q V2 z2 U2 y2 I1 (4 : Int32) iv.1.sf) (cwV 1 hts gL_acts_X5_account rfl rfl rfl (by decide +kernel) ⟨Nat.le_of_ble_eq_true rfl, Nat.le_of_ble_eq_true rfl⟩) (vP_l hP) hK hX hS 0 4 ps_0 rfl rfl hl.1 rfl (Nat.le_of_ble_eq_true rfl) dL_acts_179 ⟨Nat.zero_le _, Nat.zero_le _⟩ ?_
          refine lv_top_eq (y := ((100000000 : Int32) + (Y2 4).2.1 9)) ra4 ?_
          refine lv_iload hx hb dL_acts_182 (lv_at hl 5 rfl) ?_
          refine lv_icmp_ne (tgt := 191) hx hb dL_acts_184 (by decide) (fun c9 => absurd (by rw [mvE.2 (mvI_n (by rw [← ev96]; exact c148))]) c9) (fun _ => ?_)
          exact J148
        · refine lv_iload hx hb dL_acts_151 (lv_at hl 4 rfl) ?_
          refine lv_aload_n hx hb dL_acts_153 rfl (lv_at hl 8 rfl) ?_
          refine lv_aload_n hx hb dL_acts_154 rfl (lv_at hl 8 rfl) ?_
          refine lv_iconst (v := 3) hx hb dL_acts_155 (by decide) ?_
          refine roV CF (c_X5_count l D cI cC cW t h Y2 S q V2 z2 U2 y2 I1 (3 : Int32) iv.1.sf) (cwV 1 hts gL_acts_X5_count rfl rfl rfl (by decide +kernel) ⟨Nat.le_of_ble_eq_true rfl, Nat.le_of_ble_eq_true rfl⟩) (vP_l hP) hK hX hS 0 4 ps_0 rfl rfl hl.1 rfl (Nat.le_of_ble_eq_true rfl) dL_acts_156 ⟨Nat.zero_le _, Nat.zero_le _⟩ ?_
          refine lv_top_eq (y := (nI (sea (Y 4).2.1))) ((cntk (by decide) (by decide)).trans (rcw3.trans ((psea4 iv.1.sf).trans (by rw [(mvE.1 (mvI_y (by rw [← ev96]; exact c148))).1])))) ?_
          refine roV CF (c_X5_weekly l D cI cC cW t h Y2 S q V2 z2 U2 y2 I1 (nI (sea (Y 4).2.1)) iv.1.sf) (cwV 1 hts gL_acts_X5_weekly rfl rfl rfl (by decide +kernel) ⟨Nat.le_of_ble_eq_true rfl, Nat.le_of_ble_eq_true rfl⟩) (vP_l hP) hK hX hS 0 4 ps_0 rfl rfl hl.1 rfl (Nat.le_of_ble_eq_true rfl) dL_acts_159 ⟨Nat.zero_le _, Nat.zero_le _⟩ ?_
          refine lv_top_eq (y := (wkS (Y2 4).2.1 (sea (Y 4).2.1))) ((wk5 sea_lt).trans (wk4 iv.1 sea_lt)) ?_
          refine lv_isub hx hb dL_acts_162 ?_
          refine lv_aload_n hx hb dL_acts_163 rfl (lv_at hl 8 rfl) ?_
          refine lv_iconst (v := 4) hx hb dL_acts_164 (by decide) ?_
          refine roV CF (c_X5_account l D cI cC cW t h Y2 S q V2 z2 U2 y2 I1 (4 : Int32) iv.1.sf) (cwV 1 hts gL_acts_X5_account rfl rfl rfl (by decide +kernel) ⟨Nat.le_of_ble_eq_true rfl, Nat.le_of_ble_eq_true rfl⟩) (vP_l hP) hK hX hS 0 4 ps_0 rfl rfl hl.1 rfl (Nat.le_of_ble_eq_true rfl) dL_acts_165 ⟨Nat.zero_le _, Nat.zero_le _⟩ ?_
          refine lv_top_eq (y := ((100000000 : Int32) + (Y2 4).2.1 9)) ra4 ?_
          refine lv_iload hx hb dL_acts_168 (lv_at hl 5 rfl) ?_
          refine lv_isub hx hb dL_acts_170 ?_
          refine lv_icmp_ne (tgt := 191) hx hb dL_acts_171 (by decide) (fun c9 => absurd ((mvE.1 (mvI_y (by rw [← ev96]; exact c148))).2) c9) (fun _ => ?_)
          refine lv_goto (tgt := 187) hx hb dL_acts_174 (by decide) ?_
          exact J148
      refine lv_icmp_ge (tgt := 142) hx hb dL_acts_133 (by decide) (fun c133 => ?_) (fun c133 => ?_)
      · refine lv_iconst (v := 4) hx hb dL_acts_142 (by decide) ?_
        exact J133 _ (nx4_t c133)
      · refine lv_iload_n hx hb dL_acts_136 rfl (lv_at hl 7 rfl) ?_
        refine lv_iconst (v := 1) hx hb dL_acts_137 (by decide) ?_
        refine lv_iadd hx hb dL_acts_138 ?_
        refine lv_goto (tgt := 143) hx hb dL_acts_139 (by decide) ?_
        exact J133 _ (nx4_f c133)
    refine lv_icmp_le (tgt := 114) hx hb dL_acts_96 (by decide) (fun c96 => ?_) (fun c96 => ?_)
    · refine lv_iconst (v := 0) hx hb dL_acts_114 (by decide) ?_
      exact J96 _ (mvI_a c96)
    · refine lv_iload_n hx hb dL_acts_99 rfl (lv_at hl 8 rfl) ?_
      refine lv_bipush (v := 12) hx hb dL_acts_100 (by decide) ?_
      refine roS CF (c_L_up l D cI cC cW t x (12 : Int32) (by decide)) (va_cwS 2 hts gL_acts_L_up rfl rfl rfl (by decide +kernel) ⟨Nat.le_of_ble_eq_true rfl, Nat.le_of_ble_eq_true rfl⟩) vP_nil hK hX hS rfl hl.1 rfl (Nat.le_of_ble_eq_true rfl) dL_acts_102 ⟨Nat.zero_le _, Nat.zero_le _⟩ ?_
      refine lv_bipush (v := 7) hx hb dL_acts_105 (by decide) ?_
      refine lv_icmp_ge (tgt := 114) hx hb dL_acts_107 (by decide) (fun c107 => ?_) (fun c107 => ?_)
      · refine lv_iconst (v := 0) hx hb dL_acts_114 (by decide) ?_
        exact J96 _ (mvI_b c96 c107)
      · refine lv_iconst (v := 1) hx hb dL_acts_110 (by decide) ?_
        refine lv_goto (tgt := 115) hx hb dL_acts_111 (by decide) ?_
        exact J96 _ (mvI_c c96 c107)
  · obtain ⟨q1, q2, q3⟩ := act_neg hu c60
    refine lv_aload_n hx hb dL_acts_63 rfl (lv_at hl 7 rfl) ?_
    refine roSl CF (c_L_mark l D cI cC cW t h Y1 S q V z U y I1 (q1.sf hsf)) (va_cwS 1 hts gL_acts_L_mark rfl rfl rfl (by decide +kernel) ⟨Nat.le_of_ble_eq_true rfl, Nat.le_of_ble_eq_true rfl⟩) (vP_l hP) hK hX hS rfl hl.1 rfl (Nat.le_of_ble_eq_true rfl) dL_acts_64 ⟨Nat.zero_le _, Nat.zero_le _⟩ ?_
    refine lv_topl (fun yl64 eyl64 => ?_)
    have eyl64 := eyl64.trans (mrk_FR q1)
    subst eyl64
    refine lv_lload hx hb dL_acts_67 (lv_at hl 5 rfl) ?_
    refine W.lcmp hx hb dL_acts_69 ?_
    refine lv_if_ne (tgt := 87) hx hb dL_acts_70 (by decide) (fun c9 => absurd lcmp0 c9) (fun _ => ?_)
    refine lv_aload_n hx hb dL_acts_73 rfl (lv_at hl 7 rfl) ?_
    refine lv_bipush (v := 8) hx hb dL_acts_74 (by decide) ?_
    refine roV CF (c_X5_count l D cI cC cW t h Y1 S q V z U y I1 (8 : Int32) (q1.sf hsf)) (cwV 1 hts gL_acts_X5_count rfl rfl rfl (by decide +kernel) ⟨Nat.le_of_ble_eq_true rfl, Nat.le_of_ble_eq_true rfl⟩) (vP_l hP) hK hX hS 0 4 ps_0 rfl rfl hl.1 rfl (Nat.le_of_ble_eq_true rfl) dL_acts_76 ⟨Nat.zero_le _, Nat.zero_le _⟩ ?_
    refine lv_top_eq (y := (I 0)) (cnt8.trans (congrFun q2 0)) ?_
    refine lv_iload_n hx hb dL_acts_79 rfl (lv_at hl 6 rfl) ?_
    refine lv_icmp_ne (tgt := 87) hx hb dL_acts_80 (by decide) (fun c9 => absurd rfl c9) (fun _ => ?_)
    refine lv_iconst (v := 1) hx hb dL_acts_83 (by decide) ?_
    refine lv_goto (tgt := 88) hx hb dL_acts_84 (by decide) ?_
    exact W.zret hx hb hr rfl (fun T hT _ => ⟨⟨_, (Y1, V, z, U, y, I1, d1), rfl, ⟨rfl, (show INVa (b + 1) (BB + 5000) Y1 I1 d1 from INVa.of q1.n4 (hw.mono (by omega)) (by rw [q3]; exact hxt.mono (by omega)) (by rw [q2]; exact hst1) (by rw [q2]; exact hst2)), n0_of q1.n4⟩, by rw [hT]; exact hP, hD⟩, hS.F hT⟩) hS.2.2 dL_acts_88 hlocks
