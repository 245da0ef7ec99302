/-! PickSlots: orders of a text (printed by wip/whole/m14.py) -/
def lp18_X5_tryText (S : Nat → Int32) (V : Nat → Int32) (z : Int32) (U : Nat → Int32) (y : Int32) : Nat → Int32 → (Nat → va_H) → (Nat → Int32) → (Nat → Int32) → Int32 × ((Nat → va_H) × (Nat → Int32) × (Nat → Int32))
  | 0, v1, Yw, qw, Iw => (0, (Yw, qw, Iw))
  | n + 1, v1, Yw, qw, Iw => if (60 : Int32) ≤ v1 then ((v1, (Yw, qw, Iw))) else (if (sp_X1_isAtEnd S qw) = 0 then (let I106 : Nat → Int32 := upd Iw (1) (qw 1); let k49_107 : Int32 × (Nat → Int32) := sp_X1_readOrder S qw; let q108 : Nat → Int32 := k49_107.2; if k49_107.1 = 0 then (let I109 : Nat → Int32 := upd I106 (2) (1 : Int32); if (I109 2) = 0 then (lp18_X5_tryText S V z U y n (v1 + (1 : Int32)) Yw q108 I109) else ((v1, (Yw, q108, I109)))) else (if (sp_X5_hasGoodsAndSlots Yw S q108 V z U y I106 (q108 2) (q108 3) (q108 4)) = 0 then (let I109 : Nat → Int32 := upd I106 (2) (2 : Int32); if (I109 2) = 0 then (lp18_X5_tryText S V z U y n (v1 + (1 : Int32)) Yw q108 I109) else ((v1, (Yw, q108, I109)))) else (let k121_109 : Int32 × (Nat → va_H) := sp_X5_doOrder Yw S q108 V z U y I106 (q108 2) (q108 3) (q108 4); let Y110 : Nat → va_H := k121_109.2; if 0 ≤ k121_109.1 then (if (I106 2) = 0 then (lp18_X5_tryText S V z U y n (v1 + (1 : Int32)) Y110 q108 I106) else ((v1, (Y110, q108, I106)))) else (let I111 : Nat → Int32 := upd I106 (2) (3 : Int32); if (I111 2) = 0 then (lp18_X5_tryText S V z U y n (v1 + (1 : Int32)) Y110 q108 I111) else ((v1, (Y110, q108, I111))))))) else ((v1, (Yw, qw, Iw))))
theorem lp18_X5_tryText_s (S : Nat → Int32) (V : Nat → Int32) (z : Int32) (U : Nat → Int32) (y : Int32) (n : Nat) (v1 : Int32) (Yw : Nat → va_H) (qw : Nat → Int32) (Iw : Nat → Int32) : lp18_X5_tryText S V z U y (n + 1) v1 Yw qw Iw = if (60 : Int32) ≤ v1 then ((v1, (Yw, qw, Iw))) else (if (sp_X1_isAtEnd S qw) = 0 then (let I106 : Nat → Int32 := upd Iw (1) (qw 1); let k49_107 : Int32 × (Nat → Int32) := sp_X1_readOrder S qw; let q108 : Nat → Int32 := k49_107.2; if k49_107.1 = 0 then (let I109 : Nat → Int32 := upd I106 (2) (1 : Int32); if (I109 2) = 0 then (lp18_X5_tryText S V z U y n (v1 + (1 : Int32)) Yw q108 I109) else ((v1, (Yw, q108, I109)))) else (if (sp_X5_hasGoodsAndSlots Yw S q108 V z U y I106 (q108 2) (q108 3) (q108 4)) = 0 then (let I109 : Nat → Int32 := upd I106 (2) (2 : Int32); if (I109 2) = 0 then (lp18_X5_tryText S V z U y n (v1 + (1 : Int32)) Yw q108 I109) else ((v1, (Yw, q108, I109)))) else (let k121_109 : Int32 × (Nat → va_H) := sp_X5_doOrder Yw S q108 V z U y I106 (q108 2) (q108 3) (q108 4); let Y110 : Nat → va_H := k121_109.2; if 0 ≤ k121_109.1 then (if (I106 2) = 0 then (lp18_X5_tryText S V z U y n (v1 + (1 : Int32)) Y110 q108 I106) else ((v1, (Y110, q108, I106)))) else (let I111 : Nat → Int32 := upd I106 (2) (3 : Int32); if (I111 2) = 0 then (lp18_X5_tryText S V z U y n (v1 + (1 : Int32)) Y110 q108 I111) else ((v1, (Y110, q108, I111))))))) else ((v1, (Yw, qw, Iw)))) := rfl
def sp_X5_tryText (Y : Nat → va_H) (S : Nat → Int32) (q : Nat → Int32) (V : Nat → Int32) (z : Int32) (U : Nat → Int32) (y : Int32) (I : Nat → Int32) : Int32 × ((Nat → va_H) × (Nat → Int32) × (Nat → Int32)) :=
  let k1_1 : Nat → va_H := sp_X5_startTrial Y S q V z U y I; let k8_2 : Nat → Int32 := sp_X1_startReading S q; let q3 : Nat → Int32 := k8_2; let I4 : Nat → Int32 := upd I (2) (0 : Int32); lp18_X5_tryText S V z U y 61 (0 : Int32) k1_1 q3 I4
set_option maxHeartbeats 4000000 in
set_option maxRecDepth 100000 in
theorem c_X5_tryText (l : Launch) (D : va_G) (cI cC cW : ClassId) (t : Nat → Nat) (h : Nat → Nat) (sz : Nat) (Y : Nat → va_H) (S : Nat → Int32) (q : Nat → Int32) (V : Nat → Int32) (z : Int32) (U : Nat → Int32) (y : Int32) (I : Nat → Int32) (hsf : sfN (Y 4).2.1) (hch : ∀ i, narrow .char (.int (S i)) = .int (S i)) : Met l yX5_tryText wsX5_tryText ({ frames := 6, cells := 0, slots := 0, locals := 130 }) (va_Pc [.ref (h 0)] (rwP D (tyL cI cC cW) (ps cI cC cW h Y S q V z U y I) t sz)) (va_Qi (fun (r : Int32) (u : ((Nat → va_H) × (Nat → Int32) × (Nat → Int32))) => (r, u) = sp_X5_tryText Y S q V z U y I) (fun u => rwB D (va_A (ps cI cC cW h Y S q V z U y I) sz) (ps cI cC cW h u.1 S u.2.1 V z U y u.2.2)) (va_A (ps cI cC cW h Y S q V z U y I) sz)) 0 0 (va_A (ps cI cC cW h Y S q V z U y I) sz) := by
  refine Met.ofW (cc := cX5_tryText) (maxL := 2) (ret := (some .int)) (by decide) rfl ?_
  intro p e s m args below meth c s₁ B hml hv
  obtain ⟨rfl, hsz, hP, hK, hD0, hX⟩ := hv
  have hx := B.exec
  have hb := B.bytes
  have hr := B.returns
  have hts := atoms_spec (ws := wsX5_tryText) B.pre
  have hown : s.vm.findClass RX5 = some m.cls := findClass_of_methodNamed B.named
  have hlocks := B.notSynchronized
  subst hsz
  have hD := hD0.self (sz := s.heap.size)
  generalize hAe : va_A (ps cI cC cW h Y S q V z U y I) s.heap.size = A at hD hX ⊢
  have hA : ∀ q : Nat, s.heap.size ≤ q → A q := fun q h => by rw [← hAe]; exact Or.inr h
  have hS : va_S A s.heap s.heap [] := va_S.rf
  have wd1 : (Cond.fieldLink RX5 18 "PickSlots" "text" "LPickSlots$OrderText;").before [.ref (h 0)].toArray s = true := hts _ (List.mem_of_getElem? (i := 1) rfl)
  have wd2 : (Cond.fieldLink RX5 131 "PickSlots" "faultReason" "I").before [.ref (h 0)].toArray s = true := hts _ (List.mem_of_getElem? (i := 2) rfl)
  have wd3 : (Cond.fieldLink RX5 134 "PickSlots" "faultPosition" "I").before [.ref (h 0)].toArray s = true := hts _ (List.mem_of_getElem? (i := 3) rfl)
  have hi1 : ∀ w ∈ wsX10, w ∈ wsX5_tryText := fun w h => List.mem_cons_of_mem _ (List.mem_append_left _ (List.mem_append_left _ (List.mem_append_right _ (h))))
  have hi5 : ∀ w ∈ wsX50, w ∈ wsX5_tryText := fun w h => List.mem_cons_of_mem _ (List.mem_append_left _ (List.mem_append_left _ (List.mem_append_left _ (List.mem_append_right _ (h)))))
  have CF : CallFix p m c cX5_tryText 2 s [.ref (h 0)].toArray wsX5_tryText RX5 := ⟨hx, hb, hml, hown, hts⟩
  have hl := lv_entry ([.ref (h 0)]) (n := 2) (Nat.le_of_ble_eq_true rfl)
  rw [lg_entry_eq]
  generalize (lg_sl ([.ref (h 0)]) ++ List.replicate (2 - (lg_sl ([.ref (h 0)])).length) Slot.unset).toArray = ls at hl ⊢
  have hl : lv_has ls 2 [(0, .ref (h 0))] := hl
  refine lv_aload_n hx hb dX5_tryText_0 rfl (lv_at hl 0 rfl) ?_
  refine rwVv CF (c_X5_startTrial l D cI cC cW t _ _ _ _ _ _ _ _ _ _  ) (cwV 0 hts gX5_tryText_X5_startTrial rfl rfl rfl (by decide +kernel) ⟨Nat.le_of_ble_eq_true rfl, Nat.le_of_ble_eq_true rfl⟩) hP hD hK hX hS hA 0 4 ps_0 rfl rfl hl.1 rfl (Nat.le_of_ble_eq_true rfl) dX5_tryText_1 ⟨Nat.zero_le _, Nat.zero_le _⟩ (fun H locs hP hD hS => ?_)
  refine lv_aload_n hx hb dX5_tryText_4 rfl (lv_at hl 0 rfl) ?_
  refine va_get (D := D) (ci := 4) (C := RX5) (T := TX5) (N := 9) hx hb hts hi5 hown hK hP 0 ps_0 rfl 1 (by decide) wd1 (fun _ h9 => h9) rfl dX5_tryText_5 ?_
  refine rwVvs ps_pt ps_qt CF (c_X1_startReading l D cI cC cW t _ _ _ _  ) (cwV 0 hts gX5_tryText_X1_startReading rfl rfl rfl (by decide +kernel) ⟨Nat.le_of_ble_eq_true rfl, Nat.le_of_ble_eq_true rfl⟩) hP hD hK hX hS hA 0 1 tx_0 rfl rfl hl.1 rfl (Nat.le_of_ble_eq_true rfl) dX5_tryText_8 ⟨Nat.zero_le _, Nat.zero_le _⟩ (fun H locs hP hD hS => ?_)
  refine lv_aload_n hx hb dX5_tryText_11 rfl (lv_at hl 0 rfl) ?_
  refine lv_iconst (v := 0) hx hb dX5_tryText_12 (by decide) ?_
  refine my_put (D := D) (ci := 4) (C := RX5) (T := TX5) (N := 9) (ty := .int) hx hb hts hi5 tyX5 tyX5_ok nmX5 hown hK hP hD hS 0 ps_0 rfl 8 (by decide) wd2 (fun _ h9 => h9) rfl (by decide +kernel) rfl rfl (Nat.le_of_ble_eq_true rfl) (ps_f8 _) dX5_tryText_13 (fun H locs hP hD hS => ?_)
  refine lv_iconst (v := 0) hx hb dX5_tryText_16 (by decide) ?_
  refine lv_istore_n (lv' := [(1, .int _), (0, .ref _)]) hx hb dX5_tryText_17 rfl hl (by decide) rfl (fun ls hl => ?_)
  have L18 : ∀ (n18 : Nat) (v1 : Int32) (Yw : Nat → va_H) (qw : Nat → Int32) (Iw : Nat → Int32), (sfN (Yw 5).2.1) → (0 ≤ v1.toInt) → (v1.toInt ≤ (60 : Int32).toInt) → ((60 : Int32).toInt - v1.toInt < (n18 : Int)) → sp_X5_tryText Y S q V z U y I = lp18_X5_tryText S V z U y (n18) v1 Yw qw Iw → ∀ (ls : Array Slot), lv_has ls 2 [(1, .int v1), (0, .ref (h 0))] → ∀ (H : Heap) (locs : List Loc), va_P D vwCl (ps cI cC cW h Yw S qw V z U y Iw) H → va_D A (ps cI cC cW h Yw S qw V z U y Iw) → va_S A s.heap H locs → W p l e (headSpec wsX5_tryText ({ frames := 6, cells := 0, slots := 0, locals := 130 } : Room)).room s m [.ref (h 0)].toArray below meth c H locs 0 0 (MQ below (va_Qi (fun (r : Int32) (u : ((Nat → va_H) × (Nat → Int32) × (Nat → Int32))) => (r, u) = sp_X5_tryText Y S q V z U y I) (fun u => rwB D A (ps cI cC cW h u.1 S u.2.1 V z U y u.2.2)) A) [.ref (h 0)].toArray s 0 0 A) (F0 m 18 ls []) := by
    intro n18
    induction n18 with
    | zero => intro v1 Yw qw Iw hsw i1 i2 im; exfalso; omega
    | succ n18 ih18 =>
      intro v1 Yw qw Iw hsw i1 i2 im hsp18 ls hl H locs hP hD hS
      refine lv_iload_n hx hb dX5_tryText_18 rfl (lv_at hl 0 rfl) ?_
      refine lv_bipush (v := 60) hx hb dX5_tryText_19 (by decide) ?_
      refine lv_icmp_ge (tgt := 147) hx hb dX5_tryText_21 (by decide) (fun c21 => ?_) (fun c21 => ?_)
      · refine lv_iload_n hx hb dX5_tryText_147 rfl (lv_at hl 0 rfl) ?_
        exact rw_ret (_, _, _) hx hb hr hP hD hS (Eq.trans hsp18 (Eq.trans (lp18_X5_tryText_s _ _ _ _ _ _ _ _ _ _) (Eq.trans (if_pos c21) (rfl)))) dX5_tryText_148 hlocks
      · refine lv_aload_n hx hb dX5_tryText_24 rfl (lv_at hl 1 rfl) ?_
        refine va_get (D := D) (ci := 4) (C := RX5) (T := TX5) (N := 9) hx hb hts hi5 hown hK hP 0 ps_0 rfl 1 (by decide) wd1 (fun _ h9 => h9) rfl dX5_tryText_25 ?_
        refine roV CF (c_X1_isAtEnd l D cI cC cW t _ _ _  ) (cwV 0 hts gX5_tryText_X1_isAtEnd rfl rfl rfl (by decide +kernel) ⟨Nat.le_of_ble_eq_true rfl, Nat.le_of_ble_eq_true rfl⟩) (vP_l (vP_perm ps_pt hP)) hK hX hS 0 1 tx_0 rfl rfl hl.1 rfl (Nat.le_of_ble_eq_true rfl) dX5_tryText_28 ⟨Nat.zero_le _, Nat.zero_le _⟩ ?_
        refine lv_if_ne (tgt := 147) hx hb dX5_tryText_31 (by decide) (fun c31 => ?_) (fun c31 => ?_)
        · refine lv_iload_n hx hb dX5_tryText_147 rfl (lv_at hl 0 rfl) ?_
          exact rw_ret (_, _, _) hx hb hr hP hD hS (Eq.trans hsp18 (Eq.trans (lp18_X5_tryText_s _ _ _ _ _ _ _ _ _ _) (Eq.trans (if_neg c21) (Eq.trans (if_neg c31) (rfl))))) dX5_tryText_148 hlocks
        · refine lv_aload_n hx hb dX5_tryText_34 rfl (lv_at hl 1 rfl) ?_
          refine lv_aload_n hx hb dX5_tryText_35 rfl (lv_at hl 1 rfl) ?_
          refine va_get (D := D) (ci := 4) (C := RX5) (T := TX5) (N := 9) hx hb hts hi5 hown hK hP 0 ps_0 rfl 1 (by decide) wd1 (fun _ h9 => h9) rfl dX5_tryText_36 ?_
          refine va_getN (D := D) (ci := 1) (C := RX1) (T := TX1) (N := 6) hx hb hts hi1 hown hK hP 2 ps_2 rfl 2 (by decide) (va_Nw.use rfl (hX.1.1 ("PickSlots", 154, "PickSlots$OrderText", "at") (List.mem_of_getElem? (i := 1) rfl))) (fun _ h9 => h9) rfl dX5_tryText_39 ?_
          refine my_put (D := D) (ci := 4) (C := RX5) (T := TX5) (N := 9) (ty := .int) hx hb hts hi5 tyX5 tyX5_ok nmX5 hown hK hP hD hS 0 ps_0 rfl 7 (by decide) wd3 (fun _ h9 => h9) rfl (by decide +kernel) rfl rfl (Nat.le_of_ble_eq_true rfl) (ps_f7 _) dX5_tryText_42 (fun H locs hP hD hS => ?_)
          refine lv_aload_n hx hb dX5_tryText_45 rfl (lv_at hl 1 rfl) ?_
          refine va_get (D := D) (ci := 4) (C := RX5) (T := TX5) (N := 9) hx hb hts hi5 hown hK hP 0 ps_0 rfl 1 (by decide) wd1 (fun _ h9 => h9) rfl dX5_tryText_46 ?_
          refine rwVs ps_pt ps_qt CF (c_X1_readOrder l D cI cC cW t _ _ _ _  (by assumption)) (cwV 0 hts gX5_tryText_X1_readOrder rfl rfl rfl (by decide +kernel) ⟨Nat.le_of_ble_eq_true rfl, Nat.le_of_ble_eq_true rfl⟩) hP hD hK hX hS hA 0 1 tx_0 rfl rfl hl.1 rfl (Nat.le_of_ble_eq_true rfl) dX5_tryText_49 ⟨Nat.zero_le _, Nat.zero_le _⟩ (fun H locs hP hD hS => ?_)
          refine lv_if_ne (tgt := 63) hx hb dX5_tryText_52 (by decide) (fun c52 => ?_) (fun c52 => ?_)
          · refine lv_aload_n hx hb dX5_tryText_63 rfl (lv_at hl 1 rfl) ?_
            refine lv_aload_n hx hb dX5_tryText_64 rfl (lv_at hl 1 rfl) ?_
            refine va_get (D := D) (ci := 4) (C := RX5) (T := TX5) (N := 9) hx hb hts hi5 hown hK hP 0 ps_0 rfl 1 (by decide) wd1 (fun _ h9 => h9) rfl dX5_tryText_65 ?_
            refine va_getN (D := D) (ci := 1) (C := RX1) (T := TX1) (N := 6) hx hb hts hi1 hown hK hP 2 ps_2 rfl 3 (by decide) (va_Nw.use rfl (hX.1.1 ("PickSlots", 160, "PickSlots$OrderText", "kind") (List.mem_of_getElem? (i := 2) rfl))) (fun _ h9 => h9) rfl dX5_tryText_68 ?_
            refine lv_aload_n hx hb dX5_tryText_71 rfl (lv_at hl 1 rfl) ?_
            refine va_get (D := D) (ci := 4) (C := RX5) (T := TX5) (N := 9) hx hb hts hi5 hown hK hP 0 ps_0 rfl 1 (by decide) wd1 (fun _ h9 => h9) rfl dX5_tryText_72 ?_
            refine va_getN (D := D) (ci := 1) (C := RX1) (T := TX1) (N := 6) hx hb hts hi1 hown hK hP 2 ps_2 rfl 4 (by decide) (va_Nw.use rfl (hX.1.1 ("PickSlots", 163, "PickSlots$OrderText", "first") (List.mem_of_getElem? (i := 3) rfl))) (fun _ h9 => h9) rfl dX5_tryText_75 ?_
            refine lv_aload_n hx hb dX5_tryText_78 rfl (lv_at hl 1 rfl) ?_
            refine va_get (D := D) (ci := 4) (C := RX5) (T := TX5) (N := 9) hx hb hts hi5 hown hK hP 0 ps_0 rfl 1 (by decide) wd1 (fun _ h9 => h9) rfl dX5_tryText_79 ?_
            refine va_getN (D := D) (ci := 1) (C := RX1) (T := TX1) (N := 6) hx hb hts hi1 hown hK hP 2 ps_2 rfl 5 (by decide) (va_Nw.use rfl (hX.1.1 ("PickSlots", 166, "PickSlots$OrderText", "second") (List.mem_of_getElem? (i := 4) rfl))) (fun _ h9 => h9) rfl dX5_tryText_82 ?_
            refine roV CF (c_X5_hasGoodsAndSlots l D cI cC cW t _ _ _ _ _ _ _ _ _ _ _ _ ) (cwV 3 hts gX5_tryText_X5_hasGoodsAndSlots rfl rfl rfl (by decide +kernel) ⟨Nat.le_of_ble_eq_true rfl, Nat.le_of_ble_eq_true rfl⟩) hP hK hX hS 0 4 ps_0 rfl rfl hl.1 rfl (Nat.le_of_ble_eq_true rfl) dX5_tryText_85 ⟨Nat.zero_le _, Nat.zero_le _⟩ ?_
            refine lv_if_ne (tgt := 99) hx hb dX5_tryText_88 (by decide) (fun c88 => ?_) (fun c88 => ?_)
            · refine lv_aload_n hx hb dX5_tryText_99 rfl (lv_at hl 1 rfl) ?_
              refine lv_aload_n hx hb dX5_tryText_100 rfl (lv_at hl 1 rfl) ?_
              refine va_get (D := D) (ci := 4) (C := RX5) (T := TX5) (N := 9) hx hb hts hi5 hown hK hP 0 ps_0 rfl 1 (by decide) wd1 (fun _ h9 => h9) rfl dX5_tryText_101 ?_
              refine va_getN (D := D) (ci := 1) (C := RX1) (T := TX1) (N := 6) hx hb hts hi1 hown hK hP 2 ps_2 rfl 3 (by decide) (va_Nw.use rfl (hX.1.1 ("PickSlots", 160, "PickSlots$OrderText", "kind") (List.mem_of_getElem? (i := 2) rfl))) (fun _ h9 => h9) rfl dX5_tryText_104 ?_
              refine lv_aload_n hx hb dX5_tryText_107 rfl (lv_at hl 1 rfl) ?_
              refine va_get (D := D) (ci := 4) (C := RX5) (T := TX5) (N := 9) hx hb hts hi5 hown hK hP 0 ps_0 rfl 1 (by decide) wd1 (fun _ h9 => h9) rfl dX5_tryText_108 ?_
              refine va_getN (D := D) (ci := 1) (C := RX1) (T := TX1) (N := 6) hx hb hts hi1 hown hK hP 2 ps_2 rfl 4 (by decide) (va_Nw.use rfl (hX.1.1 ("PickSlots", 163, "PickSlots$OrderText", "first") (List.mem_of_getElem? (i := 3) rfl))) (fun _ h9 => h9) rfl dX5_tryText_111 ?_
              refine lv_aload_n hx hb dX5_tryText_114 rfl (lv_at hl 1 rfl) ?_
              refine va_get (D := D) (ci := 4) (C := RX5) (T := TX5) (N := 9) hx hb hts hi5 hown hK hP 0 ps_0 rfl 1 (by decide) wd1 (fun _ h9 => h9) rfl dX5_tryText_115 ?_
              refine va_getN (D := D) (ci := 1) (C := RX1) (T := TX1) (N := 6) hx hb hts hi1 hown hK hP 2 ps_2 rfl 5 (by decide) (va_Nw.use rfl (hX.1.1 ("PickSlots", 166, "PickSlots$OrderText", "second") (List.mem_of_getElem? (i := 4) rfl))) (fun _ h9 => h9) rfl dX5_tryText_118 ?_
              refine rwV CF (c_X5_doOrder l D cI cC cW t _ _ _ _ _ _ _ _ _ _ _ _ _ (hsw)) (cwV 3 hts gX5_tryText_X5_doOrder rfl rfl rfl (by decide +kernel) ⟨Nat.le_of_ble_eq_true rfl, Nat.le_of_ble_eq_true rfl⟩) hP hD hK hX hS hA 0 4 ps_0 rfl rfl hl.1 rfl (Nat.le_of_ble_eq_true rfl) dX5_tryText_121 ⟨Nat.zero_le _, Nat.zero_le _⟩ (fun H locs hP hD hS => ?_)
              refine lv_if_ge (tgt := 132) hx hb dX5_tryText_124 (by decide) (fun c124 => ?_) (fun c124 => ?_)
              · refine lv_aload_n hx hb dX5_tryText_132 rfl (lv_at hl 1 rfl) ?_
                refine va_get (D := D) (ci := 4) (C := RX5) (T := TX5) (N := 9) hx hb hts hi5 hown hK hP 0 ps_0 rfl 8 (by decide) wd2 (fun _ h9 => h9) rfl dX5_tryText_133 ?_
                refine lv_if_eq (tgt := 141) hx hb dX5_tryText_136 (by decide) (fun c136 => ?_) (fun c136 => ?_)
                · refine lv_iinc (v := _ + (1 : Int32)) (lv' := [(1, .int _), (0, .ref _)]) hx hb dX5_tryText_141 hl (k := 0) rfl rfl (by decide) rfl (fun ls hl => ?_)
                  refine lv_goto (tgt := 18) hx hb dX5_tryText_144 (by decide) ?_
                  exact ih18 _ _ _ _ (by first | exact hsw | exact do_sf hsw) (cs1 i1 c21) (cs2 c21) (csm c21 im) (Eq.trans hsp18 (Eq.trans (lp18_X5_tryText_s _ _ _ _ _ _ _ _ _ _) (Eq.trans (if_neg c21) (Eq.trans (if_pos c31) (Eq.trans (if_neg c52) (Eq.trans (if_neg c88) (Eq.trans (if_pos c124) (Eq.trans (if_pos c136) (rfl))))))))) _ (lv_sub hl [0, 1] rfl) _ _ hP hD hS
                · refine lv_iload_n hx hb dX5_tryText_139 rfl (lv_at hl 0 rfl) ?_
                  exact rw_ret (_, _, _) hx hb hr hP hD hS (Eq.trans hsp18 (Eq.trans (lp18_X5_tryText_s _ _ _ _ _ _ _ _ _ _) (Eq.trans (if_neg c21) (Eq.trans (if_pos c31) (Eq.trans (if_neg c52) (Eq.trans (if_neg c88) (Eq.trans (if_pos c124) (Eq.trans (if_neg c136) (rfl))))))))) dX5_tryText_140 hlocks
              · refine lv_aload_n hx hb dX5_tryText_127 rfl (lv_at hl 1 rfl) ?_
                refine lv_iconst (v := 3) hx hb dX5_tryText_128 (by decide) ?_
                refine my_put (D := D) (ci := 4) (C := RX5) (T := TX5) (N := 9) (ty := .int) hx hb hts hi5 tyX5 tyX5_ok nmX5 hown hK hP hD hS 0 ps_0 rfl 8 (by decide) wd2 (fun _ h9 => h9) rfl (by decide +kernel) rfl rfl (Nat.le_of_ble_eq_true rfl) (ps_f8 _) dX5_tryText_129 (fun H locs hP hD hS => ?_)
                refine lv_aload_n hx hb dX5_tryText_132 rfl (lv_at hl 1 rfl) ?_
                refine va_get (D := D) (ci := 4) (C := RX5) (T := TX5) (N := 9) hx hb hts hi5 hown hK hP 0 ps_0 rfl 8 (by decide) wd2 (fun _ h9 => h9) rfl dX5_tryText_133 ?_
                refine lv_if_eq (tgt := 141) hx hb dX5_tryText_136 (by decide) (fun c136 => ?_) (fun c136 => ?_)
                · refine lv_iinc (v := _ + (1 : Int32)) (lv' := [(1, .int _), (0, .ref _)]) hx hb dX5_tryText_141 hl (k := 0) rfl rfl (by decide) rfl (fun ls hl => ?_)
                  refine lv_goto (tgt := 18) hx hb dX5_tryText_144 (by decide) ?_
                  exact ih18 _ _ _ _ (by first | exact hsw | exact do_sf hsw) (cs1 i1 c21) (cs2 c21) (csm c21 im) (Eq.trans hsp18 (Eq.trans (lp18_X5_tryText_s _ _ _ _ _ _ _ _ _ _) (Eq.trans (if_neg c21) (Eq.trans (if_pos c31) (Eq.trans (if_neg c52) (Eq.trans (if_neg c88) (Eq.trans (if_neg c124) (Eq.trans (if_pos c136) (rfl))))))))) _ (lv_sub hl [0, 1] rfl) _ _ hP hD hS
                · refine lv_iload_n hx hb dX5_tryText_139 rfl (lv_at hl 0 rfl) ?_
                  exact rw_ret (_, _, _) hx hb hr hP hD hS (Eq.trans hsp18 (Eq.trans (lp18_X5_tryText_s _ _ _ _ _ _ _ _ _ _) (Eq.trans (if_neg c21) (Eq.trans (if_pos c31) (Eq.trans (if_neg c52) (Eq.trans (if_neg c88) (Eq.trans (if_neg c124) (Eq.trans (if_neg c136) (rfl))))))))) dX5_tryText_140 hlocks
            · refine lv_aload_n hx hb dX5_tryText_91 rfl (lv_at hl 1 rfl) ?_
              refine lv_iconst (v := 2) hx hb dX5_tryText_92 (by decide) ?_
              refine my_put (D := D) (ci := 4) (C := RX5) (T := TX5) (N := 9) (ty := .int) hx hb hts hi5 tyX5 tyX5_ok nmX5 hown hK hP hD hS 0 ps_0 rfl 8 (by decide) wd2 (fun _ h9 => h9) rfl (by decide +kernel) rfl rfl (Nat.le_of_ble_eq_true rfl) (ps_f8 _) dX5_tryText_93 (fun H locs hP hD hS => ?_)
              refine lv_goto (tgt := 132) hx hb dX5_tryText_96 (by decide) ?_
              refine lv_aload_n hx hb dX5_tryText_132 rfl (lv_at hl 1 rfl) ?_
              refine va_get (D := D) (ci := 4) (C := RX5) (T := TX5) (N := 9) hx hb hts hi5 hown hK hP 0 ps_0 rfl 8 (by decide) wd2 (fun _ h9 => h9) rfl dX5_tryText_133 ?_
              refine lv_if_eq (tgt := 141) hx hb dX5_tryText_136 (by decide) (fun c136 => ?_) (fun c136 => ?_)
              · refine lv_iinc (v := _ + (1 : Int32)) (lv' := [(1, .int _), (0, .ref _)]) hx hb dX5_tryText_141 hl (k := 0) rfl rfl (by decide) rfl (fun ls hl => ?_)
                refine lv_goto (tgt := 18) hx hb dX5_tryText_144 (by decide) ?_
                exact ih18 _ _ _ _ (by first | exact hsw | exact do_sf hsw) (cs1 i1 c21) (cs2 c21) (csm c21 im) (Eq.trans hsp18 (Eq.trans (lp18_X5_tryText_s _ _ _ _ _ _ _ _ _ _) (Eq.trans (if_neg c21) (Eq.trans (if_pos c31) (Eq.trans (if_neg c52) (Eq.trans (if_pos c88) (Eq.trans (if_pos c136) (rfl)))))))) _ (lv_sub hl [0, 1] rfl) _ _ hP hD hS
              · refine lv_iload_n hx hb dX5_tryText_139 rfl (lv_at hl 0 rfl) ?_
                exact rw_ret (_, _, _) hx hb hr hP hD hS (Eq.trans hsp18 (Eq.trans (lp18_X5_tryText_s _ _ _ _ _ _ _ _ _ _) (Eq.trans (if_neg c21) (Eq.trans (if_pos c31) (Eq.trans (if_neg c52) (Eq.trans (if_pos c88) (Eq.trans (if_neg c136) (rfl)))))))) dX5_tryText_140 hlocks
          · refine lv_aload_n hx hb dX5_tryText_55 rfl (lv_at hl 1 rfl) ?_
            refine lv_iconst (v := 1) hx hb dX5_tryText_56 (by decide) ?_
            refine my_put (D := D) (ci := 4) (C := RX5) (T := TX5) (N := 9) (ty := .int) hx hb hts hi5 tyX5 tyX5_ok nmX5 hown hK hP hD hS 0 ps_0 rfl 8 (by decide) wd2 (fun _ h9 => h9) rfl (by decide +kernel) rfl rfl (Nat.le_of_ble_eq_true rfl) (ps_f8 _) dX5_tryText_57 (fun H locs hP hD hS => ?_)
            refine lv_goto (tgt := 132) hx hb dX5_tryText_60 (by decide) ?_
            refine lv_aload_n hx hb dX5_tryText_132 rfl (lv_at hl 1 rfl) ?_
            refine va_get (D := D) (ci := 4) (C := RX5) (T := TX5) (N := 9) hx hb hts hi5 hown hK hP 0 ps_0 rfl 8 (by decide) wd2 (fun _ h9 => h9) rfl dX5_tryText_133 ?_
            refine lv_if_eq (tgt := 141) hx hb dX5_tryText_136 (by decide) (fun c136 => ?_) (fun c136 => ?_)
            · refine lv_iinc (v := _ + (1 : Int32)) (lv' := [(1, .int _), (0, .ref _)]) hx hb dX5_tryText_141 hl (k := 0) rfl rfl (by decide) rfl (fun ls hl => ?_)
              refine lv_goto (tgt := 18) hx hb dX5_tryText_144 (by decide) ?_
              exact ih18 _ _ _ _ (by first | exact hsw | exact do_sf hsw) (cs1 i1 c21) (cs2 c21) (csm c21 im) (Eq.trans hsp18 (Eq.trans (lp18_X5_tryText_s _ _ _ _ _ _ _ _ _ _) (Eq.trans (if_neg c21) (Eq.trans (if_pos c31) (Eq.trans (if_pos c52) (Eq.trans (if_pos c136) (rfl))))))) _ (lv_sub hl [0, 1] rfl) _ _ hP hD hS
            · refine lv_iload_n hx hb dX5_tryText_139 rfl (lv_at hl 0 rfl) ?_
              exact rw_ret (_, _, _) hx hb hr hP hD hS (Eq.trans hsp18 (Eq.trans (lp18_X5_tryText_s _ _ _ _ _ _ _ _ _ _) (Eq.trans (if_neg c21) (Eq.trans (if_pos c31) (Eq.trans (if_pos c52) (Eq.trans (if_neg c136) (rfl))))))) dX5_tryText_140 hlocks
  exact L18 61 _ _ _ _ (hsf) (by decide) (by decide) (by decide) (rfl) _ (lv_sub hl [0, 1] rfl) _ _ hP hD hS

def sp_X5_fault (Y : Nat → va_H) (S : Nat → Int32) (q : Nat → Int32) (V : Nat → Int32) (z : Int32) (U : Nat → Int32) (y : Int32) (I : Nat → Int32) (x1 : Int32) : Int32 × ((Nat → va_H) × (Nat → Int32) × (Nat → Int32)) :=
  if x1 = 0 then (let k12_1 : Int32 × ((Nat → va_H) × (Nat → Int32) × (Nat → Int32)) := sp_X5_tryText Y S q V z U y I; let Y2 : Nat → va_H := k12_1.2.1; let q3 : Nat → Int32 := k12_1.2.2.1; let I4 : Nat → Int32 := k12_1.2.2.2; if (I4 2) = 0 then (((-4 : Int32), (Y2, q3, I4))) else (if x1 = 0 then (((I4 1), (Y2, q3, I4))) else (((I4 2), (Y2, q3, I4))))) else (if x1 = (1 : Int32) then (let k12_1 : Int32 × ((Nat → va_H) × (Nat → Int32) × (Nat → Int32)) := sp_X5_tryText Y S q V z U y I; let Y2 : Nat → va_H := k12_1.2.1; let q3 : Nat → Int32 := k12_1.2.2.1; let I4 : Nat → Int32 := k12_1.2.2.2; if (I4 2) = 0 then (((-4 : Int32), (Y2, q3, I4))) else (if x1 = 0 then (((I4 1), (Y2, q3, I4))) else (((I4 2), (Y2, q3, I4))))) else (((-1 : Int32), (Y, q, I))))
set_option maxHeartbeats 4000000 in
set_option maxRecDepth 100000 in
theorem c_X5_fault (l : Launch) (D : va_G) (cI cC cW : ClassId) (t : Nat → Nat) (h : Nat → Nat) (sz : Nat) (Y : Nat → va_H) (S : Nat → Int32) (q : Nat → Int32) (V : Nat → Int32) (z : Int32) (U : Nat → Int32) (y : Int32) (I : Nat → Int32) (x1 : Int32) (hsf : sfN (Y 4).2.1) (hch : ∀ i, narrow .char (.int (S i)) = .int (S i)) : Met l yX5_fault wsX5_fault ({ frames := 7, cells := 0, slots := 0, locals := 151 }) (va_Pc [.ref (h 0), .int x1] (rwP D (tyL cI cC cW) (ps cI cC cW h Y S q V z U y I) t sz)) (va_Qi (fun (r : Int32) (u : ((Nat → va_H) × (Nat → Int32) × (Nat → Int32))) => (r, u) = sp_X5_fault Y S q V z U y I x1) (fun u => rwB D (va_A (ps cI cC cW h Y S q V z U y I) sz) (ps cI cC cW h u.1 S u.2.1 V z U y u.2.2)) (va_A (ps cI cC cW h Y S q V z U y I) sz)) 0 0 (va_A (ps cI cC cW h Y S q V z U y I) sz) := by
  refine Met.ofW (cc := cX5_fault) (maxL := 2) (ret := (some .int)) (by decide) rfl ?_
  intro p e s m args below meth c s₁ B hml hv
  obtain ⟨rfl, hsz, hP, hK, hD0, hX⟩ := hv
  have hx := B.exec
  have hb := B.bytes
  have hr := B.returns
  have hts := atoms_spec (ws := wsX5_fault) B.pre
  have hown : s.vm.findClass RX5 = some m.cls := findClass_of_methodNamed B.named
  have hlocks := B.notSynchronized
  subst hsz
  have hD := hD0.self (sz := s.heap.size)
  generalize hAe : va_A (ps cI cC cW h Y S q V z U y I) s.heap.size = A at hD hX ⊢
  have hA : ∀ q : Nat, s.heap.size ≤ q → A q := fun q h => by rw [← hAe]; exact Or.inr h
  have hS : va_S A s.heap s.heap [] := va_S.rf
  have wd1 : (Cond.fieldLink RX5 131 "PickSlots" "faultReason" "I").before [.ref (h 0), .int x1].toArray s = true := hts _ (List.mem_of_getElem? (i := 1) rfl)
  have wd2 : (Cond.fieldLink RX5 134 "PickSlots" "faultPosition" "I").before [.ref (h 0), .int x1].toArray s = true := hts _ (List.mem_of_getElem? (i := 2) rfl)
  have hi5 : ∀ w ∈ wsX50, w ∈ wsX5_fault := fun w h => List.mem_cons_of_mem _ (List.mem_append_left _ (List.mem_append_left _ (List.mem_append_left _ (List.mem_append_right _ (h)))))
  have CF : CallFix p m c cX5_fault 2 s [.ref (h 0), .int x1].toArray wsX5_fault RX5 := ⟨hx, hb, hml, hown, hts⟩
  have hl := lv_entry ([.ref (h 0), .int x1]) (n := 2) (Nat.le_of_ble_eq_true rfl)
  rw [lg_entry_eq]
  generalize (lg_sl ([.ref (h 0), .int x1]) ++ List.replicate (2 - (lg_sl ([.ref (h 0), .int x1])).length) Slot.unset).toArray = ls at hl ⊢
  have hl : lv_has ls 2 [(0, .ref (h 0)), (1, .int x1)] := hl
  refine lv_iload_n hx hb dX5_fault_0 rfl (lv_at hl 1 rfl) ?_
  refine lv_if_eq (tgt := 11) hx hb dX5_fault_1 (by decide) (fun c1 => ?_) (fun c1 => ?_)
  · refine lv_aload_n hx hb dX5_fault_11 rfl (lv_at hl 0 rfl) ?_
    refine rwV CF (c_X5_tryText l D cI cC cW t _ _ _ _ _ _ _ _ _ _  (by assumption) (by assumption)) (cwV 0 hts gX5_fault_X5_tryText rfl rfl rfl (by decide +kernel) ⟨Nat.le_of_ble_eq_true rfl, Nat.le_of_ble_eq_true rfl⟩) hP hD hK hX hS hA 0 4 ps_0 rfl rfl hl.1 rfl (Nat.le_of_ble_eq_true rfl) dX5_fault_12 ⟨Nat.zero_le _, Nat.zero_le _⟩ (fun H locs hP hD hS => ?_)
    refine lv_pop hx hb dX5_fault_15 rfl ?_
    refine lv_aload_n hx hb dX5_fault_16 rfl (lv_at hl 0 rfl) ?_
    refine va_get (D := D) (ci := 4) (C := RX5) (T := TX5) (N := 9) hx hb hts hi5 hown hK hP 0 ps_0 rfl 8 (by decide) wd1 (fun _ h9 => h9) rfl dX5_fault_17 ?_
    refine lv_if_ne (tgt := 26) hx hb dX5_fault_20 (by decide) (fun c20 => ?_) (fun c20 => ?_)
    · refine lv_iload_n hx hb dX5_fault_26 rfl (lv_at hl 1 rfl) ?_
      refine lv_if_ne (tgt := 37) hx hb dX5_fault_27 (by decide) (fun c27 => ?_) (fun c27 => ?_)
      · refine lv_aload_n hx hb dX5_fault_37 rfl (lv_at hl 0 rfl) ?_
        refine va_get (D := D) (ci := 4) (C := RX5) (T := TX5) (N := 9) hx hb hts hi5 hown hK hP 0 ps_0 rfl 8 (by decide) wd1 (fun _ h9 => h9) rfl dX5_fault_38 ?_
        exact rw_ret (_, _, _) hx hb hr hP hD hS (Eq.trans (if_pos c1) (Eq.trans (if_neg c20) (Eq.trans (if_neg c27) (rfl)))) dX5_fault_41 hlocks
      · refine lv_aload_n hx hb dX5_fault_30 rfl (lv_at hl 0 rfl) ?_
        refine va_get (D := D) (ci := 4) (C := RX5) (T := TX5) (N := 9) hx hb hts hi5 hown hK hP 0 ps_0 rfl 7 (by decide) wd2 (fun _ h9 => h9) rfl dX5_fault_31 ?_
        refine lv_goto (tgt := 41) hx hb dX5_fault_34 (by decide) ?_
        exact rw_ret (_, _, _) hx hb hr hP hD hS (Eq.trans (if_pos c1) (Eq.trans (if_neg c20) (Eq.trans (if_pos c27) (rfl)))) dX5_fault_41 hlocks
    · refine lv_bipush (v := -4) hx hb dX5_fault_23 (by decide) ?_
      exact rw_ret (_, _, _) hx hb hr hP hD hS (Eq.trans (if_pos c1) (Eq.trans (if_pos c20) (rfl))) dX5_fault_25 hlocks
  · refine lv_iload_n hx hb dX5_fault_4 rfl (lv_at hl 1 rfl) ?_
    refine lv_iconst (v := 1) hx hb dX5_fault_5 (by decide) ?_
    refine lv_icmp_eq (tgt := 11) hx hb dX5_fault_6 (by decide) (fun c6 => ?_) (fun c6 => ?_)
    · refine lv_aload_n hx hb dX5_fault_11 rfl (lv_at hl 0 rfl) ?_
      refine rwV CF (c_X5_tryText l D cI cC cW t _ _ _ _ _ _ _ _ _ _  (by assumption) (by assumption)) (cwV 0 hts gX5_fault_X5_tryText rfl rfl rfl (by decide +kernel) ⟨Nat.le_of_ble_eq_true rfl, Nat.le_of_ble_eq_true rfl⟩) hP hD hK hX hS hA 0 4 ps_0 rfl rfl hl.1 rfl (Nat.le_of_ble_eq_true rfl) dX5_fault_12 ⟨Nat.zero_le _, Nat.zero_le _⟩ (fun H locs hP hD hS => ?_)
      refine lv_pop hx hb dX5_fault_15 rfl ?_
      refine lv_aload_n hx hb dX5_fault_16 rfl (lv_at hl 0 rfl) ?_
      refine va_get (D := D) (ci := 4) (C := RX5) (T := TX5) (N := 9) hx hb hts hi5 hown hK hP 0 ps_0 rfl 8 (by decide) wd1 (fun _ h9 => h9) rfl dX5_fault_17 ?_
      refine lv_if_ne (tgt := 26) hx hb dX5_fault_20 (by decide) (fun c20 => ?_) (fun c20 => ?_)
      · refine lv_iload_n hx hb dX5_fault_26 rfl (lv_at hl 1 rfl) ?_
        refine lv_if_ne (tgt := 37) hx hb dX5_fault_27 (by decide) (fun c27 => ?_) (fun c27 => ?_)
        · refine lv_aload_n hx hb dX5_fault_37 rfl (lv_at hl 0 rfl) ?_
          refine va_get (D := D) (ci := 4) (C := RX5) (T := TX5) (N := 9) hx hb hts hi5 hown hK hP 0 ps_0 rfl 8 (by decide) wd1 (fun _ h9 => h9) rfl dX5_fault_38 ?_
          exact rw_ret (_, _, _) hx hb hr hP hD hS (Eq.trans (if_neg c1) (Eq.trans (if_pos c6) (Eq.trans (if_neg c20) (Eq.trans (if_neg c27) (rfl))))) dX5_fault_41 hlocks
        · refine lv_aload_n hx hb dX5_fault_30 rfl (lv_at hl 0 rfl) ?_
          refine va_get (D := D) (ci := 4) (C := RX5) (T := TX5) (N := 9) hx hb hts hi5 hown hK hP 0 ps_0 rfl 7 (by decide) wd2 (fun _ h9 => h9) rfl dX5_fault_31 ?_
          refine lv_goto (tgt := 41) hx hb dX5_fault_34 (by decide) ?_
          exact rw_ret (_, _, _) hx hb hr hP hD hS (Eq.trans (if_neg c1) (Eq.trans (if_pos c6) (Eq.trans (if_neg c20) (Eq.trans (if_pos c27) (rfl))))) dX5_fault_41 hlocks
      · refine lv_bipush (v := -4) hx hb dX5_fault_23 (by decide) ?_
        exact rw_ret (_, _, _) hx hb hr hP hD hS (Eq.trans (if_neg c1) (Eq.trans (if_pos c6) (Eq.trans (if_pos c20) (rfl)))) dX5_fault_25 hlocks
    · refine lv_iconst (v := -1) hx hb dX5_fault_9 (by decide) ?_
      exact rw_ret (_, _, _) hx hb hr hP hD hS (Eq.trans (if_neg c1) (Eq.trans (if_neg c6) (rfl))) dX5_fault_10 hlocks
