/-! the shortest walk of a warehouse (printed by wip/whole/m13.py) -/
def lp68_X4_shortestWalk (N : Nat → Int32) (G : Nat → Int32) (x1 : Int32) (K13 : Int32 → (Nat → Int32) → (Int32) → (Nat → Int32) → (Int32) → (Int32 × ((Nat → Int32) × Int32 × (Nat → Int32) × Int32))) : Nat → Int32 → Int32 → (Nat → Int32) → Int32 → (Nat → Int32) → Int32 → Int32 × ((Nat → Int32) × Int32 × (Nat → Int32) × Int32)
  | 0, v4, v5, Vw, zw, Uw, yw => (0, (Vw, zw, Uw, yw))
  | n + 1, v4, v5, Vw, zw, Uw, yw => if zw ≤ v5 then ((v4, (Vw, zw, Uw, yw))) else (lp68_X4_shortestWalk N G x1 K13 n (v4 + ((sp_X3_valueAt Vw zw v5) * (sp_X3_valueAt Uw yw ((yw - (1 : Int32)) - v5)))) (v5 + (1 : Int32)) Vw zw Uw yw)
theorem lp68_X4_shortestWalk_s (N : Nat → Int32) (G : Nat → Int32) (x1 : Int32) (K13 : Int32 → (Nat → Int32) → (Int32) → (Nat → Int32) → (Int32) → (Int32 × ((Nat → Int32) × Int32 × (Nat → Int32) × Int32))) (n : Nat) (v4 : Int32) (v5 : Int32) (Vw : Nat → Int32) (zw : Int32) (Uw : Nat → Int32) (yw : Int32) : lp68_X4_shortestWalk N G x1 K13 (n + 1) v4 v5 Vw zw Uw yw = if zw ≤ v5 then ((v4, (Vw, zw, Uw, yw))) else (lp68_X4_shortestWalk N G x1 K13 n (v4 + ((sp_X3_valueAt Vw zw v5) * (sp_X3_valueAt Uw yw ((yw - (1 : Int32)) - v5)))) (v5 + (1 : Int32)) Vw zw Uw yw) := rfl
def lp13_X4_shortestWalk (N : Nat → Int32) (G : Nat → Int32) (x1 : Int32) : Nat → Int32 → (Nat → Int32) → Int32 → (Nat → Int32) → Int32 → Int32 × ((Nat → Int32) × Int32 × (Nat → Int32) × Int32)
  | 0, v4, Vw, zw, Uw, yw => (0, (Vw, zw, Uw, yw))
  | n + 1, v4, Vw, zw, Uw, yw => if (N 0) ≤ v4 then (lp68_X4_shortestWalk N G x1 (lp13_X4_shortestWalk N G x1 n) 21 (0 : Int32) (0 : Int32) Vw zw Uw yw) else (if (sp_X4_isPlaced N G v4) = 0 then (lp13_X4_shortestWalk N G x1 n (v4 + (1 : Int32)) Vw zw Uw yw) else (let k39_103 : ((Nat → Int32) × Int32) := sp_X3_insert Vw zw (sp_X4_demandOf N G v4 x1); let V104 : Nat → Int32 := k39_103.1; let z105 : Int32 := k39_103.2; let k53_106 : ((Nat → Int32) × Int32) := sp_X3_insert Uw yw (sp_X2_walkTo (N (22 + 11 * (ix v4)))); let U107 : Nat → Int32 := k53_106.1; let y108 : Int32 := k53_106.2; lp13_X4_shortestWalk N G x1 n (v4 + (1 : Int32)) V104 z105 U107 y108))
theorem lp13_X4_shortestWalk_s (N : Nat → Int32) (G : Nat → Int32) (x1 : Int32) (n : Nat) (v4 : Int32) (Vw : Nat → Int32) (zw : Int32) (Uw : Nat → Int32) (yw : Int32) : lp13_X4_shortestWalk N G x1 (n + 1) v4 Vw zw Uw yw = if (N 0) ≤ v4 then (lp68_X4_shortestWalk N G x1 (lp13_X4_shortestWalk N G x1 n) 21 (0 : Int32) (0 : Int32) Vw zw Uw yw) else (if (sp_X4_isPlaced N G v4) = 0 then (lp13_X4_shortestWalk N G x1 n (v4 + (1 : Int32)) Vw zw Uw yw) else (let k39_103 : ((Nat → Int32) × Int32) := sp_X3_insert Vw zw (sp_X4_demandOf N G v4 x1); let V104 : Nat → Int32 := k39_103.1; let z105 : Int32 := k39_103.2; let k53_106 : ((Nat → Int32) × Int32) := sp_X3_insert Uw yw (sp_X2_walkTo (N (22 + 11 * (ix v4)))); let U107 : Nat → Int32 := k53_106.1; let y108 : Int32 := k53_106.2; lp13_X4_shortestWalk N G x1 n (v4 + (1 : Int32)) V104 z105 U107 y108)) := rfl
def sp_X4_shortestWalk (N : Nat → Int32) (G : Nat → Int32) (V : Nat → Int32) (z : Int32) (U : Nat → Int32) (y : Int32) (x1 : Int32) : Int32 × ((Nat → Int32) × Int32 × (Nat → Int32) × Int32) :=
  let z1 : Int32 := (0 : Int32); let y2 : Int32 := (0 : Int32); lp13_X4_shortestWalk N G x1 21 (0 : Int32) V z1 U y2
set_option maxHeartbeats 4000000 in
set_option maxRecDepth 100000 in
theorem c_X4_shortestWalk (l : Launch) (D : va_G) (cI cC cW : ClassId) (t : Nat → Nat) (a aD aW : Nat → Nat) (sz : Nat) (N : Nat → Int32) (G : Nat → Int32) (V : Nat → Int32) (z : Int32) (U : Nat → Int32) (y : Int32) (x1 : Int32) (hsf : sfN N) (h1 : vp_in x1 4) : Met l yX4_shortestWalk wsX4_shortestWalk ({ frames := 2, cells := 0, slots := 0, locals := 41 }) (va_Pc [.ref (a 0), .int x1, .ref (aD 0), .ref (aW 0)] (rwP D (tyL cI cC cW) (sw cI a aD aW N G V z U y) t sz)) (va_Qi (fun (r : Int32) (u : ((Nat → Int32) × Int32 × (Nat → Int32) × Int32)) => (r, u) = sp_X4_shortestWalk N G V z U y x1) (fun u => rwB D (va_A (sw cI a aD aW N G V z U y) sz) (sw cI a aD aW N G u.1 u.2.1 u.2.2.1 u.2.2.2)) (va_A (sw cI a aD aW N G V z U y) sz)) 0 0 (va_A (sw cI a aD aW N G V z U y) sz) := by
  refine Met.ofW (cc := cX4_shortestWalk) (maxL := 6) (ret := (some .int)) (by decide) rfl ?_
  intro p e s m args below meth c s₁ B hml hv
  obtain ⟨rfl, hsz, hP, hK, hD0, hX⟩ := hv
  have hx := B.exec
  have hb := B.bytes
  have hr := B.returns
  have hts := atoms_spec (ws := wsX4_shortestWalk) B.pre
  have hown : s.vm.findClass RX4 = some m.cls := findClass_of_methodNamed B.named
  have hlocks := B.notSynchronized
  subst hsz
  have hD := hD0.self (sz := s.heap.size)
  generalize hAe : va_A (sw cI a aD aW N G V z U y) s.heap.size = A at hD hX ⊢
  have hA : ∀ q : Nat, s.heap.size ≤ q → A q := fun q h => by rw [← hAe]; exact Or.inr h
  have hS : va_S A s.heap s.heap [] := va_S.rf
  have wd1 : (Cond.fieldLink RX4 59 "PickSlots$Warehouse" "goods" "I").before [.ref (a 0), .int x1, .ref (aD 0), .ref (aW 0)].toArray s = true := hts _ (List.mem_of_getElem? (i := 1) rfl)
  have wd2 : (Cond.fieldLink RX4 21 "PickSlots$Warehouse" "slotOfGood" "[I").before [.ref (a 0), .int x1, .ref (aD 0), .ref (aW 0)].toArray s = true := hts _ (List.mem_of_getElem? (i := 2) rfl)
  have hi3 : ∀ w ∈ wsX30, w ∈ wsX4_shortestWalk := fun w h => List.mem_cons_of_mem _ (List.mem_append_left _ (List.mem_append_right _ (h)))
  have hi4 : ∀ w ∈ wsX40, w ∈ wsX4_shortestWalk := fun w h => List.mem_cons_of_mem _ (List.mem_append_right _ (h))
  have CF : CallFix p m c cX4_shortestWalk 6 s [.ref (a 0), .int x1, .ref (aD 0), .ref (aW 0)].toArray wsX4_shortestWalk RX4 := ⟨hx, hb, hml, hown, hts⟩
  have hl := lv_entry ([.ref (a 0), .int x1, .ref (aD 0), .ref (aW 0)]) (n := 6) (Nat.le_of_ble_eq_true rfl)
  rw [lg_entry_eq]
  generalize (lg_sl ([.ref (a 0), .int x1, .ref (aD 0), .ref (aW 0)]) ++ List.replicate (6 - (lg_sl ([.ref (a 0), .int x1, .ref (aD 0), .ref (aW 0)])).length) Slot.unset).toArray = ls at hl ⊢
  have hl : lv_has ls 6 [(0, .ref (a 0)), (1, .int x1), (2, .ref (aD 0)), (3, .ref (aW 0))] := hl
  refine lv_aload_n hx hb dX4_shortestWalk_0 rfl (lv_at hl 2 rfl) ?_
  refine lv_iconst (v := 0) hx hb dX4_shortestWalk_1 (by decide) ?_
  refine my_putN (D := D) (ci := 2) (C := RX3) (T := TX3) (N := 2) (ty := .int) hx hb hts hi3 tyX3 tyX3_ok nmX3 hown hK hP hD hS 12 sw_12 rfl 1 (by decide) (va_Nw.use rfl (hX.1.1 ("PickSlots$Warehouse", 176, "PickSlots$SortedRow", "size") (List.mem_of_getElem? (i := 5) rfl))) (fun _ h9 => h9) rfl (by decide +kernel) rfl rfl (Nat.le_of_ble_eq_true rfl) (sw_b1 _) dX4_shortestWalk_2 (fun H locs hP hD hS => ?_)
  refine lv_aload_n hx hb dX4_shortestWalk_5 rfl (lv_at hl 3 rfl) ?_
  refine lv_iconst (v := 0) hx hb dX4_shortestWalk_6 (by decide) ?_
  refine my_putN (D := D) (ci := 2) (C := RX3) (T := TX3) (N := 2) (ty := .int) hx hb hts hi3 tyX3 tyX3_ok nmX3 hown hK hP hD hS 14 sw_14 rfl 1 (by decide) (va_Nw.use rfl (hX.1.1 ("PickSlots$Warehouse", 176, "PickSlots$SortedRow", "size") (List.mem_of_getElem? (i := 5) rfl))) (fun _ h9 => h9) rfl (by decide +kernel) rfl rfl (Nat.le_of_ble_eq_true rfl) (sw_c1 _) dX4_shortestWalk_7 (fun H locs hP hD hS => ?_)
  refine lv_iconst (v := 0) hx hb dX4_shortestWalk_10 (by decide) ?_
  refine lv_istore (lv' := [(4, .int _), (0, .ref _), (1, .int _), (2, .ref _), (3, .ref _)]) hx hb dX4_shortestWalk_11 hl (by decide) rfl (fun ls hl => ?_)
  have L13 : ∀ (n13 : Nat) (v4 : Int32) (Vw : Nat → Int32) (zw : Int32) (Uw : Nat → Int32) (yw : Int32), (0 ≤ v4.toInt) → (v4.toInt ≤ (N 0).toInt) → ((N 0).toInt - v4.toInt < (n13 : Int)) → (0 ≤ zw.toInt) → (zw.toInt ≤ 20) → (yw.toInt ≤ 20) → sp_X4_shortestWalk N G V z U y x1 = lp13_X4_shortestWalk N G x1 (n13) v4 Vw zw Uw yw → ∀ (ls : Array Slot), lv_has ls 6 [(4, .int v4), (0, .ref (a 0)), (1, .int x1), (2, .ref (aD 0)), (3, .ref (aW 0))] → ∀ (H : Heap) (locs : List Loc), va_P D vwCl (sw cI a aD aW N G Vw zw Uw yw) H → va_D A (sw cI a aD aW N G Vw zw Uw yw) → va_S A s.heap H locs → W p l e (headSpec wsX4_shortestWalk ({ frames := 2, cells := 0, slots := 0, locals := 41 } : Room)).room s m [.ref (a 0), .int x1, .ref (aD 0), .ref (aW 0)].toArray below meth c H locs 0 0 (MQ below (va_Qi (fun (r : Int32) (u : ((Nat → Int32) × Int32 × (Nat → Int32) × Int32)) => (r, u) = sp_X4_shortestWalk N G V z U y x1) (fun u => rwB D A (sw cI a aD aW N G u.1 u.2.1 u.2.2.1 u.2.2.2)) A) [.ref (a 0), .int x1, .ref (aD 0), .ref (aW 0)].toArray s 0 0 A) (F0 m 13 ls []) := by
    intro n13
    induction n13 with
    | zero => intro v4 Vw zw Uw yw i1 i2 im hz hz2 hy2; exfalso; omega
    | succ n13 ih13 =>
      intro v4 Vw zw Uw yw i1 i2 im hz hz2 hy2 hsp13 ls hl H locs hP hD hS
      refine lv_iload hx hb dX4_shortestWalk_13 (lv_at hl 0 rfl) ?_
      refine lv_aload_n hx hb dX4_shortestWalk_15 rfl (lv_at hl 1 rfl) ?_
      refine va_get (D := D) (ci := 3) (C := RX4) (T := TX4) (N := 13) hx hb hts hi4 hown hK hP 0 sw_0 rfl 11 (by decide) wd1 (fun _ h9 => h9) rfl dX4_shortestWalk_16 ?_
      refine lv_icmp_ge (tgt := 62) hx hb dX4_shortestWalk_19 (by decide) (fun c19 => ?_) (fun c19 => ?_)
      · refine lv_iconst (v := 0) hx hb dX4_shortestWalk_62 (by decide) ?_
        refine lv_istore (lv' := [(4, .int _), (0, .ref _), (1, .int _), (2, .ref _), (3, .ref _)]) hx hb dX4_shortestWalk_63 hl (by decide) rfl (fun ls hl => ?_)
        refine lv_iconst (v := 0) hx hb dX4_shortestWalk_65 (by decide) ?_
        refine lv_istore (lv' := [(5, .int _), (4, .int _), (0, .ref _), (1, .int _), (2, .ref _), (3, .ref _)]) hx hb dX4_shortestWalk_66 hl (by decide) rfl (fun ls hl => ?_)
        have L68 : ∀ (n68 : Nat) (v4 v5 : Int32) (Vw : Nat → Int32) (zw : Int32) (Uw : Nat → Int32) (yw : Int32), (0 ≤ v5.toInt) → (v5.toInt ≤ zw.toInt) → (zw.toInt - v5.toInt < (n68 : Int)) → (0 ≤ zw.toInt) → (zw.toInt ≤ 20) → (yw.toInt ≤ 20) → sp_X4_shortestWalk N G V z U y x1 = lp68_X4_shortestWalk N G x1 (lp13_X4_shortestWalk N G x1 n13) (n68) v4 v5 Vw zw Uw yw → ∀ (ls : Array Slot), lv_has ls 6 [(4, .int v4), (5, .int v5), (0, .ref (a 0)), (1, .int x1), (2, .ref (aD 0)), (3, .ref (aW 0))] → ∀ (H : Heap) (locs : List Loc), va_P D vwCl (sw cI a aD aW N G Vw zw Uw yw) H → va_D A (sw cI a aD aW N G Vw zw Uw yw) → va_S A s.heap H locs → W p l e (headSpec wsX4_shortestWalk ({ frames := 2, cells := 0, slots := 0, locals := 41 } : Room)).room s m [.ref (a 0), .int x1, .ref (aD 0), .ref (aW 0)].toArray below meth c H locs 0 0 (MQ below (va_Qi (fun (r : Int32) (u : ((Nat → Int32) × Int32 × (Nat → Int32) × Int32)) => (r, u) = sp_X4_shortestWalk N G V z U y x1) (fun u => rwB D A (sw cI a aD aW N G u.1 u.2.1 u.2.2.1 u.2.2.2)) A) [.ref (a 0), .int x1, .ref (aD 0), .ref (aW 0)].toArray s 0 0 A) (F0 m 68 ls []) := by
          intro n68
          induction n68 with
          | zero => intro v4 v5 Vw zw Uw yw j1 j2 jm hz hz2 hy2; exfalso; omega
          | succ n68 ih68 =>
            intro v4 v5 Vw zw Uw yw j1 j2 jm hz hz2 hy2 hsp68 ls hl H locs hP hD hS
            refine lv_iload hx hb dX4_shortestWalk_68 (lv_at hl 1 rfl) ?_
            refine lv_aload_n hx hb dX4_shortestWalk_70 rfl (lv_at hl 4 rfl) ?_
            refine va_getN (D := D) (ci := 2) (C := RX3) (T := TX3) (N := 2) hx hb hts hi3 hown hK hP 12 sw_12 rfl 1 (by decide) (va_Nw.use rfl (hX.1.1 ("PickSlots$Warehouse", 176, "PickSlots$SortedRow", "size") (List.mem_of_getElem? (i := 5) rfl))) (fun _ h9 => h9) rfl dX4_shortestWalk_71 ?_
            refine lv_icmp_ge (tgt := 108) hx hb dX4_shortestWalk_74 (by decide) (fun c74 => ?_) (fun c74 => ?_)
            · refine lv_iload hx hb dX4_shortestWalk_108 (lv_at hl 0 rfl) ?_
              exact rw_ret (_, _, _, _) hx hb hr hP hD hS (Eq.trans hsp68 (Eq.trans (lp68_X4_shortestWalk_s _ _ _ _ _ _ _ _ _ _ _) (Eq.trans (if_pos c74) (rfl)))) dX4_shortestWalk_110 hlocks
            · refine lv_iload hx hb dX4_shortestWalk_77 (lv_at hl 0 rfl) ?_
              refine lv_aload_n hx hb dX4_shortestWalk_79 rfl (lv_at hl 4 rfl) ?_
              refine lv_iload hx hb dX4_shortestWalk_80 (lv_at hl 1 rfl) ?_
              refine roV CF (c_X3_valueAt l D cI cC cW t _ _ _ _ (hz2)) (cwV 1 hts gX4_shortestWalk_X3_valueAt rfl rfl rfl (by decide +kernel) ⟨Nat.le_of_ble_eq_true rfl, Nat.le_of_ble_eq_true rfl⟩) (vP_l (vP_perm sw_p1 hP)) hK hX hS 0 2 sr_0 rfl rfl hl.1 rfl (Nat.le_of_ble_eq_true rfl) dX4_shortestWalk_82 ⟨Nat.zero_le _, Nat.zero_le _⟩ ?_
              refine lv_aload_n hx hb dX4_shortestWalk_85 rfl (lv_at hl 5 rfl) ?_
              refine lv_aload_n hx hb dX4_shortestWalk_86 rfl (lv_at hl 5 rfl) ?_
              refine va_getN (D := D) (ci := 2) (C := RX3) (T := TX3) (N := 2) hx hb hts hi3 hown hK hP 14 sw_14 rfl 1 (by decide) (va_Nw.use rfl (hX.1.1 ("PickSlots$Warehouse", 176, "PickSlots$SortedRow", "size") (List.mem_of_getElem? (i := 5) rfl))) (fun _ h9 => h9) rfl dX4_shortestWalk_87 ?_
              refine lv_iconst (v := 1) hx hb dX4_shortestWalk_90 (by decide) ?_
              refine lv_isub hx hb dX4_shortestWalk_91 ?_
              refine lv_iload hx hb dX4_shortestWalk_92 (lv_at hl 1 rfl) ?_
              refine lv_isub hx hb dX4_shortestWalk_94 ?_
              refine roV CF (c_X3_valueAt l D cI cC cW t _ _ _ _ (hy2)) (cwV 1 hts gX4_shortestWalk_X3_valueAt rfl rfl rfl (by decide +kernel) ⟨Nat.le_of_ble_eq_true rfl, Nat.le_of_ble_eq_true rfl⟩) (vP_l (vP_perm sw_p2 hP)) hK hX hS 0 2 sr_0 rfl rfl hl.1 rfl (Nat.le_of_ble_eq_true rfl) dX4_shortestWalk_95 ⟨Nat.zero_le _, Nat.zero_le _⟩ ?_
              refine lv_imul hx hb dX4_shortestWalk_98 ?_
              refine lv_iadd hx hb dX4_shortestWalk_99 ?_
              refine lv_istore (lv' := [(4, .int _), (5, .int _), (0, .ref _), (1, .int _), (2, .ref _), (3, .ref _)]) hx hb dX4_shortestWalk_100 hl (by decide) rfl (fun ls hl => ?_)
              refine lv_iinc (v := _ + (1 : Int32)) (lv' := [(5, .int _), (4, .int _), (0, .ref _), (1, .int _), (2, .ref _), (3, .ref _)]) hx hb dX4_shortestWalk_102 hl (k := 1) rfl rfl (by decide) rfl (fun ls hl => ?_)
              refine lv_goto (tgt := 68) hx hb dX4_shortestWalk_105 (by decide) ?_
              exact ih68 _ _ _ _ _ _ (cs1 j1 c74) (cs2 c74) (csm c74 jm) (hz) (hz2) (hy2) (Eq.trans hsp68 (Eq.trans (lp68_X4_shortestWalk_s _ _ _ _ _ _ _ _ _ _ _) (Eq.trans (if_neg c74) (rfl)))) _ (lv_sub hl [1, 0, 2, 3, 4, 5] rfl) _ _ hP hD hS
        exact L68 21 _ _ _ _ _ _ (by decide) (by rw [i0]; exact hz) (srt0 hz2) (hz) (hz2) (hy2) (Eq.trans hsp13 (Eq.trans (lp13_X4_shortestWalk_s _ _ _ _ _ _ _ _ _) (Eq.trans (if_pos c19) (rfl)))) _ (lv_sub hl [1, 0, 2, 3, 4, 5] rfl) _ _ hP hD hS
      · have hv : vp_in v4 20 := cnin20 hsf i1 c19
        refine lv_aload_n hx hb dX4_shortestWalk_22 rfl (lv_at hl 1 rfl) ?_
        refine lv_iload hx hb dX4_shortestWalk_23 (lv_at hl 0 rfl) ?_
        refine roV CF (c_X4_isPlaced l D cI cC cW t _ _ _ _ (hv)) (cwV 1 hts gX4_shortestWalk_X4_isPlaced rfl rfl rfl (by decide +kernel) ⟨Nat.le_of_ble_eq_true rfl, Nat.le_of_ble_eq_true rfl⟩) (vP_l hP) hK hX hS 0 3 wg_0 rfl rfl hl.1 rfl (Nat.le_of_ble_eq_true rfl) dX4_shortestWalk_25 ⟨Nat.zero_le _, Nat.zero_le _⟩ ?_
        refine lv_if_eq (tgt := 56) hx hb dX4_shortestWalk_28 (by decide) (fun c28 => ?_) (fun c28 => ?_)
        · refine lv_iinc (v := _ + (1 : Int32)) (lv' := [(4, .int _), (0, .ref _), (1, .int _), (2, .ref _), (3, .ref _)]) hx hb dX4_shortestWalk_56 hl (k := 0) rfl rfl (by decide) rfl (fun ls hl => ?_)
          refine lv_goto (tgt := 13) hx hb dX4_shortestWalk_59 (by decide) ?_
          exact ih13 _ _ _ _ _ (cs1 i1 c19) (cs2 c19) (csm c19 im) (hz) (hz2) (hy2) (Eq.trans hsp13 (Eq.trans (lp13_X4_shortestWalk_s _ _ _ _ _ _ _ _ _) (Eq.trans (if_neg c19) (Eq.trans (if_pos c28) (rfl))))) _ (lv_sub hl [0, 1, 2, 3, 4] rfl) _ _ hP hD hS
        · refine lv_aload_n hx hb dX4_shortestWalk_31 rfl (lv_at hl 3 rfl) ?_
          refine lv_aload_n hx hb dX4_shortestWalk_32 rfl (lv_at hl 1 rfl) ?_
          refine lv_iload hx hb dX4_shortestWalk_33 (lv_at hl 0 rfl) ?_
          refine lv_iload_n hx hb dX4_shortestWalk_35 rfl (lv_at hl 2 rfl) ?_
          refine roV CF (c_X4_demandOf l D cI cC cW t _ _ _ _ _ (hv) (h1)) (cwV 2 hts gX4_shortestWalk_X4_demandOf rfl rfl rfl (by decide +kernel) ⟨Nat.le_of_ble_eq_true rfl, Nat.le_of_ble_eq_true rfl⟩) (vP_l hP) hK hX hS 0 3 wg_0 rfl rfl hl.1 rfl (Nat.le_of_ble_eq_true rfl) dX4_shortestWalk_36 ⟨Nat.zero_le _, Nat.zero_le _⟩ ?_
          refine rwVvs sw_p1 sw_q1 CF (c_X3_insert l D cI cC cW t _ _ _ _ _ ) (cwV 1 hts gX4_shortestWalk_X3_insert rfl rfl rfl (by decide +kernel) ⟨Nat.le_of_ble_eq_true rfl, Nat.le_of_ble_eq_true rfl⟩) hP hD hK hX hS hA 0 2 sr_0 rfl rfl hl.1 rfl (Nat.le_of_ble_eq_true rfl) dX4_shortestWalk_39 ⟨Nat.zero_le _, Nat.zero_le _⟩ (fun H locs hP hD hS => ?_)
          refine lv_aload_n hx hb dX4_shortestWalk_42 rfl (lv_at hl 4 rfl) ?_
          refine lv_aload_n hx hb dX4_shortestWalk_43 rfl (lv_at hl 1 rfl) ?_
          refine va_get (D := D) (ci := 3) (C := RX4) (T := TX4) (N := 13) hx hb hts hi4 hown hK hP 0 sw_0 rfl 3 (by decide) wd2 (fun _ h9 => h9) rfl dX4_shortestWalk_44 ?_
          refine lv_iload hx hb dX4_shortestWalk_47 (lv_at hl 0 rfl) ?_
          refine va_iald hx hb hK hP 4 0 sw_4 rfl (by first | (with_reducible first | assumption | exact g20 (by assumption) (by assumption) | exact sl60 (by assumption) | exact pl60 (by assumption) | exact cg60 (by assumption) | exact sea4 (by assumption) | exact in3 (by assumption) | exact dm80 (by assumption) (by assumption) | exact s4 (by assumption)) | (with_reducible (repeat (refine sf_u (by omega) ?_)); assumption) | (simp (disch := omega) only [pk_un]; (with_reducible first | assumption | exact g20 (by assumption) (by assumption) | exact sl60 (by assumption) | exact pl60 (by assumption) | exact cg60 (by assumption) | exact sea4 (by assumption) | exact in3 (by assumption) | exact dm80 (by assumption) (by assumption) | exact s4 (by assumption))) | (unfold vp_in; decide)) dX4_shortestWalk_49 ?_
          refine roS CF (c_X2_walkTo l D cI cC cW t _ ) (va_cwS 1 hts gX4_shortestWalk_X2_walkTo rfl rfl rfl (by decide +kernel) ⟨Nat.le_of_ble_eq_true rfl, Nat.le_of_ble_eq_true rfl⟩) vP_nil hK hX hS rfl hl.1 rfl (Nat.le_of_ble_eq_true rfl) dX4_shortestWalk_50 ⟨Nat.zero_le _, Nat.zero_le _⟩ ?_
          refine rwVvs sw_p2 sw_q2 CF (c_X3_insert l D cI cC cW t _ _ _ _ _ ) (cwV 1 hts gX4_shortestWalk_X3_insert rfl rfl rfl (by decide +kernel) ⟨Nat.le_of_ble_eq_true rfl, Nat.le_of_ble_eq_true rfl⟩) hP hD hK hX hS hA 0 2 sr_0 rfl rfl hl.1 rfl (Nat.le_of_ble_eq_true rfl) dX4_shortestWalk_53 ⟨Nat.zero_le _, Nat.zero_le _⟩ (fun H locs hP hD hS => ?_)
          refine lv_iinc (v := _ + (1 : Int32)) (lv' := [(4, .int _), (0, .ref _), (1, .int _), (2, .ref _), (3, .ref _)]) hx hb dX4_shortestWalk_56 hl (k := 0) rfl rfl (by decide) rfl (fun ls hl => ?_)
          refine lv_goto (tgt := 13) hx hb dX4_shortestWalk_59 (by decide) ?_
          exact ih13 _ _ _ _ _ (cs1 i1 c19) (cs2 c19) (csm c19 im) ((ins_z hz hz2).1) ((ins_z hz hz2).2) (ins_y hy2) (Eq.trans hsp13 (Eq.trans (lp13_X4_shortestWalk_s _ _ _ _ _ _ _ _ _) (Eq.trans (if_neg c19) (Eq.trans (if_neg c28) (rfl))))) _ (lv_sub hl [0, 1, 2, 3, 4] rfl) _ _ hP hD hS
  exact L13 21 _ _ _ _ _ (by decide) (cn2 hsf) (cnm hsf) (by decide) (by decide) (by decide) (rfl) _ (lv_sub hl [0, 1, 2, 3, 4] rfl) _ _ hP hD hS
