/-! the law: up, cell, mark (printed by wip/p29/m_mark.py) -/
set_option maxHeartbeats 4000000 in
theorem c_L_cell (l : Launch) (D : va_G) (cI cC cW : ClassId) (t : Nat → Nat) (b L : Nat) (xs : Nat → Int32) (k : Int32) (hL : L < 1000) (hk : 0 ≤ k.toInt) : Met l yL_cell wsL_cell ({ frames := 0, cells := 0, slots := 0, locals := 0 }) (va_Pc [.ref b, .int k] (cellP b L xs)) (vp_Si (fun _ => True)) 0 0 (fun _ => False) := by
  refine Met.ofW (cc := cL_cell) (maxL := 2) (ret := (some .int)) (by decide) rfl ?_
  intro p e s m args below meth c s₁ B hml hv
  obtain ⟨rfl, hXs, hbl⟩ := hv
  have hx := B.exec
  have hb := B.bytes
  have hr := B.returns
  have hts := atoms_spec (ws := wsL_cell) B.pre
  have hown : s.vm.findClass RL = some m.cls := findClass_of_methodNamed B.named
  have hlocks := B.notSynchronized
  have hS : va_S (fun _ => False) s.heap s.heap [] := va_S.rf
  have wd1 : (Cond.constant RL 7 (763049417)).before [.ref b, .int k].toArray s = true := hts _ (List.mem_of_getElem? (i := 1) rfl)
  have hl := lv_entry ([.ref b, .int k]) (n := 2) (Nat.le_of_ble_eq_true rfl)
  rw [lg_entry_eq]
  generalize (lg_sl ([.ref b, .int k]) ++ List.replicate (2 - (lg_sl ([.ref b, .int k])).length) Slot.unset).toArray = ls at hl ⊢
  have hl : lv_has ls 2 [(0, .ref b), (1, .int k)] := hl
  refine lv_iload_n hx hb dL_cell_0 rfl (lv_at hl 1 rfl) ?_
  refine lv_aload_n hx hb dL_cell_1 rfl (lv_at hl 0 rfl) ?_
  refine va_slen hx hb hXs hbl (fun h => h) hS dL_cell_2 ?_
  refine lv_icmp_ge (tgt := 12) hx hb dL_cell_3 (by decide) (fun _ => ?_) (fun c3 => ?_)
  · refine lv_ldc hx hb hown wd1 dL_cell_12 ?_
    refine lv_iload_n hx hb dL_cell_14 rfl (lv_at hl 1 rfl) ?_
    refine lv_iconst (v := 3) hx hb dL_cell_15 (by decide) ?_
    refine lv_iadd hx hb dL_cell_16 ?_
    refine lv_imul hx hb dL_cell_17 ?_
    exact W.iret hx hb hr (fun _ hT _ => ⟨_, rfl, trivial, hT⟩) (fun _ h => absurd h List.not_mem_nil) dL_cell_18 hlocks
  · refine lv_aload_n hx hb dL_cell_6 rfl (lv_at hl 0 rfl) ?_
    refine lv_iload_n hx hb dL_cell_7 rfl (lv_at hl 1 rfl) ?_
    refine va_sld hx hb hXs hbl (fun h => h) hS ?_ dL_cell_8 ?_
    · obtain ⟨j, hj, rfl⟩ := nI_ofI hk
      rw [le_toInt, show Int32.ofNat L = nI L from rfl, nI_toInt hj, nI_toInt (by omega)] at c3
      exact vp_in_nI (by omega) (by omega)
    · refine lv_goto (tgt := 18) hx hb dL_cell_9 (by decide) ?_
      exact W.iret hx hb hr (fun _ hT _ => ⟨_, rfl, trivial, hT⟩) (fun _ h => absurd h List.not_mem_nil) dL_cell_18 hlocks
set_option maxHeartbeats 4000000 in
set_option maxRecDepth 100000 in
theorem c_L_up (l : Launch) (D : va_G) (cI cC cW : ClassId) (t : Nat → Nat) (x w : Int32) (hw : ¬ w = 0) : Met l yL_up wsL_up ({ frames := 0, cells := 0, slots := 0, locals := 0 }) (va_Pc [.int x, .int w] (roP D (tyL cI cC cW) ([]) t)) (vp_Si (fun r => r = upF x w)) 0 0 (fun _ => False) := by
  refine Met.ofW (cc := cL_up) (maxL := 2) (ret := (some .int)) (by decide) rfl ?_
  intro p e s m args below meth c s₁ B hml hv
  obtain ⟨rfl, hP, hK, hX⟩ := hv
  have hx := B.exec
  have hb := B.bytes
  have hr := B.returns
  have hts := atoms_spec (ws := wsL_up) B.pre
  have hown : s.vm.findClass RL = some m.cls := findClass_of_methodNamed B.named
  have hlocks := B.notSynchronized
  have hS : va_S (fun _ => False) s.heap s.heap [] := va_S.rf
  have wd1 : (Cond.constant RL 8 (2147483647)).before [.int x, .int w].toArray s = true := hts _ (List.mem_of_getElem? (i := 1) rfl)
  have CF : CallFix p m c cL_up 2 s [.int x, .int w].toArray wsL_up RL := ⟨hx, hb, hml, hown, hts⟩
  have hl := lv_entry ([.int x, .int w]) (n := 2) (Nat.le_of_ble_eq_true rfl)
  rw [lg_entry_eq]
  generalize (lg_sl ([.int x, .int w]) ++ List.replicate (2 - (lg_sl ([.int x, .int w])).length) Slot.unset).toArray = ls at hl ⊢
  have hl : lv_has ls 2 [(0, .int x), (1, .int w)] := hl
  refine lv_iload_n hx hb dL_up_0 rfl (lv_at hl 0 rfl) ?_
  refine lv_ldc hx hb hown wd1 dL_up_1 ?_
  refine lv_iand hx hb dL_up_3 ?_
  refine lv_iload_n hx hb dL_up_4 rfl (lv_at hl 1 rfl) ?_
  refine lv_irem hx hb dL_up_5 hw ?_
  exact W.iret hx hb hr (fun _ hT _ => ⟨_, rfl, rfl, hT⟩) (fun _ h => absurd h List.not_mem_nil) dL_up_6 hlocks
set_option maxHeartbeats 4000000 in
set_option maxRecDepth 100000 in
theorem c_L_mark (l : Launch) (D : va_G) (cI cC cW : ClassId) (t : Nat → Nat) (h : Nat → Nat) (Y : Nat → va_H) (S : Nat → Int32) (q : Nat → Int32) (V : Nat → Int32) (z : Int32) (U : Nat → Int32) (y : Int32) (I : Nat → Int32) (hsf : sfN (Y 4).2.1) : Met l yL_mark wsL_mark ({ frames := 5, cells := 0, slots := 0, locals := 106 }) (va_Pc [.ref (h 0)] (roP D (tyL cI cC cW) (ps cI cC cW h Y S q V z U y I) t)) (vp_Sl (fun r => r = mrk (Y 4).2.1 (Y 4).2.2)) 0 0 (fun _ => False) := by
  refine Met.ofW (cc := cL_mark) (maxL := 5) (ret := (some .long)) (by decide) rfl ?_
  intro p e s m args below meth c s₁ B hml hv
  obtain ⟨rfl, hP, hK, hX⟩ := hv
  have hx := B.exec
  have hb := B.bytes
  have hr := B.returns
  have hts := atoms_spec (ws := wsL_mark) B.pre
  have hown : s.vm.findClass RL = some m.cls := findClass_of_methodNamed B.named
  have hlocks := B.notSynchronized
  have hS : va_S (fun _ => False) s.heap s.heap [] := va_S.rf
  have wd1 : (Cond.constantLong RL 9 (17)).before [.ref (h 0)].toArray s = true := hts _ (List.mem_of_getElem? (i := 1) rfl)
  have wd2 : (Cond.constantLong RL 11 (31)).before [.ref (h 0)].toArray s = true := hts _ (List.mem_of_getElem? (i := 2) rfl)
  have CF : CallFix p m c cL_mark 5 s [.ref (h 0)].toArray wsL_mark RL := ⟨hx, hb, hml, hown, hts⟩
  have hl := lv_entry ([.ref (h 0)]) (n := 5) (Nat.le_of_ble_eq_true rfl)
  rw [lg_entry_eq]
  generalize (lg_sl ([.ref (h 0)]) ++ List.replicate (5 - (lg_sl ([.ref (h 0)])).length) Slot.unset).toArray = ls at hl ⊢
  have hl : lv_has ls 5 [(0, .ref (h 0))] := hl
  obtain ⟨N0, hN0, eN0, eNt, -⟩ := nN hsf
  refine lv_ldc2 hx hb hown wd1 dL_mark_0 ?_
  refine lv_lstore_n (lv' := [(1, .long _), (0, .ref _)]) hx hb dL_mark_3 rfl hl (by decide) rfl (fun ls hl => ?_)
  refine lv_iconst (v := 0) hx hb dL_mark_4 (by decide) ?_
  refine lv_istore_n (lv' := [(3, .int _), (1, .long _), (0, .ref _)]) hx hb dL_mark_5 rfl hl (by decide) rfl (fun ls hl => ?_)
  have L6 : ∀ (n6 : Nat) (i : Nat), (i ≤ 8) → (8 - i < n6) → ∀ (ls : Array Slot), lv_has ls 5 [(3, .int (nI i)), (1, .long (mk1 (mA (Y 4).2.1 (Y 4).2.2) (mC (Y 4).2.1 (Y 4).2.2) i)), (0, .ref (h 0))] → W p l e (headSpec wsL_mark ({ frames := 5, cells := 0, slots := 0, locals := 106 } : Room)).room s m [.ref (h 0)].toArray below meth c s.heap [] 0 0 (MQ below (vp_Sl (fun r => r = mrk (Y 4).2.1 (Y 4).2.2)) [.ref (h 0)].toArray s 0 0 (fun _ => False)) (F0 m 6 ls []) := by
    intro n6
    induction n6 with
    | zero => intro i hi hn; exact absurd hn (by omega)
    | succ n6 ih6 =>
      intro i hi hn ls hl
      refine lv_iload_n hx hb dL_mark_6 rfl (lv_at hl 0 rfl) ?_
      refine lv_bipush (v := 8) hx hb dL_mark_7 (by decide) ?_
      refine lv_icmp_ge (tgt := 44) hx hb dL_mark_9 (by decide) (fun c9 => ?_) (fun c9 => ?_)
      · have e8 : i = 8 := by have := nIge (k := 8) (by omega) (by decide) c9; omega
        subst e8
        refine lv_iconst (v := 0) hx hb dL_mark_44 (by decide) ?_
        refine lv_istore_n (lv' := [(3, .int _), (1, .long _), (0, .ref _)]) hx hb dL_mark_45 rfl hl (by decide) rfl (fun ls hl => ?_)
        have L46 : ∀ (n46 : Nat) (i : Nat), (i ≤ 3) → (3 - i < n46) → ∀ (ls : Array Slot), lv_has ls 5 [(3, .int (nI i)), (1, .long (mk2 (mk1 (mA (Y 4).2.1 (Y 4).2.2) (mC (Y 4).2.1 (Y 4).2.2) 8) (mC (Y 4).2.1 (Y 4).2.2) i)), (0, .ref (h 0))] → W p l e (headSpec wsL_mark ({ frames := 5, cells := 0, slots := 0, locals := 106 } : Room)).room s m [.ref (h 0)].toArray below meth c s.heap [] 0 0 (MQ below (vp_Sl (fun r => r = mrk (Y 4).2.1 (Y 4).2.2)) [.ref (h 0)].toArray s 0 0 (fun _ => False)) (F0 m 46 ls []) := by
          intro n46
          induction n46 with
          | zero => intro i hi hn; exact absurd hn (by omega)
          | succ n46 ih46 =>
            intro i hi hn ls hl
            refine lv_iload_n hx hb dL_mark_46 rfl (lv_at hl 0 rfl) ?_
            refine lv_iconst (v := 3) hx hb dL_mark_47 (by decide) ?_
            refine lv_icmp_ge (tgt := 73) hx hb dL_mark_48 (by decide) (fun c48 => ?_) (fun c48 => ?_)
            · have e3 : i = 3 := by have := nIge (k := 3) (by omega) (by decide) c48; omega
              subst e3
              refine lv_iconst (v := 0) hx hb dL_mark_73 (by decide) ?_
              refine lv_istore_n (lv' := [(3, .int _), (1, .long _), (0, .ref _)]) hx hb dL_mark_74 rfl hl (by decide) rfl (fun ls hl => ?_)
              have L75 : ∀ (n75 : Nat) (i : Nat), (i ≤ N0) → (N0 - i < n75) → ∀ (ls : Array Slot), lv_has ls 5 [(3, .int (nI i)), (1, .long (mk4 (mk2 (mk1 (mA (Y 4).2.1 (Y 4).2.2) (mC (Y 4).2.1 (Y 4).2.2) 8) (mC (Y 4).2.1 (Y 4).2.2) 3) (mG (Y 4).2.1 (Y 4).2.2) i)), (0, .ref (h 0))] → W p l e (headSpec wsL_mark ({ frames := 5, cells := 0, slots := 0, locals := 106 } : Room)).room s m [.ref (h 0)].toArray below meth c s.heap [] 0 0 (MQ below (vp_Sl (fun r => r = mrk (Y 4).2.1 (Y 4).2.2)) [.ref (h 0)].toArray s 0 0 (fun _ => False)) (F0 m 75 ls []) := by
                intro n75
                induction n75 with
                | zero => intro i hi hn; exact absurd hn (by omega)
                | succ n75 ih75 =>
                  intro i hi hn ls hl
                  refine lv_iload_n hx hb dL_mark_75 rfl (lv_at hl 0 rfl) ?_
                  refine lv_aload_n hx hb dL_mark_76 rfl (lv_at hl 2 rfl) ?_
                  refine lv_iconst (v := 0) hx hb dL_mark_77 (by decide) ?_
                  refine roV CF (c_X5_count l D cI cC cW t h Y S q V z U y I (0 : Int32) hsf) (cwV 1 hts gL_mark_X5_count rfl rfl rfl (by decide +kernel) ⟨Nat.le_of_ble_eq_true rfl, Nat.le_of_ble_eq_true rfl⟩) hP hK hX hS 0 4 ps_0 rfl rfl hl.1 rfl (Nat.le_of_ble_eq_true rfl) dL_mark_78 ⟨Nat.zero_le _, Nat.zero_le _⟩ ?_
                  refine lv_top_eq (y := (Y 4).2.1 0) cnt0 ?_
                  refine lv_icmp_ge (tgt := 121) hx hb dL_mark_81 (by decide) (fun c81 => ?_) (fun c81 => ?_)
                  · have eN : i = N0 := by rw [eN0] at c81; have := nIge (by omega) (by omega) c81; omega
                    subst eN
                    refine lv_lload_n hx hb dL_mark_121 rfl (lv_at hl 1 rfl) ?_
                    exact W.lret hx hb hr (fun _ hT _ => ⟨_, rfl, (by unfold mrk; rw [eNt]), hT⟩) (fun _ h => absurd h List.not_mem_nil) dL_mark_122 hlocks
                  · have c81 : i < N0 := nIlt (by omega) (by omega) (by rw [eN0] at c81; exact c81)
                    refine lv_iconst (v := 0) hx hb dL_mark_84 (by decide) ?_
                    refine lv_istore (lv' := [(4, .int _), (3, .int _), (1, .long _), (0, .ref _)]) hx hb dL_mark_85 hl (by decide) rfl (fun ls hl => ?_)
                    have L87 : ∀ (n87 : Nat) (k : Nat), (k ≤ 11) → (11 - k < n87) → ∀ (ls : Array Slot), lv_has ls 5 [(4, .int (nI k)), (3, .int (nI i)), (1, .long (mk3 (mk4 (mk2 (mk1 (mA (Y 4).2.1 (Y 4).2.2) (mC (Y 4).2.1 (Y 4).2.2) 8) (mC (Y 4).2.1 (Y 4).2.2) 3) (mG (Y 4).2.1 (Y 4).2.2) i) ((mG (Y 4).2.1 (Y 4).2.2) i) k)), (0, .ref (h 0))] → W p l e (headSpec wsL_mark ({ frames := 5, cells := 0, slots := 0, locals := 106 } : Room)).room s m [.ref (h 0)].toArray below meth c s.heap [] 0 0 (MQ below (vp_Sl (fun r => r = mrk (Y 4).2.1 (Y 4).2.2)) [.ref (h 0)].toArray s 0 0 (fun _ => False)) (F0 m 87 ls []) := by
                      intro n87
                      induction n87 with
                      | zero => intro k hk hm; exact absurd hm (by omega)
                      | succ n87 ih87 =>
                        intro k hk hm ls hl
                        refine lv_iload hx hb dL_mark_87 (lv_at hl 0 rfl) ?_
                        refine lv_bipush (v := 11) hx hb dL_mark_89 (by decide) ?_
                        refine lv_icmp_ge (tgt := 115) hx hb dL_mark_91 (by decide) (fun c91 => ?_) (fun c91 => ?_)
                        · have e11 : k = 11 := by have := nIge (k := 11) (by omega) (by decide) c91; omega
                          subst e11
                          refine lv_iinc (v := nI (i + 1)) (lv' := [(3, .int _), (4, .int _), (1, .long _), (0, .ref _)]) hx hb dL_mark_115 hl (k := 1) rfl (by rw [← nI_add i 1]; rfl) (by decide) rfl (fun ls hl => ?_)
                          refine lv_goto (tgt := 75) hx hb dL_mark_118 (by decide) ?_
                          exact ih75 (i + 1)  (by omega) (by omega) _ (lv_sub hl [0, 2, 3] rfl)
                        · have c91 : k < 11 := nIlt (by omega) (by decide) c91
                          refine lv_ldc2 hx hb hown wd2 dL_mark_94 ?_
                          refine lv_lload_n hx hb dL_mark_97 rfl (lv_at hl 2 rfl) ?_
                          refine lv_lmul hx hb dL_mark_98 ?_
                          refine lv_aload_n hx hb dL_mark_99 rfl (lv_at hl 3 rfl) ?_
                          refine lv_iload_n hx hb dL_mark_100 rfl (lv_at hl 1 rfl) ?_
                          refine lv_iload hx hb dL_mark_101 (lv_at hl 0 rfl) ?_
                          refine roV CF (c_X5_goodOf l D cI cC cW t h Y S q V z U y I (nI i) (nI k) hsf) (cwV 2 hts gL_mark_X5_goodOf rfl rfl rfl (by decide +kernel) ⟨Nat.le_of_ble_eq_true rfl, Nat.le_of_ble_eq_true rfl⟩) hP hK hX hS 0 4 ps_0 rfl rfl hl.1 rfl (Nat.le_of_ble_eq_true rfl) dL_mark_103 ⟨Nat.zero_le _, Nat.zero_le _⟩ ?_
                          refine lv_top_eq (y := mG (Y 4).2.1 (Y 4).2.2 i k) rfl ?_
                          refine lv_i2l hx hb dL_mark_106 rfl ?_
                          refine lv_ladd hx hb dL_mark_107 ?_
                          refine lv_lstore_n (lv' := [(1, .long _), (4, .int _), (3, .int _), (0, .ref _)]) hx hb dL_mark_108 rfl hl (by decide) rfl (fun ls hl => ?_)
                          refine lv_iinc (v := nI (k + 1)) (lv' := [(4, .int _), (1, .long _), (3, .int _), (0, .ref _)]) hx hb dL_mark_109 hl (k := 1) rfl (by rw [← nI_add k 1]; rfl) (by decide) rfl (fun ls hl => ?_)
                          refine lv_goto (tgt := 87) hx hb dL_mark_112 (by decide) ?_
                          exact ih87 (k + 1)  (by omega) (by omega) _ (lv_sub hl [0, 2, 1, 3] rfl)
                    exact L87 12 0  (by omega) (by omega) _ (lv_sub hl [0, 1, 2, 3] rfl)
              exact L75 (N0 + 1) 0  (by omega) (by omega) _ (lv_sub hl [0, 1, 2] rfl)
            · have c48 : i < 3 := nIlt (by omega) (by decide) c48
              refine lv_ldc2 hx hb hown wd2 dL_mark_51 ?_
              refine lv_lload_n hx hb dL_mark_54 rfl (lv_at hl 1 rfl) ?_
              refine lv_lmul hx hb dL_mark_55 ?_
              refine lv_aload_n hx hb dL_mark_56 rfl (lv_at hl 2 rfl) ?_
              refine lv_bipush (v := 20) hx hb dL_mark_57 (by decide) ?_
              refine lv_iload_n hx hb dL_mark_59 rfl (lv_at hl 0 rfl) ?_
              refine lv_iadd hx hb dL_mark_60 ?_
              refine roV CF (c_X5_count l D cI cC cW t h Y S q V z U y I ((20 : Int32) + nI i) hsf) (cwV 1 hts gL_mark_X5_count rfl rfl rfl (by decide +kernel) ⟨Nat.le_of_ble_eq_true rfl, Nat.le_of_ble_eq_true rfl⟩) hP hK hX hS 0 4 ps_0 rfl rfl hl.1 rfl (Nat.le_of_ble_eq_true rfl) dL_mark_61 ⟨Nat.zero_le _, Nat.zero_le _⟩ ?_
              refine lv_top_eq (y := mC (Y 4).2.1 (Y 4).2.2 (20 + i)) ((congrArg (sp_X5_count Y S q V z U y I) (nI_add 20 i)).trans (cntI (by omega) (by omega) (by omega))) ?_
              refine lv_i2l hx hb dL_mark_64 rfl ?_
              refine lv_ladd hx hb dL_mark_65 ?_
              refine lv_lstore_n (lv' := [(1, .long _), (3, .int _), (0, .ref _)]) hx hb dL_mark_66 rfl hl (by decide) rfl (fun ls hl => ?_)
              refine lv_iinc (v := nI (i + 1)) (lv' := [(3, .int _), (1, .long _), (0, .ref _)]) hx hb dL_mark_67 hl (k := 1) rfl (by rw [← nI_add i 1]; rfl) (by decide) rfl (fun ls hl => ?_)
              refine lv_goto (tgt := 46) hx hb dL_mark_70 (by decide) ?_
              exact ih46 (i + 1)  (by omega) (by omega) _ (lv_sub hl [0, 1, 2] rfl)
        exact L46 4 0  (by omega) (by omega) _ (lv_sub hl [0, 1, 2] rfl)
      · have c9 : i < 8 := nIlt (by omega) (by decide) c9
        refine lv_ldc2 hx hb hown wd2 dL_mark_12 ?_
        refine lv_lload_n hx hb dL_mark_15 rfl (lv_at hl 1 rfl) ?_
        refine lv_lmul hx hb dL_mark_16 ?_
        refine lv_aload_n hx hb dL_mark_17 rfl (lv_at hl 2 rfl) ?_
        refine lv_iload_n hx hb dL_mark_18 rfl (lv_at hl 0 rfl) ?_
        refine roV CF (c_X5_account l D cI cC cW t h Y S q V z U y I (nI i) hsf) (cwV 1 hts gL_mark_X5_account rfl rfl rfl (by decide +kernel) ⟨Nat.le_of_ble_eq_true rfl, Nat.le_of_ble_eq_true rfl⟩) hP hK hX hS 0 4 ps_0 rfl rfl hl.1 rfl (Nat.le_of_ble_eq_true rfl) dL_mark_19 ⟨Nat.zero_le _, Nat.zero_le _⟩ ?_
        refine lv_top_eq (y := mA (Y 4).2.1 (Y 4).2.2 i) rfl ?_
        refine lv_i2l hx hb dL_mark_22 rfl ?_
        refine lv_ladd hx hb dL_mark_23 ?_
        refine lv_lstore_n (lv' := [(1, .long _), (3, .int _), (0, .ref _)]) hx hb dL_mark_24 rfl hl (by decide) rfl (fun ls hl => ?_)
        refine lv_ldc2 hx hb hown wd2 dL_mark_25 ?_
        refine lv_lload_n hx hb dL_mark_28 rfl (lv_at hl 0 rfl) ?_
        refine lv_lmul hx hb dL_mark_29 ?_
        refine lv_aload_n hx hb dL_mark_30 rfl (lv_at hl 2 rfl) ?_
        refine lv_iload_n hx hb dL_mark_31 rfl (lv_at hl 1 rfl) ?_
        refine roV CF (c_X5_count l D cI cC cW t h Y S q V z U y I (nI i) hsf) (cwV 1 hts gL_mark_X5_count rfl rfl rfl (by decide +kernel) ⟨Nat.le_of_ble_eq_true rfl, Nat.le_of_ble_eq_true rfl⟩) hP hK hX hS 0 4 ps_0 rfl rfl hl.1 rfl (Nat.le_of_ble_eq_true rfl) dL_mark_32 ⟨Nat.zero_le _, Nat.zero_le _⟩ ?_
        refine lv_top_eq (y := mC (Y 4).2.1 (Y 4).2.2 i) (cntI (by omega) (by omega) (by omega)) ?_
        refine lv_i2l hx hb dL_mark_35 rfl ?_
        refine lv_ladd hx hb dL_mark_36 ?_
        refine lv_lstore_n (lv' := [(1, .long _), (3, .int _), (0, .ref _)]) hx hb dL_mark_37 rfl hl (by decide) rfl (fun ls hl => ?_)
        refine lv_iinc (v := nI (i + 1)) (lv' := [(3, .int _), (1, .long _), (0, .ref _)]) hx hb dL_mark_38 hl (k := 1) rfl (by rw [← nI_add i 1]; rfl) (by decide) rfl (fun ls hl => ?_)
        refine lv_goto (tgt := 6) hx hb dL_mark_41 (by decide) ?_
        exact ih6 (i + 1)  (by omega) (by omega) _ (lv_sub hl [0, 1, 2] rfl)
  exact L6 9 0  (by omega) (by omega) _ (lv_sub hl [0, 1, 2] rfl)
