/-! the law: worths (printed by wip/p29/m_worths.py) -/
set_option maxHeartbeats 4000000 in
set_option maxRecDepth 100000 in
theorem c_L_worths (l : Launch) (D : va_G) (cI cC cW : ClassId) (t : Nat → Nat) (h : Nat → Nat) (Y : Nat → va_H) (S : Nat → Int32) (q : Nat → Int32) (V : Nat → Int32) (z : Int32) (U : Nat → Int32) (y : Int32) (I : Nat → Int32) (b : Int) (hw : wf b (Y 4).2.1 (Y 4).2.2) : Met l yL_worths wsL_worths ({ frames := 7, cells := 0, slots := 0, locals := 151 }) (va_Pc [.ref (h 0)] (roP D (tyL cI cC cW) (ps cI cC cW h Y S q V z U y I) t)) (vp_Si (fun r => r = 1)) 0 0 (fun _ => False) := by
  refine Met.ofW (cc := cL_worths) (maxL := 12) (ret := (some .boolean)) (by decide) rfl ?_
  intro p e s m args below meth c s₁ B hml hv
  obtain ⟨rfl, hP, hK, hX⟩ := hv
  have hx := B.exec
  have hb := B.bytes
  have hr := B.returns
  have hts := atoms_spec (ws := wsL_worths) B.pre
  have hown : s.vm.findClass RL = some m.cls := findClass_of_methodNamed B.named
  have hlocks := B.notSynchronized
  have hS : va_S (fun _ => False) s.heap s.heap [] := va_S.rf
  have wd1 : (Cond.constant RL 90 (100000000)).before [.ref (h 0)].toArray s = true := hts _ (List.mem_of_getElem? (i := 1) rfl)
  have CF : CallFix p m c cL_worths 12 s [.ref (h 0)].toArray wsL_worths RL := ⟨hx, hb, hml, hown, hts⟩
  have hl := lv_entry ([.ref (h 0)]) (n := 12) (Nat.le_of_ble_eq_true rfl)
  rw [lg_entry_eq]
  generalize (lg_sl ([.ref (h 0)]) ++ List.replicate (12 - (lg_sl ([.ref (h 0)])).length) Slot.unset).toArray = ls at hl ⊢
  have hl : lv_has ls 12 [(0, .ref (h 0))] := hl
  obtain ⟨n, hn20, eN0, eNt, eNi⟩ := nN hw.sf
  refine lv_aload_n hx hb dL_worths_0 rfl (lv_at hl 0 rfl) ?_
  refine lv_iconst (v := 0) hx hb dL_worths_1 (by decide) ?_
  refine roV CF (c_X5_count l D cI cC cW t h Y S q V z U y I (0 : Int32) hw.sf) (cwV 1 hts gL_worths_X5_count rfl rfl rfl (by decide +kernel) ⟨Nat.le_of_ble_eq_true rfl, Nat.le_of_ble_eq_true rfl⟩) hP hK hX hS 0 4 ps_0 rfl rfl hl.1 rfl (Nat.le_of_ble_eq_true rfl) dL_worths_2 ⟨Nat.zero_le _, Nat.zero_le _⟩ ?_
  refine lv_top_eq (y := (nI n)) (cnt0.trans eN0) ?_
  refine lv_istore_n (lv' := [(1, .int _), (0, .ref _)]) hx hb dL_worths_5 rfl hl (by decide) rfl (fun ls hl => ?_)
  refine lv_aload_n hx hb dL_worths_6 rfl (lv_at hl 1 rfl) ?_
  refine lv_iconst (v := 4) hx hb dL_worths_7 (by decide) ?_
  refine roV CF (c_X5_count l D cI cC cW t h Y S q V z U y I (4 : Int32) hw.sf) (cwV 1 hts gL_worths_X5_count rfl rfl rfl (by decide +kernel) ⟨Nat.le_of_ble_eq_true rfl, Nat.le_of_ble_eq_true rfl⟩) hP hK hX hS 0 4 ps_0 rfl rfl hl.1 rfl (Nat.le_of_ble_eq_true rfl) dL_worths_8 ⟨Nat.zero_le _, Nat.zero_le _⟩ ?_
  refine lv_top_eq (y := (sp_X4_weeksLeft (Y 4).2.1 (Y 4).2.2)) ((cntk (by decide) (by decide)).trans rcw4) ?_
  refine lv_istore_n (lv' := [(2, .int _), (1, .int _), (0, .ref _)]) hx hb dL_worths_11 rfl hl (by decide) rfl (fun ls hl => ?_)
  refine lv_iconst (v := 0) hx hb dL_worths_12 (by decide) ?_
  refine lv_istore_n (lv' := [(3, .int _), (2, .int _), (1, .int _), (0, .ref _)]) hx hb dL_worths_13 rfl hl (by decide) rfl (fun ls hl => ?_)
  refine lv_bipush (v := -4) hx hb dL_worths_14 (by decide) ?_
  refine lv_istore (lv' := [(4, .int _), (3, .int _), (2, .int _), (1, .int _), (0, .ref _)]) hx hb dL_worths_16 hl (by decide) rfl (fun ls hl => ?_)
  refine lv_bipush (v := -4) hx hb dL_worths_18 (by decide) ?_
  refine lv_istore (lv' := [(5, .int _), (4, .int _), (3, .int _), (2, .int _), (1, .int _), (0, .ref _)]) hx hb dL_worths_20 hl (by decide) rfl (fun ls hl => ?_)
  refine lv_iconst (v := 0) hx hb dL_worths_22 (by decide) ?_
  refine lv_istore (lv' := [(6, .int _), (5, .int _), (4, .int _), (3, .int _), (2, .int _), (1, .int _), (0, .ref _)]) hx hb dL_worths_23 hl (by decide) rfl (fun ls hl => ?_)
  have L25 : ∀ (n25 : Nat) (i : Nat), (i ≤ n) → (n - i < n25) → ∀ (ls : Array Slot), lv_has ls 12 [(6, .int (nI i)), (5, .int ((bsA (Y 4).2.1 (Y 4).2.2 i).2.1)), (4, .int ((bsA (Y 4).2.1 (Y 4).2.2 i).1)), (3, .int ((bsA (Y 4).2.1 (Y 4).2.2 i).2.2)), (2, .int (sp_X4_weeksLeft (Y 4).2.1 (Y 4).2.2)), (1, .int (nI n)), (0, .ref (h 0))] → W p l e (headSpec wsL_worths ({ frames := 7, cells := 0, slots := 0, locals := 151 } : Room)).room s m [.ref (h 0)].toArray below meth c s.heap [] 0 0 (MQ below (vp_Si (fun r => r = 1)) [.ref (h 0)].toArray s 0 0 (fun _ => False)) (F0 m 25 ls []) := by
    intro n25
    induction n25 with
    | zero => intro i hin hn; exact absurd hn (by omega)
    | succ n25 ih25 =>
      intro i hin hn ls hl
      refine lv_iload hx hb dL_worths_25 (lv_at hl 0 rfl) ?_
      refine lv_iload_n hx hb dL_worths_27 rfl (lv_at hl 5 rfl) ?_
      refine lv_icmp_ge (tgt := 242) hx hb dL_worths_28 (by decide) (fun c28 => ?_) (fun c28 => ?_)
      · have ein : n = i := by have := nIge (by omega) (by omega) c28; omega
        subst ein
        refine lv_aload_n hx hb dL_worths_242 rfl (lv_at hl 6 rfl) ?_
        refine lv_iconst (v := 0) hx hb dL_worths_243 (by decide) ?_
        refine roV CF (c_X5_best l D cI cC cW t h Y S q V z U y I (0 : Int32) hw.sf) (cwV 1 hts gL_worths_X5_best rfl rfl rfl (by decide +kernel) ⟨Nat.le_of_ble_eq_true rfl, Nat.le_of_ble_eq_true rfl⟩) hP hK hX hS 0 4 ps_0 rfl rfl hl.1 rfl (Nat.le_of_ble_eq_true rfl) dL_worths_244 ⟨Nat.zero_le _, Nat.zero_le _⟩ ?_
        refine lv_top_eq (y := (bsA (Y 4).2.1 (Y 4).2.2 n).1) ((bests hw eNi).1) ?_
        refine lv_iload hx hb dL_worths_247 (lv_at hl 2 rfl) ?_
        refine lv_icmp_ne (tgt := 284) hx hb dL_worths_249 (by decide) (fun c9 => absurd rfl c9) (fun _ => ?_)
        refine lv_aload_n hx hb dL_worths_252 rfl (lv_at hl 6 rfl) ?_
        refine lv_iconst (v := 1) hx hb dL_worths_253 (by decide) ?_
        refine roV CF (c_X5_best l D cI cC cW t h Y S q V z U y I (1 : Int32) hw.sf) (cwV 1 hts gL_worths_X5_best rfl rfl rfl (by decide +kernel) ⟨Nat.le_of_ble_eq_true rfl, Nat.le_of_ble_eq_true rfl⟩) hP hK hX hS 0 4 ps_0 rfl rfl hl.1 rfl (Nat.le_of_ble_eq_true rfl) dL_worths_254 ⟨Nat.zero_le _, Nat.zero_le _⟩ ?_
        refine lv_top_eq (y := (bsA (Y 4).2.1 (Y 4).2.2 n).2.1) ((bests hw eNi).2.1) ?_
        refine lv_iload hx hb dL_worths_257 (lv_at hl 1 rfl) ?_
        refine lv_icmp_ne (tgt := 284) hx hb dL_worths_259 (by decide) (fun c9 => absurd rfl c9) (fun _ => ?_)
        refine lv_aload_n hx hb dL_worths_262 rfl (lv_at hl 6 rfl) ?_
        refine lv_iconst (v := 2) hx hb dL_worths_263 (by decide) ?_
        refine roV CF (c_X5_best l D cI cC cW t h Y S q V z U y I (2 : Int32) hw.sf) (cwV 1 hts gL_worths_X5_best rfl rfl rfl (by decide +kernel) ⟨Nat.le_of_ble_eq_true rfl, Nat.le_of_ble_eq_true rfl⟩) hP hK hX hS 0 4 ps_0 rfl rfl hl.1 rfl (Nat.le_of_ble_eq_true rfl) dL_worths_264 ⟨Nat.zero_le _, Nat.zero_le _⟩ ?_
        refine lv_top_eq (y := (if (bsA (Y 4).2.1 (Y 4).2.2 n).2.2 = 0 then (-4 : Int32) else (bsA (Y 4).2.1 (Y 4).2.2 n).2.2)) ((bests hw eNi).2.2) ?_
        refine lv_iload_n hx hb dL_worths_267 rfl (lv_at hl 3 rfl) ?_
        have J268 : ∀ v268 : Int32, v268 = (if (bsA (Y 4).2.1 (Y 4).2.2 n).2.2 = 0 then (-4 : Int32) else (bsA (Y 4).2.1 (Y 4).2.2 n).2.2) → W p l e (headSpec wsL_worths ({ frames := 7, cells := 0, slots := 0, locals := 151 } : Room)).room s m [.ref (h 0)].toArray below meth c s.heap [] 0 0 (MQ below (vp_Si (fun r => r = 1)) [.ref (h 0)].toArray s 0 0 (fun _ => False)) (F0 m 277 ls [.int v268, .int (if (bsA (Y 4).2.1 (Y 4).2.2 n).2.2 = 0 then (-4 : Int32) else (bsA (Y 4).2.1 (Y 4).2.2 n).2.2)]) := by
          intro v268 ev268
          refine lv_icmp_ne (tgt := 284) hx hb dL_worths_277 (by decide) (fun c9 => absurd ev268.symm c9) (fun _ => ?_)
          refine lv_iconst (v := 1) hx hb dL_worths_280 (by decide) ?_
          refine lv_goto (tgt := 285) hx hb dL_worths_281 (by decide) ?_
          exact W.zret hx hb hr rfl (fun _ hT _ => ⟨_, rfl, rfl, hT⟩) (fun _ h => absurd h List.not_mem_nil) dL_worths_285 hlocks
        refine lv_if_ne (tgt := 276) hx hb dL_worths_268 (by decide) (fun c268 => ?_) (fun c268 => ?_)
        · refine lv_iload_n hx hb dL_worths_276 rfl (lv_at hl 3 rfl) ?_
          exact J268 _ ((if_neg c268).symm)
        · refine lv_bipush (v := -4) hx hb dL_worths_271 (by decide) ?_
          refine lv_goto (tgt := 277) hx hb dL_worths_273 (by decide) ?_
          exact J268 _ ((if_pos c268).symm)
      · have hlt : i < n := nIlt (by omega) (by omega) c28
        have hi : (i : Int) < ((Y 4).2.1 0).toInt := by rw [eNi]; omega
        have h20 : i < 20 := hw.n20 hi
        refine lv_iconst (v := 0) hx hb dL_worths_31 (by decide) ?_
        refine lv_istore (lv' := [(7, .int _), (6, .int _), (5, .int _), (4, .int _), (3, .int _), (2, .int _), (1, .int _), (0, .ref _)]) hx hb dL_worths_32 hl (by decide) rfl (fun ls hl => ?_)
        have L34 : ∀ (n34 : Nat) (sv : Nat), (sv ≤ 60) → (60 - sv < n34) → ∀ (ls : Array Slot), lv_has ls 12 [(7, .int (nI sv)), (6, .int (nI i)), (5, .int ((bsR (Y 4).2.1 (Y 4).2.2 i (bsA (Y 4).2.1 (Y 4).2.2 i) sv).2.1)), (4, .int ((bsR (Y 4).2.1 (Y 4).2.2 i (bsA (Y 4).2.1 (Y 4).2.2 i) sv).1)), (3, .int ((bsR (Y 4).2.1 (Y 4).2.2 i (bsA (Y 4).2.1 (Y 4).2.2 i) sv).2.2)), (2, .int (sp_X4_weeksLeft (Y 4).2.1 (Y 4).2.2)), (1, .int (nI n)), (0, .ref (h 0))] → W p l e (headSpec wsL_worths ({ frames := 7, cells := 0, slots := 0, locals := 151 } : Room)).room s m [.ref (h 0)].toArray below meth c s.heap [] 0 0 (MQ below (vp_Si (fun r => r = 1)) [.ref (h 0)].toArray s 0 0 (fun _ => False)) (F0 m 34 ls []) := by
          intro n34
          induction n34 with
          | zero => intro sv hs6 hm; exact absurd hm (by omega)
          | succ n34 ih34 =>
            intro sv hs6 hm ls hl
            refine lv_iload hx hb dL_worths_34 (lv_at hl 0 rfl) ?_
            refine lv_bipush (v := 60) hx hb dL_worths_36 (by decide) ?_
            refine lv_icmp_ge (tgt := 236) hx hb dL_worths_38 (by decide) (fun c38 => ?_) (fun c38 => ?_)
            · have e60 : sv = 60 := by have := nIge (k := 60) (by omega) (by decide) c38; omega
              subst e60
              refine lv_iinc (v := (nI (i + 1))) (lv' := [(6, .int _), (7, .int _), (5, .int _), (4, .int _), (3, .int _), (2, .int _), (1, .int _), (0, .ref _)]) hx hb dL_worths_236 hl (k := 1) rfl (by rw [← nI_add i 1]; rfl) (by decide) rfl (fun ls hl => ?_)
              refine lv_goto (tgt := 25) hx hb dL_worths_239 (by decide) ?_
              exact ih25 (i + 1)  (by omega) (by omega) _ (lv_sub hl [0, 2, 3, 4, 5, 6, 7] rfl)
            · have hs : sv < 60 := nIlt (by omega) (by decide) c38
              have K230 : ∀ ls : Array Slot, lv_has ls 12 [(7, .int (nI sv)), (6, .int (nI i)), (5, .int ((bsR (Y 4).2.1 (Y 4).2.2 i (bsA (Y 4).2.1 (Y 4).2.2 i) (sv + 1)).2.1)), (4, .int ((bsR (Y 4).2.1 (Y 4).2.2 i (bsA (Y 4).2.1 (Y 4).2.2 i) (sv + 1)).1)), (3, .int ((bsR (Y 4).2.1 (Y 4).2.2 i (bsA (Y 4).2.1 (Y 4).2.2 i) (sv + 1)).2.2)), (2, .int (sp_X4_weeksLeft (Y 4).2.1 (Y 4).2.2)), (1, .int (nI n)), (0, .ref (h 0))] → W p l e (headSpec wsL_worths ({ frames := 7, cells := 0, slots := 0, locals := 151 } : Room)).room s m [.ref (h 0)].toArray below meth c s.heap [] 0 0 (MQ below (vp_Si (fun r => r = 1)) [.ref (h 0)].toArray s 0 0 (fun _ => False)) (F0 m 230 ls []) := by
                intro ls hl
                refine lv_iinc (v := (nI (sv + 1))) (lv' := [(7, .int _), (6, .int _), (5, .int _), (4, .int _), (3, .int _), (2, .int _), (1, .int _), (0, .ref _)]) hx hb dL_worths_230 hl (k := 0) rfl (by rw [← nI_add sv 1]; rfl) (by decide) rfl (fun ls hl => ?_)
                refine lv_goto (tgt := 34) hx hb dL_worths_233 (by decide) ?_
                exact ih34 (sv + 1)  (by omega) (by omega) _ (lv_sub hl [0, 1, 2, 3, 4, 5, 6, 7] rfl)
              by_cases hc : sp_X4_canGo (Y 4).2.1 (Y 4).2.2 (nI i) (nI sv) = 0
              · have hnn : True := trivial
                refine lv_aload_n hx hb dL_worths_41 rfl (lv_at hl 7 rfl) ?_
                refine lv_iload hx hb dL_worths_42 (lv_at hl 1 rfl) ?_
                refine lv_iload hx hb dL_worths_44 (lv_at hl 0 rfl) ?_
                refine lv_iconst (v := 0) hx hb dL_worths_46 (by decide) ?_
                refine roV CF (c_X5_worth l D cI cC cW t h Y S q V z U y I (nI i) (nI sv) (0 : Int32) hw.sf) (cwV 3 hts gL_worths_X5_worth rfl rfl rfl (by decide +kernel) ⟨Nat.le_of_ble_eq_true rfl, Nat.le_of_ble_eq_true rfl⟩) hP hK hX hS 0 4 ps_0 rfl rfl hl.1 rfl (Nat.le_of_ble_eq_true rfl) dL_worths_47 ⟨Nat.zero_le _, Nat.zero_le _⟩ ?_
                refine lv_top_eq (y := (-2 : Int32)) ((wch hw hi hs (Or.inl rfl)).trans (if_pos hc)) ?_
                refine lv_istore (lv' := [(8, .int _), (7, .int _), (6, .int _), (5, .int _), (4, .int _), (3, .int _), (2, .int _), (1, .int _), (0, .ref _)]) hx hb dL_worths_50 hl (by decide) rfl (fun ls hl => ?_)
                rcases hw.sl.2 sv hs with hG | ⟨g, hg, hG, hsl⟩
                · have hnn : True := trivial
                  refine lv_aload_n hx hb dL_worths_52 rfl (lv_at hl 8 rfl) ?_
                  refine lv_iload hx hb dL_worths_53 (lv_at hl 1 rfl) ?_
                  refine lv_iconst (v := 0) hx hb dL_worths_55 (by decide) ?_
                  refine roV CF (c_X5_slotOf l D cI cC cW t h Y S q V z U y I (nI sv) (0 : Int32) ) (cwV 2 hts gL_worths_X5_slotOf rfl rfl rfl (by decide +kernel) ⟨Nat.le_of_ble_eq_true rfl, Nat.le_of_ble_eq_true rfl⟩) hP hK hX hS 0 4 ps_0 rfl rfl hl.1 rfl (Nat.le_of_ble_eq_true rfl) dL_worths_56 ⟨Nat.zero_le _, Nat.zero_le _⟩ ?_
                  refine lv_top_eq (y := (-4 : Int32)) ((rs0 hw hs).trans (if_pos hG)) ?_
                  refine lv_istore (lv' := [(9, .int _), (8, .int _), (7, .int _), (6, .int _), (5, .int _), (4, .int _), (3, .int _), (2, .int _), (1, .int _), (0, .ref _)]) hx hb dL_worths_59 hl (by decide) rfl (fun ls hl => ?_)
                  refine lv_iload hx hb dL_worths_61 (lv_at hl 1 rfl) ?_
                  refine lv_if_lt (tgt := 186) hx hb dL_worths_63 (by decide) (fun _ => ?_) (fun c9 => absurd (by decide) c9)
                  refine lv_iload hx hb dL_worths_186 (lv_at hl 1 rfl) ?_
                  refine lv_bipush (v := -2) hx hb dL_worths_188 (by decide) ?_
                  refine lv_icmp_ne (tgt := 228) hx hb dL_worths_190 (by decide) (fun c9 => absurd (by decide) c9) (fun _ => ?_)
                  rcases (hw.g hi).p with hp | ⟨f, hf, hp⟩
                  · have hnn : True := trivial
                    refine lv_aload_n hx hb dL_worths_193 rfl (lv_at hl 9 rfl) ?_
                    refine lv_iload hx hb dL_worths_194 (lv_at hl 3 rfl) ?_
                    refine lv_bipush (v := 6) hx hb dL_worths_196 (by decide) ?_
                    refine roV CF (c_X5_goodOf l D cI cC cW t h Y S q V z U y I (nI i) (6 : Int32) hw.sf) (cwV 2 hts gL_worths_X5_goodOf rfl rfl rfl (by decide +kernel) ⟨Nat.le_of_ble_eq_true rfl, Nat.le_of_ble_eq_true rfl⟩) hP hK hX hS 0 4 ps_0 rfl rfl hl.1 rfl (Nat.le_of_ble_eq_true rfl) dL_worths_198 ⟨Nat.zero_le _, Nat.zero_le _⟩ ?_
                    refine lv_top_eq (y := (-4 : Int32)) ((rd6 hw hi).trans (if_pos hp)) ?_
                    refine lv_if_lt (tgt := 230) hx hb dL_worths_201 (by decide) (fun _ => ?_) (fun c9 => absurd (by decide) c9)
                    rw [show (bsR (Y 4).2.1 (Y 4).2.2 i (bsA (Y 4).2.1 (Y 4).2.2 i) (sv + 1)) = (bsR (Y 4).2.1 (Y 4).2.2 i (bsA (Y 4).2.1 (Y 4).2.2 i) sv) from bsS_no hc] at K230
                    exact K230 _ (lv_sub hl [2, 3, 4, 5, 6, 7, 8, 9] rfl)
                  · have hpn : ¬ (Y 4).2.1 (22 + 11 * i) = -1 := by rw [hp]; exact nI_nm1 (by omega)
                    refine lv_aload_n hx hb dL_worths_193 rfl (lv_at hl 9 rfl) ?_
                    refine lv_iload hx hb dL_worths_194 (lv_at hl 3 rfl) ?_
                    refine lv_bipush (v := 6) hx hb dL_worths_196 (by decide) ?_
                    refine roV CF (c_X5_goodOf l D cI cC cW t h Y S q V z U y I (nI i) (6 : Int32) hw.sf) (cwV 2 hts gL_worths_X5_goodOf rfl rfl rfl (by decide +kernel) ⟨Nat.le_of_ble_eq_true rfl, Nat.le_of_ble_eq_true rfl⟩) hP hK hX hS 0 4 ps_0 rfl rfl hl.1 rfl (Nat.le_of_ble_eq_true rfl) dL_worths_198 ⟨Nat.zero_le _, Nat.zero_le _⟩ ?_
                    refine lv_top_eq (y := (nI f)) ((rd6 hw hi).trans ((if_neg hpn).trans hp)) ?_
                    refine lv_if_lt (tgt := 230) hx hb dL_worths_201 (by decide) (fun c9 => absurd c9 (nI_pos (by omega))) (fun _ => ?_)
                    refine lv_iload hx hb dL_worths_204 (lv_at hl 0 rfl) ?_
                    refine lv_bipush (v := -4) hx hb dL_worths_206 (by decide) ?_
                    refine lv_icmp_ne (tgt := 230) hx hb dL_worths_208 (by decide) (fun c9 => absurd (by decide) c9) (fun _ => ?_)
                    refine lv_aload_n hx hb dL_worths_211 rfl (lv_at hl 9 rfl) ?_
                    refine lv_iload hx hb dL_worths_212 (lv_at hl 2 rfl) ?_
                    refine lv_iconst (v := 2) hx hb dL_worths_214 (by decide) ?_
                    refine roV CF (c_X5_slotOf l D cI cC cW t h Y S q V z U y I (nI sv) (2 : Int32) ) (cwV 2 hts gL_worths_X5_slotOf rfl rfl rfl (by decide +kernel) ⟨Nat.le_of_ble_eq_true rfl, Nat.le_of_ble_eq_true rfl⟩) hP hK hX hS 0 4 ps_0 rfl rfl hl.1 rfl (Nat.le_of_ble_eq_true rfl) dL_worths_215 ⟨Nat.zero_le _, Nat.zero_le _⟩ ?_
                    refine lv_top_eq (y := (sp_X2_heaviestAt (nI sv))) (rs2 hs) ?_
                    refine lv_aload_n hx hb dL_worths_218 rfl (lv_at hl 9 rfl) ?_
                    refine lv_iload hx hb dL_worths_219 (lv_at hl 3 rfl) ?_
                    refine lv_iconst (v := 0) hx hb dL_worths_221 (by decide) ?_
                    refine roV CF (c_X5_goodOf l D cI cC cW t h Y S q V z U y I (nI i) (0 : Int32) hw.sf) (cwV 2 hts gL_worths_X5_goodOf rfl rfl rfl (by decide +kernel) ⟨Nat.le_of_ble_eq_true rfl, Nat.le_of_ble_eq_true rfl⟩) hP hK hX hS 0 4 ps_0 rfl rfl hl.1 rfl (Nat.le_of_ble_eq_true rfl) dL_worths_222 ⟨Nat.zero_le _, Nat.zero_le _⟩ ?_
                    refine lv_top_eq (y := ((Y 4).2.1 (16 + 11 * i))) (rd0 hw.sf hi) ?_
                    refine lv_icmp_lt (tgt := 230) hx hb dL_worths_225 (by decide) (fun _ => ?_) (fun c9 => absurd (nle_lt (fun w => canGo_free hw hi hs hG hf hp w hc)) c9)
                    rw [show (bsR (Y 4).2.1 (Y 4).2.2 i (bsA (Y 4).2.1 (Y 4).2.2 i) (sv + 1)) = (bsR (Y 4).2.1 (Y 4).2.2 i (bsA (Y 4).2.1 (Y 4).2.2 i) sv) from bsS_no hc] at K230
                    exact K230 _ (lv_sub hl [2, 3, 4, 5, 6, 7, 8, 9] rfl)
                · have hg20 := hw.n20 hg
                  refine lv_aload_n hx hb dL_worths_52 rfl (lv_at hl 8 rfl) ?_
                  refine lv_iload hx hb dL_worths_53 (lv_at hl 1 rfl) ?_
                  refine lv_iconst (v := 0) hx hb dL_worths_55 (by decide) ?_
                  refine roV CF (c_X5_slotOf l D cI cC cW t h Y S q V z U y I (nI sv) (0 : Int32) ) (cwV 2 hts gL_worths_X5_slotOf rfl rfl rfl (by decide +kernel) ⟨Nat.le_of_ble_eq_true rfl, Nat.le_of_ble_eq_true rfl⟩) hP hK hX hS 0 4 ps_0 rfl rfl hl.1 rfl (Nat.le_of_ble_eq_true rfl) dL_worths_56 ⟨Nat.zero_le _, Nat.zero_le _⟩ ?_
                  refine lv_top_eq (y := (nI g)) ((rs0 hw hs).trans ((if_neg (by rw [hG]; exact nI_nm1 (by omega))).trans hG)) ?_
                  refine lv_istore (lv' := [(9, .int _), (8, .int _), (7, .int _), (6, .int _), (5, .int _), (4, .int _), (3, .int _), (2, .int _), (1, .int _), (0, .ref _)]) hx hb dL_worths_59 hl (by decide) rfl (fun ls hl => ?_)
                  refine lv_iload hx hb dL_worths_61 (lv_at hl 1 rfl) ?_
                  refine lv_if_lt (tgt := 186) hx hb dL_worths_63 (by decide) (fun _ => ?_) (fun c9 => absurd (by decide) c9)
                  refine lv_iload hx hb dL_worths_186 (lv_at hl 1 rfl) ?_
                  refine lv_bipush (v := -2) hx hb dL_worths_188 (by decide) ?_
                  refine lv_icmp_ne (tgt := 228) hx hb dL_worths_190 (by decide) (fun c9 => absurd (by decide) c9) (fun _ => ?_)
                  rcases (hw.g hi).p with hp | ⟨f, hf, hp⟩
                  · have hnn : True := trivial
                    refine lv_aload_n hx hb dL_worths_193 rfl (lv_at hl 9 rfl) ?_
                    refine lv_iload hx hb dL_worths_194 (lv_at hl 3 rfl) ?_
                    refine lv_bipush (v := 6) hx hb dL_worths_196 (by decide) ?_
                    refine roV CF (c_X5_goodOf l D cI cC cW t h Y S q V z U y I (nI i) (6 : Int32) hw.sf) (cwV 2 hts gL_worths_X5_goodOf rfl rfl rfl (by decide +kernel) ⟨Nat.le_of_ble_eq_true rfl, Nat.le_of_ble_eq_true rfl⟩) hP hK hX hS 0 4 ps_0 rfl rfl hl.1 rfl (Nat.le_of_ble_eq_true rfl) dL_worths_198 ⟨Nat.zero_le _, Nat.zero_le _⟩ ?_
                    refine lv_top_eq (y := (-4 : Int32)) ((rd6 hw hi).trans (if_pos hp)) ?_
                    refine lv_if_lt (tgt := 230) hx hb dL_worths_201 (by decide) (fun _ => ?_) (fun c9 => absurd (by decide) c9)
                    rw [show (bsR (Y 4).2.1 (Y 4).2.2 i (bsA (Y 4).2.1 (Y 4).2.2 i) (sv + 1)) = (bsR (Y 4).2.1 (Y 4).2.2 i (bsA (Y 4).2.1 (Y 4).2.2 i) sv) from bsS_no hc] at K230
                    exact K230 _ (lv_sub hl [2, 3, 4, 5, 6, 7, 8, 9] rfl)
                  · have hpn : ¬ (Y 4).2.1 (22 + 11 * i) = -1 := by rw [hp]; exact nI_nm1 (by omega)
                    refine lv_aload_n hx hb dL_worths_193 rfl (lv_at hl 9 rfl) ?_
                    refine lv_iload hx hb dL_worths_194 (lv_at hl 3 rfl) ?_
                    refine lv_bipush (v := 6) hx hb dL_worths_196 (by decide) ?_
                    refine roV CF (c_X5_goodOf l D cI cC cW t h Y S q V z U y I (nI i) (6 : Int32) hw.sf) (cwV 2 hts gL_worths_X5_goodOf rfl rfl rfl (by decide +kernel) ⟨Nat.le_of_ble_eq_true rfl, Nat.le_of_ble_eq_true rfl⟩) hP hK hX hS 0 4 ps_0 rfl rfl hl.1 rfl (Nat.le_of_ble_eq_true rfl) dL_worths_198 ⟨Nat.zero_le _, Nat.zero_le _⟩ ?_
                    refine lv_top_eq (y := (nI f)) ((rd6 hw hi).trans ((if_neg hpn).trans hp)) ?_
                    refine lv_if_lt (tgt := 230) hx hb dL_worths_201 (by decide) (fun c9 => absurd c9 (nI_pos (by omega))) (fun _ => ?_)
                    refine lv_iload hx hb dL_worths_204 (lv_at hl 0 rfl) ?_
                    refine lv_bipush (v := -4) hx hb dL_worths_206 (by decide) ?_
                    refine lv_icmp_ne (tgt := 230) hx hb dL_worths_208 (by decide) (fun _ => ?_) (fun c9 => absurd c9 (nI_nm4 (by omega)))
                    rw [show (bsR (Y 4).2.1 (Y 4).2.2 i (bsA (Y 4).2.1 (Y 4).2.2 i) (sv + 1)) = (bsR (Y 4).2.1 (Y 4).2.2 i (bsA (Y 4).2.1 (Y 4).2.2 i) sv) from bsS_no hc] at K230
                    exact K230 _ (lv_sub hl [2, 3, 4, 5, 6, 7, 8, 9] rfl)
              · obtain ⟨f, hf, hp⟩ := pgo_p hw hi hc
                have hpn : ¬ (Y 4).2.1 (22 + 11 * i) = -1 := by rw [hp]; exact nI_nm1 (by omega)
                refine lv_aload_n hx hb dL_worths_41 rfl (lv_at hl 7 rfl) ?_
                refine lv_iload hx hb dL_worths_42 (lv_at hl 1 rfl) ?_
                refine lv_iload hx hb dL_worths_44 (lv_at hl 0 rfl) ?_
                refine lv_iconst (v := 0) hx hb dL_worths_46 (by decide) ?_
                refine roV CF (c_X5_worth l D cI cC cW t h Y S q V z U y I (nI i) (nI sv) (0 : Int32) hw.sf) (cwV 3 hts gL_worths_X5_worth rfl rfl rfl (by decide +kernel) ⟨Nat.le_of_ble_eq_true rfl, Nat.le_of_ble_eq_true rfl⟩) hP hK hX hS 0 4 ps_0 rfl rfl hl.1 rfl (Nat.le_of_ble_eq_true rfl) dL_worths_47 ⟨Nat.zero_le _, Nat.zero_le _⟩ ?_
                refine lv_top_eq (y := ((100000000 : Int32) + (sp_X4_worthOfGoing (Y 4).2.1 (Y 4).2.2 (nI i) (nI sv)))) ((wch hw hi hs (Or.inl rfl)).trans ((if_neg hc).trans ((if_neg (by decide)).trans (if_pos rfl)))) ?_
                refine lv_istore (lv' := [(8, .int _), (7, .int _), (6, .int _), (5, .int _), (4, .int _), (3, .int _), (2, .int _), (1, .int _), (0, .ref _)]) hx hb dL_worths_50 hl (by decide) rfl (fun ls hl => ?_)
                rcases hw.sl.2 sv hs with hG | ⟨g, hg, hG, hsl⟩
                · have hnn : True := trivial
                  refine lv_aload_n hx hb dL_worths_52 rfl (lv_at hl 8 rfl) ?_
                  refine lv_iload hx hb dL_worths_53 (lv_at hl 1 rfl) ?_
                  refine lv_iconst (v := 0) hx hb dL_worths_55 (by decide) ?_
                  refine roV CF (c_X5_slotOf l D cI cC cW t h Y S q V z U y I (nI sv) (0 : Int32) ) (cwV 2 hts gL_worths_X5_slotOf rfl rfl rfl (by decide +kernel) ⟨Nat.le_of_ble_eq_true rfl, Nat.le_of_ble_eq_true rfl⟩) hP hK hX hS 0 4 ps_0 rfl rfl hl.1 rfl (Nat.le_of_ble_eq_true rfl) dL_worths_56 ⟨Nat.zero_le _, Nat.zero_le _⟩ ?_
                  refine lv_top_eq (y := (-4 : Int32)) ((rs0 hw hs).trans (if_pos hG)) ?_
                  refine lv_istore (lv' := [(9, .int _), (8, .int _), (7, .int _), (6, .int _), (5, .int _), (4, .int _), (3, .int _), (2, .int _), (1, .int _), (0, .ref _)]) hx hb dL_worths_59 hl (by decide) rfl (fun ls hl => ?_)
                  refine lv_iload hx hb dL_worths_61 (lv_at hl 1 rfl) ?_
                  refine lv_if_lt (tgt := 186) hx hb dL_worths_63 (by decide) (fun c9 => absurd c9 (lt_le (wth_n hw hi hs hc))) (fun _ => ?_)
                  refine lv_aload_n hx hb dL_worths_66 rfl (lv_at hl 9 rfl) ?_
                  refine lv_iload hx hb dL_worths_67 (lv_at hl 3 rfl) ?_
                  refine lv_iload hx hb dL_worths_69 (lv_at hl 2 rfl) ?_
                  refine lv_iconst (v := 1) hx hb dL_worths_71 (by decide) ?_
                  refine roV CF (c_X5_worth l D cI cC cW t h Y S q V z U y I (nI i) (nI sv) (1 : Int32) hw.sf) (cwV 3 hts gL_worths_X5_worth rfl rfl rfl (by decide +kernel) ⟨Nat.le_of_ble_eq_true rfl, Nat.le_of_ble_eq_true rfl⟩) hP hK hX hS 0 4 ps_0 rfl rfl hl.1 rfl (Nat.le_of_ble_eq_true rfl) dL_worths_72 ⟨Nat.zero_le _, Nat.zero_le _⟩ ?_
                  refine lv_top_eq (y := ((100000000 : Int32) + (sp_X4_savedByGoing (Y 4).2.1 (Y 4).2.2 (nI i) (nI sv)))) ((wch hw hi hs (Or.inr (Or.inl rfl))).trans ((if_neg hc).trans ((if_neg (by decide)).trans (if_neg (by decide))))) ?_
                  refine lv_ldc hx hb hown wd1 dL_worths_75 ?_
                  refine lv_isub hx hb dL_worths_77 ?_
                  refine lv_istore (lv' := [(10, .int _), (9, .int _), (8, .int _), (7, .int _), (6, .int _), (5, .int _), (4, .int _), (3, .int _), (2, .int _), (1, .int _), (0, .ref _)]) hx hb dL_worths_78 hl (by decide) rfl (fun ls hl => ?_)
                  refine lv_iload hx hb dL_worths_80 (lv_at hl 0 rfl) ?_
                  refine lv_iload_n hx hb dL_worths_82 rfl (lv_at hl 8 rfl) ?_
                  refine lv_imul hx hb dL_worths_83 ?_
                  refine lv_aload_n hx hb dL_worths_84 rfl (lv_at hl 10 rfl) ?_
                  refine lv_iload hx hb dL_worths_85 (lv_at hl 4 rfl) ?_
                  refine lv_iload hx hb dL_worths_87 (lv_at hl 3 rfl) ?_
                  refine lv_iconst (v := 2) hx hb dL_worths_89 (by decide) ?_
                  refine roV CF (c_X5_worth l D cI cC cW t h Y S q V z U y I (nI i) (nI sv) (2 : Int32) hw.sf) (cwV 3 hts gL_worths_X5_worth rfl rfl rfl (by decide +kernel) ⟨Nat.le_of_ble_eq_true rfl, Nat.le_of_ble_eq_true rfl⟩) hP hK hX hS 0 4 ps_0 rfl rfl hl.1 rfl (Nat.le_of_ble_eq_true rfl) dL_worths_90 ⟨Nat.zero_le _, Nat.zero_le _⟩ ?_
                  refine lv_top_eq (y := (sp_X4_walkOfGoing (Y 4).2.1 (Y 4).2.2 (nI i) (nI sv))) ((wch hw hi hs (Or.inr (Or.inr rfl))).trans ((if_neg hc).trans (if_pos rfl))) ?_
                  refine lv_isub hx hb dL_worths_93 ?_
                  refine lv_top_eq (y := (sp_X4_worthOfGoing (Y 4).2.1 (Y 4).2.2 (nI i) (nI sv))) due_w ?_
                  refine lv_istore (lv' := [(11, .int _), (10, .int _), (9, .int _), (8, .int _), (7, .int _), (6, .int _), (5, .int _), (4, .int _), (3, .int _), (2, .int _), (1, .int _), (0, .ref _)]) hx hb dL_worths_94 hl (by decide) rfl (fun ls hl => ?_)
                  refine lv_iload hx hb dL_worths_96 (lv_at hl 3 rfl) ?_
                  refine lv_ldc hx hb hown wd1 dL_worths_98 ?_
                  refine lv_isub hx hb dL_worths_100 ?_
                  refine lv_iload hx hb dL_worths_101 (lv_at hl 0 rfl) ?_
                  refine lv_icmp_ne (tgt := 138) hx hb dL_worths_103 (by decide) (fun c9 => absurd up8 c9) (fun _ => ?_)
                  refine lv_iload hx hb dL_worths_106 (lv_at hl 2 rfl) ?_
                  refine lv_if_lt (tgt := 131) hx hb dL_worths_108 (by decide) (fun _ => ?_) (fun c9 => absurd (by decide) c9)
                  refine lv_iload hx hb dL_worths_131 (lv_at hl 2 rfl) ?_
                  refine lv_iload hx hb dL_worths_133 (lv_at hl 5 rfl) ?_
                  refine lv_icmp_ne (tgt := 140) hx hb dL_worths_135 (by decide) (fun _ => ?_) (fun c9 => absurd c9 (fun w => nI_nm4 (i := i) (by omega) w.symm))
                  refine lv_iload hx hb dL_worths_140 (lv_at hl 0 rfl) ?_
                  refine lv_iload_n hx hb dL_worths_142 rfl (lv_at hl 8 rfl) ?_
                  have J143 : ∀ v143 : Int32, v143 = (if ((sp_X4_worthOfGoing (Y 4).2.1 (Y 4).2.2 (nI i) (nI sv)) ≤ (bsR (Y 4).2.1 (Y 4).2.2 i (bsA (Y 4).2.1 (Y 4).2.2 i) sv).2.2) then (bsR (Y 4).2.1 (Y 4).2.2 i (bsA (Y 4).2.1 (Y 4).2.2 i) sv).1 else (nI i)) → W p l e (headSpec wsL_worths ({ frames := 7, cells := 0, slots := 0, locals := 151 } : Room)).room s m [.ref (h 0)].toArray below meth c s.heap [] 0 0 (MQ below (vp_Si (fun r => r = 1)) [.ref (h 0)].toArray s 0 0 (fun _ => False)) (F0 m 153 ls [.int v143]) := by
                    intro v143 ev143
                    refine lv_istore (lv' := [(4, .int _), (11, .int _), (10, .int _), (9, .int _), (8, .int _), (7, .int _), (6, .int _), (5, .int _), (3, .int _), (2, .int _), (1, .int _), (0, .ref _)]) hx hb dL_worths_153 hl (by decide) rfl (fun ls hl => ?_)
                    refine lv_iload hx hb dL_worths_155 (lv_at hl 1 rfl) ?_
                    refine lv_iload_n hx hb dL_worths_157 rfl (lv_at hl 8 rfl) ?_
                    have J158 : ∀ v158 : Int32, v158 = (if ((sp_X4_worthOfGoing (Y 4).2.1 (Y 4).2.2 (nI i) (nI sv)) ≤ (bsR (Y 4).2.1 (Y 4).2.2 i (bsA (Y 4).2.1 (Y 4).2.2 i) sv).2.2) then (bsR (Y 4).2.1 (Y 4).2.2 i (bsA (Y 4).2.1 (Y 4).2.2 i) sv).2.1 else (nI sv)) → W p l e (headSpec wsL_worths ({ frames := 7, cells := 0, slots := 0, locals := 151 } : Room)).room s m [.ref (h 0)].toArray below meth c s.heap [] 0 0 (MQ below (vp_Si (fun r => r = 1)) [.ref (h 0)].toArray s 0 0 (fun _ => False)) (F0 m 168 ls [.int v158]) := by
                      intro v158 ev158
                      refine lv_istore (lv' := [(5, .int _), (4, .int _), (11, .int _), (10, .int _), (9, .int _), (8, .int _), (7, .int _), (6, .int _), (3, .int _), (2, .int _), (1, .int _), (0, .ref _)]) hx hb dL_worths_168 hl (by decide) rfl (fun ls hl => ?_)
                      refine lv_iload hx hb dL_worths_170 (lv_at hl 2 rfl) ?_
                      refine lv_iload_n hx hb dL_worths_172 rfl (lv_at hl 8 rfl) ?_
                      have J173 : ∀ v173 : Int32, v173 = (if ((sp_X4_worthOfGoing (Y 4).2.1 (Y 4).2.2 (nI i) (nI sv)) ≤ (bsR (Y 4).2.1 (Y 4).2.2 i (bsA (Y 4).2.1 (Y 4).2.2 i) sv).2.2) then (bsR (Y 4).2.1 (Y 4).2.2 i (bsA (Y 4).2.1 (Y 4).2.2 i) sv).2.2 else (sp_X4_worthOfGoing (Y 4).2.1 (Y 4).2.2 (nI i) (nI sv))) → W p l e (headSpec wsL_worths ({ frames := 7, cells := 0, slots := 0, locals := 151 } : Room)).room s m [.ref (h 0)].toArray below meth c s.heap [] 0 0 (MQ below (vp_Si (fun r => r = 1)) [.ref (h 0)].toArray s 0 0 (fun _ => False)) (F0 m 182 ls [.int v173]) := by
                        intro v173 ev173
                        refine lv_istore_n (lv' := [(3, .int _), (5, .int _), (4, .int _), (11, .int _), (10, .int _), (9, .int _), (8, .int _), (7, .int _), (6, .int _), (2, .int _), (1, .int _), (0, .ref _)]) hx hb dL_worths_182 rfl hl (by decide) rfl (fun ls hl => ?_)
                        refine lv_goto (tgt := 230) hx hb dL_worths_183 (by decide) ?_
                        have q1 : v143 = (bsR (Y 4).2.1 (Y 4).2.2 i (bsA (Y 4).2.1 (Y 4).2.2 i) (sv + 1)).1 := by rw [ev143, bsS_yes hc]; split <;> rfl
                        have q2 : v158 = (bsR (Y 4).2.1 (Y 4).2.2 i (bsA (Y 4).2.1 (Y 4).2.2 i) (sv + 1)).2.1 := by rw [ev158, bsS_yes hc]; split <;> rfl
                        have q3 : v173 = (bsR (Y 4).2.1 (Y 4).2.2 i (bsA (Y 4).2.1 (Y 4).2.2 i) (sv + 1)).2.2 := by rw [ev173, bsS_yes hc]; split <;> rfl
                        rw [q1, q2, q3] at hl
                        exact K230 _ (lv_sub hl [7, 8, 1, 2, 0, 9, 10, 11] rfl)
                      refine lv_icmp_le (tgt := 181) hx hb dL_worths_173 (by decide) (fun c173 => ?_) (fun c173 => ?_)
                      · refine lv_iload_n hx hb dL_worths_181 rfl (lv_at hl 8 rfl) ?_
                        exact J173 _ ((if_pos c173).symm)
                      · refine lv_iload hx hb dL_worths_176 (lv_at hl 2 rfl) ?_
                        refine lv_goto (tgt := 182) hx hb dL_worths_178 (by decide) ?_
                        exact J173 _ ((if_neg c173).symm)
                    refine lv_icmp_le (tgt := 166) hx hb dL_worths_158 (by decide) (fun c158 => ?_) (fun c158 => ?_)
                    · refine lv_iload hx hb dL_worths_166 (lv_at hl 7 rfl) ?_
                      exact J158 _ ((if_pos c158).symm)
                    · refine lv_iload hx hb dL_worths_161 (lv_at hl 5 rfl) ?_
                      refine lv_goto (tgt := 168) hx hb dL_worths_163 (by decide) ?_
                      exact J158 _ ((if_neg c158).symm)
                  refine lv_icmp_le (tgt := 151) hx hb dL_worths_143 (by decide) (fun c143 => ?_) (fun c143 => ?_)
                  · refine lv_iload hx hb dL_worths_151 (lv_at hl 7 rfl) ?_
                    exact J143 _ ((if_pos c143).symm)
                  · refine lv_iload hx hb dL_worths_146 (lv_at hl 5 rfl) ?_
                    refine lv_goto (tgt := 153) hx hb dL_worths_148 (by decide) ?_
                    exact J143 _ ((if_neg c143).symm)
                · have hg20 := hw.n20 hg
                  refine lv_aload_n hx hb dL_worths_52 rfl (lv_at hl 8 rfl) ?_
                  refine lv_iload hx hb dL_worths_53 (lv_at hl 1 rfl) ?_
                  refine lv_iconst (v := 0) hx hb dL_worths_55 (by decide) ?_
                  refine roV CF (c_X5_slotOf l D cI cC cW t h Y S q V z U y I (nI sv) (0 : Int32) ) (cwV 2 hts gL_worths_X5_slotOf rfl rfl rfl (by decide +kernel) ⟨Nat.le_of_ble_eq_true rfl, Nat.le_of_ble_eq_true rfl⟩) hP hK hX hS 0 4 ps_0 rfl rfl hl.1 rfl (Nat.le_of_ble_eq_true rfl) dL_worths_56 ⟨Nat.zero_le _, Nat.zero_le _⟩ ?_
                  refine lv_top_eq (y := (nI g)) ((rs0 hw hs).trans ((if_neg (by rw [hG]; exact nI_nm1 (by omega))).trans hG)) ?_
                  refine lv_istore (lv' := [(9, .int _), (8, .int _), (7, .int _), (6, .int _), (5, .int _), (4, .int _), (3, .int _), (2, .int _), (1, .int _), (0, .ref _)]) hx hb dL_worths_59 hl (by decide) rfl (fun ls hl => ?_)
                  refine lv_iload hx hb dL_worths_61 (lv_at hl 1 rfl) ?_
                  refine lv_if_lt (tgt := 186) hx hb dL_worths_63 (by decide) (fun c9 => absurd c9 (lt_le (wth_n hw hi hs hc))) (fun _ => ?_)
                  refine lv_aload_n hx hb dL_worths_66 rfl (lv_at hl 9 rfl) ?_
                  refine lv_iload hx hb dL_worths_67 (lv_at hl 3 rfl) ?_
                  refine lv_iload hx hb dL_worths_69 (lv_at hl 2 rfl) ?_
                  refine lv_iconst (v := 1) hx hb dL_worths_71 (by decide) ?_
                  refine roV CF (c_X5_worth l D cI cC cW t h Y S q V z U y I (nI i) (nI sv) (1 : Int32) hw.sf) (cwV 3 hts gL_worths_X5_worth rfl rfl rfl (by decide +kernel) ⟨Nat.le_of_ble_eq_true rfl, Nat.le_of_ble_eq_true rfl⟩) hP hK hX hS 0 4 ps_0 rfl rfl hl.1 rfl (Nat.le_of_ble_eq_true rfl) dL_worths_72 ⟨Nat.zero_le _, Nat.zero_le _⟩ ?_
                  refine lv_top_eq (y := ((100000000 : Int32) + (sp_X4_savedByGoing (Y 4).2.1 (Y 4).2.2 (nI i) (nI sv)))) ((wch hw hi hs (Or.inr (Or.inl rfl))).trans ((if_neg hc).trans ((if_neg (by decide)).trans (if_neg (by decide))))) ?_
                  refine lv_ldc hx hb hown wd1 dL_worths_75 ?_
                  refine lv_isub hx hb dL_worths_77 ?_
                  refine lv_istore (lv' := [(10, .int _), (9, .int _), (8, .int _), (7, .int _), (6, .int _), (5, .int _), (4, .int _), (3, .int _), (2, .int _), (1, .int _), (0, .ref _)]) hx hb dL_worths_78 hl (by decide) rfl (fun ls hl => ?_)
                  refine lv_iload hx hb dL_worths_80 (lv_at hl 0 rfl) ?_
                  refine lv_iload_n hx hb dL_worths_82 rfl (lv_at hl 8 rfl) ?_
                  refine lv_imul hx hb dL_worths_83 ?_
                  refine lv_aload_n hx hb dL_worths_84 rfl (lv_at hl 10 rfl) ?_
                  refine lv_iload hx hb dL_worths_85 (lv_at hl 4 rfl) ?_
                  refine lv_iload hx hb dL_worths_87 (lv_at hl 3 rfl) ?_
                  refine lv_iconst (v := 2) hx hb dL_worths_89 (by decide) ?_
                  refine roV CF (c_X5_worth l D cI cC cW t h Y S q V z U y I (nI i) (nI sv) (2 : Int32) hw.sf) (cwV 3 hts gL_worths_X5_worth rfl rfl rfl (by decide +kernel) ⟨Nat.le_of_ble_eq_true rfl, Nat.le_of_ble_eq_true rfl⟩) hP hK hX hS 0 4 ps_0 rfl rfl hl.1 rfl (Nat.le_of_ble_eq_true rfl) dL_worths_90 ⟨Nat.zero_le _, Nat.zero_le _⟩ ?_
                  refine lv_top_eq (y := (sp_X4_walkOfGoing (Y 4).2.1 (Y 4).2.2 (nI i) (nI sv))) ((wch hw hi hs (Or.inr (Or.inr rfl))).trans ((if_neg hc).trans (if_pos rfl))) ?_
                  refine lv_isub hx hb dL_worths_93 ?_
                  refine lv_top_eq (y := (sp_X4_worthOfGoing (Y 4).2.1 (Y 4).2.2 (nI i) (nI sv))) due_w ?_
                  refine lv_istore (lv' := [(11, .int _), (10, .int _), (9, .int _), (8, .int _), (7, .int _), (6, .int _), (5, .int _), (4, .int _), (3, .int _), (2, .int _), (1, .int _), (0, .ref _)]) hx hb dL_worths_94 hl (by decide) rfl (fun ls hl => ?_)
                  refine lv_iload hx hb dL_worths_96 (lv_at hl 3 rfl) ?_
                  refine lv_ldc hx hb hown wd1 dL_worths_98 ?_
                  refine lv_isub hx hb dL_worths_100 ?_
                  refine lv_iload hx hb dL_worths_101 (lv_at hl 0 rfl) ?_
                  refine lv_icmp_ne (tgt := 138) hx hb dL_worths_103 (by decide) (fun c9 => absurd up8 c9) (fun _ => ?_)
                  refine lv_iload hx hb dL_worths_106 (lv_at hl 2 rfl) ?_
                  refine lv_if_lt (tgt := 131) hx hb dL_worths_108 (by decide) (fun c9 => absurd c9 (nI_pos (by omega))) (fun _ => ?_)
                  have xs := ex_sym hw hi hs hg hG hsl hf hp hc
                  refine lv_aload_n hx hb dL_worths_111 rfl (lv_at hl 11 rfl) ?_
                  refine lv_iload hx hb dL_worths_112 (lv_at hl 2 rfl) ?_
                  refine lv_aload_n hx hb dL_worths_114 rfl (lv_at hl 11 rfl) ?_
                  refine lv_iload hx hb dL_worths_115 (lv_at hl 5 rfl) ?_
                  refine lv_bipush (v := 6) hx hb dL_worths_117 (by decide) ?_
                  refine roV CF (c_X5_goodOf l D cI cC cW t h Y S q V z U y I (nI i) (6 : Int32) hw.sf) (cwV 2 hts gL_worths_X5_goodOf rfl rfl rfl (by decide +kernel) ⟨Nat.le_of_ble_eq_true rfl, Nat.le_of_ble_eq_true rfl⟩) hP hK hX hS 0 4 ps_0 rfl rfl hl.1 rfl (Nat.le_of_ble_eq_true rfl) dL_worths_119 ⟨Nat.zero_le _, Nat.zero_le _⟩ ?_
                  refine lv_top_eq (y := (nI f)) ((rd6 hw hi).trans ((if_neg hpn).trans hp)) ?_
                  refine lv_iconst (v := 0) hx hb dL_worths_122 (by decide) ?_
                  refine roV CF (c_X5_worth l D cI cC cW t h Y S q V z U y I (nI g) (nI f) (0 : Int32) hw.sf) (cwV 3 hts gL_worths_X5_worth rfl rfl rfl (by decide +kernel) ⟨Nat.le_of_ble_eq_true rfl, Nat.le_of_ble_eq_true rfl⟩) hP hK hX hS 0 4 ps_0 rfl rfl hl.1 rfl (Nat.le_of_ble_eq_true rfl) dL_worths_123 ⟨Nat.zero_le _, Nat.zero_le _⟩ ?_
                  refine lv_top_eq (y := ((100000000 : Int32) + (sp_X4_worthOfGoing (Y 4).2.1 (Y 4).2.2 (nI i) (nI sv)))) ((wch hw hg hf (Or.inl rfl)).trans ((if_neg xs.1).trans ((if_neg (by decide)).trans ((if_pos rfl).trans (by rw [xs.2.1]))))) ?_
                  refine lv_iload hx hb dL_worths_126 (lv_at hl 3 rfl) ?_
                  refine lv_icmp_ne (tgt := 138) hx hb dL_worths_128 (by decide) (fun c9 => absurd rfl c9) (fun _ => ?_)
                  refine lv_iload hx hb dL_worths_131 (lv_at hl 2 rfl) ?_
                  refine lv_iload hx hb dL_worths_133 (lv_at hl 5 rfl) ?_
                  refine lv_icmp_ne (tgt := 140) hx hb dL_worths_135 (by decide) (fun _ => ?_) (fun c9 => absurd c9 (fun w => xs.2.2 (nI_inj (by omega) (by omega) w)))
                  refine lv_iload hx hb dL_worths_140 (lv_at hl 0 rfl) ?_
                  refine lv_iload_n hx hb dL_worths_142 rfl (lv_at hl 8 rfl) ?_
                  have J143 : ∀ v143 : Int32, v143 = (if ((sp_X4_worthOfGoing (Y 4).2.1 (Y 4).2.2 (nI i) (nI sv)) ≤ (bsR (Y 4).2.1 (Y 4).2.2 i (bsA (Y 4).2.1 (Y 4).2.2 i) sv).2.2) then (bsR (Y 4).2.1 (Y 4).2.2 i (bsA (Y 4).2.1 (Y 4).2.2 i) sv).1 else (nI i)) → W p l e (headSpec wsL_worths ({ frames := 7, cells := 0, slots := 0, locals := 151 } : Room)).room s m [.ref (h 0)].toArray below meth c s.heap [] 0 0 (MQ below (vp_Si (fun r => r = 1)) [.ref (h 0)].toArray s 0 0 (fun _ => False)) (F0 m 153 ls [.int v143]) := by
                    intro v143 ev143
                    refine lv_istore (lv' := [(4, .int _), (11, .int _), (10, .int _), (9, .int _), (8, .int _), (7, .int _), (6, .int _), (5, .int _), (3, .int _), (2, .int _), (1, .int _), (0, .ref _)]) hx hb dL_worths_153 hl (by decide) rfl (fun ls hl => ?_)
                    refine lv_iload hx hb dL_worths_155 (lv_at hl 1 rfl) ?_
                    refine lv_iload_n hx hb dL_worths_157 rfl (lv_at hl 8 rfl) ?_
                    have J158 : ∀ v158 : Int32, v158 = (if ((sp_X4_worthOfGoing (Y 4).2.1 (Y 4).2.2 (nI i) (nI sv)) ≤ (bsR (Y 4).2.1 (Y 4).2.2 i (bsA (Y 4).2.1 (Y 4).2.2 i) sv).2.2) then (bsR (Y 4).2.1 (Y 4).2.2 i (bsA (Y 4).2.1 (Y 4).2.2 i) sv).2.1 else (nI sv)) → W p l e (headSpec wsL_worths ({ frames := 7, cells := 0, slots := 0, locals := 151 } : Room)).room s m [.ref (h 0)].toArray below meth c s.heap [] 0 0 (MQ below (vp_Si (fun r => r = 1)) [.ref (h 0)].toArray s 0 0 (fun _ => False)) (F0 m 168 ls [.int v158]) := by
                      intro v158 ev158
                      refine lv_istore (lv' := [(5, .int _), (4, .int _), (11, .int _), (10, .int _), (9, .int _), (8, .int _), (7, .int _), (6, .int _), (3, .int _), (2, .int _), (1, .int _), (0, .ref _)]) hx hb dL_worths_168 hl (by decide) rfl (fun ls hl => ?_)
                      refine lv_iload hx hb dL_worths_170 (lv_at hl 2 rfl) ?_
                      refine lv_iload_n hx hb dL_worths_172 rfl (lv_at hl 8 rfl) ?_
                      have J173 : ∀ v173 : Int32, v173 = (if ((sp_X4_worthOfGoing (Y 4).2.1 (Y 4).2.2 (nI i) (nI sv)) ≤ (bsR (Y 4).2.1 (Y 4).2.2 i (bsA (Y 4).2.1 (Y 4).2.2 i) sv).2.2) then (bsR (Y 4).2.1 (Y 4).2.2 i (bsA (Y 4).2.1 (Y 4).2.2 i) sv).2.2 else (sp_X4_worthOfGoing (Y 4).2.1 (Y 4).2.2 (nI i) (nI sv))) → W p l e (headSpec wsL_worths ({ frames := 7, cells := 0, slots := 0, locals := 151 } : Room)).room s m [.ref (h 0)].toArray below meth c s.heap [] 0 0 (MQ below (vp_Si (fun r => r = 1)) [.ref (h 0)].toArray s 0 0 (fun _ => False)) (F0 m 182 ls [.int v173]) := by
                        intro v173 ev173
                        refine lv_istore_n (lv' := [(3, .int _), (5, .int _), (4, .int _), (11, .int _), (10, .int _), (9, .int _), (8, .int _), (7, .int _), (6, .int _), (2, .int _), (1, .int _), (0, .ref _)]) hx hb dL_worths_182 rfl hl (by decide) rfl (fun ls hl => ?_)
                        refine lv_goto (tgt := 230) hx hb dL_worths_183 (by decide) ?_
                        have q1 : v143 = (bsR (Y 4).2.1 (Y 4).2.2 i (bsA (Y 4).2.1 (Y 4).2.2 i) (sv + 1)).1 := by rw [ev143, bsS_yes hc]; split <;> rfl
                        have q2 : v158 = (bsR (Y 4).2.1 (Y 4).2.2 i (bsA (Y 4).2.1 (Y 4).2.2 i) (sv + 1)).2.1 := by rw [ev158, bsS_yes hc]; split <;> rfl
                        have q3 : v173 = (bsR (Y 4).2.1 (Y 4).2.2 i (bsA (Y 4).2.1 (Y 4).2.2 i) (sv + 1)).2.2 := by rw [ev173, bsS_yes hc]; split <;> rfl
                        rw [q1, q2, q3] at hl
                        exact K230 _ (lv_sub hl [7, 8, 1, 2, 0, 9, 10, 11] rfl)
                      refine lv_icmp_le (tgt := 181) hx hb dL_worths_173 (by decide) (fun c173 => ?_) (fun c173 => ?_)
                      · refine lv_iload_n hx hb dL_worths_181 rfl (lv_at hl 8 rfl) ?_
                        exact J173 _ ((if_pos c173).symm)
                      · refine lv_iload hx hb dL_worths_176 (lv_at hl 2 rfl) ?_
                        refine lv_goto (tgt := 182) hx hb dL_worths_178 (by decide) ?_
                        exact J173 _ ((if_neg c173).symm)
                    refine lv_icmp_le (tgt := 166) hx hb dL_worths_158 (by decide) (fun c158 => ?_) (fun c158 => ?_)
                    · refine lv_iload hx hb dL_worths_166 (lv_at hl 7 rfl) ?_
                      exact J158 _ ((if_pos c158).symm)
                    · refine lv_iload hx hb dL_worths_161 (lv_at hl 5 rfl) ?_
                      refine lv_goto (tgt := 168) hx hb dL_worths_163 (by decide) ?_
                      exact J158 _ ((if_neg c158).symm)
                  refine lv_icmp_le (tgt := 151) hx hb dL_worths_143 (by decide) (fun c143 => ?_) (fun c143 => ?_)
                  · refine lv_iload hx hb dL_worths_151 (lv_at hl 7 rfl) ?_
                    exact J143 _ ((if_pos c143).symm)
                  · refine lv_iload hx hb dL_worths_146 (lv_at hl 5 rfl) ?_
                    refine lv_goto (tgt := 153) hx hb dL_worths_148 (by decide) ?_
                    exact J143 _ ((if_neg c143).symm)
        exact L34 61 0  (by omega) (by omega) _ (lv_sub hl [0, 1, 2, 3, 4, 5, 6, 7] rfl)
  exact L25 (n + 1) 0  (by omega) (by omega) _ (lv_sub hl [0, 1, 2, 3, 4, 5, 6] rfl)
