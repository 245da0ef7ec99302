/-! the law: sound (printed by wip/p29/m_sound.py) -/
theorem nI_nm4 {i : Nat} (h : i < 1000) : ¬ nI i = (-4 : Int32) := by
  intro e
  have := congrArg Int32.toInt e
  rw [tI h, show (-4 : Int32).toInt = -4 from by decide] at this
  omega
set_option maxHeartbeats 4000000 in
set_option maxRecDepth 100000 in
theorem c_L_sound (l : Launch) (D : va_G) (cI cC cW : ClassId) (t : Nat → Nat) (h : Nat → Nat) (dd : Nat) (sz : Nat) (Y : Nat → va_H) (S : Nat → Int32) (q : Nat → Int32) (V : Nat → Int32) (z : Int32) (U : Nat → Int32) (y : Int32) (I : Nat → Int32) (d : Nat → Int32) (b B : Int) (hw : wf b (Y 4).2.1 (Y 4).2.2) (hxt : xt B (Y 4).2.1 d) (hB : B ≤ 1000000) : Met l yL_sound wsL_sound ({ frames := 5, cells := 0, slots := 0, locals := 106 }) (va_Pc [.ref (h 0), .ref dd] (rwP D (tyL cI cC cW) (ps cI cC cW h Y S q V z U y I ++ dv cI dd d) t sz)) (va_Qi (fun (r : Int32) (u : (Nat → Int32) × Int32 × (Nat → Int32) × Int32) => r = 1) (fun u => rwB D (va_A (ps cI cC cW h Y S q V z U y I ++ dv cI dd d) sz) (ps cI cC cW h Y S q u.1 u.2.1 u.2.2.1 u.2.2.2 I ++ dv cI dd d)) (va_A (ps cI cC cW h Y S q V z U y I ++ dv cI dd d) sz)) 0 0 (va_A (ps cI cC cW h Y S q V z U y I ++ dv cI dd d) sz) := by
  refine Met.ofW (cc := cL_sound) (maxL := 13) (ret := (some .boolean)) (by decide) rfl ?_
  intro p e s m args below meth c s₁ B hml hv
  obtain ⟨rfl, hsz, hP, hK, hD0, hX⟩ := hv
  have hx := B.exec
  have hb := B.bytes
  have hr := B.returns
  have hts := atoms_spec (ws := wsL_sound) B.pre
  have hown : s.vm.findClass RL = some m.cls := findClass_of_methodNamed B.named
  have hlocks := B.notSynchronized
  subst hsz
  have hD := hD0.self (sz := s.heap.size)
  generalize hAe : va_A (ps cI cC cW h Y S q V z U y I ++ dv cI dd d) s.heap.size = A at hD hX ⊢
  have hA : ∀ q : Nat, s.heap.size ≤ q → A q := fun q h => by rw [← hAe]; exact Or.inr h
  have hS : va_S A s.heap s.heap [] := va_S.rf
  have CF : CallFix p m c cL_sound 13 s [.ref (h 0), .ref dd].toArray wsL_sound RL := ⟨hx, hb, hml, hown, hts⟩
  have hl := lv_entry ([.ref (h 0), .ref dd]) (n := 13) (Nat.le_of_ble_eq_true rfl)
  rw [lg_entry_eq]
  generalize (lg_sl ([.ref (h 0), .ref dd]) ++ List.replicate (13 - (lg_sl ([.ref (h 0), .ref dd])).length) Slot.unset).toArray = ls at hl ⊢
  have hl : lv_has ls 13 [(0, .ref (h 0)), (1, .ref dd)] := hl
  obtain ⟨n, hn20, eN0, eNt, eNi⟩ := nN hw.sf
  refine lv_aload_n hx hb dL_sound_0 rfl (lv_at hl 0 rfl) ?_
  refine lv_iconst (v := 0) hx hb dL_sound_1 (by decide) ?_
  refine roV CF (c_X5_count l D cI cC cW t h Y S q V z U y I (0 : Int32) hw.sf) (cwV 1 hts gL_sound_X5_count rfl rfl rfl (by decide +kernel) ⟨Nat.le_of_ble_eq_true rfl, Nat.le_of_ble_eq_true rfl⟩) (vP_l hP) hK hX hS 0 4 ps_0 rfl rfl hl.1 rfl (Nat.le_of_ble_eq_true rfl) dL_sound_2 ⟨Nat.zero_le _, Nat.zero_le _⟩ ?_
  refine lv_top_eq (y := (nI n)) (cnt0.trans eN0) ?_
  refine lv_istore_n (lv' := [(2, .int _), (0, .ref _), (1, .ref _)]) hx hb dL_sound_5 rfl hl (by decide) rfl (fun ls hl => ?_)
  refine lv_aload_n hx hb dL_sound_6 rfl (lv_at hl 1 rfl) ?_
  refine lv_iconst (v := 3) hx hb dL_sound_7 (by decide) ?_
  refine roV CF (c_X5_count l D cI cC cW t h Y S q V z U y I (3 : Int32) hw.sf) (cwV 1 hts gL_sound_X5_count rfl rfl rfl (by decide +kernel) ⟨Nat.le_of_ble_eq_true rfl, Nat.le_of_ble_eq_true rfl⟩) (vP_l hP) hK hX hS 0 4 ps_0 rfl rfl hl.1 rfl (Nat.le_of_ble_eq_true rfl) dL_sound_8 ⟨Nat.zero_le _, Nat.zero_le _⟩ ?_
  refine lv_top_eq (y := (nI (sea (Y 4).2.1))) ((cntk (by decide) (by decide)).trans (rcw3.trans (psea4 hw.sf))) ?_
  refine lv_istore_n (lv' := [(3, .int _), (2, .int _), (0, .ref _), (1, .ref _)]) hx hb dL_sound_11 rfl hl (by decide) rfl (fun ls hl => ?_)
  refine lv_iconst (v := 0) hx hb dL_sound_12 (by decide) ?_
  refine lv_istore (lv' := [(4, .int _), (3, .int _), (2, .int _), (0, .ref _), (1, .ref _)]) hx hb dL_sound_13 hl (by decide) rfl (fun ls hl => ?_)
  refine lv_iconst (v := 0) hx hb dL_sound_15 (by decide) ?_
  refine lv_istore (lv' := [(5, .int _), (4, .int _), (3, .int _), (2, .int _), (0, .ref _), (1, .ref _)]) hx hb dL_sound_16 hl (by decide) rfl (fun ls hl => ?_)
  refine lv_iconst (v := 0) hx hb dL_sound_18 (by decide) ?_
  refine lv_istore (lv' := [(6, .int _), (5, .int _), (4, .int _), (3, .int _), (2, .int _), (0, .ref _), (1, .ref _)]) hx hb dL_sound_19 hl (by decide) rfl (fun ls hl => ?_)
  refine lv_iconst (v := 0) hx hb dL_sound_21 (by decide) ?_
  refine lv_istore (lv' := [(7, .int _), (6, .int _), (5, .int _), (4, .int _), (3, .int _), (2, .int _), (0, .ref _), (1, .ref _)]) hx hb dL_sound_22 hl (by decide) rfl (fun ls hl => ?_)
  refine lv_iconst (v := 0) hx hb dL_sound_24 (by decide) ?_
  refine lv_istore (lv' := [(8, .int _), (7, .int _), (6, .int _), (5, .int _), (4, .int _), (3, .int _), (2, .int _), (0, .ref _), (1, .ref _)]) hx hb dL_sound_25 hl (by decide) rfl (fun ls hl => ?_)
  refine lv_iconst (v := 0) hx hb dL_sound_27 (by decide) ?_
  refine lv_istore (lv' := [(9, .int _), (8, .int _), (7, .int _), (6, .int _), (5, .int _), (4, .int _), (3, .int _), (2, .int _), (0, .ref _), (1, .ref _)]) hx hb dL_sound_28 hl (by decide) rfl (fun ls hl => ?_)
  have L30 : ∀ (n30 : Nat) (i : Nat), (i ≤ n) → (n - i < n30) → ∀ (ls : Array Slot) (H : Heap) (locs : List Loc), lv_has ls 13 [(9, .int (nI i)), (8, .int (sumI (wkT (Y 4).2.1 (sea (Y 4).2.1)) i 0)), (7, .int (sumI (emT (Y 4).2.1) i 0)), (6, .int (sumI (u6T (Y 4).2.1) i 0)), (5, .int (sumI (u5T (Y 4).2.1) i 0)), (4, .int (sumI (plT (Y 4).2.1) i 0)), (3, .int (nI (sea (Y 4).2.1))), (2, .int (nI n)), (1, .ref dd), (0, .ref (h 0))] → va_P D vwCl (ps cI cC cW h Y S q V z U y I ++ dv cI dd d) H → va_D A (ps cI cC cW h Y S q V z U y I ++ dv cI dd d) → va_S A s.heap H locs → W p l e (headSpec wsL_sound ({ frames := 5, cells := 0, slots := 0, locals := 106 } : Room)).room s m [.ref (h 0), .ref dd].toArray below meth c H locs 0 0 (MQ below (va_Qi (fun (r : Int32) (u : (Nat → Int32) × Int32 × (Nat → Int32) × Int32) => r = 1) (fun u => rwB D A (ps cI cC cW h Y S q u.1 u.2.1 u.2.2.1 u.2.2.2 I ++ dv cI dd d)) A) [.ref (h 0), .ref dd].toArray s 0 0 A) (F0 m 30 ls []) := by
    intro n30
    induction n30 with
    | zero => intro i hin hn; exact absurd hn (by omega)
    | succ n30 ih30 =>
      intro i hin hn ls H locs hl hP hD hS
      refine lv_iload hx hb dL_sound_30 (lv_at hl 0 rfl) ?_
      refine lv_iload_n hx hb dL_sound_32 rfl (lv_at hl 7 rfl) ?_
      refine lv_icmp_ge (tgt := 292) hx hb dL_sound_33 (by decide) (fun c33 => ?_) (fun c33 => ?_)
      · have ein : n = i := by have := nIge (by omega) (by omega) c33; omega
        subst ein
        refine lv_iconst (v := 0) hx hb dL_sound_292 (by decide) ?_
        refine lv_istore (lv' := [(9, .int _), (8, .int _), (7, .int _), (6, .int _), (5, .int _), (4, .int _), (3, .int _), (2, .int _), (1, .ref _), (0, .ref _)]) hx hb dL_sound_293 hl (by decide) rfl (fun ls hl => ?_)
        have L295 : ∀ (n295 : Nat) (i : Nat) (V1 : Nat → Int32) (z1 : Int32) (U1 : Nat → Int32) (y1 : Int32), (i ≤ 4) → (4 - i < n295) → ∀ (ls : Array Slot) (H : Heap) (locs : List Loc), lv_has ls 13 [(9, .int (nI i)), (8, .int (sumI (wkT (Y 4).2.1 (sea (Y 4).2.1)) n 0)), (7, .int (sumI (emT (Y 4).2.1) n 0)), (6, .int (sumI (u6T (Y 4).2.1) n 0)), (5, .int (sumI (u5T (Y 4).2.1) n 0)), (4, .int (sumI (plT (Y 4).2.1) n 0)), (3, .int (nI (sea (Y 4).2.1))), (2, .int (nI n)), (1, .ref dd), (0, .ref (h 0))] → va_P D vwCl (ps cI cC cW h Y S q V1 z1 U1 y1 I ++ dv cI dd d) H → va_D A (ps cI cC cW h Y S q V1 z1 U1 y1 I ++ dv cI dd d) → va_S A s.heap H locs → W p l e (headSpec wsL_sound ({ frames := 5, cells := 0, slots := 0, locals := 106 } : Room)).room s m [.ref (h 0), .ref dd].toArray below meth c H locs 0 0 (MQ below (va_Qi (fun (r : Int32) (u : (Nat → Int32) × Int32 × (Nat → Int32) × Int32) => r = 1) (fun u => rwB D A (ps cI cC cW h Y S q u.1 u.2.1 u.2.2.1 u.2.2.2 I ++ dv cI dd d)) A) [.ref (h 0), .ref dd].toArray s 0 0 A) (F0 m 295 ls []) := by
          intro n295
          induction n295 with
          | zero => intro i V1 z1 U1 y1 hik hm; exact absurd hm (by omega)
          | succ n295 ih295 =>
            intro i V1 z1 U1 y1 hik hm ls H locs hl hP hD hS
            refine lv_iload hx hb dL_sound_295 (lv_at hl 0 rfl) ?_
            refine lv_iconst (v := 4) hx hb dL_sound_297 (by decide) ?_
            refine lv_icmp_ge (tgt := 333) hx hb dL_sound_298 (by decide) (fun c298 => ?_) (fun c298 => ?_)
            · have e4 : i = 4 := by have := nIge (k := 4) (by omega) (by decide) c298; omega
              subst e4
              refine lv_aload_n hx hb dL_sound_333 rfl (lv_at hl 9 rfl) ?_
              refine lv_iconst (v := 2) hx hb dL_sound_334 (by decide) ?_
              refine roV CF (c_X5_count l D cI cC cW t h Y S q V1 z1 U1 y1 I (2 : Int32) hw.sf) (cwV 1 hts gL_sound_X5_count rfl rfl rfl (by decide +kernel) ⟨Nat.le_of_ble_eq_true rfl, Nat.le_of_ble_eq_true rfl⟩) (vP_l hP) hK hX hS 0 4 ps_0 rfl rfl hl.1 rfl (Nat.le_of_ble_eq_true rfl) dL_sound_335 ⟨Nat.zero_le _, Nat.zero_le _⟩ ?_
              refine lv_top_eq (y := ((Y 4).2.1 1)) ((cntk (by decide) (by decide)).trans rcw2) ?_
              refine lv_istore (lv' := [(9, .int _), (8, .int _), (7, .int _), (6, .int _), (5, .int _), (4, .int _), (3, .int _), (2, .int _), (1, .ref _), (0, .ref _)]) hx hb dL_sound_338 hl (by decide) rfl (fun ls hl => ?_)
              refine lv_aload_n hx hb dL_sound_340 rfl (lv_at hl 9 rfl) ?_
              refine lv_iconst (v := 1) hx hb dL_sound_341 (by decide) ?_
              refine roV CF (c_X5_count l D cI cC cW t h Y S q V1 z1 U1 y1 I (1 : Int32) hw.sf) (cwV 1 hts gL_sound_X5_count rfl rfl rfl (by decide +kernel) ⟨Nat.le_of_ble_eq_true rfl, Nat.le_of_ble_eq_true rfl⟩) (vP_l hP) hK hX hS 0 4 ps_0 rfl rfl hl.1 rfl (Nat.le_of_ble_eq_true rfl) dL_sound_342 ⟨Nat.zero_le _, Nat.zero_le _⟩ ?_
              refine lv_top_eq (y := (sumI (plT (Y 4).2.1) n 0)) ((cntk (by decide) (by decide)).trans (rcw1.trans ((pl0 hw).trans (smN_n eNt)))) ?_
              refine lv_iload hx hb dL_sound_345 (lv_at hl 5 rfl) ?_
              refine lv_icmp_ne (tgt := 439) hx hb dL_sound_347 (by decide) (fun c9 => absurd rfl c9) (fun _ => ?_)
              refine lv_aload_n hx hb dL_sound_350 rfl (lv_at hl 9 rfl) ?_
              refine lv_iconst (v := 5) hx hb dL_sound_351 (by decide) ?_
              refine roV CF (c_X5_count l D cI cC cW t h Y S q V1 z1 U1 y1 I (5 : Int32) hw.sf) (cwV 1 hts gL_sound_X5_count rfl rfl rfl (by decide +kernel) ⟨Nat.le_of_ble_eq_true rfl, Nat.le_of_ble_eq_true rfl⟩) (vP_l hP) hK hX hS 0 4 ps_0 rfl rfl hl.1 rfl (Nat.le_of_ble_eq_true rfl) dL_sound_352 ⟨Nat.zero_le _, Nat.zero_le _⟩ ?_
              refine lv_top_eq (y := (sumI (u5T (Y 4).2.1) n 0)) ((cntk (by decide) (by decide)).trans (rcw5.trans ((su5 hw).trans (smN_n eNt)))) ?_
              refine lv_iload hx hb dL_sound_355 (lv_at hl 4 rfl) ?_
              refine lv_icmp_ne (tgt := 439) hx hb dL_sound_357 (by decide) (fun c9 => absurd rfl c9) (fun _ => ?_)
              refine lv_aload_n hx hb dL_sound_360 rfl (lv_at hl 9 rfl) ?_
              refine lv_bipush (v := 6) hx hb dL_sound_361 (by decide) ?_
              refine roV CF (c_X5_count l D cI cC cW t h Y S q V1 z1 U1 y1 I (6 : Int32) hw.sf) (cwV 1 hts gL_sound_X5_count rfl rfl rfl (by decide +kernel) ⟨Nat.le_of_ble_eq_true rfl, Nat.le_of_ble_eq_true rfl⟩) (vP_l hP) hK hX hS 0 4 ps_0 rfl rfl hl.1 rfl (Nat.le_of_ble_eq_true rfl) dL_sound_363 ⟨Nat.zero_le _, Nat.zero_le _⟩ ?_
              refine lv_top_eq (y := (sumI (u6T (Y 4).2.1) n 0)) ((cntk (by decide) (by decide)).trans (rcw6.trans ((su6 hw).trans (smN_n eNt)))) ?_
              refine lv_iload hx hb dL_sound_366 (lv_at hl 3 rfl) ?_
              refine lv_icmp_ne (tgt := 439) hx hb dL_sound_368 (by decide) (fun c9 => absurd rfl c9) (fun _ => ?_)
              refine lv_aload_n hx hb dL_sound_371 rfl (lv_at hl 9 rfl) ?_
              refine lv_bipush (v := 7) hx hb dL_sound_372 (by decide) ?_
              refine roV CF (c_X5_count l D cI cC cW t h Y S q V1 z1 U1 y1 I (7 : Int32) hw.sf) (cwV 1 hts gL_sound_X5_count rfl rfl rfl (by decide +kernel) ⟨Nat.le_of_ble_eq_true rfl, Nat.le_of_ble_eq_true rfl⟩) (vP_l hP) hK hX hS 0 4 ps_0 rfl rfl hl.1 rfl (Nat.le_of_ble_eq_true rfl) dL_sound_374 ⟨Nat.zero_le _, Nat.zero_le _⟩ ?_
              refine lv_top_eq (y := (sumI (emT (Y 4).2.1) n 0)) ((cntk (by decide) (by decide)).trans (rcw7.trans ((pl1 hw).trans (smN_n eNt)))) ?_
              refine lv_iload hx hb dL_sound_377 (lv_at hl 2 rfl) ?_
              refine lv_icmp_ne (tgt := 439) hx hb dL_sound_379 (by decide) (fun c9 => absurd rfl c9) (fun _ => ?_)
              refine lv_aload_n hx hb dL_sound_382 rfl (lv_at hl 9 rfl) ?_
              refine lv_iload_n hx hb dL_sound_383 rfl (lv_at hl 6 rfl) ?_
              refine roV CF (c_X5_weekly l D cI cC cW t h Y S q V1 z1 U1 y1 I (nI (sea (Y 4).2.1)) hw.sf) (cwV 1 hts gL_sound_X5_weekly rfl rfl rfl (by decide +kernel) ⟨Nat.le_of_ble_eq_true rfl, Nat.le_of_ble_eq_true rfl⟩) (vP_l hP) hK hX hS 0 4 ps_0 rfl rfl hl.1 rfl (Nat.le_of_ble_eq_true rfl) dL_sound_384 ⟨Nat.zero_le _, Nat.zero_le _⟩ ?_
              refine lv_top_eq (y := (sumI (wkT (Y 4).2.1 (sea (Y 4).2.1)) n 0)) ((wk5 sea_lt).trans ((wk4 hw sea_lt).trans (wkS_n eNt))) ?_
              refine lv_iload hx hb dL_sound_387 (lv_at hl 1 rfl) ?_
              refine lv_icmp_ne (tgt := 439) hx hb dL_sound_389 (by decide) (fun c9 => absurd rfl c9) (fun _ => ?_)
              refine lv_aload_n hx hb dL_sound_392 rfl (lv_at hl 9 rfl) ?_
              refine lv_iconst (v := 5) hx hb dL_sound_393 (by decide) ?_
              refine roV CF (c_X5_account l D cI cC cW t h Y S q V1 z1 U1 y1 I (5 : Int32) hw.sf) (cwV 1 hts gL_sound_X5_account rfl rfl rfl (by decide +kernel) ⟨Nat.le_of_ble_eq_true rfl, Nat.le_of_ble_eq_true rfl⟩) (vP_l hP) hK hX hS 0 4 ps_0 rfl rfl hl.1 rfl (Nat.le_of_ble_eq_true rfl) dL_sound_394 ⟨Nat.zero_le _, Nat.zero_le _⟩ ?_
              refine lv_top_eq (y := ((100000000 : Int32) + (sumI (wkT (Y 4).2.1 (sea (Y 4).2.1)) n 0) + (Y 4).2.1 9)) (ra5.trans (by rw [psea4 hw.sf, wk4 hw sea_lt, wkS_n eNt])) ?_
              refine lv_aload_n hx hb dL_sound_397 rfl (lv_at hl 9 rfl) ?_
              refine lv_iconst (v := 4) hx hb dL_sound_398 (by decide) ?_
              refine roV CF (c_X5_account l D cI cC cW t h Y S q V1 z1 U1 y1 I (4 : Int32) hw.sf) (cwV 1 hts gL_sound_X5_account rfl rfl rfl (by decide +kernel) ⟨Nat.le_of_ble_eq_true rfl, Nat.le_of_ble_eq_true rfl⟩) (vP_l hP) hK hX hS 0 4 ps_0 rfl rfl hl.1 rfl (Nat.le_of_ble_eq_true rfl) dL_sound_399 ⟨Nat.zero_le _, Nat.zero_le _⟩ ?_
              refine lv_top_eq (y := ((100000000 : Int32) + (Y 4).2.1 9)) ra4 ?_
              refine lv_isub hx hb dL_sound_402 ?_
              refine lv_iload hx hb dL_sound_403 (lv_at hl 1 rfl) ?_
              refine lv_icmp_ne (tgt := 439) hx hb dL_sound_405 (by decide) (fun c9 => absurd acc_e c9) (fun _ => ?_)
              refine lv_iload_n hx hb dL_sound_408 rfl (lv_at hl 6 rfl) ?_
              refine lv_iload hx hb dL_sound_409 (lv_at hl 0 rfl) ?_
              refine lv_bipush (v := 13) hx hb dL_sound_411 (by decide) ?_
              refine lv_idiv hx hb dL_sound_413 (by decide) ?_
              refine lv_iconst (v := 4) hx hb dL_sound_414 (by decide) ?_
              refine lv_irem hx hb dL_sound_415 (by decide) ?_
              refine lv_icmp_ne (tgt := 439) hx hb dL_sound_416 (by decide) (fun c9 => absurd (sea_e hw.sf) c9) (fun _ => ?_)
              refine lv_aload_n hx hb dL_sound_419 rfl (lv_at hl 9 rfl) ?_
              refine lv_iconst (v := 4) hx hb dL_sound_420 (by decide) ?_
              refine roV CF (c_X5_count l D cI cC cW t h Y S q V1 z1 U1 y1 I (4 : Int32) hw.sf) (cwV 1 hts gL_sound_X5_count rfl rfl rfl (by decide +kernel) ⟨Nat.le_of_ble_eq_true rfl, Nat.le_of_ble_eq_true rfl⟩) (vP_l hP) hK hX hS 0 4 ps_0 rfl rfl hl.1 rfl (Nat.le_of_ble_eq_true rfl) dL_sound_421 ⟨Nat.zero_le _, Nat.zero_le _⟩ ?_
              refine lv_top_eq (y := ((13 : Int32) - ((Y 4).2.1 1 - (Y 4).2.1 1 / (13 : Int32) * (13 : Int32)))) ((cntk (by decide) (by decide)).trans rcw4) ?_
              refine lv_bipush (v := 13) hx hb dL_sound_424 (by decide) ?_
              refine lv_iload hx hb dL_sound_426 (lv_at hl 0 rfl) ?_
              refine lv_bipush (v := 13) hx hb dL_sound_428 (by decide) ?_
              refine lv_irem hx hb dL_sound_430 (by decide) ?_
              refine lv_isub hx hb dL_sound_431 ?_
              refine lv_icmp_ne (tgt := 439) hx hb dL_sound_432 (by decide) (fun c9 => absurd rfl c9) (fun _ => ?_)
              refine lv_iconst (v := 1) hx hb dL_sound_435 (by decide) ?_
              refine lv_goto (tgt := 440) hx hb dL_sound_436 (by decide) ?_
              exact W.zret hx hb hr rfl (fun T hT _ => ⟨⟨_, (V1, z1, U1, y1), rfl, rfl, by rw [hT]; exact hP, hD⟩, hS.F hT⟩) hS.2.2 dL_sound_440 hlocks
            · have hk4 : i < 4 := nIlt (by omega) (by decide) c298
              refine lv_aload_n hx hb dL_sound_301 rfl (lv_at hl 9 rfl) ?_
              refine lv_iload hx hb dL_sound_302 (lv_at hl 0 rfl) ?_
              have eb := (best_le (V := V1) (z := z1) (U := U1) (y := y1) hw hk4)
              obtain ⟨rb, Vb, zb, Ub, yb, ebs⟩ : ∃ (r : Int32) (Vx : Nat → Int32) (zx : Int32) (Ux : Nat → Int32) (yx : Int32), sp_X5_atBest Y S q V1 z1 U1 y1 I (nI i) = (r, (Vx, zx, Ux, yx)) := ⟨_, _, _, _, _, rfl⟩
              rw [atb_e hk4 ebs] at eb
              refine rwVse (wc := ps cI cC cW h Y S q V1 z1 U1 y1 I) (Rr := dv cI dd d) (wn := fun u : (Nat → Int32) × (Int32) × (Nat → Int32) × (Int32) => ps cI cC cW h Y S q u.1 u.2.1 u.2.2.1 u.2.2.2 I) (w1 := fun u : (Nat → Int32) × (Int32) × (Nat → Int32) × (Int32) => ps cI cC cW h Y S q u.1 u.2.1 u.2.2.1 u.2.2.2 I ++ dv cI dd d) (r0 := rb) (u0 := (Vb, zb, Ub, yb)) ebs (List.Perm.refl _) (fun _ => List.Perm.refl _) CF (c_X5_atBest l D cI cC cW t h _ Y S q V1 z1 U1 y1 I (nI i) hw.sf) (cwV 1 hts gL_sound_X5_atBest rfl rfl rfl (by decide +kernel) ⟨Nat.le_of_ble_eq_true rfl, Nat.le_of_ble_eq_true rfl⟩) hP hD hK hX hS hA 0 4 ps_0 rfl rfl hl.1 rfl (Nat.le_of_ble_eq_true rfl) dL_sound_304 ⟨Nat.zero_le _, Nat.zero_le _⟩ (fun H locs hP hD hS => ?_)
              have hP : va_P D vwCl (ps cI cC cW h Y S q Vb zb Ub yb I ++ dv cI dd d) H := hP
              have hD : va_D A (ps cI cC cW h Y S q Vb zb Ub yb I ++ dv cI dd d) := hD
              refine lv_aload_n hx hb dL_sound_307 rfl (lv_at hl 9 rfl) ?_
              refine lv_iload hx hb dL_sound_308 (lv_at hl 0 rfl) ?_
              refine roV CF (c_X5_weekly l D cI cC cW t h Y S q Vb zb Ub yb I (nI i) hw.sf) (cwV 1 hts gL_sound_X5_weekly rfl rfl rfl (by decide +kernel) ⟨Nat.le_of_ble_eq_true rfl, Nat.le_of_ble_eq_true rfl⟩) (vP_l hP) hK hX hS 0 4 ps_0 rfl rfl hl.1 rfl (Nat.le_of_ble_eq_true rfl) dL_sound_310 ⟨Nat.zero_le _, Nat.zero_le _⟩ ?_
              refine lv_top_eq (y := (sp_X4_weeklyWalk (Y 4).2.1 (Y 4).2.2 (nI i))) (wk5 hk4) ?_
              refine lv_icmp_gt (tgt := 325) hx hb dL_sound_313 (by decide) (fun c9 => absurd c9 eb.1) (fun _ => ?_)
              refine lv_aload_n hx hb dL_sound_316 rfl (lv_at hl 9 rfl) ?_
              refine lv_iload hx hb dL_sound_317 (lv_at hl 0 rfl) ?_
              have ec := (best_le (V := Vb) (z := zb) (U := Ub) (y := yb) hw hk4)
              obtain ⟨rc, Vc, zc, Uc, yc, ecs⟩ : ∃ (r : Int32) (Vx : Nat → Int32) (zx : Int32) (Ux : Nat → Int32) (yx : Int32), sp_X5_atBest Y S q Vb zb Ub yb I (nI i) = (r, (Vx, zx, Ux, yx)) := ⟨_, _, _, _, _, rfl⟩
              rw [atb_e hk4 ecs] at ec
              refine rwVse (wc := ps cI cC cW h Y S q Vb zb Ub yb I) (Rr := dv cI dd d) (wn := fun u : (Nat → Int32) × (Int32) × (Nat → Int32) × (Int32) => ps cI cC cW h Y S q u.1 u.2.1 u.2.2.1 u.2.2.2 I) (w1 := fun u : (Nat → Int32) × (Int32) × (Nat → Int32) × (Int32) => ps cI cC cW h Y S q u.1 u.2.1 u.2.2.1 u.2.2.2 I ++ dv cI dd d) (r0 := rc) (u0 := (Vc, zc, Uc, yc)) ecs (List.Perm.refl _) (fun _ => List.Perm.refl _) CF (c_X5_atBest l D cI cC cW t h _ Y S q Vb zb Ub yb I (nI i) hw.sf) (cwV 1 hts gL_sound_X5_atBest rfl rfl rfl (by decide +kernel) ⟨Nat.le_of_ble_eq_true rfl, Nat.le_of_ble_eq_true rfl⟩) hP hD hK hX hS hA 0 4 ps_0 rfl rfl hl.1 rfl (Nat.le_of_ble_eq_true rfl) dL_sound_319 ⟨Nat.zero_le _, Nat.zero_le _⟩ (fun H locs hP hD hS => ?_)
              have hP : va_P D vwCl (ps cI cC cW h Y S q Vc zc Uc yc I ++ dv cI dd d) H := hP
              have hD : va_D A (ps cI cC cW h Y S q Vc zc Uc yc I ++ dv cI dd d) := hD
              refine lv_if_ge (tgt := 327) hx hb dL_sound_322 (by decide) (fun _ => ?_) (fun c9 => absurd ec.2 c9)
              refine lv_iinc (v := (nI (i + 1))) (lv' := [(9, .int _), (8, .int _), (7, .int _), (6, .int _), (5, .int _), (4, .int _), (3, .int _), (2, .int _), (1, .ref _), (0, .ref _)]) hx hb dL_sound_327 hl (k := 0) rfl (by rw [← nI_add i 1]; rfl) (by decide) rfl (fun ls hl => ?_)
              refine lv_goto (tgt := 295) hx hb dL_sound_330 (by decide) ?_
              exact ih295 (i + 1) Vc zc Uc yc (by omega) (by omega) _ _ _ (lv_sub hl [0, 1, 2, 3, 4, 5, 6, 7, 8, 9] rfl) hP hD hS
        exact L295 5 0 V z U y (by omega) (by omega) _ _ _ (lv_sub hl [0, 1, 2, 3, 4, 5, 6, 7, 8, 9] rfl) hP hD hS
      · have hlt : i < n := nIlt (by omega) (by omega) c33
        have hi : (i : Int) < ((Y 4).2.1 0).toInt := by rw [eNi]; omega
        have h20 : i < 20 := hw.n20 hi
        obtain ⟨x1, x2, x3, x4, x5, x6⟩ := hxt i hi
        have pu := (hw.g hi).u
        have pst := (hw.g hi).st
        have K242 : ∀ ls : Array Slot, lv_has ls 13 [(9, .int (nI i)), (8, .int (sumI (wkT (Y 4).2.1 (sea (Y 4).2.1)) (i + 1) 0)), (7, .int (sumI (emT (Y 4).2.1) (i + 1) 0)), (6, .int (sumI (u6T (Y 4).2.1) (i + 1) 0)), (5, .int (sumI (u5T (Y 4).2.1) (i + 1) 0)), (4, .int (sumI (plT (Y 4).2.1) (i + 1) 0)), (3, .int (nI (sea (Y 4).2.1))), (2, .int (nI n)), (1, .ref dd), (0, .ref (h 0))] → W p l e (headSpec wsL_sound ({ frames := 5, cells := 0, slots := 0, locals := 106 } : Room)).room s m [.ref (h 0), .ref dd].toArray below meth c H locs 0 0 (MQ below (va_Qi (fun (r : Int32) (u : (Nat → Int32) × Int32 × (Nat → Int32) × Int32) => r = 1) (fun u => rwB D A (ps cI cC cW h Y S q u.1 u.2.1 u.2.2.1 u.2.2.2 I ++ dv cI dd d)) A) [.ref (h 0), .ref dd].toArray s 0 0 A) (F0 m 242 ls []) := by
          intro ls hl
          rcases nr hw hi with ⟨en, -⟩ | ⟨t1, ht, en, hGt, hbt⟩
          · have hnn : True := trivial
            refine lv_aload_n hx hb dL_sound_242 rfl (lv_at hl 9 rfl) ?_
            refine lv_iload hx hb dL_sound_243 (lv_at hl 0 rfl) ?_
            refine roV CF (c_X5_nearest l D cI cC cW t h Y S q V z U y I (nI i) hw.sf) (cwV 1 hts gL_sound_X5_nearest rfl rfl rfl (by decide +kernel) ⟨Nat.le_of_ble_eq_true rfl, Nat.le_of_ble_eq_true rfl⟩) (vP_l hP) hK hX hS 0 4 ps_0 rfl rfl hl.1 rfl (Nat.le_of_ble_eq_true rfl) dL_sound_245 ⟨Nat.zero_le _, Nat.zero_le _⟩ ?_
            refine lv_top_eq (y := (-4 : Int32)) en ?_
            refine lv_istore (lv' := [(12, .int _), (9, .int _), (8, .int _), (7, .int _), (6, .int _), (5, .int _), (4, .int _), (3, .int _), (2, .int _), (1, .ref _), (0, .ref _)]) hx hb dL_sound_248 hl (by decide) rfl (fun ls hl => ?_)
            refine lv_iload hx hb dL_sound_250 (lv_at hl 0 rfl) ?_
            refine lv_if_lt (tgt := 286) hx hb dL_sound_252 (by decide) (fun _ => ?_) (fun c9 => absurd (by decide) c9)
            refine lv_iinc (v := (nI (i + 1))) (lv' := [(9, .int _), (12, .int _), (8, .int _), (7, .int _), (6, .int _), (5, .int _), (4, .int _), (3, .int _), (2, .int _), (1, .ref _), (0, .ref _)]) hx hb dL_sound_286 hl (k := 1) rfl (by rw [← nI_add i 1]; rfl) (by decide) rfl (fun ls hl => ?_)
            refine lv_goto (tgt := 30) hx hb dL_sound_289 (by decide) ?_
            exact ih30 (i + 1)  (by omega) (by omega) _ _ _ (lv_sub hl [0, 2, 3, 4, 5, 6, 7, 8, 9, 10] rfl) hP hD hS
          · have hnn : True := trivial
            refine lv_aload_n hx hb dL_sound_242 rfl (lv_at hl 9 rfl) ?_
            refine lv_iload hx hb dL_sound_243 (lv_at hl 0 rfl) ?_
            refine roV CF (c_X5_nearest l D cI cC cW t h Y S q V z U y I (nI i) hw.sf) (cwV 1 hts gL_sound_X5_nearest rfl rfl rfl (by decide +kernel) ⟨Nat.le_of_ble_eq_true rfl, Nat.le_of_ble_eq_true rfl⟩) (vP_l hP) hK hX hS 0 4 ps_0 rfl rfl hl.1 rfl (Nat.le_of_ble_eq_true rfl) dL_sound_245 ⟨Nat.zero_le _, Nat.zero_le _⟩ ?_
            refine lv_top_eq (y := (nI t1)) en ?_
            refine lv_istore (lv' := [(12, .int _), (9, .int _), (8, .int _), (7, .int _), (6, .int _), (5, .int _), (4, .int _), (3, .int _), (2, .int _), (1, .ref _), (0, .ref _)]) hx hb dL_sound_248 hl (by decide) rfl (fun ls hl => ?_)
            refine lv_iload hx hb dL_sound_250 (lv_at hl 0 rfl) ?_
            refine lv_if_lt (tgt := 286) hx hb dL_sound_252 (by decide) (fun c9 => absurd c9 (nI_pos (by omega))) (fun _ => ?_)
            refine lv_aload_n hx hb dL_sound_255 rfl (lv_at hl 10 rfl) ?_
            refine lv_iload hx hb dL_sound_256 (lv_at hl 0 rfl) ?_
            refine lv_iconst (v := 0) hx hb dL_sound_258 (by decide) ?_
            refine roV CF (c_X5_slotOf l D cI cC cW t h Y S q V z U y I (nI t1) (0 : Int32) ) (cwV 2 hts gL_sound_X5_slotOf rfl rfl rfl (by decide +kernel) ⟨Nat.le_of_ble_eq_true rfl, Nat.le_of_ble_eq_true rfl⟩) (vP_l hP) hK hX hS 0 4 ps_0 rfl rfl hl.1 rfl (Nat.le_of_ble_eq_true rfl) dL_sound_259 ⟨Nat.zero_le _, Nat.zero_le _⟩ ?_
            refine lv_top_eq (y := (-4 : Int32)) ((rs0 hw ht).trans (if_pos hGt)) ?_
            refine lv_bipush (v := -4) hx hb dL_sound_262 (by decide) ?_
            refine lv_icmp_ne (tgt := 284) hx hb dL_sound_264 (by decide) (fun c9 => absurd (by decide) c9) (fun _ => ?_)
            refine lv_aload_n hx hb dL_sound_267 rfl (lv_at hl 10 rfl) ?_
            refine lv_iload hx hb dL_sound_268 (lv_at hl 0 rfl) ?_
            refine lv_iconst (v := 2) hx hb dL_sound_270 (by decide) ?_
            refine roV CF (c_X5_slotOf l D cI cC cW t h Y S q V z U y I (nI t1) (2 : Int32) ) (cwV 2 hts gL_sound_X5_slotOf rfl rfl rfl (by decide +kernel) ⟨Nat.le_of_ble_eq_true rfl, Nat.le_of_ble_eq_true rfl⟩) (vP_l hP) hK hX hS 0 4 ps_0 rfl rfl hl.1 rfl (Nat.le_of_ble_eq_true rfl) dL_sound_271 ⟨Nat.zero_le _, Nat.zero_le _⟩ ?_
            refine lv_top_eq (y := (sp_X2_heaviestAt (nI t1))) (rs2 ht) ?_
            refine lv_aload_n hx hb dL_sound_274 rfl (lv_at hl 10 rfl) ?_
            refine lv_iload hx hb dL_sound_275 (lv_at hl 1 rfl) ?_
            refine lv_iconst (v := 0) hx hb dL_sound_277 (by decide) ?_
            refine roV CF (c_X5_goodOf l D cI cC cW t h Y S q V z U y I (nI i) (0 : Int32) hw.sf) (cwV 2 hts gL_sound_X5_goodOf rfl rfl rfl (by decide +kernel) ⟨Nat.le_of_ble_eq_true rfl, Nat.le_of_ble_eq_true rfl⟩) (vP_l hP) hK hX hS 0 4 ps_0 rfl rfl hl.1 rfl (Nat.le_of_ble_eq_true rfl) dL_sound_278 ⟨Nat.zero_le _, Nat.zero_le _⟩ ?_
            refine lv_top_eq (y := ((Y 4).2.1 (16 + 11 * i))) (rd0 hw.sf hi) ?_
            refine lv_icmp_ge (tgt := 286) hx hb dL_sound_281 (by decide) (fun _ => ?_) (fun c9 => absurd hbt c9)
            refine lv_iinc (v := (nI (i + 1))) (lv' := [(9, .int _), (12, .int _), (8, .int _), (7, .int _), (6, .int _), (5, .int _), (4, .int _), (3, .int _), (2, .int _), (1, .ref _), (0, .ref _)]) hx hb dL_sound_286 hl (k := 1) rfl (by rw [← nI_add i 1]; rfl) (by decide) rfl (fun ls hl => ?_)
            refine lv_goto (tgt := 30) hx hb dL_sound_289 (by decide) ?_
            exact ih30 (i + 1)  (by omega) (by omega) _ _ _ (lv_sub hl [0, 2, 3, 4, 5, 6, 7, 8, 9, 10] rfl) hP hD hS
        rcases (hw.g hi).p with hp | ⟨sv, hs, hp⟩
        · have hpn : True := trivial
          refine lv_aload_n hx hb dL_sound_36 rfl (lv_at hl 9 rfl) ?_
          refine lv_iload hx hb dL_sound_37 (lv_at hl 0 rfl) ?_
          refine lv_bipush (v := 6) hx hb dL_sound_39 (by decide) ?_
          refine roV CF (c_X5_goodOf l D cI cC cW t h Y S q V z U y I (nI i) (6 : Int32) hw.sf) (cwV 2 hts gL_sound_X5_goodOf rfl rfl rfl (by decide +kernel) ⟨Nat.le_of_ble_eq_true rfl, Nat.le_of_ble_eq_true rfl⟩) (vP_l hP) hK hX hS 0 4 ps_0 rfl rfl hl.1 rfl (Nat.le_of_ble_eq_true rfl) dL_sound_41 ⟨Nat.zero_le _, Nat.zero_le _⟩ ?_
          refine lv_top_eq (y := (-4 : Int32)) ((rd6 hw hi).trans (if_pos hp)) ?_
          refine lv_istore (lv' := [(10, .int _), (9, .int _), (8, .int _), (7, .int _), (6, .int _), (5, .int _), (4, .int _), (3, .int _), (2, .int _), (1, .ref _), (0, .ref _)]) hx hb dL_sound_44 hl (by decide) rfl (fun ls hl => ?_)
          refine lv_aload_n hx hb dL_sound_46 rfl (lv_at hl 10 rfl) ?_
          refine lv_iload hx hb dL_sound_47 (lv_at hl 1 rfl) ?_
          refine lv_bipush (v := 7) hx hb dL_sound_49 (by decide) ?_
          refine roV CF (c_X5_goodOf l D cI cC cW t h Y S q V z U y I (nI i) (7 : Int32) hw.sf) (cwV 2 hts gL_sound_X5_goodOf rfl rfl rfl (by decide +kernel) ⟨Nat.le_of_ble_eq_true rfl, Nat.le_of_ble_eq_true rfl⟩) (vP_l hP) hK hX hS 0 4 ps_0 rfl rfl hl.1 rfl (Nat.le_of_ble_eq_true rfl) dL_sound_51 ⟨Nat.zero_le _, Nat.zero_le _⟩ ?_
          refine lv_top_eq (y := ((Y 4).2.1 (23 + 11 * i))) (rd7 hw.sf hi) ?_
          refine lv_istore (lv' := [(11, .int _), (10, .int _), (9, .int _), (8, .int _), (7, .int _), (6, .int _), (5, .int _), (4, .int _), (3, .int _), (2, .int _), (1, .ref _), (0, .ref _)]) hx hb dL_sound_54 hl (by decide) rfl (fun ls hl => ?_)
          refine lv_iload hx hb dL_sound_56 (lv_at hl 6 rfl) ?_
          refine lv_iload hx hb dL_sound_58 (lv_at hl 0 rfl) ?_
          refine lv_iadd hx hb dL_sound_60 ?_
          refine lv_istore (lv' := [(5, .int _), (11, .int _), (10, .int _), (9, .int _), (8, .int _), (7, .int _), (6, .int _), (4, .int _), (3, .int _), (2, .int _), (1, .ref _), (0, .ref _)]) hx hb dL_sound_61 hl (by decide) rfl (fun ls hl => ?_)
          refine lv_iload hx hb dL_sound_63 (lv_at hl 6 rfl) ?_
          refine lv_aload_n hx hb dL_sound_65 rfl (lv_at hl 11 rfl) ?_
          refine lv_iload hx hb dL_sound_66 (lv_at hl 3 rfl) ?_
          refine lv_bipush (v := 8) hx hb dL_sound_68 (by decide) ?_
          refine roV CF (c_X5_goodOf l D cI cC cW t h Y S q V z U y I (nI i) (8 : Int32) hw.sf) (cwV 2 hts gL_sound_X5_goodOf rfl rfl rfl (by decide +kernel) ⟨Nat.le_of_ble_eq_true rfl, Nat.le_of_ble_eq_true rfl⟩) (vP_l hP) hK hX hS 0 4 ps_0 rfl rfl hl.1 rfl (Nat.le_of_ble_eq_true rfl) dL_sound_70 ⟨Nat.zero_le _, Nat.zero_le _⟩ ?_
          refine lv_top_eq (y := ((Y 4).2.1 (24 + 11 * i))) (rd8 hw.sf hi) ?_
          refine lv_iadd hx hb dL_sound_73 ?_
          refine lv_istore (lv' := [(6, .int _), (5, .int _), (11, .int _), (10, .int _), (9, .int _), (8, .int _), (7, .int _), (4, .int _), (3, .int _), (2, .int _), (1, .ref _), (0, .ref _)]) hx hb dL_sound_74 hl (by decide) rfl (fun ls hl => ?_)
          refine lv_iload hx hb dL_sound_76 (lv_at hl 2 rfl) ?_
          refine lv_if_lt (tgt := 139) hx hb dL_sound_78 (by decide) (fun c9 => absurd c9 (show ¬ ((Y 4).2.1 (23 + 11 * i)) < 0 by rw [lt_toInt, i0]; omega)) (fun _ => ?_)
          refine lv_iload hx hb dL_sound_81 (lv_at hl 2 rfl) ?_
          refine lv_aload_n hx hb dL_sound_83 rfl (lv_at hl 11 rfl) ?_
          refine lv_iload hx hb dL_sound_84 (lv_at hl 4 rfl) ?_
          refine lv_iconst (v := 1) hx hb dL_sound_86 (by decide) ?_
          refine roV CF (c_X5_goodOf l D cI cC cW t h Y S q V z U y I (nI i) (1 : Int32) hw.sf) (cwV 2 hts gL_sound_X5_goodOf rfl rfl rfl (by decide +kernel) ⟨Nat.le_of_ble_eq_true rfl, Nat.le_of_ble_eq_true rfl⟩) (vP_l hP) hK hX hS 0 4 ps_0 rfl rfl hl.1 rfl (Nat.le_of_ble_eq_true rfl) dL_sound_87 ⟨Nat.zero_le _, Nat.zero_le _⟩ ?_
          refine lv_top_eq (y := ((Y 4).2.1 (17 + 11 * i))) (rd1 hw.sf hi) ?_
          refine lv_icmp_gt (tgt := 139) hx hb dL_sound_90 (by decide) (fun c9 => absurd c9 (show ¬ ((Y 4).2.1 (17 + 11 * i)) < ((Y 4).2.1 (23 + 11 * i)) by rw [lt_toInt]; omega)) (fun _ => ?_)
          refine lv_iload hx hb dL_sound_93 (lv_at hl 2 rfl) ?_
          refine lv_aload_n hx hb dL_sound_95 rfl (lv_at hl 11 rfl) ?_
          refine lv_iload hx hb dL_sound_96 (lv_at hl 4 rfl) ?_
          refine lv_bipush (v := 8) hx hb dL_sound_98 (by decide) ?_
          refine roV CF (c_X5_goodOf l D cI cC cW t h Y S q V z U y I (nI i) (8 : Int32) hw.sf) (cwV 2 hts gL_sound_X5_goodOf rfl rfl rfl (by decide +kernel) ⟨Nat.le_of_ble_eq_true rfl, Nat.le_of_ble_eq_true rfl⟩) (vP_l hP) hK hX hS 0 4 ps_0 rfl rfl hl.1 rfl (Nat.le_of_ble_eq_true rfl) dL_sound_100 ⟨Nat.zero_le _, Nat.zero_le _⟩ ?_
          refine lv_top_eq (y := ((Y 4).2.1 (24 + 11 * i))) (rd8 hw.sf hi) ?_
          refine lv_iadd hx hb dL_sound_103 ?_
          refine lv_aload_n hx hb dL_sound_104 rfl (lv_at hl 11 rfl) ?_
          refine lv_iload hx hb dL_sound_105 (lv_at hl 4 rfl) ?_
          refine lv_bipush (v := 10) hx hb dL_sound_107 (by decide) ?_
          refine roV CF (c_X5_goodOf l D cI cC cW t h Y S q V z U y I (nI i) (10 : Int32) hw.sf) (cwV 2 hts gL_sound_X5_goodOf rfl rfl rfl (by decide +kernel) ⟨Nat.le_of_ble_eq_true rfl, Nat.le_of_ble_eq_true rfl⟩) (vP_l hP) hK hX hS 0 4 ps_0 rfl rfl hl.1 rfl (Nat.le_of_ble_eq_true rfl) dL_sound_109 ⟨Nat.zero_le _, Nat.zero_le _⟩ ?_
          refine lv_top_eq (y := ((Y 4).2.1 (26 + 11 * i))) (rd10 hw.sf hi) ?_
          refine lv_iadd hx hb dL_sound_112 ?_
          refine lv_aload_n hx hb dL_sound_113 rfl (lv_at hl 10 rfl) ?_
          refine lv_iload hx hb dL_sound_114 (lv_at hl 4 rfl) ?_
          refine va_iald hx hb hK hP 80 0 dv_at rfl (vp_in_nI h20 (by decide)) dL_sound_116 ?_
          refine lv_icmp_ne (tgt := 139) hx hb dL_sound_117 (by decide) (fun c9 => absurd (by rw [show (nI i).toNatClampNeg = i from xI (by omega)]; exact cons_e x3 pu.1 pst.1 x4 (by omega)) c9) (fun _ => ?_)
          refine lv_aload_n hx hb dL_sound_120 rfl (lv_at hl 11 rfl) ?_
          refine lv_iload hx hb dL_sound_121 (lv_at hl 4 rfl) ?_
          refine lv_bipush (v := 10) hx hb dL_sound_123 (by decide) ?_
          refine roV CF (c_X5_goodOf l D cI cC cW t h Y S q V z U y I (nI i) (10 : Int32) hw.sf) (cwV 2 hts gL_sound_X5_goodOf rfl rfl rfl (by decide +kernel) ⟨Nat.le_of_ble_eq_true rfl, Nat.le_of_ble_eq_true rfl⟩) (vP_l hP) hK hX hS 0 4 ps_0 rfl rfl hl.1 rfl (Nat.le_of_ble_eq_true rfl) dL_sound_125 ⟨Nat.zero_le _, Nat.zero_le _⟩ ?_
          refine lv_top_eq (y := ((Y 4).2.1 (26 + 11 * i))) (rd10 hw.sf hi) ?_
          refine lv_aload_n hx hb dL_sound_128 rfl (lv_at hl 11 rfl) ?_
          refine lv_iload hx hb dL_sound_129 (lv_at hl 4 rfl) ?_
          refine lv_bipush (v := 9) hx hb dL_sound_131 (by decide) ?_
          refine roV CF (c_X5_goodOf l D cI cC cW t h Y S q V z U y I (nI i) (9 : Int32) hw.sf) (cwV 2 hts gL_sound_X5_goodOf rfl rfl rfl (by decide +kernel) ⟨Nat.le_of_ble_eq_true rfl, Nat.le_of_ble_eq_true rfl⟩) (vP_l hP) hK hX hS 0 4 ps_0 rfl rfl hl.1 rfl (Nat.le_of_ble_eq_true rfl) dL_sound_133 ⟨Nat.zero_le _, Nat.zero_le _⟩ ?_
          refine lv_top_eq (y := ((Y 4).2.1 (25 + 11 * i))) (rd9 hw.sf hi) ?_
          refine lv_icmp_ge (tgt := 141) hx hb dL_sound_136 (by decide) (fun _ => ?_) (fun c9 => absurd (show ((Y 4).2.1 (25 + 11 * i)) ≤ ((Y 4).2.1 (26 + 11 * i)) by rw [le_toInt]; exact x5) c9)
          refine lv_iload hx hb dL_sound_141 (lv_at hl 3 rfl) ?_
          refine lv_bipush (v := -4) hx hb dL_sound_143 (by decide) ?_
          refine lv_icmp_ne (tgt := 155) hx hb dL_sound_145 (by decide) (fun c9 => absurd (by decide) c9) (fun _ => ?_)
          refine lv_iload hx hb dL_sound_148 (lv_at hl 2 rfl) ?_
          refine lv_if_eq (tgt := 242) hx hb dL_sound_150 (by decide) (fun _ => ?_) (fun c9 => absurd (x1 hp) c9)
          rw [sum_z (f := plT (Y 4).2.1) (i := i) (if_pos hp), sum_z (f := emT (Y 4).2.1) (i := i) (if_pos hp), sum_z (f := wkT (Y 4).2.1 (sea (Y 4).2.1)) (i := i) (if_pos hp), sum_s (f := u5T (Y 4).2.1) (i := i) (v := ((Y 4).2.1 (23 + 11 * i))) rfl, sum_s (f := u6T (Y 4).2.1) (i := i) (v := ((Y 4).2.1 (24 + 11 * i))) rfl] at hl
          exact K242 _ (lv_sub hl [4, 5, 6, 0, 1, 7, 8, 9, 10, 11] rfl)
        · have hpn : ¬ ((Y 4).2.1 (22 + 11 * i)) = -1 := by rw [hp]; exact nI_nm1 (by omega)
          have hG := hw.sl.1 i sv hi hs hp
          refine lv_aload_n hx hb dL_sound_36 rfl (lv_at hl 9 rfl) ?_
          refine lv_iload hx hb dL_sound_37 (lv_at hl 0 rfl) ?_
          refine lv_bipush (v := 6) hx hb dL_sound_39 (by decide) ?_
          refine roV CF (c_X5_goodOf l D cI cC cW t h Y S q V z U y I (nI i) (6 : Int32) hw.sf) (cwV 2 hts gL_sound_X5_goodOf rfl rfl rfl (by decide +kernel) ⟨Nat.le_of_ble_eq_true rfl, Nat.le_of_ble_eq_true rfl⟩) (vP_l hP) hK hX hS 0 4 ps_0 rfl rfl hl.1 rfl (Nat.le_of_ble_eq_true rfl) dL_sound_41 ⟨Nat.zero_le _, Nat.zero_le _⟩ ?_
          refine lv_top_eq (y := (nI sv)) ((rd6 hw hi).trans ((if_neg hpn).trans hp)) ?_
          refine lv_istore (lv' := [(10, .int _), (9, .int _), (8, .int _), (7, .int _), (6, .int _), (5, .int _), (4, .int _), (3, .int _), (2, .int _), (1, .ref _), (0, .ref _)]) hx hb dL_sound_44 hl (by decide) rfl (fun ls hl => ?_)
          refine lv_aload_n hx hb dL_sound_46 rfl (lv_at hl 10 rfl) ?_
          refine lv_iload hx hb dL_sound_47 (lv_at hl 1 rfl) ?_
          refine lv_bipush (v := 7) hx hb dL_sound_49 (by decide) ?_
          refine roV CF (c_X5_goodOf l D cI cC cW t h Y S q V z U y I (nI i) (7 : Int32) hw.sf) (cwV 2 hts gL_sound_X5_goodOf rfl rfl rfl (by decide +kernel) ⟨Nat.le_of_ble_eq_true rfl, Nat.le_of_ble_eq_true rfl⟩) (vP_l hP) hK hX hS 0 4 ps_0 rfl rfl hl.1 rfl (Nat.le_of_ble_eq_true rfl) dL_sound_51 ⟨Nat.zero_le _, Nat.zero_le _⟩ ?_
          refine lv_top_eq (y := ((Y 4).2.1 (23 + 11 * i))) (rd7 hw.sf hi) ?_
          refine lv_istore (lv' := [(11, .int _), (10, .int _), (9, .int _), (8, .int _), (7, .int _), (6, .int _), (5, .int _), (4, .int _), (3, .int _), (2, .int _), (1, .ref _), (0, .ref _)]) hx hb dL_sound_54 hl (by decide) rfl (fun ls hl => ?_)
          refine lv_iload hx hb dL_sound_56 (lv_at hl 6 rfl) ?_
          refine lv_iload hx hb dL_sound_58 (lv_at hl 0 rfl) ?_
          refine lv_iadd hx hb dL_sound_60 ?_
          refine lv_istore (lv' := [(5, .int _), (11, .int _), (10, .int _), (9, .int _), (8, .int _), (7, .int _), (6, .int _), (4, .int _), (3, .int _), (2, .int _), (1, .ref _), (0, .ref _)]) hx hb dL_sound_61 hl (by decide) rfl (fun ls hl => ?_)
          refine lv_iload hx hb dL_sound_63 (lv_at hl 6 rfl) ?_
          refine lv_aload_n hx hb dL_sound_65 rfl (lv_at hl 11 rfl) ?_
          refine lv_iload hx hb dL_sound_66 (lv_at hl 3 rfl) ?_
          refine lv_bipush (v := 8) hx hb dL_sound_68 (by decide) ?_
          refine roV CF (c_X5_goodOf l D cI cC cW t h Y S q V z U y I (nI i) (8 : Int32) hw.sf) (cwV 2 hts gL_sound_X5_goodOf rfl rfl rfl (by decide +kernel) ⟨Nat.le_of_ble_eq_true rfl, Nat.le_of_ble_eq_true rfl⟩) (vP_l hP) hK hX hS 0 4 ps_0 rfl rfl hl.1 rfl (Nat.le_of_ble_eq_true rfl) dL_sound_70 ⟨Nat.zero_le _, Nat.zero_le _⟩ ?_
          refine lv_top_eq (y := ((Y 4).2.1 (24 + 11 * i))) (rd8 hw.sf hi) ?_
          refine lv_iadd hx hb dL_sound_73 ?_
          refine lv_istore (lv' := [(6, .int _), (5, .int _), (11, .int _), (10, .int _), (9, .int _), (8, .int _), (7, .int _), (4, .int _), (3, .int _), (2, .int _), (1, .ref _), (0, .ref _)]) hx hb dL_sound_74 hl (by decide) rfl (fun ls hl => ?_)
          refine lv_iload hx hb dL_sound_76 (lv_at hl 2 rfl) ?_
          refine lv_if_lt (tgt := 139) hx hb dL_sound_78 (by decide) (fun c9 => absurd c9 (show ¬ ((Y 4).2.1 (23 + 11 * i)) < 0 by rw [lt_toInt, i0]; omega)) (fun _ => ?_)
          refine lv_iload hx hb dL_sound_81 (lv_at hl 2 rfl) ?_
          refine lv_aload_n hx hb dL_sound_83 rfl (lv_at hl 11 rfl) ?_
          refine lv_iload hx hb dL_sound_84 (lv_at hl 4 rfl) ?_
          refine lv_iconst (v := 1) hx hb dL_sound_86 (by decide) ?_
          refine roV CF (c_X5_goodOf l D cI cC cW t h Y S q V z U y I (nI i) (1 : Int32) hw.sf) (cwV 2 hts gL_sound_X5_goodOf rfl rfl rfl (by decide +kernel) ⟨Nat.le_of_ble_eq_true rfl, Nat.le_of_ble_eq_true rfl⟩) (vP_l hP) hK hX hS 0 4 ps_0 rfl rfl hl.1 rfl (Nat.le_of_ble_eq_true rfl) dL_sound_87 ⟨Nat.zero_le _, Nat.zero_le _⟩ ?_
          refine lv_top_eq (y := ((Y 4).2.1 (17 + 11 * i))) (rd1 hw.sf hi) ?_
          refine lv_icmp_gt (tgt := 139) hx hb dL_sound_90 (by decide) (fun c9 => absurd c9 (show ¬ ((Y 4).2.1 (17 + 11 * i)) < ((Y 4).2.1 (23 + 11 * i)) by rw [lt_toInt]; omega)) (fun _ => ?_)
          refine lv_iload hx hb dL_sound_93 (lv_at hl 2 rfl) ?_
          refine lv_aload_n hx hb dL_sound_95 rfl (lv_at hl 11 rfl) ?_
          refine lv_iload hx hb dL_sound_96 (lv_at hl 4 rfl) ?_
          refine lv_bipush (v := 8) hx hb dL_sound_98 (by decide) ?_
          refine roV CF (c_X5_goodOf l D cI cC cW t h Y S q V z U y I (nI i) (8 : Int32) hw.sf) (cwV 2 hts gL_sound_X5_goodOf rfl rfl rfl (by decide +kernel) ⟨Nat.le_of_ble_eq_true rfl, Nat.le_of_ble_eq_true rfl⟩) (vP_l hP) hK hX hS 0 4 ps_0 rfl rfl hl.1 rfl (Nat.le_of_ble_eq_true rfl) dL_sound_100 ⟨Nat.zero_le _, Nat.zero_le _⟩ ?_
          refine lv_top_eq (y := ((Y 4).2.1 (24 + 11 * i))) (rd8 hw.sf hi) ?_
          refine lv_iadd hx hb dL_sound_103 ?_
          refine lv_aload_n hx hb dL_sound_104 rfl (lv_at hl 11 rfl) ?_
          refine lv_iload hx hb dL_sound_105 (lv_at hl 4 rfl) ?_
          refine lv_bipush (v := 10) hx hb dL_sound_107 (by decide) ?_
          refine roV CF (c_X5_goodOf l D cI cC cW t h Y S q V z U y I (nI i) (10 : Int32) hw.sf) (cwV 2 hts gL_sound_X5_goodOf rfl rfl rfl (by decide +kernel) ⟨Nat.le_of_ble_eq_true rfl, Nat.le_of_ble_eq_true rfl⟩) (vP_l hP) hK hX hS 0 4 ps_0 rfl rfl hl.1 rfl (Nat.le_of_ble_eq_true rfl) dL_sound_109 ⟨Nat.zero_le _, Nat.zero_le _⟩ ?_
          refine lv_top_eq (y := ((Y 4).2.1 (26 + 11 * i))) (rd10 hw.sf hi) ?_
          refine lv_iadd hx hb dL_sound_112 ?_
          refine lv_aload_n hx hb dL_sound_113 rfl (lv_at hl 10 rfl) ?_
          refine lv_iload hx hb dL_sound_114 (lv_at hl 4 rfl) ?_
          refine va_iald hx hb hK hP 80 0 dv_at rfl (vp_in_nI h20 (by decide)) dL_sound_116 ?_
          refine lv_icmp_ne (tgt := 139) hx hb dL_sound_117 (by decide) (fun c9 => absurd (by rw [show (nI i).toNatClampNeg = i from xI (by omega)]; exact cons_e x3 pu.1 pst.1 x4 (by omega)) c9) (fun _ => ?_)
          refine lv_aload_n hx hb dL_sound_120 rfl (lv_at hl 11 rfl) ?_
          refine lv_iload hx hb dL_sound_121 (lv_at hl 4 rfl) ?_
          refine lv_bipush (v := 10) hx hb dL_sound_123 (by decide) ?_
          refine roV CF (c_X5_goodOf l D cI cC cW t h Y S q V z U y I (nI i) (10 : Int32) hw.sf) (cwV 2 hts gL_sound_X5_goodOf rfl rfl rfl (by decide +kernel) ⟨Nat.le_of_ble_eq_true rfl, Nat.le_of_ble_eq_true rfl⟩) (vP_l hP) hK hX hS 0 4 ps_0 rfl rfl hl.1 rfl (Nat.le_of_ble_eq_true rfl) dL_sound_125 ⟨Nat.zero_le _, Nat.zero_le _⟩ ?_
          refine lv_top_eq (y := ((Y 4).2.1 (26 + 11 * i))) (rd10 hw.sf hi) ?_
          refine lv_aload_n hx hb dL_sound_128 rfl (lv_at hl 11 rfl) ?_
          refine lv_iload hx hb dL_sound_129 (lv_at hl 4 rfl) ?_
          refine lv_bipush (v := 9) hx hb dL_sound_131 (by decide) ?_
          refine roV CF (c_X5_goodOf l D cI cC cW t h Y S q V z U y I (nI i) (9 : Int32) hw.sf) (cwV 2 hts gL_sound_X5_goodOf rfl rfl rfl (by decide +kernel) ⟨Nat.le_of_ble_eq_true rfl, Nat.le_of_ble_eq_true rfl⟩) (vP_l hP) hK hX hS 0 4 ps_0 rfl rfl hl.1 rfl (Nat.le_of_ble_eq_true rfl) dL_sound_133 ⟨Nat.zero_le _, Nat.zero_le _⟩ ?_
          refine lv_top_eq (y := ((Y 4).2.1 (25 + 11 * i))) (rd9 hw.sf hi) ?_
          refine lv_icmp_ge (tgt := 141) hx hb dL_sound_136 (by decide) (fun _ => ?_) (fun c9 => absurd (show ((Y 4).2.1 (25 + 11 * i)) ≤ ((Y 4).2.1 (26 + 11 * i)) by rw [le_toInt]; exact x5) c9)
          refine lv_iload hx hb dL_sound_141 (lv_at hl 3 rfl) ?_
          refine lv_bipush (v := -4) hx hb dL_sound_143 (by decide) ?_
          refine lv_icmp_ne (tgt := 155) hx hb dL_sound_145 (by decide) (fun _ => ?_) (fun c9 => absurd c9 (nI_nm4 (by omega)))
          refine lv_iinc (v := ((sumI (plT (Y 4).2.1) i 0) + (1 : Int32))) (lv' := [(4, .int _), (6, .int _), (5, .int _), (11, .int _), (10, .int _), (9, .int _), (8, .int _), (7, .int _), (3, .int _), (2, .int _), (1, .ref _), (0, .ref _)]) hx hb dL_sound_155 hl (k := 7) rfl rfl (by decide) rfl (fun ls hl => ?_)
          refine lv_iload hx hb dL_sound_158 (lv_at hl 7 rfl) ?_
          refine lv_iload hx hb dL_sound_160 (lv_at hl 3 rfl) ?_
          have J162 : ∀ v162 : Int32, v162 = (if ((Y 4).2.1 (23 + 11 * i)) = 0 then (1 : Int32) else 0) → W p l e (headSpec wsL_sound ({ frames := 5, cells := 0, slots := 0, locals := 106 } : Room)).room s m [.ref (h 0), .ref dd].toArray below meth c H locs 0 0 (MQ below (va_Qi (fun (r : Int32) (u : (Nat → Int32) × Int32 × (Nat → Int32) × Int32) => r = 1) (fun u => rwB D A (ps cI cC cW h Y S q u.1 u.2.1 u.2.2.1 u.2.2.2 I ++ dv cI dd d)) A) [.ref (h 0), .ref dd].toArray s 0 0 A) (F0 m 170 ls [.int v162, .int (sumI (emT (Y 4).2.1) i 0)]) := by
            intro v162 ev162
            refine lv_iadd hx hb dL_sound_170 ?_
            refine lv_istore (lv' := [(7, .int _), (4, .int _), (6, .int _), (5, .int _), (11, .int _), (10, .int _), (9, .int _), (8, .int _), (3, .int _), (2, .int _), (1, .ref _), (0, .ref _)]) hx hb dL_sound_171 hl (by decide) rfl (fun ls hl => ?_)
            refine lv_iload hx hb dL_sound_173 (lv_at hl 7 rfl) ?_
            refine lv_aload_n hx hb dL_sound_175 rfl (lv_at hl 11 rfl) ?_
            refine lv_iload hx hb dL_sound_176 (lv_at hl 6 rfl) ?_
            refine lv_iconst (v := 2) hx hb dL_sound_178 (by decide) ?_
            refine lv_iload_n hx hb dL_sound_179 rfl (lv_at hl 8 rfl) ?_
            refine lv_iadd hx hb dL_sound_180 ?_
            refine roV CF (c_X5_goodOf l D cI cC cW t h Y S q V z U y I (nI i) ((2 : Int32) + (nI (sea (Y 4).2.1))) hw.sf) (cwV 2 hts gL_sound_X5_goodOf rfl rfl rfl (by decide +kernel) ⟨Nat.le_of_ble_eq_true rfl, Nat.le_of_ble_eq_true rfl⟩) (vP_l hP) hK hX hS 0 4 ps_0 rfl rfl hl.1 rfl (Nat.le_of_ble_eq_true rfl) dL_sound_181 ⟨Nat.zero_le _, Nat.zero_le _⟩ ?_
            refine lv_top_eq (y := ((Y 4).2.1 (18 + 11 * i + sea (Y 4).2.1))) (rdD hw.sf hi sea_lt) ?_
            refine lv_aload_n hx hb dL_sound_184 rfl (lv_at hl 11 rfl) ?_
            refine lv_iload hx hb dL_sound_185 (lv_at hl 5 rfl) ?_
            refine lv_iconst (v := 1) hx hb dL_sound_187 (by decide) ?_
            refine roV CF (c_X5_slotOf l D cI cC cW t h Y S q V z U y I (nI sv) (1 : Int32) ) (cwV 2 hts gL_sound_X5_slotOf rfl rfl rfl (by decide +kernel) ⟨Nat.le_of_ble_eq_true rfl, Nat.le_of_ble_eq_true rfl⟩) (vP_l hP) hK hX hS 0 4 ps_0 rfl rfl hl.1 rfl (Nat.le_of_ble_eq_true rfl) dL_sound_188 ⟨Nat.zero_le _, Nat.zero_le _⟩ ?_
            refine lv_top_eq (y := (sp_X2_walkTo (nI sv))) (rs1 hs) ?_
            refine lv_imul hx hb dL_sound_191 ?_
            refine lv_iadd hx hb dL_sound_192 ?_
            refine lv_istore (lv' := [(8, .int _), (7, .int _), (4, .int _), (6, .int _), (5, .int _), (11, .int _), (10, .int _), (9, .int _), (3, .int _), (2, .int _), (1, .ref _), (0, .ref _)]) hx hb dL_sound_193 hl (by decide) rfl (fun ls hl => ?_)
            refine lv_aload_n hx hb dL_sound_195 rfl (lv_at hl 11 rfl) ?_
            refine lv_iload hx hb dL_sound_196 (lv_at hl 6 rfl) ?_
            refine lv_iconst (v := 0) hx hb dL_sound_198 (by decide) ?_
            refine roV CF (c_X5_slotOf l D cI cC cW t h Y S q V z U y I (nI sv) (0 : Int32) ) (cwV 2 hts gL_sound_X5_slotOf rfl rfl rfl (by decide +kernel) ⟨Nat.le_of_ble_eq_true rfl, Nat.le_of_ble_eq_true rfl⟩) (vP_l hP) hK hX hS 0 4 ps_0 rfl rfl hl.1 rfl (Nat.le_of_ble_eq_true rfl) dL_sound_199 ⟨Nat.zero_le _, Nat.zero_le _⟩ ?_
            refine lv_top_eq (y := (nI i)) ((rs0 hw hs).trans ((if_neg (by rw [hG]; exact nI_nm1 (by omega))).trans hG)) ?_
            refine lv_iload hx hb dL_sound_202 (lv_at hl 7 rfl) ?_
            refine lv_icmp_ne (tgt := 240) hx hb dL_sound_204 (by decide) (fun c9 => absurd rfl c9) (fun _ => ?_)
            refine lv_aload_n hx hb dL_sound_207 rfl (lv_at hl 11 rfl) ?_
            refine lv_iload hx hb dL_sound_208 (lv_at hl 6 rfl) ?_
            refine lv_iconst (v := 2) hx hb dL_sound_210 (by decide) ?_
            refine roV CF (c_X5_slotOf l D cI cC cW t h Y S q V z U y I (nI sv) (2 : Int32) ) (cwV 2 hts gL_sound_X5_slotOf rfl rfl rfl (by decide +kernel) ⟨Nat.le_of_ble_eq_true rfl, Nat.le_of_ble_eq_true rfl⟩) (vP_l hP) hK hX hS 0 4 ps_0 rfl rfl hl.1 rfl (Nat.le_of_ble_eq_true rfl) dL_sound_211 ⟨Nat.zero_le _, Nat.zero_le _⟩ ?_
            refine lv_top_eq (y := (sp_X2_heaviestAt (nI sv))) (rs2 hs) ?_
            refine lv_aload_n hx hb dL_sound_214 rfl (lv_at hl 11 rfl) ?_
            refine lv_iload hx hb dL_sound_215 (lv_at hl 7 rfl) ?_
            refine lv_iconst (v := 0) hx hb dL_sound_217 (by decide) ?_
            refine roV CF (c_X5_goodOf l D cI cC cW t h Y S q V z U y I (nI i) (0 : Int32) hw.sf) (cwV 2 hts gL_sound_X5_goodOf rfl rfl rfl (by decide +kernel) ⟨Nat.le_of_ble_eq_true rfl, Nat.le_of_ble_eq_true rfl⟩) (vP_l hP) hK hX hS 0 4 ps_0 rfl rfl hl.1 rfl (Nat.le_of_ble_eq_true rfl) dL_sound_218 ⟨Nat.zero_le _, Nat.zero_le _⟩ ?_
            refine lv_top_eq (y := ((Y 4).2.1 (16 + 11 * i))) (rd0 hw.sf hi) ?_
            refine lv_icmp_lt (tgt := 240) hx hb dL_sound_221 (by decide) (fun c9 => absurd c9 (lt_le (x2 sv hs hp))) (fun _ => ?_)
            refine lv_iload hx hb dL_sound_224 (lv_at hl 6 rfl) ?_
            refine lv_bipush (v := 6) hx hb dL_sound_226 (by decide) ?_
            refine lv_irem hx hb dL_sound_228 (by decide) ?_
            refine lv_aload_n hx hb dL_sound_229 rfl (lv_at hl 11 rfl) ?_
            refine lv_iload hx hb dL_sound_230 (lv_at hl 7 rfl) ?_
            refine lv_bipush (v := 11) hx hb dL_sound_232 (by decide) ?_
            refine roV CF (c_X5_goodOf l D cI cC cW t h Y S q V z U y I (nI i) (11 : Int32) hw.sf) (cwV 2 hts gL_sound_X5_goodOf rfl rfl rfl (by decide +kernel) ⟨Nat.le_of_ble_eq_true rfl, Nat.le_of_ble_eq_true rfl⟩) (vP_l hP) hK hX hS 0 4 ps_0 rfl rfl hl.1 rfl (Nat.le_of_ble_eq_true rfl) dL_sound_234 ⟨Nat.zero_le _, Nat.zero_le _⟩ ?_
            refine lv_top_eq (y := (sp_X2_greatestHeightFor ((Y 4).2.1 (16 + 11 * i)))) (rd11 hw.sf hi) ?_
            refine lv_icmp_le (tgt := 242) hx hb dL_sound_237 (by decide) (fun _ => ?_) (fun c9 => absurd (gh_le hw hi hs (x2 sv hs hp)) c9)
            rw [sum_s (f := plT (Y 4).2.1) (i := i) (v := 1) (if_neg hpn).symm, sum_s (f := emT (Y 4).2.1) (i := i) (v := v162) (ev162.trans (if_neg hpn).symm), sum_s (f := wkT (Y 4).2.1 (sea (Y 4).2.1)) (i := i) (v := (Y 4).2.1 (18 + 11 * i + sea (Y 4).2.1) * sp_X2_walkTo (nI sv)) (by rw [wkT_at hs hp, wkT' sv hs]), sum_s (f := u5T (Y 4).2.1) (i := i) (v := ((Y 4).2.1 (23 + 11 * i))) rfl, sum_s (f := u6T (Y 4).2.1) (i := i) (v := ((Y 4).2.1 (24 + 11 * i))) rfl] at hl
            exact K242 _ (lv_sub hl [7, 0, 1, 3, 4, 2, 8, 9, 10, 11] rfl)
          refine lv_if_ne (tgt := 169) hx hb dL_sound_162 (by decide) (fun c162 => ?_) (fun c162 => ?_)
          · refine lv_iconst (v := 0) hx hb dL_sound_169 (by decide) ?_
            exact J162 _ ((if_neg c162).symm)
          · refine lv_iconst (v := 1) hx hb dL_sound_165 (by decide) ?_
            refine lv_goto (tgt := 170) hx hb dL_sound_166 (by decide) ?_
            exact J162 _ ((if_pos c162).symm)
  exact L30 (n + 1) 0  (by omega) (by omega) _ _ _ (lv_sub hl [0, 1, 2, 3, 4, 5, 6, 7, 9, 8] rfl) hP hD hS
