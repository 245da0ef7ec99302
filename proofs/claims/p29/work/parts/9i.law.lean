/-! the law's walk (printed by wip/p29/m_law.py) -/
theorem nI_17 {k : Nat} : (17 : Int32) + nI k = nI (17 + k) := nI_add 17 k
theorem nI_9 {k : Nat} : (9 : Int32) + nI k = nI (9 + k) := nI_add 9 k
theorem nI_a1 {k : Nat} : (1 : Int32) + nI k = nI (1 + k) := nI_add 1 k
theorem nI_nn {k : Nat} (h : k < 1000) : (0 : Int32) ≤ nI k := by rw [le_toInt, i0, tI h]; omega
theorem pos_nn {x : Int32} (h : 1 ≤ x.toInt) : ¬ x < 0 := by rw [lt_toInt, i0]; omega
theorem wk_nn {sv : Nat} (h : sv < 60) : ¬ sp_X2_walkTo (nI sv) < 0 := by
  rw [wkT' sv h, lt_toInt, i0]
  have := wk_lo sv h
  omega
theorem upW {x : Int32} (w : Nat) (hw : 1 ≤ w) (hw2 : w < 100000) : ∃ k : Nat, k < w ∧ upF x (nI w) = nI k := by
  obtain ⟨k, hk, ek⟩ := upF_r (x := x) (w := nI w) (by rw [nI_toInt (by omega)]; omega)
  rw [nI_toInt (by omega)] at hk
  exact ⟨k, by omega, ek⟩
theorem w60_r {x : Int32} : 1 ≤ ((1 : Int32) + upF x (60 : Int32)).toInt ∧ ((1 : Int32) + upF x (60 : Int32)).toInt ≤ 200 := by
  obtain ⟨k, hk, ek⟩ := upW (x := x) 60 (by omega) (by omega)
  rw [show upF x (60 : Int32) = nI k from ek, nI_a1, nI_toInt (by omega)]; omega
theorem w300_r {x : Int32} : 1 ≤ ((1 : Int32) + upF x (300 : Int32)).toInt ∧ ((1 : Int32) + upF x (300 : Int32)).toInt ≤ 300 := by
  obtain ⟨k, hk, ek⟩ := upW (x := x) 300 (by omega) (by omega)
  rw [show upF x (300 : Int32) = nI k from ek, nI_a1, nI_toInt (by omega)]; omega
theorem w1000_r {x : Int32} : 0 ≤ (upF x (1000 : Int32)).toInt ∧ (upF x (1000 : Int32)).toInt ≤ 999 := by
  obtain ⟨k, hk, ek⟩ := upW (x := x) 1000 (by omega) (by omega)
  rw [show upF x (1000 : Int32) = nI k from ek, nI_toInt (by omega)]; omega
theorem wt_of {v x q : Int32} (e : v = if (q &&& (3 : Int32)) = 0 then ((1 : Int32) + upF x (40 : Int32)) else ((1 : Int32) + upF x (8 : Int32))) : 1 ≤ v.toInt ∧ v.toInt ≤ 40 := by
  by_cases c : (q &&& (3 : Int32)) = 0
  · rw [if_pos c] at e
    obtain ⟨k, hk, ek⟩ := upW (x := x) 40 (by omega) (by omega)
    rw [e, show upF x (40 : Int32) = nI k from ek, nI_a1, nI_toInt (by omega)]; omega
  · rw [if_neg c] at e
    obtain ⟨k, hk, ek⟩ := upW (x := x) 8 (by omega) (by omega)
    rw [e, show upF x (8 : Int32) = nI k from ek, nI_a1, nI_toInt (by omega)]; omega
theorem sl_of {v x q : Int32} {t1 : Nat} (ht : t1 < 60) (e : v = if (q &&& (3 : Int32)) = 0 then nI t1 else upF x (60 : Int32)) : ∃ sv, sv < 60 ∧ v = nI sv := by
  by_cases c : (q &&& (3 : Int32)) = 0
  · rw [if_pos c] at e
    exact ⟨t1, ht, e⟩
  · rw [if_neg c] at e
    obtain ⟨k, hk, ek⟩ := upW (x := x) 60 (by omega) (by omega)
    exact ⟨k, hk, e.trans ek⟩
theorem w4_a {W : Nat → va_H} {M : Nat → Int32} : ((wn4 W M) 4).2.1 = M := by rw [wn4_4]
theorem w4_b {W : Nat → va_H} {M : Nat → Int32} : ((wn4 W M) 4).2.2 = (W 4).2.2 := by rw [wn4_4]
theorem upd_at {f : Nat → Int32} {i k : Nat} {v : Int32} (h : k = i) : upd f i v k = v := by rw [h, pk_us]
theorem un4_0 {x : Int32} (h : x = 0) : un4 x = 0 := by rw [h]; decide
theorem frs_FR {Y Y1 : Nat → va_H} {q I : Nat → Int32} (hF : frs Y q I) (h : FR Y Y1) : frs Y1 q I := by
  unfold frs at *
  rw [h.n4]
  exact hF
theorem no_pl {N G : Nat → Int32} {n : Nat} {b : Int} (hw : wf b N G) (hN : N 0 = nI n) (hn : n ≤ 20) (hG : ∀ k, k < 60 → G k = -1) : ∀ g : Nat, g < n → N (22 + 11 * g) = -1 := by
  intro g hg
  have hi : (g : Int) < (N 0).toInt := by rw [hN, tI (by omega)]; omega
  rcases (hw.g hi).p with hp | ⟨t1, ht, hp⟩
  · exact hp
  · have e := hw.sl.1 g t1 hi ht hp
    rw [hG t1 ht] at e
    exact absurd e.symm (nI_nm1 (by omega))
set_option maxHeartbeats 4000000 in
set_option maxRecDepth 100000 in
theorem law_d {p : Program} {e : Env} {s : State} {m : MethodId} {below : List Frame} {meth : Method} {c : Code} {l : Launch} {b L : Nat} {xs : Nat → Int32} {D : va_G} {cI cC cW : ClassId} {h t : Nat → Nat} {dd : Nat} {Y : Nat → va_H} {S q V : Nat → Int32} {z : Int32} {U : Nat → Int32} {y : Int32} {I d : Nat → Int32} {H : Heap} {locs : List Loc} {ls : Array Slot} (hL : L ≤ 260) (C0 : lw_At p s m meth c b L xs) (hts : ∀ w ∈ wsL_law, w.before #[Value.ref b] s = true) (hK : va_K D vwCl (tyL cI cC cW) s) (hX : sx t (lA s) s s.heap) (hch : ∀ i, narrow .char (.int (S i)) = .int (S i)) (hq0 : q 0 = 0) (iv : INVa 0 40000 Y I d) (hn2 : 2 ≤ ((Y 4).2.1 0).toInt) (hP : va_P D vwCl (ps cI cC cW h Y S q V z U y I ++ dv cI dd d) H) (hD : va_D (lA s) (ps cI cC cW h Y S q V z U y I ++ dv cI dd d)) (hS : va_S (lA s) s.heap H locs) (hl : lv_has ls 9 [(2, .ref dd), (1, .ref (h 0)), (0, .ref b)]) : W p l e room_1 s m #[Value.ref b] below meth c H locs 100 4000 (lw_Z below #[Value.ref b] s) (F0 m 448 ls []) := by
  obtain ⟨hx, hb, hr, hml, hown, -, hXs, hbl, hlocks, -⟩ := id C0
  have hbA : ¬ lA s b := Nat.not_le.mpr hbl
  have hA : ∀ q : Nat, s.heap.size ≤ q → lA s q := fun _ h => h
  have CF : CallFix p m c cL_law 9 s #[Value.ref b] wsL_law RL := ⟨hx, hb, hml, hown, hts⟩
  have hln : 0 ≤ (q 0).toInt := by rw [hq0]; decide
  refine lv_iconst (v := 0) hx hb dL_law_448 (by decide) ?_
  refine lv_istore (lv' := [(4, .int _), (2, .ref _), (1, .ref _), (0, .ref _)]) hx hb dL_law_449 hl (by decide) rfl (fun ls hl => ?_)
  have L451 : ∀ (n451 : Nat) (k : Nat) (Yk : Nat → va_H) (Vk : Nat → Int32) (zk : Int32) (Uk : Nat → Int32) (yk : Int32) (Ik : Nat → Int32) (dk : Nat → Int32), (k ≤ 14) → (14 - k < n451) → (INVa (k : Int) (40000 + 5000 * (k : Int)) Yk Ik dk) → (2 ≤ ((Yk 4).2.1 0).toInt) → ∀ (ls : Array Slot) (H : Heap) (locs : List Loc), lv_has ls 9 [(4, .int (nI k)), (2, .ref dd), (1, .ref (h 0)), (0, .ref b)] → va_P D vwCl (ps cI cC cW h Yk S q Vk zk Uk yk Ik ++ dv cI dd dk) H → va_D (lA s) (ps cI cC cW h Yk S q Vk zk Uk yk Ik ++ dv cI dd dk) → va_S (lA s) s.heap H locs → W p l e room_1 s m #[Value.ref b] below meth c H locs 100 4000 (lw_Z below #[Value.ref b] s) (F0 m 451 ls []) := by
    intro n451
    induction n451 with
    | zero => intro k Yk Vk zk Uk yk Ik dk hk hn iv hn2; exact absurd hn (by omega)
    | succ n451 ih451 =>
      intro k Yk Vk zk Uk yk Ik dk hk hn iv hn2 ls H locs hl hP hD hS
      refine lv_iload hx hb dL_law_451 (lv_at hl 0 rfl) ?_
      refine lv_bipush (v := 14) hx hb dL_law_453 (by decide) ?_
      refine lv_icmp_ge (tgt := 483) hx hb dL_law_455 (by decide) (fun c455 => ?_) (fun c455 => ?_)
      · have e14 : k = 14 := by have := nIge (k := 14) (by omega) (by decide) c455; omega
        refine lv_aload_n hx hb dL_law_483 rfl (lv_at hl 2 rfl) ?_
        refine roSr CF (c_L_worths l D cI cC cW t h Yk S q Vk zk Uk yk Ik (k : Int) iv.1) (va_cwS 1 hts gL_law_L_worths rfl rfl rfl (by decide +kernel) ⟨Nat.le_of_ble_eq_true rfl, Nat.le_of_ble_eq_true rfl⟩) (vP_l hP) hK hX hS rfl hl.1 rfl (Nat.le_of_ble_eq_true rfl) dL_law_484 ⟨Nat.le_of_ble_eq_true rfl, Nat.le_of_ble_eq_true rfl⟩ (fun r484 er484 => ?_)
        subst er484
        refine lv_if_eq (tgt := 501) hx hb dL_law_487 (by decide) (fun c9 => absurd c9 (by decide)) (fun _ => ?_)
        refine lv_aload_n hx hb dL_law_490 rfl (lv_at hl 2 rfl) ?_
        refine rwSr (wc := ps cI cC cW h Yk S q Vk zk Uk yk Ik) (Rr := dv cI dd dk) (wn := fun u : (Nat → va_H) => ps cI cC cW h u S q Vk zk Uk yk Ik) (w1 := fun u : (Nat → va_H) => ps cI cC cW h u S q Vk zk Uk yk Ik ++ dv cI dd dk) (List.Perm.refl _) (fun _ => List.Perm.refl _) CF (c_L_fails l D cI cC cW t h _ Yk S q Vk zk Uk yk Ik  iv.1.sf iv.2.2.1 hln hch) (va_cwS 1 hts gL_law_L_fails rfl rfl rfl (by decide +kernel) ⟨Nat.le_of_ble_eq_true rfl, Nat.le_of_ble_eq_true rfl⟩) hP hD hK hX hS hA rfl hl.1 rfl (Nat.le_of_ble_eq_true rfl) dL_law_491 ⟨Nat.le_of_ble_eq_true rfl, Nat.le_of_ble_eq_true rfl⟩ (fun r491 Y9 H locs hu hP hD hS => ?_)
        have hP : va_P D vwCl (ps cI cC cW h Y9 S q Vk zk Uk yk Ik ++ dv cI dd dk) H := hP
        have hD : va_D (lA s) (ps cI cC cW h Y9 S q Vk zk Uk yk Ik ++ dv cI dd dk) := hD
        have hu : r491 = 1 ∧ FR Yk Y9 := hu
        obtain ⟨hr491, fr491⟩ := hu
        subst hr491
        refine lv_if_eq (tgt := 501) hx hb dL_law_494 (by decide) (fun c9 => absurd c9 (by decide)) (fun _ => ?_)
        refine lv_iconst (v := 1) hx hb dL_law_497 (by decide) ?_
        refine lv_goto (tgt := 502) hx hb dL_law_498 (by decide) ?_
        refine va_forget (fun q hq => hS.2.2 q hq) ?_
        refine W.widen (k := 600000) (n := 7302250) (by omega) (by omega) ?_
        exact lw_ret hx hb hr hlocks dL_law_502
      · have hk14 : k < 14 := nIlt (by omega) (by decide) c455
        refine lv_aload_n hx hb dL_law_458 rfl (lv_at hl 2 rfl) ?_
        refine lv_aload_n hx hb dL_law_459 rfl (lv_at hl 3 rfl) ?_
        refine lv_bipush (v := 17) hx hb dL_law_460 (by decide) ?_
        refine lv_iload hx hb dL_law_462 (lv_at hl 0 rfl) ?_
        refine lv_iadd hx hb dL_law_464 ?_
        refine cellC CF (c_L_cell l D cI cC cW t b L xs ((17 : Int32) + (nI k)) (by omega) (by rw [nI_17]; rw [nI_toInt (by omega)]; omega)) (va_cwS 2 hts gL_law_L_cell rfl rfl rfl (by decide +kernel) ⟨Nat.le_of_ble_eq_true rfl, Nat.le_of_ble_eq_true rfl⟩) hXs hbl hbA hS rfl hl.1 rfl (Nat.le_of_ble_eq_true rfl) dL_law_465 ⟨Nat.le_of_ble_eq_true rfl, Nat.le_of_ble_eq_true rfl⟩ (fun v465 => ?_)
        refine lv_aload_n hx hb dL_law_468 rfl (lv_at hl 1 rfl) ?_
        refine rwSr (wc := ps cI cC cW h Yk S q Vk zk Uk yk Ik ++ dv cI dd dk) (Rr := []) (wn := fun u : (Nat → va_H) × (Nat → Int32) × (Int32) × (Nat → Int32) × (Int32) × (Nat → Int32) × (Nat → Int32) => ps cI cC cW h u.1 S q u.2.1 u.2.2.1 u.2.2.2.1 u.2.2.2.2.1 u.2.2.2.2.2.1 ++ dv cI dd u.2.2.2.2.2.2) (w1 := fun u : (Nat → va_H) × (Nat → Int32) × (Int32) × (Nat → Int32) × (Int32) × (Nat → Int32) × (Nat → Int32) => ps cI cC cW h u.1 S q u.2.1 u.2.2.1 u.2.2.2.1 u.2.2.2.2.1 u.2.2.2.2.2.1 ++ dv cI dd u.2.2.2.2.2.2) (by rw [List.append_nil]) (fun _ => by rw [List.append_nil]) CF (c_L_acts l D cI cC cW t h dd _ Yk S q Vk zk Uk yk Ik dk v465 (k : Int) (40000 + 5000 * (k : Int)) iv.1 iv.2.1 (by omega) (by omega) (by omega) iv.2.2.1 iv.2.2.2) (va_cwS 3 hts gL_law_L_acts rfl rfl rfl (by decide +kernel) ⟨Nat.le_of_ble_eq_true rfl, Nat.le_of_ble_eq_true rfl⟩) hP hD hK hX hS hA rfl hl.1 rfl (Nat.le_of_ble_eq_true rfl) dL_law_469 ⟨Nat.le_of_ble_eq_true rfl, Nat.le_of_ble_eq_true rfl⟩ (fun r469 u H locs hu hP hD hS => ?_)
        obtain ⟨Y1, V1, z1, U1, y1, I1, d1⟩ := u
        have hP : va_P D vwCl (ps cI cC cW h Y1 S q V1 z1 U1 y1 I1 ++ dv cI dd d1) H := hP
        have hD : va_D (lA s) (ps cI cC cW h Y1 S q V1 z1 U1 y1 I1 ++ dv cI dd d1) := hD
        have hu : r469 = 1 ∧ INVa ((k : Int) + 1) (40000 + 5000 * (k : Int) + 5000) Y1 I1 d1 ∧ (Y1 4).2.1 0 = (Yk 4).2.1 0 := hu
        obtain ⟨hr1, iv1, hn1⟩ := hu
        subst hr1
        refine lv_if_ne (tgt := 477) hx hb dL_law_472 (by decide) (fun _ => ?_) (fun c9 => absurd c9 (by decide))
        refine lv_iinc (v := (nI (k + 1))) (lv' := [(4, .int _), (2, .ref _), (1, .ref _), (0, .ref _)]) hx hb dL_law_477 hl (k := 0) rfl (by rw [← nI_add k 1]; rfl) (by decide) rfl (fun ls hl => ?_)
        refine lv_goto (tgt := 451) hx hb dL_law_480 (by decide) ?_
        exact ih451 (k + 1) Y1 V1 z1 U1 y1 I1 d1 (by omega) (by omega) (iv1.mono (by omega) (by omega)) (by rw [hn1]; exact hn2) _ _ _ (lv_sub hl [0, 1, 2, 3] rfl) hP hD hS
  exact L451 15 0 Y V z U y I d (by omega) (by omega) (iv.mono (by omega) (by omega)) hn2 _ _ _ (lv_sub hl [0, 1, 2, 3] rfl) hP hD hS
set_option maxHeartbeats 4000000 in
set_option maxRecDepth 100000 in
theorem law_c {p : Program} {e : Env} {s : State} {m : MethodId} {below : List Frame} {meth : Method} {c : Code} {l : Launch} {b L : Nat} {xs : Nat → Int32} {D : va_G} {cI cC cW : ClassId} {h t : Nat → Nat} {dd : Nat} {Y : Nat → va_H} {S q V : Nat → Int32} {z : Int32} {U : Nat → Int32} {y : Int32} {I d : Nat → Int32} {H : Heap} {locs : List Loc} {ls : Array Slot} (hL : L ≤ 260) (C0 : lw_At p s m meth c b L xs) (hts : ∀ w ∈ wsL_law, w.before #[Value.ref b] s = true) (hK : va_K D vwCl (tyL cI cC cW) s) (hX : sx t (lA s) s s.heap) (hch : ∀ i, narrow .char (.int (S i)) = .int (S i)) {n : Nat} (hq0 : q 0 = 0) (hn2 : 2 ≤ n) (hn8 : n ≤ 8) (iv : INVa 0 40000 Y I d) (hN : (Y 4).2.1 0 = nI n) (hun : ∀ g : Nat, g < n → (Y 4).2.1 (22 + 11 * g) = -1) (hP : va_P D vwCl (ps cI cC cW h Y S q V z U y I ++ dv cI dd d) H) (hD : va_D (lA s) (ps cI cC cW h Y S q V z U y I ++ dv cI dd d)) (hS : va_S (lA s) s.heap H locs) (hl : lv_has ls 9 [(3, .int (nI n)), (2, .ref dd), (1, .ref (h 0)), (0, .ref b)]) : W p l e room_1 s m #[Value.ref b] below meth c H locs 100 4000 (lw_Z below #[Value.ref b] s) (F0 m 308 ls []) := by
  obtain ⟨hx, hb, hr, hml, hown, -, hXs, hbl, hlocks, -⟩ := id C0
  have hbA : ¬ lA s b := Nat.not_le.mpr hbl
  have hA : ∀ q : Nat, s.heap.size ≤ q → lA s q := fun _ h => h
  have CF : CallFix p m c cL_law 9 s #[Value.ref b] wsL_law RL := ⟨hx, hb, hml, hown, hts⟩
  have hln : 0 ≤ (q 0).toInt := by rw [hq0]; decide
  refine lv_iconst (v := 0) hx hb dL_law_308 (by decide) ?_
  refine lv_istore (lv' := [(4, .int _), (3, .int _), (2, .ref _), (1, .ref _), (0, .ref _)]) hx hb dL_law_309 hl (by decide) rfl (fun ls hl => ?_)
  have L311 : ∀ (n311 : Nat) (i : Nat) (Yj : Nat → va_H) (Ij : Nat → Int32), (i ≤ n) → (n - i < n311) → (INVa 0 40000 Yj Ij d) → ((Yj 4).2.1 0 = nI n) → (∀ g : Nat, i ≤ g → g < n → (Yj 4).2.1 (22 + 11 * g) = -1) → ∀ (ls : Array Slot) (H : Heap) (locs : List Loc), lv_has ls 9 [(4, .int (nI i)), (3, .int (nI n)), (2, .ref dd), (1, .ref (h 0)), (0, .ref b)] → va_P D vwCl (ps cI cC cW h Yj S q V z U y Ij ++ dv cI dd d) H → va_D (lA s) (ps cI cC cW h Yj S q V z U y Ij ++ dv cI dd d) → va_S (lA s) s.heap H locs → W p l e room_1 s m #[Value.ref b] below meth c H locs 100 4000 (lw_Z below #[Value.ref b] s) (F0 m 311 ls []) := by
    intro n311
    induction n311 with
    | zero => intro i Yj Ij hin hn iv hN hun; exact absurd hn (by omega)
    | succ n311 ih311 =>
      intro i Yj Ij hin hn iv hN hun ls H locs hl hP hD hS
      refine lv_iload hx hb dL_law_311 (lv_at hl 0 rfl) ?_
      refine lv_iload_n hx hb dL_law_313 rfl (lv_at hl 1 rfl) ?_
      refine lv_icmp_ge (tgt := 424) hx hb dL_law_314 (by decide) (fun c314 => ?_) (fun c314 => ?_)
      · have ein : i = n := by have := nIge (by omega) (by omega) c314; omega
        refine lv_aload_n hx hb dL_law_424 rfl (lv_at hl 3 rfl) ?_
        refine lv_aload_n hx hb dL_law_425 rfl (lv_at hl 2 rfl) ?_
        refine rwSr (wc := ps cI cC cW h Yj S q V z U y Ij ++ dv cI dd d) (Rr := []) (wn := fun u : (Nat → Int32) × (Int32) × (Nat → Int32) × (Int32) => ps cI cC cW h Yj S q u.1 u.2.1 u.2.2.1 u.2.2.2 Ij ++ dv cI dd d) (w1 := fun u : (Nat → Int32) × (Int32) × (Nat → Int32) × (Int32) => ps cI cC cW h Yj S q u.1 u.2.1 u.2.2.1 u.2.2.2 Ij ++ dv cI dd d) (by rw [List.append_nil]) (fun _ => by rw [List.append_nil]) CF (c_L_sound l D cI cC cW t h dd _ Yj S q V z U y Ij d  0 40000 iv.1 iv.2.1 (by omega)) (va_cwS 2 hts gL_law_L_sound rfl rfl rfl (by decide +kernel) ⟨Nat.le_of_ble_eq_true rfl, Nat.le_of_ble_eq_true rfl⟩) hP hD hK hX hS hA rfl hl.1 rfl (Nat.le_of_ble_eq_true rfl) dL_law_426 ⟨Nat.le_of_ble_eq_true rfl, Nat.le_of_ble_eq_true rfl⟩ (fun r426 u H locs hu hP hD hS => ?_)
        obtain ⟨V3, z3, U3, y3⟩ := u
        have hP : va_P D vwCl (ps cI cC cW h Yj S q V3 z3 U3 y3 Ij ++ dv cI dd d) H := hP
        have hD : va_D (lA s) (ps cI cC cW h Yj S q V3 z3 U3 y3 Ij ++ dv cI dd d) := hD
        have hu : r426 = 1 := hu
        subst hu
        refine lv_if_eq (tgt := 446) hx hb dL_law_429 (by decide) (fun c9 => absurd c9 (by decide)) (fun _ => ?_)
        refine lv_aload_n hx hb dL_law_432 rfl (lv_at hl 3 rfl) ?_
        refine roSr CF (c_L_worths l D cI cC cW t h Yj S q V3 z3 U3 y3 Ij 0 iv.1) (va_cwS 1 hts gL_law_L_worths rfl rfl rfl (by decide +kernel) ⟨Nat.le_of_ble_eq_true rfl, Nat.le_of_ble_eq_true rfl⟩) (vP_l hP) hK hX hS rfl hl.1 rfl (Nat.le_of_ble_eq_true rfl) dL_law_433 ⟨Nat.le_of_ble_eq_true rfl, Nat.le_of_ble_eq_true rfl⟩ (fun r433 er433 => ?_)
        subst er433
        refine lv_if_eq (tgt := 446) hx hb dL_law_436 (by decide) (fun c9 => absurd c9 (by decide)) (fun _ => ?_)
        refine lv_aload_n hx hb dL_law_439 rfl (lv_at hl 3 rfl) ?_
        refine rwSr (wc := ps cI cC cW h Yj S q V3 z3 U3 y3 Ij) (Rr := dv cI dd d) (wn := fun u : (Nat → va_H) => ps cI cC cW h u S q V3 z3 U3 y3 Ij) (w1 := fun u : (Nat → va_H) => ps cI cC cW h u S q V3 z3 U3 y3 Ij ++ dv cI dd d) (List.Perm.refl _) (fun _ => List.Perm.refl _) CF (c_L_fails l D cI cC cW t h _ Yj S q V3 z3 U3 y3 Ij  iv.1.sf iv.2.2.1 hln hch) (va_cwS 1 hts gL_law_L_fails rfl rfl rfl (by decide +kernel) ⟨Nat.le_of_ble_eq_true rfl, Nat.le_of_ble_eq_true rfl⟩) hP hD hK hX hS hA rfl hl.1 rfl (Nat.le_of_ble_eq_true rfl) dL_law_440 ⟨Nat.le_of_ble_eq_true rfl, Nat.le_of_ble_eq_true rfl⟩ (fun r440 Y9 H locs hu hP hD hS => ?_)
        have hP : va_P D vwCl (ps cI cC cW h Y9 S q V3 z3 U3 y3 Ij ++ dv cI dd d) H := hP
        have hD : va_D (lA s) (ps cI cC cW h Y9 S q V3 z3 U3 y3 Ij ++ dv cI dd d) := hD
        have hu : r440 = 1 ∧ FR Yj Y9 := hu
        obtain ⟨hr440, fr440⟩ := hu
        subst hr440
        refine lv_if_ne (tgt := 448) hx hb dL_law_443 (by decide) (fun _ => ?_) (fun c9 => absurd c9 (by decide))
        exact law_d hL C0 hts hK hX hch hq0 (INVa.of fr440.n4 iv.1 iv.2.1 iv.2.2.1 iv.2.2.2) (by rw [fr440.n4, hN, tI (by omega)]; omega) hP hD hS (lv_sub hl [2, 3, 4] rfl)
      · have hlt : i < n := nIlt (by omega) (by omega) c314
        have hNn : ((Yj 4).2.1 0).toInt = (n : Int) := by rw [hN, tI (by omega)]
        have hi : (i : Int) < ((Yj 4).2.1 0).toInt := by omega
        obtain ⟨t1, ht, et, hGt, hbt⟩ := l_near8 iv.1 hNn hn8 hi
        refine lv_aload_n hx hb dL_law_317 rfl (lv_at hl 4 rfl) ?_
        refine lv_bipush (v := 9) hx hb dL_law_318 (by decide) ?_
        refine lv_iload hx hb dL_law_320 (lv_at hl 0 rfl) ?_
        refine lv_iadd hx hb dL_law_322 ?_
        refine cellC CF (c_L_cell l D cI cC cW t b L xs ((9 : Int32) + (nI i)) (by omega) (by rw [nI_9]; rw [nI_toInt (by omega)]; omega)) (va_cwS 2 hts gL_law_L_cell rfl rfl rfl (by decide +kernel) ⟨Nat.le_of_ble_eq_true rfl, Nat.le_of_ble_eq_true rfl⟩) hXs hbl hbA hS rfl hl.1 rfl (Nat.le_of_ble_eq_true rfl) dL_law_323 ⟨Nat.le_of_ble_eq_true rfl, Nat.le_of_ble_eq_true rfl⟩ (fun v323 => ?_)
        refine lv_istore (lv' := [(5, .int _), (4, .int _), (3, .int _), (2, .ref _), (1, .ref _), (0, .ref _)]) hx hb dL_law_326 hl (by decide) rfl (fun ls hl => ?_)
        refine lv_aload_n hx hb dL_law_328 rfl (lv_at hl 4 rfl) ?_
        refine lv_iload hx hb dL_law_329 (lv_at hl 1 rfl) ?_
        refine roV CF (c_X5_nearest l D cI cC cW t h Yj S q V z U y Ij (nI i) iv.1.sf) (cwV 1 hts gL_law_X5_nearest rfl rfl rfl (by decide +kernel) ⟨Nat.le_of_ble_eq_true rfl, Nat.le_of_ble_eq_true rfl⟩) (vP_l hP) hK hX hS 0 4 ps_0 rfl rfl hl.1 rfl (Nat.le_of_ble_eq_true rfl) dL_law_331 ⟨Nat.le_of_ble_eq_true rfl, Nat.le_of_ble_eq_true rfl⟩ ?_
        refine lv_top_eq (y := (nI t1)) et ?_
        refine lv_istore (lv' := [(6, .int _), (5, .int _), (4, .int _), (3, .int _), (2, .ref _), (1, .ref _), (0, .ref _)]) hx hb dL_law_334 hl (by decide) rfl (fun ls hl => ?_)
        refine lv_iload hx hb dL_law_336 (lv_at hl 1 rfl) ?_
        refine lv_iconst (v := 3) hx hb dL_law_338 (by decide) ?_
        refine lv_iand hx hb dL_law_339 ?_
        have J340 : ∀ v340 : Int32, v340 = (if (v323 &&& (3 : Int32)) = 0 then (nI t1) else (upF (v323 >>> ((2 : Int32) &&& 31)) (60 : Int32))) → W p l e room_1 s m #[Value.ref b] below meth c H locs 100 4000 (lw_Z below #[Value.ref b] s) (F0 m 357 ls [.int v340]) := by
          intro v340 ev340
          obtain ⟨sv, hs, esv⟩ := sl_of ht ev340
          refine lv_top_eq (y := (nI sv)) esv ?_
          refine lv_istore (lv' := [(7, .int _), (6, .int _), (5, .int _), (4, .int _), (3, .int _), (2, .ref _), (1, .ref _), (0, .ref _)]) hx hb dL_law_357 hl (by decide) rfl (fun ls hl => ?_)
          rcases l_pla iv.1 iv.2.1 hi hs (hun i (by omega) hlt) with ⟨e1, M, m1, m2, m3, m4, m5, m6⟩ | ⟨e1, e2⟩
          · have hnn : True := trivial
            refine lv_aload_n hx hb dL_law_359 rfl (lv_at hl 6 rfl) ?_
            refine lv_iload hx hb dL_law_360 (lv_at hl 3 rfl) ?_
            refine lv_iload hx hb dL_law_362 (lv_at hl 0 rfl) ?_
            obtain ⟨Y1, I1, e3, r1, r2, r3, r4⟩ := chg_ex (Y := Yj) (S := S) (q := q) (V := V) (z := z) (U := U) (y := y) (I := Ij) iv.2.2.1 iv.2.2.2 e1 (wk_nn hs)
            refine rwVse (wc := ps cI cC cW h Yj S q V z U y Ij) (Rr := dv cI dd d) (wn := fun u : (Nat → va_H) × (Nat → Int32) => ps cI cC cW h u.1 S q V z U y u.2) (w1 := fun u : (Nat → va_H) × (Nat → Int32) => ps cI cC cW h u.1 S q V z U y u.2 ++ dv cI dd d) (r0 := (sp_X2_walkTo (nI sv))) (u0 := (Y1, I1)) (show sp_X5_place Yj S q V z U y Ij (nI i) (nI sv) = (sp_X2_walkTo (nI sv), (Y1, I1)) from e3) (List.Perm.refl _) (fun _ => List.Perm.refl _) CF (c_X5_place l D cI cC cW t h _ Yj S q V z U y Ij (nI i) (nI sv) iv.1.sf iv.2.2.1) (cwV 2 hts gL_law_X5_place rfl rfl rfl (by decide +kernel) ⟨Nat.le_of_ble_eq_true rfl, Nat.le_of_ble_eq_true rfl⟩) hP hD hK hX hS hA 0 4 ps_0 rfl rfl hl.1 rfl (Nat.le_of_ble_eq_true rfl) dL_law_364 ⟨Nat.le_of_ble_eq_true rfl, Nat.le_of_ble_eq_true rfl⟩ (fun H locs hP hD hS => ?_)
            have hP : va_P D vwCl (ps cI cC cW h Y1 S q V z U y I1 ++ dv cI dd d) H := hP
            have hD : va_D (lA s) (ps cI cC cW h Y1 S q V z U y I1 ++ dv cI dd d) := hD
            have hP := n4_P (by rw [r1]; exact m1) hP
            have hD := n4_D (M := M) hD
            have w2 : INVa 0 40000 (wn4 Y1 M) I1 d := ⟨by rw [w4_a, w4_b, r2]; exact m2, by rw [w4_a]; exact m3, r3, r4⟩
            have w0 : ((wn4 Y1 M) 4).2.1 0 = nI n := by rw [w4_a, m4]; exact hN
            have w22 : ((wn4 Y1 M) 4).2.1 (22 + 11 * i) = nI sv := by rw [w4_a]; exact m5
            have wo : ∀ g : Nat, g ≠ i → ((wn4 Y1 M) 4).2.1 (22 + 11 * g) = (Yj 4).2.1 (22 + 11 * g) := fun g hg => by rw [w4_a]; exact m6 g hg
            clear e3 e1
            generalize (wn4 Y1 M) = Y2 at *
            refine lv_istore (lv' := [(8, .int _), (7, .int _), (6, .int _), (5, .int _), (4, .int _), (3, .int _), (2, .ref _), (1, .ref _), (0, .ref _)]) hx hb dL_law_367 hl (by decide) rfl (fun ls hl => ?_)
            refine lv_iload hx hb dL_law_369 (lv_at hl 0 rfl) ?_
            refine lv_if_lt (tgt := 402) hx hb dL_law_371 (by decide) (fun c9 => absurd c9 (wk_nn hs)) (fun _ => ?_)
            refine lv_iload hx hb dL_law_374 (lv_at hl 0 rfl) ?_
            refine lv_aload_n hx hb dL_law_376 rfl (lv_at hl 7 rfl) ?_
            refine lv_iload hx hb dL_law_377 (lv_at hl 1 rfl) ?_
            refine lv_iconst (v := 1) hx hb dL_law_379 (by decide) ?_
            refine roV CF (c_X5_slotOf l D cI cC cW t h Y2 S q V z U y I1 (nI sv) (1 : Int32) ) (cwV 2 hts gL_law_X5_slotOf rfl rfl rfl (by decide +kernel) ⟨Nat.le_of_ble_eq_true rfl, Nat.le_of_ble_eq_true rfl⟩) (vP_l hP) hK hX hS 0 4 ps_0 rfl rfl hl.1 rfl (Nat.le_of_ble_eq_true rfl) dL_law_380 ⟨Nat.le_of_ble_eq_true rfl, Nat.le_of_ble_eq_true rfl⟩ ?_
            refine lv_top_eq (y := (sp_X2_walkTo (nI sv))) (rs1 hs) ?_
            refine lv_icmp_ne (tgt := 416) hx hb dL_law_383 (by decide) (fun c9 => absurd rfl c9) (fun _ => ?_)
            refine lv_aload_n hx hb dL_law_386 rfl (lv_at hl 7 rfl) ?_
            refine lv_iload hx hb dL_law_387 (lv_at hl 4 rfl) ?_
            refine lv_bipush (v := 6) hx hb dL_law_389 (by decide) ?_
            refine roV CF (c_X5_goodOf l D cI cC cW t h Y2 S q V z U y I1 (nI i) (6 : Int32) w2.1.sf) (cwV 2 hts gL_law_X5_goodOf rfl rfl rfl (by decide +kernel) ⟨Nat.le_of_ble_eq_true rfl, Nat.le_of_ble_eq_true rfl⟩) (vP_l hP) hK hX hS 0 4 ps_0 rfl rfl hl.1 rfl (Nat.le_of_ble_eq_true rfl) dL_law_391 ⟨Nat.le_of_ble_eq_true rfl, Nat.le_of_ble_eq_true rfl⟩ ?_
            refine lv_top_eq (y := (nI sv)) ((rd6 w2.1 (by rw [w0, tI (by omega)]; omega)).trans ((if_neg (by rw [w22]; exact nI_nm1 (by omega))).trans w22)) ?_
            refine lv_iload hx hb dL_law_394 (lv_at hl 1 rfl) ?_
            refine lv_icmp_eq (tgt := 418) hx hb dL_law_396 (by decide) (fun _ => ?_) (fun c9 => absurd rfl c9)
            refine lv_iinc (v := (nI (i + 1))) (lv' := [(4, .int _), (8, .int _), (7, .int _), (6, .int _), (5, .int _), (3, .int _), (2, .ref _), (1, .ref _), (0, .ref _)]) hx hb dL_law_418 hl (k := 4) rfl (by rw [← nI_add i 1]; rfl) (by decide) rfl (fun ls hl => ?_)
            refine lv_goto (tgt := 311) hx hb dL_law_421 (by decide) ?_
            exact ih311 (i + 1) Y2 I1 (by omega) (by omega) w2 w0 (fun g h1 h2 => (wo g (by omega)).trans (hun g (by omega) h2)) _ _ _ (lv_sub hl [0, 5, 6, 7, 8] rfl) hP hD hS
          · have hnn : True := trivial
            refine lv_aload_n hx hb dL_law_359 rfl (lv_at hl 6 rfl) ?_
            refine lv_iload hx hb dL_law_360 (lv_at hl 3 rfl) ?_
            refine lv_iload hx hb dL_law_362 (lv_at hl 0 rfl) ?_
            obtain ⟨Y1, e3, fr1⟩ := chg_f (Y := Yj) (S := S) (q := q) (V := V) (z := z) (U := U) (y := y) (I := Ij) (f := sp_X4_putIntoSlot (Yj 4).2.1 (Yj 4).2.2 (nI i) (nI sv)) (by rw [e1]; decide)
            rw [e1] at e3
            refine rwVse (wc := ps cI cC cW h Yj S q V z U y Ij) (Rr := dv cI dd d) (wn := fun u : (Nat → va_H) × (Nat → Int32) => ps cI cC cW h u.1 S q V z U y u.2) (w1 := fun u : (Nat → va_H) × (Nat → Int32) => ps cI cC cW h u.1 S q V z U y u.2 ++ dv cI dd d) (r0 := (-2 : Int32)) (u0 := (Y1, Ij)) (show sp_X5_place Yj S q V z U y Ij (nI i) (nI sv) = (-2, (Y1, Ij)) from e3) (List.Perm.refl _) (fun _ => List.Perm.refl _) CF (c_X5_place l D cI cC cW t h _ Yj S q V z U y Ij (nI i) (nI sv) iv.1.sf iv.2.2.1) (cwV 2 hts gL_law_X5_place rfl rfl rfl (by decide +kernel) ⟨Nat.le_of_ble_eq_true rfl, Nat.le_of_ble_eq_true rfl⟩) hP hD hK hX hS hA 0 4 ps_0 rfl rfl hl.1 rfl (Nat.le_of_ble_eq_true rfl) dL_law_364 ⟨Nat.le_of_ble_eq_true rfl, Nat.le_of_ble_eq_true rfl⟩ (fun H locs hP hD hS => ?_)
            have hP : va_P D vwCl (ps cI cC cW h Y1 S q V z U y Ij ++ dv cI dd d) H := hP
            have hD : va_D (lA s) (ps cI cC cW h Y1 S q V z U y Ij ++ dv cI dd d) := hD
            refine lv_istore (lv' := [(8, .int _), (7, .int _), (6, .int _), (5, .int _), (4, .int _), (3, .int _), (2, .ref _), (1, .ref _), (0, .ref _)]) hx hb dL_law_367 hl (by decide) rfl (fun ls hl => ?_)
            refine lv_iload hx hb dL_law_369 (lv_at hl 0 rfl) ?_
            refine lv_if_lt (tgt := 402) hx hb dL_law_371 (by decide) (fun _ => ?_) (fun c9 => absurd (by decide) c9)
            refine lv_iload hx hb dL_law_402 (lv_at hl 0 rfl) ?_
            refine lv_bipush (v := -2) hx hb dL_law_404 (by decide) ?_
            refine lv_icmp_ne (tgt := 416) hx hb dL_law_406 (by decide) (fun c9 => absurd (by decide) c9) (fun _ => ?_)
            refine lv_iload hx hb dL_law_409 (lv_at hl 1 rfl) ?_
            refine lv_iload hx hb dL_law_411 (lv_at hl 2 rfl) ?_
            refine lv_icmp_ne (tgt := 418) hx hb dL_law_413 (by decide) (fun _ => ?_) (fun c9 => absurd c9 (fun w => e2 ⟨t1, ht, w, hGt, hbt⟩))
            refine lv_iinc (v := (nI (i + 1))) (lv' := [(4, .int _), (8, .int _), (7, .int _), (6, .int _), (5, .int _), (3, .int _), (2, .ref _), (1, .ref _), (0, .ref _)]) hx hb dL_law_418 hl (k := 4) rfl (by rw [← nI_add i 1]; rfl) (by decide) rfl (fun ls hl => ?_)
            refine lv_goto (tgt := 311) hx hb dL_law_421 (by decide) ?_
            exact ih311 (i + 1) Y1 Ij (by omega) (by omega) (INVa.of fr1.n4 iv.1 iv.2.1 iv.2.2.1 iv.2.2.2) (by rw [fr1.n4]; exact hN) (fun g h1 h2 => by rw [fr1.n4]; exact hun g (by omega) h2) _ _ _ (lv_sub hl [0, 5, 6, 7, 8] rfl) hP hD hS
        refine lv_if_ne (tgt := 348) hx hb dL_law_340 (by decide) (fun c340 => ?_) (fun c340 => ?_)
        · refine lv_iload hx hb dL_law_348 (lv_at hl 1 rfl) ?_
          refine lv_iconst (v := 2) hx hb dL_law_350 (by decide) ?_
          refine lv_ishr hx hb dL_law_351 ?_
          refine lv_bipush (v := 60) hx hb dL_law_352 (by decide) ?_
          refine roS CF (c_L_up l D cI cC cW t (v323 >>> ((2 : Int32) &&& 31)) (60 : Int32) (by decide)) (va_cwS 2 hts gL_law_L_up rfl rfl rfl (by decide +kernel) ⟨Nat.le_of_ble_eq_true rfl, Nat.le_of_ble_eq_true rfl⟩) vP_nil hK hX hS rfl hl.1 rfl (Nat.le_of_ble_eq_true rfl) dL_law_354 ⟨Nat.le_of_ble_eq_true rfl, Nat.le_of_ble_eq_true rfl⟩ ?_
          exact J340 _ ((if_neg c340).symm)
        · refine lv_iload hx hb dL_law_343 (lv_at hl 0 rfl) ?_
          refine lv_goto (tgt := 357) hx hb dL_law_345 (by decide) ?_
          exact J340 _ ((if_pos c340).symm)
  exact L311 (n + 1) 0 Y I (by omega) (by omega) iv hN (fun g _ h2 => hun g h2) _ _ _ (lv_sub hl [0, 1, 2, 3, 4] rfl) hP hD hS
set_option maxHeartbeats 4000000 in
set_option maxRecDepth 100000 in
theorem law_b {p : Program} {e : Env} {s : State} {m : MethodId} {below : List Frame} {meth : Method} {c : Code} {l : Launch} {b L : Nat} {xs : Nat → Int32} {D : va_G} {cI cC cW : ClassId} {h t : Nat → Nat} {dd : Nat} {Y : Nat → va_H} {S q V : Nat → Int32} {z : Int32} {U : Nat → Int32} {y : Int32} {I d : Nat → Int32} {H : Heap} {locs : List Loc} {ls : Array Slot} (hL : L ≤ 260) (C0 : lw_At p s m meth c b L xs) (hts : ∀ w ∈ wsL_law, w.before #[Value.ref b] s = true) (hK : va_K D vwCl (tyL cI cC cW) s) (hX : sx t (lA s) s s.heap) (hch : ∀ i, narrow .char (.int (S i)) = .int (S i)) (hq0 : q 0 = 0) (iv : INVa 0 0 Y I d) (hN : (Y 4).2.1 0 = nI 0) (hG : ∀ k, k < 60 → (Y 4).2.2 k = -1) (hd0 : ∀ g : Nat, d g = 0) (hP : va_P D vwCl (ps cI cC cW h Y S q V z U y I ++ dv cI dd d) H) (hD : va_D (lA s) (ps cI cC cW h Y S q V z U y I ++ dv cI dd d)) (hS : va_S (lA s) s.heap H locs) (hl : lv_has ls 9 [(2, .ref dd), (1, .ref (h 0)), (0, .ref b)]) : W p l e room_1 s m #[Value.ref b] below meth c H locs 100 4000 (lw_Z below #[Value.ref b] s) (F0 m 125 ls []) := by
  obtain ⟨hx, hb, hr, hml, hown, -, hXs, hbl, hlocks, -⟩ := id C0
  have hbA : ¬ lA s b := Nat.not_le.mpr hbl
  have hA : ∀ q : Nat, s.heap.size ≤ q → lA s q := fun _ h => h
  have CF : CallFix p m c cL_law 9 s #[Value.ref b] wsL_law RL := ⟨hx, hb, hml, hown, hts⟩
  refine lv_iconst (v := 2) hx hb dL_law_125 (by decide) ?_
  refine lv_aload_n hx hb dL_law_126 rfl (lv_at hl 2 rfl) ?_
  refine lv_iconst (v := 0) hx hb dL_law_127 (by decide) ?_
  refine cellC CF (c_L_cell l D cI cC cW t b L xs (0 : Int32) (by omega) (by decide)) (va_cwS 2 hts gL_law_L_cell rfl rfl rfl (by decide +kernel) ⟨Nat.le_of_ble_eq_true rfl, Nat.le_of_ble_eq_true rfl⟩) hXs hbl hbA hS rfl hl.1 rfl (Nat.le_of_ble_eq_true rfl) dL_law_128 ⟨Nat.le_of_ble_eq_true rfl, Nat.le_of_ble_eq_true rfl⟩ (fun v128 => ?_)
  refine lv_bipush (v := 7) hx hb dL_law_131 (by decide) ?_
  obtain ⟨m7, hm7, em7⟩ := upF_r (x := v128) (w := 7) (by decide)
  rw [show (7 : Int32).toInt = 7 from by decide] at hm7
  obtain ⟨n, hn2, hn8, en⟩ : ∃ n, 2 ≤ n ∧ n ≤ 8 ∧ (2 : Int32) + nI m7 = nI n := ⟨2 + m7, by omega, by omega, nI_add 2 m7⟩
  refine roS CF (c_L_up l D cI cC cW t v128 (7 : Int32) (by decide)) (va_cwS 2 hts gL_law_L_up rfl rfl rfl (by decide +kernel) ⟨Nat.le_of_ble_eq_true rfl, Nat.le_of_ble_eq_true rfl⟩) vP_nil hK hX hS rfl hl.1 rfl (Nat.le_of_ble_eq_true rfl) dL_law_133 ⟨Nat.le_of_ble_eq_true rfl, Nat.le_of_ble_eq_true rfl⟩ ?_
  refine lv_top_eq (y := (nI m7)) em7 ?_
  refine lv_iadd hx hb dL_law_136 ?_
  refine lv_top_eq (y := (nI n)) en ?_
  refine lv_istore_n (lv' := [(3, .int _), (2, .ref _), (1, .ref _), (0, .ref _)]) hx hb dL_law_137 rfl hl (by decide) rfl (fun ls hl => ?_)
  refine lv_iconst (v := 0) hx hb dL_law_138 (by decide) ?_
  refine lv_istore (lv' := [(4, .int _), (3, .int _), (2, .ref _), (1, .ref _), (0, .ref _)]) hx hb dL_law_139 hl (by decide) rfl (fun ls hl => ?_)
  have L141 : ∀ (n141 : Nat) (i : Nat) (Yg : Nat → va_H) (Ig : Nat → Int32) (dg : Nat → Int32), (i ≤ n) → (n - i < n141) → (INVa 0 (5000 * (i : Int)) Yg Ig dg) → ((Yg 4).2.1 0 = nI i) → (∀ k, k < 60 → (Yg 4).2.2 k = -1) → (∀ g : Nat, i ≤ g → dg g = 0) → ∀ (ls : Array Slot) (H : Heap) (locs : List Loc), lv_has ls 9 [(4, .int (nI i)), (3, .int (nI n)), (2, .ref dd), (1, .ref (h 0)), (0, .ref b)] → va_P D vwCl (ps cI cC cW h Yg S q V z U y Ig ++ dv cI dd dg) H → va_D (lA s) (ps cI cC cW h Yg S q V z U y Ig ++ dv cI dd dg) → va_S (lA s) s.heap H locs → W p l e room_1 s m #[Value.ref b] below meth c H locs 100 4000 (lw_Z below #[Value.ref b] s) (F0 m 141 ls []) := by
    intro n141
    induction n141 with
    | zero => intro i Yg Ig dg hin hn iv hN hG hd0; exact absurd hn (by omega)
    | succ n141 ih141 =>
      intro i Yg Ig dg hin hn iv hN hG hd0 ls H locs hl hP hD hS
      refine lv_iload hx hb dL_law_141 (lv_at hl 0 rfl) ?_
      refine lv_iload_n hx hb dL_law_143 rfl (lv_at hl 1 rfl) ?_
      refine lv_icmp_ge (tgt := 308) hx hb dL_law_144 (by decide) (fun c144 => ?_) (fun c144 => ?_)
      · have ein : i = n := by have := nIge (by omega) (by omega) c144; omega
        subst ein
        exact law_c hL C0 hts hK hX hch hq0 hn2 hn8 (iv.mono (by omega) (by omega)) hN (no_pl iv.1 hN (by omega) hG) hP hD hS (lv_sub hl [1, 2, 3, 4] rfl)
      · have hlt : i < n := nIlt (by omega) (by omega) c144
        refine lv_aload_n hx hb dL_law_147 rfl (lv_at hl 4 rfl) ?_
        refine lv_iconst (v := 1) hx hb dL_law_148 (by decide) ?_
        refine lv_iload hx hb dL_law_149 (lv_at hl 0 rfl) ?_
        refine lv_iadd hx hb dL_law_151 ?_
        refine cellC CF (c_L_cell l D cI cC cW t b L xs ((1 : Int32) + (nI i)) (by omega) (by rw [nI_a1]; rw [nI_toInt (by omega)]; omega)) (va_cwS 2 hts gL_law_L_cell rfl rfl rfl (by decide +kernel) ⟨Nat.le_of_ble_eq_true rfl, Nat.le_of_ble_eq_true rfl⟩) hXs hbl hbA hS rfl hl.1 rfl (Nat.le_of_ble_eq_true rfl) dL_law_152 ⟨Nat.le_of_ble_eq_true rfl, Nat.le_of_ble_eq_true rfl⟩ (fun v152 => ?_)
        refine lv_istore (lv' := [(5, .int _), (4, .int _), (3, .int _), (2, .ref _), (1, .ref _), (0, .ref _)]) hx hb dL_law_155 hl (by decide) rfl (fun ls hl => ?_)
        refine lv_iload hx hb dL_law_157 (lv_at hl 0 rfl) ?_
        refine lv_iconst (v := 3) hx hb dL_law_159 (by decide) ?_
        refine lv_iand hx hb dL_law_160 ?_
        have J161 : ∀ v161 : Int32, v161 = (if (v152 &&& (3 : Int32)) = 0 then ((1 : Int32) + (upF (v152 >>> ((2 : Int32) &&& 31)) (40 : Int32))) else ((1 : Int32) + (upF (v152 >>> ((2 : Int32) &&& 31)) (8 : Int32)))) → W p l e room_1 s m #[Value.ref b] below meth c H locs 100 4000 (lw_Z below #[Value.ref b] s) (F0 m 189 ls [.int v161]) := by
          intro v161 ev161
          have hwt := wt_of ev161
          refine lv_istore (lv' := [(6, .int _), (5, .int _), (4, .int _), (3, .int _), (2, .ref _), (1, .ref _), (0, .ref _)]) hx hb dL_law_189 hl (by decide) rfl (fun ls hl => ?_)
          refine lv_aload_n hx hb dL_law_191 rfl (lv_at hl 5 rfl) ?_
          refine lv_iload hx hb dL_law_192 (lv_at hl 0 rfl) ?_
          refine lv_iconst (v := 1) hx hb dL_law_194 (by decide) ?_
          refine lv_iload hx hb dL_law_195 (lv_at hl 1 rfl) ?_
          refine lv_bipush (v := 8) hx hb dL_law_197 (by decide) ?_
          refine lv_ishr hx hb dL_law_199 ?_
          refine lv_bipush (v := 60) hx hb dL_law_200 (by decide) ?_
          refine roS CF (c_L_up l D cI cC cW t (v152 >>> ((8 : Int32) &&& 31)) (60 : Int32) (by decide)) (va_cwS 2 hts gL_law_L_up rfl rfl rfl (by decide +kernel) ⟨Nat.le_of_ble_eq_true rfl, Nat.le_of_ble_eq_true rfl⟩) vP_nil hK hX hS rfl hl.1 rfl (Nat.le_of_ble_eq_true rfl) dL_law_202 ⟨Nat.le_of_ble_eq_true rfl, Nat.le_of_ble_eq_true rfl⟩ ?_
          refine lv_iadd hx hb dL_law_205 ?_
          have hcap := w60_r (x := v152 >>> ((8 : Int32) &&& 31))
          obtain ⟨Y1, I1, e2, r1, r2, r3, r4⟩ := chg_ex (Y := Yg) (S := S) (q := q) (V := V) (z := z) (U := U) (y := y) (I := Ig) iv.2.2.1 iv.2.2.2 (l_good iv.1 hN (by omega) hwt hcap) (nI_pos (by omega))
          refine rwVse (wc := ps cI cC cW h Yg S q V z U y Ig) (Rr := dv cI dd dg) (wn := fun u : (Nat → va_H) × (Nat → Int32) => ps cI cC cW h u.1 S q V z U y u.2) (w1 := fun u : (Nat → va_H) × (Nat → Int32) => ps cI cC cW h u.1 S q V z U y u.2 ++ dv cI dd dg) (r0 := (nI i)) (u0 := (Y1, I1)) (show sp_X5_good Yg S q V z U y Ig v161 ((1 : Int32) + (upF (v152 >>> ((8 : Int32) &&& 31)) (60 : Int32))) = (nI i, (Y1, I1)) from e2) (List.Perm.refl _) (fun _ => List.Perm.refl _) CF (c_X5_good l D cI cC cW t h _ Yg S q V z U y Ig v161 ((1 : Int32) + (upF (v152 >>> ((8 : Int32) &&& 31)) (60 : Int32))) iv.1.sf iv.2.2.1) (cwV 2 hts gL_law_X5_good rfl rfl rfl (by decide +kernel) ⟨Nat.le_of_ble_eq_true rfl, Nat.le_of_ble_eq_true rfl⟩) hP hD hK hX hS hA 0 4 ps_0 rfl rfl hl.1 rfl (Nat.le_of_ble_eq_true rfl) dL_law_206 ⟨Nat.le_of_ble_eq_true rfl, Nat.le_of_ble_eq_true rfl⟩ (fun H locs hP hD hS => ?_)
          have hP : va_P D vwCl (ps cI cC cW h Y1 S q V z U y I1 ++ dv cI dd dg) H := hP
          have hD : va_D (lA s) (ps cI cC cW h Y1 S q V z U y I1 ++ dv cI dd dg) := hD
          have hz := iv.1.z (i := i) (by omega) (by rw [hN, tI (by omega)]; omega)
          have w1 : wf 0 (Y1 4).2.1 (Y1 4).2.2 := by rw [r1, r2]; exact gd_wf (by omega) iv.1 hN (by omega) hwt hcap
          have x1 : xt (5000 * (i : Int)) (Y1 4).2.1 dg := by rw [r1]; exact gd_xt iv.1 iv.2.1 (by omega) hN (by omega) (hd0 i (by omega))
          have n1 : (Y1 4).2.1 0 = nI (i + 1) := by rw [r1]; exact gd_0 hN
          have hi1 : (i : Int) < ((Y1 4).2.1 0).toInt := by rw [n1, tI (by omega)]; omega
          have q23 : (Y1 4).2.1 (23 + 11 * i) = 0 := by rw [r1, gd_o (i := i) (k := 23 + 11 * i) (by omega) (by omega) (by omega) (by omega)]; exact hz.2.1
          have q24 : (Y1 4).2.1 (24 + 11 * i) = 0 := by rw [r1, gd_o (i := i) (k := 24 + 11 * i) (by omega) (by omega) (by omega) (by omega)]; exact hz.2.2.1
          have q26 : (Y1 4).2.1 (26 + 11 * i) = 0 := by rw [r1, gd_o (i := i) (k := 26 + 11 * i) (by omega) (by omega) (by omega) (by omega)]; exact hz.2.2.2.2
          have q18 : ∀ sv, sv < 4 → (Y1 4).2.1 (18 + 11 * i + sv) = 0 := fun sv hsv => by rw [r1, gd_o (i := i) (k := 18 + 11 * i + sv) (by omega) (by omega) (by omega) (by omega)]; exact hz.1 sv hsv
          have hG1 : ∀ k, k < 60 → (Y1 4).2.2 k = -1 := fun k hk => by rw [r2]; exact hG k hk
          obtain ⟨t1, ht, et, -, -⟩ := l_near w1 hi1 ⟨0, by omega, hG1 0 (by omega), w40 (c := 0) w1 hi1 (by omega)⟩
          refine lv_iload hx hb dL_law_209 (lv_at hl 2 rfl) ?_
          refine lv_icmp_ne (tgt := 235) hx hb dL_law_211 (by decide) (fun c9 => absurd rfl c9) (fun _ => ?_)
          refine lv_aload_n hx hb dL_law_214 rfl (lv_at hl 5 rfl) ?_
          refine lv_iload hx hb dL_law_215 (lv_at hl 2 rfl) ?_
          refine lv_iconst (v := 0) hx hb dL_law_217 (by decide) ?_
          refine roV CF (c_X5_goodOf l D cI cC cW t h Y1 S q V z U y I1 (nI i) (0 : Int32) w1.sf) (cwV 2 hts gL_law_X5_goodOf rfl rfl rfl (by decide +kernel) ⟨Nat.le_of_ble_eq_true rfl, Nat.le_of_ble_eq_true rfl⟩) (vP_l hP) hK hX hS 0 4 ps_0 rfl rfl hl.1 rfl (Nat.le_of_ble_eq_true rfl) dL_law_218 ⟨Nat.le_of_ble_eq_true rfl, Nat.le_of_ble_eq_true rfl⟩ ?_
          refine lv_top_eq (y := v161) ((rd0 w1.sf hi1).trans (by rw [r1]; exact gd_16)) ?_
          refine lv_iload hx hb dL_law_221 (lv_at hl 0 rfl) ?_
          refine lv_icmp_ne (tgt := 235) hx hb dL_law_223 (by decide) (fun c9 => absurd rfl c9) (fun _ => ?_)
          refine lv_aload_n hx hb dL_law_226 rfl (lv_at hl 5 rfl) ?_
          refine lv_iload hx hb dL_law_227 (lv_at hl 2 rfl) ?_
          refine roV CF (c_X5_nearest l D cI cC cW t h Y1 S q V z U y I1 (nI i) w1.sf) (cwV 1 hts gL_law_X5_nearest rfl rfl rfl (by decide +kernel) ⟨Nat.le_of_ble_eq_true rfl, Nat.le_of_ble_eq_true rfl⟩) (vP_l hP) hK hX hS 0 4 ps_0 rfl rfl hl.1 rfl (Nat.le_of_ble_eq_true rfl) dL_law_229 ⟨Nat.le_of_ble_eq_true rfl, Nat.le_of_ble_eq_true rfl⟩ ?_
          refine lv_top_eq (y := (nI t1)) et ?_
          refine lv_if_ge (tgt := 237) hx hb dL_law_232 (by decide) (fun _ => ?_) (fun c9 => absurd (nI_nn (by omega)) c9)
          have hun := w300_r (x := v152 >>> ((14 : Int32) &&& 31))
          refine lv_aload_n hx hb dL_law_237 rfl (lv_at hl 4 rfl) ?_
          refine lv_iload hx hb dL_law_238 (lv_at hl 2 rfl) ?_
          refine lv_iconst (v := 1) hx hb dL_law_240 (by decide) ?_
          refine lv_iload hx hb dL_law_241 (lv_at hl 1 rfl) ?_
          refine lv_bipush (v := 14) hx hb dL_law_243 (by decide) ?_
          refine lv_ishr hx hb dL_law_245 ?_
          refine lv_sipush (v := 300) hx hb dL_law_246 (by decide) ?_
          refine roS CF (c_L_up l D cI cC cW t (v152 >>> ((14 : Int32) &&& 31)) (300 : Int32) (by decide)) (va_cwS 2 hts gL_law_L_up rfl rfl rfl (by decide +kernel) ⟨Nat.le_of_ble_eq_true rfl, Nat.le_of_ble_eq_true rfl⟩) vP_nil hK hX hS rfl hl.1 rfl (Nat.le_of_ble_eq_true rfl) dL_law_249 ⟨Nat.le_of_ble_eq_true rfl, Nat.le_of_ble_eq_true rfl⟩ ?_
          refine lv_iadd hx hb dL_law_252 ?_
          refine my_iast hx hb hK hP hD hS 80 0 dv_at rfl dv_set (vp_in_nI (by omega) (by decide)) dL_law_253 (fun H locs hP hD hS => ?_)
          have e253_d : (upd dg (ix (nI i)) ((1 : Int32) + (upF (v152 >>> ((14 : Int32) &&& 31)) (300 : Int32)))) = (upd dg i ((1 : Int32) + (upF (v152 >>> ((14 : Int32) &&& 31)) (300 : Int32)))) := (by rw [xI (show i < 1000 by omega)])
          rw [e253_d] at hP hD
          refine lv_aload_n hx hb dL_law_254 rfl (lv_at hl 5 rfl) ?_
          refine lv_iload hx hb dL_law_255 (lv_at hl 2 rfl) ?_
          refine lv_aload_n hx hb dL_law_257 rfl (lv_at hl 4 rfl) ?_
          refine lv_iload hx hb dL_law_258 (lv_at hl 2 rfl) ?_
          refine va_iald hx hb hK hP 80 0 dv_at rfl (vp_in_nI (by omega) (by decide)) dL_law_260 ?_
          refine lv_top_eq (y := ((1 : Int32) + (upF (v152 >>> ((14 : Int32) &&& 31)) (300 : Int32)))) (upd_at (xI (by omega))) ?_
          have l1 := l_del w1 hi1 q24 q23 hun
          obtain ⟨Y2, I2, e3, s1, s2, s3, s4⟩ := chg_ex (Y := Y1) (S := S) (q := q) (V := V) (z := z) (U := U) (y := y) (I := I1) r3 r4 l1.1 (pos_nn hun.1)
          refine rwVse (wc := ps cI cC cW h Y1 S q V z U y I1) (Rr := dv cI dd (upd dg i ((1 : Int32) + (upF (v152 >>> ((14 : Int32) &&& 31)) (300 : Int32))))) (wn := fun u : (Nat → va_H) × (Nat → Int32) => ps cI cC cW h u.1 S q V z U y u.2) (w1 := fun u : (Nat → va_H) × (Nat → Int32) => ps cI cC cW h u.1 S q V z U y u.2 ++ dv cI dd (upd dg i ((1 : Int32) + (upF (v152 >>> ((14 : Int32) &&& 31)) (300 : Int32))))) (r0 := ((1 : Int32) + (upF (v152 >>> ((14 : Int32) &&& 31)) (300 : Int32)))) (u0 := (Y2, I2)) (show sp_X5_deliver Y1 S q V z U y I1 (nI i) ((1 : Int32) + (upF (v152 >>> ((14 : Int32) &&& 31)) (300 : Int32))) = (((1 : Int32) + (upF (v152 >>> ((14 : Int32) &&& 31)) (300 : Int32))), (Y2, I2)) from e3) (List.Perm.refl _) (fun _ => List.Perm.refl _) CF (c_X5_deliver l D cI cC cW t h _ Y1 S q V z U y I1 (nI i) ((1 : Int32) + (upF (v152 >>> ((14 : Int32) &&& 31)) (300 : Int32))) w1.sf r3) (cwV 2 hts gL_law_X5_deliver rfl rfl rfl (by decide +kernel) ⟨Nat.le_of_ble_eq_true rfl, Nat.le_of_ble_eq_true rfl⟩) hP hD hK hX hS hA 0 4 ps_0 rfl rfl hl.1 rfl (Nat.le_of_ble_eq_true rfl) dL_law_261 ⟨Nat.le_of_ble_eq_true rfl, Nat.le_of_ble_eq_true rfl⟩ (fun H locs hP hD hS => ?_)
          have hP : va_P D vwCl (ps cI cC cW h Y2 S q V z U y I2 ++ dv cI dd (upd dg i ((1 : Int32) + (upF (v152 >>> ((14 : Int32) &&& 31)) (300 : Int32))))) H := hP
          have hD : va_D (lA s) (ps cI cC cW h Y2 S q V z U y I2 ++ dv cI dd (upd dg i ((1 : Int32) + (upF (v152 >>> ((14 : Int32) &&& 31)) (300 : Int32))))) := hD
          have w2 : wf 0 (Y2 4).2.1 (Y2 4).2.2 := by rw [s1, s2]; exact l1.2
          have x2 : xt (5000 * (i : Int) + 5000) (Y2 4).2.1 (upd dg i ((1 : Int32) + (upF (v152 >>> ((14 : Int32) &&& 31)) (300 : Int32)))) := by rw [s1]; exact l_dxt x1 (by omega) hi1 q24 q23 q26 hun
          have n2 : (Y2 4).2.1 0 = nI (i + 1) := by rw [s1, pk_un (by omega)]; exact n1
          have hi2 : (i : Int) < ((Y2 4).2.1 0).toInt := by rw [n2, tI (by omega)]; omega
          have p18 : ∀ sv, sv < 4 → (Y2 4).2.1 (18 + 11 * i + sv) = 0 := fun sv hsv => by rw [s1, pk_un (by omega)]; exact q18 sv hsv
          have hG2 : ∀ k, k < 60 → (Y2 4).2.2 k = -1 := fun k hk => by rw [s2]; exact hG1 k hk
          refine lv_aload_n hx hb dL_law_264 rfl (lv_at hl 4 rfl) ?_
          refine lv_iload hx hb dL_law_265 (lv_at hl 2 rfl) ?_
          refine va_iald hx hb hK hP 80 0 dv_at rfl (vp_in_nI (by omega) (by decide)) dL_law_267 ?_
          refine lv_top_eq (y := ((1 : Int32) + (upF (v152 >>> ((14 : Int32) &&& 31)) (300 : Int32)))) (upd_at (xI (by omega))) ?_
          refine lv_icmp_ne (tgt := 300) hx hb dL_law_268 (by decide) (fun c9 => absurd rfl c9) (fun _ => ?_)
          refine lv_aload_n hx hb dL_law_271 rfl (lv_at hl 5 rfl) ?_
          refine lv_iload hx hb dL_law_272 (lv_at hl 2 rfl) ?_
          refine lv_iload hx hb dL_law_274 (lv_at hl 1 rfl) ?_
          refine lv_bipush (v := 23) hx hb dL_law_276 (by decide) ?_
          refine lv_ishr hx hb dL_law_278 ?_
          refine lv_iconst (v := 2) hx hb dL_law_279 (by decide) ?_
          obtain ⟨s2n, hs2, es2⟩ := upF_r (x := v152 >>> ((23 : Int32) &&& 31)) (w := 2) (by decide)
          rw [show (2 : Int32).toInt = 2 from by decide] at hs2
          refine roS CF (c_L_up l D cI cC cW t (v152 >>> ((23 : Int32) &&& 31)) (2 : Int32) (by decide)) (va_cwS 2 hts gL_law_L_up rfl rfl rfl (by decide +kernel) ⟨Nat.le_of_ble_eq_true rfl, Nat.le_of_ble_eq_true rfl⟩) vP_nil hK hX hS rfl hl.1 rfl (Nat.le_of_ble_eq_true rfl) dL_law_280 ⟨Nat.le_of_ble_eq_true rfl, Nat.le_of_ble_eq_true rfl⟩ ?_
          refine lv_top_eq (y := (nI s2n)) es2 ?_
          refine lv_iload hx hb dL_law_283 (lv_at hl 1 rfl) ?_
          refine lv_bipush (v := 20) hx hb dL_law_285 (by decide) ?_
          refine lv_ishr hx hb dL_law_287 ?_
          refine lv_sipush (v := 1000) hx hb dL_law_288 (by decide) ?_
          refine roS CF (c_L_up l D cI cC cW t (v152 >>> ((20 : Int32) &&& 31)) (1000 : Int32) (by decide)) (va_cwS 2 hts gL_law_L_up rfl rfl rfl (by decide +kernel) ⟨Nat.le_of_ble_eq_true rfl, Nat.le_of_ble_eq_true rfl⟩) vP_nil hK hX hS rfl hl.1 rfl (Nat.le_of_ble_eq_true rfl) dL_law_291 ⟨Nat.le_of_ble_eq_true rfl, Nat.le_of_ble_eq_true rfl⟩ ?_
          have hpk := w1000_r (x := v152 >>> ((20 : Int32) &&& 31))
          obtain ⟨l2, M, m1, m2, m3, m4⟩ := l_dem w2 x2 hi2 (show s2n < 4 by omega) hpk
          rw [p18 s2n (by omega)] at l2
          obtain ⟨Y3, I3, e4, t1_, t2_, t3_, t4_⟩ := chg_ex (Y := Y2) (S := S) (q := q) (V := V) (z := z) (U := U) (y := y) (I := I2) s3 s4 l2 (by decide)
          refine rwVse (wc := ps cI cC cW h Y2 S q V z U y I2) (Rr := dv cI dd (upd dg i ((1 : Int32) + (upF (v152 >>> ((14 : Int32) &&& 31)) (300 : Int32))))) (wn := fun u : (Nat → va_H) × (Nat → Int32) => ps cI cC cW h u.1 S q V z U y u.2) (w1 := fun u : (Nat → va_H) × (Nat → Int32) => ps cI cC cW h u.1 S q V z U y u.2 ++ dv cI dd (upd dg i ((1 : Int32) + (upF (v152 >>> ((14 : Int32) &&& 31)) (300 : Int32))))) (r0 := (0 : Int32)) (u0 := (Y3, I3)) (show sp_X5_demand Y2 S q V z U y I2 (nI i) (nI s2n) (upF (v152 >>> ((20 : Int32) &&& 31)) (1000 : Int32)) = (0, (Y3, I3)) from e4) (List.Perm.refl _) (fun _ => List.Perm.refl _) CF (c_X5_demand l D cI cC cW t h _ Y2 S q V z U y I2 (nI i) (nI s2n) (upF (v152 >>> ((20 : Int32) &&& 31)) (1000 : Int32)) w2.sf s3) (cwV 3 hts gL_law_X5_demand rfl rfl rfl (by decide +kernel) ⟨Nat.le_of_ble_eq_true rfl, Nat.le_of_ble_eq_true rfl⟩) hP hD hK hX hS hA 0 4 ps_0 rfl rfl hl.1 rfl (Nat.le_of_ble_eq_true rfl) dL_law_294 ⟨Nat.le_of_ble_eq_true rfl, Nat.le_of_ble_eq_true rfl⟩ (fun H locs hP hD hS => ?_)
          have hP : va_P D vwCl (ps cI cC cW h Y3 S q V z U y I3 ++ dv cI dd (upd dg i ((1 : Int32) + (upF (v152 >>> ((14 : Int32) &&& 31)) (300 : Int32))))) H := hP
          have hD : va_D (lA s) (ps cI cC cW h Y3 S q V z U y I3 ++ dv cI dd (upd dg i ((1 : Int32) + (upF (v152 >>> ((14 : Int32) &&& 31)) (300 : Int32))))) := hD
          have hP := n4_P (by rw [t1_]; exact m1) hP
          have hD := n4_D (M := M) hD
          have w3 : INVa 0 (5000 * (i : Int) + 5000) (wn4 Y3 M) I3 (upd dg i ((1 : Int32) + (upF (v152 >>> ((14 : Int32) &&& 31)) (300 : Int32)))) := ⟨by rw [w4_a, w4_b, t2_]; exact m2, by rw [w4_a]; exact m3, t3_, t4_⟩
          have n3 : ((wn4 Y3 M) 4).2.1 0 = nI (i + 1) := by rw [w4_a, m4]; exact n2
          have hG3 : ∀ k, k < 60 → ((wn4 Y3 M) 4).2.2 k = -1 := fun k hk => by rw [w4_b, t2_]; exact hG2 k hk
          clear e4 l2 m1 t1_
          generalize (wn4 Y3 M) = Y4 at *
          refine lv_if_eq (tgt := 302) hx hb dL_law_297 (by decide) (fun _ => ?_) (fun c9 => absurd (by decide) c9)
          refine lv_iinc (v := (nI (i + 1))) (lv' := [(4, .int _), (6, .int _), (5, .int _), (3, .int _), (2, .ref _), (1, .ref _), (0, .ref _)]) hx hb dL_law_302 hl (k := 2) rfl (by rw [← nI_add i 1]; rfl) (by decide) rfl (fun ls hl => ?_)
          refine lv_goto (tgt := 141) hx hb dL_law_305 (by decide) ?_
          exact ih141 (i + 1) Y4 I3 (upd dg i ((1 : Int32) + (upF (v152 >>> ((14 : Int32) &&& 31)) (300 : Int32)))) (by omega) (by omega) (w3.mono (by omega) (by omega)) n3 hG3 (fun g hg => (pk_un (by omega)).trans (hd0 g (by omega))) _ _ _ (lv_sub hl [0, 3, 4, 5, 6] rfl) hP hD hS
        refine lv_if_ne (tgt := 178) hx hb dL_law_161 (by decide) (fun c161 => ?_) (fun c161 => ?_)
        · refine lv_iconst (v := 1) hx hb dL_law_178 (by decide) ?_
          refine lv_iload hx hb dL_law_179 (lv_at hl 0 rfl) ?_
          refine lv_iconst (v := 2) hx hb dL_law_181 (by decide) ?_
          refine lv_ishr hx hb dL_law_182 ?_
          refine lv_bipush (v := 8) hx hb dL_law_183 (by decide) ?_
          refine roS CF (c_L_up l D cI cC cW t (v152 >>> ((2 : Int32) &&& 31)) (8 : Int32) (by decide)) (va_cwS 2 hts gL_law_L_up rfl rfl rfl (by decide +kernel) ⟨Nat.le_of_ble_eq_true rfl, Nat.le_of_ble_eq_true rfl⟩) vP_nil hK hX hS rfl hl.1 rfl (Nat.le_of_ble_eq_true rfl) dL_law_185 ⟨Nat.le_of_ble_eq_true rfl, Nat.le_of_ble_eq_true rfl⟩ ?_
          refine lv_iadd hx hb dL_law_188 ?_
          exact J161 _ ((if_neg c161).symm)
        · refine lv_iconst (v := 1) hx hb dL_law_164 (by decide) ?_
          refine lv_iload hx hb dL_law_165 (lv_at hl 0 rfl) ?_
          refine lv_iconst (v := 2) hx hb dL_law_167 (by decide) ?_
          refine lv_ishr hx hb dL_law_168 ?_
          refine lv_bipush (v := 40) hx hb dL_law_169 (by decide) ?_
          refine roS CF (c_L_up l D cI cC cW t (v152 >>> ((2 : Int32) &&& 31)) (40 : Int32) (by decide)) (va_cwS 2 hts gL_law_L_up rfl rfl rfl (by decide +kernel) ⟨Nat.le_of_ble_eq_true rfl, Nat.le_of_ble_eq_true rfl⟩) vP_nil hK hX hS rfl hl.1 rfl (Nat.le_of_ble_eq_true rfl) dL_law_171 ⟨Nat.le_of_ble_eq_true rfl, Nat.le_of_ble_eq_true rfl⟩ ?_
          refine lv_iadd hx hb dL_law_174 ?_
          refine lv_goto (tgt := 189) hx hb dL_law_175 (by decide) ?_
          exact J161 _ ((if_pos c161).symm)
  exact L141 (n + 1) 0 Y I d (by omega) (by omega) iv hN hG (fun g _ => hd0 g) _ _ _ (lv_sub hl [0, 1, 2, 3, 4] rfl) hP hD hS
set_option maxHeartbeats 4000000 in
set_option maxRecDepth 100000 in
theorem law_a {p : Program} {e : Env} {s : State} {m : MethodId} {below : List Frame} {meth : Method} {c : Code} {l : Launch} {b L : Nat} {xs : Nat → Int32} {D : va_G} {cI cC cW : ClassId} {h t : Nat → Nat} {dd : Nat} {Y : Nat → va_H} {S q V : Nat → Int32} {z : Int32} {U : Nat → Int32} {y : Int32} {I d : Nat → Int32} {H : Heap} {locs : List Loc} {ls : Array Slot} (hL : L ≤ 260) (C0 : lw_At p s m meth c b L xs) (hts : ∀ w ∈ wsL_law, w.before #[Value.ref b] s = true) (hK : va_K D vwCl (tyL cI cC cW) s) (hX : sx t (lA s) s s.heap) (hch : ∀ i, narrow .char (.int (S i)) = .int (S i)) (hF : frs Y q I) (hd : d = fun _ => 0) (hP : va_P D vwCl (ps cI cC cW h Y S q V z U y I ++ dv cI dd d) H) (hD : va_D (lA s) (ps cI cC cW h Y S q V z U y I ++ dv cI dd d)) (hS : va_S (lA s) s.heap H locs) (hl : lv_has ls 9 [(2, .ref dd), (1, .ref (h 0)), (0, .ref b)]) : W p l e room_1 s m #[Value.ref b] below meth c H locs 100 4000 (lw_Z below #[Value.ref b] s) (F0 m 13 ls []) := by
  obtain ⟨hx, hb, hr, hml, hown, -, hXs, hbl, hlocks, -⟩ := id C0
  have hbA : ¬ lA s b := Nat.not_le.mpr hbl
  have hA : ∀ q : Nat, s.heap.size ≤ q → lA s q := fun _ h => h
  have CF : CallFix p m c cL_law 9 s #[Value.ref b] wsL_law RL := ⟨hx, hb, hml, hown, hts⟩
  have h01 : 0 ≤ (I 0).toInt := by rw [hF.2.2.1]; decide
  have h02 : (I 0).toInt ≤ 4 := by rw [hF.2.2.1]; decide
  have hsf : sfN (Y 4).2.1 := by rw [hF.1]; exact (fwf hF.2.1).sf
  refine lv_aload_n hx hb dL_law_13 rfl (lv_at hl 1 rfl) ?_
  refine rwVse (wc := ps cI cC cW h Y S q V z U y I) (Rr := dv cI dd d) (wn := fun u : (Nat → va_H) × (Nat → Int32) => ps cI cC cW h u.1 S q V z U y u.2) (w1 := fun u : (Nat → va_H) × (Nat → Int32) => ps cI cC cW h u.1 S q V z U y u.2 ++ dv cI dd d) (r0 := (-2 : Int32)) (u0 := (Y, I)) (fun0 hF) (List.Perm.refl _) (fun _ => List.Perm.refl _) CF (c_X5_undo l D cI cC cW t h _ Y S q V z U y I  h01 h02) (cwV 0 hts gL_law_X5_undo rfl rfl rfl (by decide +kernel) ⟨Nat.le_of_ble_eq_true rfl, Nat.le_of_ble_eq_true rfl⟩) hP hD hK hX hS hA 0 4 ps_0 rfl rfl hl.1 rfl (Nat.le_of_ble_eq_true rfl) dL_law_14 ⟨Nat.le_of_ble_eq_true rfl, Nat.le_of_ble_eq_true rfl⟩ (fun H locs hP hD hS => ?_)
  have hP : va_P D vwCl (ps cI cC cW h Y S q V z U y I ++ dv cI dd d) H := hP
  have hD : va_D (lA s) (ps cI cC cW h Y S q V z U y I ++ dv cI dd d) := hD
  refine lv_bipush (v := -2) hx hb dL_law_17 (by decide) ?_
  refine lv_icmp_ne (tgt := 123) hx hb dL_law_19 (by decide) (fun c9 => absurd (by decide) c9) (fun _ => ?_)
  refine lv_aload_n hx hb dL_law_22 rfl (lv_at hl 1 rfl) ?_
  refine lv_bipush (v := 20) hx hb dL_law_23 (by decide) ?_
  refine roV CF (c_X5_count l D cI cC cW t h Y S q V z U y I (20 : Int32) hsf) (cwV 1 hts gL_law_X5_count rfl rfl rfl (by decide +kernel) ⟨Nat.le_of_ble_eq_true rfl, Nat.le_of_ble_eq_true rfl⟩) (vP_l hP) hK hX hS 0 4 ps_0 rfl rfl hl.1 rfl (Nat.le_of_ble_eq_true rfl) dL_law_25 ⟨Nat.le_of_ble_eq_true rfl, Nat.le_of_ble_eq_true rfl⟩ ?_
  refine lv_top_eq (y := (30 : Int32)) (f20 hF) ?_
  refine lv_bipush (v := 30) hx hb dL_law_28 (by decide) ?_
  refine lv_icmp_ne (tgt := 123) hx hb dL_law_30 (by decide) (fun c9 => absurd (by decide) c9) (fun _ => ?_)
  refine lv_aload_n hx hb dL_law_33 rfl (lv_at hl 1 rfl) ?_
  refine lv_bipush (v := 21) hx hb dL_law_34 (by decide) ?_
  refine roV CF (c_X5_count l D cI cC cW t h Y S q V z U y I (21 : Int32) hsf) (cwV 1 hts gL_law_X5_count rfl rfl rfl (by decide +kernel) ⟨Nat.le_of_ble_eq_true rfl, Nat.le_of_ble_eq_true rfl⟩) (vP_l hP) hK hX hS 0 4 ps_0 rfl rfl hl.1 rfl (Nat.le_of_ble_eq_true rfl) dL_law_36 ⟨Nat.le_of_ble_eq_true rfl, Nat.le_of_ble_eq_true rfl⟩ ?_
  refine lv_top_eq (y := (60 : Int32)) (f21 hF) ?_
  refine lv_bipush (v := 60) hx hb dL_law_39 (by decide) ?_
  refine lv_icmp_ne (tgt := 123) hx hb dL_law_41 (by decide) (fun c9 => absurd (by decide) c9) (fun _ => ?_)
  refine lv_aload_n hx hb dL_law_44 rfl (lv_at hl 1 rfl) ?_
  refine lv_bipush (v := 22) hx hb dL_law_45 (by decide) ?_
  refine roV CF (c_X5_count l D cI cC cW t h Y S q V z U y I (22 : Int32) hsf) (cwV 1 hts gL_law_X5_count rfl rfl rfl (by decide +kernel) ⟨Nat.le_of_ble_eq_true rfl, Nat.le_of_ble_eq_true rfl⟩) (vP_l hP) hK hX hS 0 4 ps_0 rfl rfl hl.1 rfl (Nat.le_of_ble_eq_true rfl) dL_law_47 ⟨Nat.le_of_ble_eq_true rfl, Nat.le_of_ble_eq_true rfl⟩ ?_
  refine lv_top_eq (y := (1 : Int32)) (f22 hF) ?_
  refine lv_iconst (v := 1) hx hb dL_law_50 (by decide) ?_
  refine lv_icmp_ne (tgt := 123) hx hb dL_law_51 (by decide) (fun c9 => absurd (by decide) c9) (fun _ => ?_)
  refine lv_aload_n hx hb dL_law_54 rfl (lv_at hl 1 rfl) ?_
  refine lv_iconst (v := 4) hx hb dL_law_55 (by decide) ?_
  refine roV CF (c_X5_count l D cI cC cW t h Y S q V z U y I (4 : Int32) hsf) (cwV 1 hts gL_law_X5_count rfl rfl rfl (by decide +kernel) ⟨Nat.le_of_ble_eq_true rfl, Nat.le_of_ble_eq_true rfl⟩) (vP_l hP) hK hX hS 0 4 ps_0 rfl rfl hl.1 rfl (Nat.le_of_ble_eq_true rfl) dL_law_56 ⟨Nat.le_of_ble_eq_true rfl, Nat.le_of_ble_eq_true rfl⟩ ?_
  refine lv_top_eq (y := (13 : Int32)) (f4 hF) ?_
  refine lv_bipush (v := 13) hx hb dL_law_59 (by decide) ?_
  refine lv_icmp_ne (tgt := 123) hx hb dL_law_61 (by decide) (fun c9 => absurd (by decide) c9) (fun _ => ?_)
  refine lv_aload_n hx hb dL_law_64 rfl (lv_at hl 1 rfl) ?_
  refine lv_iconst (v := 1) hx hb dL_law_65 (by decide) ?_
  obtain ⟨Y1, e1, fr1⟩ := chg_f (Y := Y) (S := S) (q := q) (V := V) (z := z) (U := U) (y := y) (I := I) (f := sp_X4_doBest (Y 4).2.1 (Y 4).2.2 (1 : Int32)) (by rw [fim hF]; decide)
  rw [fim hF] at e1
  refine rwVse (wc := ps cI cC cW h Y S q V z U y I) (Rr := dv cI dd d) (wn := fun u : (Nat → va_H) × (Nat → Int32) => ps cI cC cW h u.1 S q V z U y u.2) (w1 := fun u : (Nat → va_H) × (Nat → Int32) => ps cI cC cW h u.1 S q V z U y u.2 ++ dv cI dd d) (r0 := (-4 : Int32)) (u0 := (Y1, I)) (show sp_X5_improve Y S q V z U y I (1 : Int32) = (-4, (Y1, I)) from e1) (List.Perm.refl _) (fun _ => List.Perm.refl _) CF (c_X5_improve l D cI cC cW t h _ Y S q V z U y I (1 : Int32) hsf h01) (cwV 1 hts gL_law_X5_improve rfl rfl rfl (by decide +kernel) ⟨Nat.le_of_ble_eq_true rfl, Nat.le_of_ble_eq_true rfl⟩) hP hD hK hX hS hA 0 4 ps_0 rfl rfl hl.1 rfl (Nat.le_of_ble_eq_true rfl) dL_law_66 ⟨Nat.le_of_ble_eq_true rfl, Nat.le_of_ble_eq_true rfl⟩ (fun H locs hP hD hS => ?_)
  have hP : va_P D vwCl (ps cI cC cW h Y1 S q V z U y I ++ dv cI dd d) H := hP
  have hD : va_D (lA s) (ps cI cC cW h Y1 S q V z U y I ++ dv cI dd d) := hD
  have hF1 := frs_FR hF fr1
  refine lv_bipush (v := -4) hx hb dL_law_69 (by decide) ?_
  refine lv_icmp_ne (tgt := 123) hx hb dL_law_71 (by decide) (fun c9 => absurd (by decide) c9) (fun _ => ?_)
  refine lv_aload_n hx hb dL_law_74 rfl (lv_at hl 1 rfl) ?_
  refine lv_iconst (v := 2) hx hb dL_law_75 (by decide) ?_
  refine roV CF (c_X5_best l D cI cC cW t h Y1 S q V z U y I (2 : Int32) (fr1.sf hsf)) (cwV 1 hts gL_law_X5_best rfl rfl rfl (by decide +kernel) ⟨Nat.le_of_ble_eq_true rfl, Nat.le_of_ble_eq_true rfl⟩) (vP_l hP) hK hX hS 0 4 ps_0 rfl rfl hl.1 rfl (Nat.le_of_ble_eq_true rfl) dL_law_76 ⟨Nat.le_of_ble_eq_true rfl, Nat.le_of_ble_eq_true rfl⟩ ?_
  refine lv_top_eq (y := (-4 : Int32)) (fbe hF1) ?_
  refine lv_bipush (v := -4) hx hb dL_law_79 (by decide) ?_
  refine lv_icmp_ne (tgt := 123) hx hb dL_law_81 (by decide) (fun c9 => absurd (by decide) c9) (fun _ => ?_)
  refine lv_aload_n hx hb dL_law_84 rfl (lv_at hl 1 rfl) ?_
  obtain ⟨Y2, q2, I2, e2, kp, hq2⟩ := fpl (Y := Y1) (S := S) (V := V) (z := z) (U := U) (y := y) hF1
  refine rwVse (wc := ps cI cC cW h Y1 S q V z U y I) (Rr := dv cI dd d) (wn := fun u : (Nat → va_H) × (Nat → Int32) × (Nat → Int32) => ps cI cC cW h u.1 S u.2.1 V z U y u.2.2) (w1 := fun u : (Nat → va_H) × (Nat → Int32) × (Nat → Int32) => ps cI cC cW h u.1 S u.2.1 V z U y u.2.2 ++ dv cI dd d) (r0 := (0 : Int32)) (u0 := (Y2, q2, I2)) e2 (List.Perm.refl _) (fun _ => List.Perm.refl _) CF (c_X5_play l D cI cC cW t h _ Y1 S q V z U y I  (fr1.sf hsf) hch h01) (cwV 0 hts gL_law_X5_play rfl rfl rfl (by decide +kernel) ⟨Nat.le_of_ble_eq_true rfl, Nat.le_of_ble_eq_true rfl⟩) hP hD hK hX hS hA 0 4 ps_0 rfl rfl hl.1 rfl (Nat.le_of_ble_eq_true rfl) dL_law_85 ⟨Nat.le_of_ble_eq_true rfl, Nat.le_of_ble_eq_true rfl⟩ (fun H locs hP hD hS => ?_)
  have hP : va_P D vwCl (ps cI cC cW h Y2 S q2 V z U y I2 ++ dv cI dd d) H := hP
  have hD : va_D (lA s) (ps cI cC cW h Y2 S q2 V z U y I2 ++ dv cI dd d) := hD
  refine lv_if_ne (tgt := 123) hx hb dL_law_88 (by decide) (fun c9 => absurd (by decide) c9) (fun _ => ?_)
  refine lv_aload_n hx hb dL_law_91 rfl (lv_at hl 1 rfl) ?_
  obtain ⟨r3, Y3, I3, e3, hr3, hY3, hI3, hI4⟩ := undo_k (S := S) (q := q2) (V := V) (z := z) (U := U) (y := y) h01 h02 kp
  rw [un4_0 hF.2.2.1] at hr3
  subst hr3
  refine rwVse (wc := ps cI cC cW h Y2 S q2 V z U y I2) (Rr := dv cI dd d) (wn := fun u : (Nat → va_H) × (Nat → Int32) => ps cI cC cW h u.1 S q2 V z U y u.2) (w1 := fun u : (Nat → va_H) × (Nat → Int32) => ps cI cC cW h u.1 S q2 V z U y u.2 ++ dv cI dd d) (r0 := (0 : Int32)) (u0 := (Y3, I3)) e3 (List.Perm.refl _) (fun _ => List.Perm.refl _) CF (c_X5_undo l D cI cC cW t h _ Y2 S q2 V z U y I2  (by rw [kp.1]; exact (nx4_b h01 h02).1) (by rw [kp.1]; exact (nx4_b h01 h02).2)) (cwV 0 hts gL_law_X5_undo rfl rfl rfl (by decide +kernel) ⟨Nat.le_of_ble_eq_true rfl, Nat.le_of_ble_eq_true rfl⟩) hP hD hK hX hS hA 0 4 ps_0 rfl rfl hl.1 rfl (Nat.le_of_ble_eq_true rfl) dL_law_92 ⟨Nat.le_of_ble_eq_true rfl, Nat.le_of_ble_eq_true rfl⟩ (fun H locs hP hD hS => ?_)
  have hP : va_P D vwCl (ps cI cC cW h Y3 S q2 V z U y I3 ++ dv cI dd d) H := hP
  have hD : va_D (lA s) (ps cI cC cW h Y3 S q2 V z U y I3 ++ dv cI dd d) := hD
  refine lv_if_ne (tgt := 123) hx hb dL_law_95 (by decide) (fun c9 => absurd (by decide) c9) (fun _ => ?_)
  refine lv_aload_n hx hb dL_law_98 rfl (lv_at hl 1 rfl) ?_
  refine lv_iconst (v := 0) hx hb dL_law_99 (by decide) ?_
  have hF3 : (Y3 4) = Y 4 := hY3.trans fr1.n4
  obtain ⟨Y4, q4, I4, e4, fr4, hq4, hI4_⟩ := ffa (Y := Y3) (S := S) (V := V) (z := z) (U := U) (y := y) (I := I3) hq2
  refine rwVse (wc := ps cI cC cW h Y3 S q2 V z U y I3) (Rr := dv cI dd d) (wn := fun u : (Nat → va_H) × (Nat → Int32) × (Nat → Int32) => ps cI cC cW h u.1 S u.2.1 V z U y u.2.2) (w1 := fun u : (Nat → va_H) × (Nat → Int32) × (Nat → Int32) => ps cI cC cW h u.1 S u.2.1 V z U y u.2.2 ++ dv cI dd d) (r0 := (-4 : Int32)) (u0 := (Y4, q4, I4)) e4 (List.Perm.refl _) (fun _ => List.Perm.refl _) CF (c_X5_fault l D cI cC cW t h _ Y3 S q2 V z U y I3 (0 : Int32) (by rw [hF3]; exact hsf) hch) (cwV 1 hts gL_law_X5_fault rfl rfl rfl (by decide +kernel) ⟨Nat.le_of_ble_eq_true rfl, Nat.le_of_ble_eq_true rfl⟩) hP hD hK hX hS hA 0 4 ps_0 rfl rfl hl.1 rfl (Nat.le_of_ble_eq_true rfl) dL_law_100 ⟨Nat.le_of_ble_eq_true rfl, Nat.le_of_ble_eq_true rfl⟩ (fun H locs hP hD hS => ?_)
  have hP : va_P D vwCl (ps cI cC cW h Y4 S q4 V z U y I4 ++ dv cI dd d) H := hP
  have hD : va_D (lA s) (ps cI cC cW h Y4 S q4 V z U y I4 ++ dv cI dd d) := hD
  refine lv_bipush (v := -4) hx hb dL_law_103 (by decide) ?_
  refine lv_icmp_ne (tgt := 123) hx hb dL_law_105 (by decide) (fun c9 => absurd (by decide) c9) (fun _ => ?_)
  refine lv_aload_n hx hb dL_law_108 rfl (lv_at hl 1 rfl) ?_
  have hF4 : (Y4 4) = Y 4 := fr4.n4.trans hF3
  refine rwSr (wc := ps cI cC cW h Y4 S q4 V z U y I4) (Rr := dv cI dd d) (wn := fun u : (Nat → va_H) => ps cI cC cW h u S q4 V z U y I4) (w1 := fun u : (Nat → va_H) => ps cI cC cW h u S q4 V z U y I4 ++ dv cI dd d) (List.Perm.refl _) (fun _ => List.Perm.refl _) CF (c_L_fails l D cI cC cW t h _ Y4 S q4 V z U y I4  (by rw [hF4]; exact hsf) (by rw [hI4_]; exact hI3) (by rw [hq4]; decide) hch) (va_cwS 1 hts gL_law_L_fails rfl rfl rfl (by decide +kernel) ⟨Nat.le_of_ble_eq_true rfl, Nat.le_of_ble_eq_true rfl⟩) hP hD hK hX hS hA rfl hl.1 rfl (Nat.le_of_ble_eq_true rfl) dL_law_109 ⟨Nat.le_of_ble_eq_true rfl, Nat.le_of_ble_eq_true rfl⟩ (fun r109 Y5 H locs hu hP hD hS => ?_)
  have hP : va_P D vwCl (ps cI cC cW h Y5 S q4 V z U y I4 ++ dv cI dd d) H := hP
  have hD : va_D (lA s) (ps cI cC cW h Y5 S q4 V z U y I4 ++ dv cI dd d) := hD
  have hu : r109 = 1 ∧ FR Y4 Y5 := hu
  obtain ⟨hr5, fr5⟩ := hu
  subst hr5
  have hF5 : (Y5 4) = Y 4 := fr5.n4.trans hF4
  have iv5 : INVa 0 0 Y5 I4 d := ⟨by rw [hF5, hF.1]; exact fwf hF.2.1, by rw [hF5, hF.1, hd]; exact fxt, by rw [hI4_]; exact hI3, by rw [hI4_]; exact hI4⟩
  refine lv_if_eq (tgt := 123) hx hb dL_law_112 (by decide) (fun c9 => absurd c9 (by decide)) (fun _ => ?_)
  refine lv_aload_n hx hb dL_law_115 rfl (lv_at hl 1 rfl) ?_
  refine lv_aload_n hx hb dL_law_116 rfl (lv_at hl 0 rfl) ?_
  refine rwSr (wc := ps cI cC cW h Y5 S q4 V z U y I4 ++ dv cI dd d) (Rr := []) (wn := fun u : (Nat → Int32) × (Int32) × (Nat → Int32) × (Int32) => ps cI cC cW h Y5 S q4 u.1 u.2.1 u.2.2.1 u.2.2.2 I4 ++ dv cI dd d) (w1 := fun u : (Nat → Int32) × (Int32) × (Nat → Int32) × (Int32) => ps cI cC cW h Y5 S q4 u.1 u.2.1 u.2.2.1 u.2.2.2 I4 ++ dv cI dd d) (by rw [List.append_nil]) (fun _ => by rw [List.append_nil]) CF (c_L_sound l D cI cC cW t h dd _ Y5 S q4 V z U y I4 d  0 0 iv5.1 iv5.2.1 (by omega)) (va_cwS 2 hts gL_law_L_sound rfl rfl rfl (by decide +kernel) ⟨Nat.le_of_ble_eq_true rfl, Nat.le_of_ble_eq_true rfl⟩) hP hD hK hX hS hA rfl hl.1 rfl (Nat.le_of_ble_eq_true rfl) dL_law_117 ⟨Nat.le_of_ble_eq_true rfl, Nat.le_of_ble_eq_true rfl⟩ (fun r117 u H locs hu hP hD hS => ?_)
  obtain ⟨V3, z3, U3, y3⟩ := u
  have hP : va_P D vwCl (ps cI cC cW h Y5 S q4 V3 z3 U3 y3 I4 ++ dv cI dd d) H := hP
  have hD : va_D (lA s) (ps cI cC cW h Y5 S q4 V3 z3 U3 y3 I4 ++ dv cI dd d) := hD
  have hu : r117 = 1 := hu
  subst hu
  refine lv_if_ne (tgt := 125) hx hb dL_law_120 (by decide) (fun _ => ?_) (fun c9 => absurd c9 (by decide))
  exact law_b hL C0 hts hK hX hch hq4 iv5 (by rw [hF5, hF.1]; exact N000) (by rw [hF5]; exact hF.2.1) (by rw [hd]; exact fun _ => rfl) hP hD hS (lv_sub hl [0, 1, 2] rfl)
