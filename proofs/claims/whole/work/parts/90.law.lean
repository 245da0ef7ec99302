/-! the law's loop and its start (printed by wip/whole/mk90.py) -/
section LO
variable {p : Program} {e : Env} {s : State} {m : MethodId} {args : Array Value} {below : List Frame} {meth : Method} {c : Code} {l : Launch} {H : Heap} {locs : List Loc} {cells slots : Nat} {Q : State → Prop} {R : Room}
variable {y : MethodName} {bytes cc : ByteArray} {maxL nL n index pc mc ms : Nat} {ws : List Cond} {rm : Room} {Ts : List Cond} {own C : String} {b : Addr} {As rest st0 : List Value} {ls : Array Slot}
variable {D : va_G} {tys : List (ClassId × FieldType)} {wc ws0 Rr : va_W} {t : Nat → Nat} {A : Nat → Prop}
/-- a constructor over a part of the world, with the word of arrays over pooled objects -/
theorem rwIO {σ : Type} {wn w1 : σ → va_W} {po : σ → Prop} (hp : ws0.Perm (wc ++ Rr)) (hq : ∀ u, po u → (wn u ++ Rr).Perm (w1 u)) (S : CallFix p m c cc nL s args Ts own) (hM : Met l y ws rm (va_Pc (.ref b :: As) (fun U => rwP D tys wc t H.size U ∧ va_AO C U)) (va_Qv po (fun u => rwB D (va_A wc H.size) (wn u)) (va_A wc H.size)) mc ms (va_A wc H.size)) (cw : CallB R s args own index y bytes maxL none ws rm mc ms n ∧ y.name = "<init>" ∧ (Cond.instanceMethod y).before args s = true)
    (hao : va_AO C s) (hP : va_P D vwCl ws0 H) (hD : va_D A ws0) (hK : va_K D vwCl tys s) (hX : sx t A s s.heap) (hS : va_S A s.heap H locs) (hA : ∀ q, s.heap.size ≤ q → A q)
    (hn : As.length = n) (hsize : ls.size = nL) (hstack : st0 = As.reverse ++ .ref b :: rest) (hcat : (rest.map fun v => v.category).sum ≤ 8) (hdg : decode cc pc = .ok (.invokespecial index, 3)) (hf : cells + mc ≤ R.cells ∧ slots + ms ≤ R.slots)
    (kk : ∀ (u : σ) (H1 : Heap) (locs1 : List Loc), po u → va_P D vwCl (w1 u) H1 → va_D A (w1 u) → va_S A s.heap H1 locs1 → W p l e R s m args below meth c H1 locs1 (cells + mc) (slots + ms) Q (F0 m (pc + 3) ls rest)) : W p l e R s m args below meth c H locs cells slots Q (F0 m pc ls st0) := by
  have hP2 := vP_perm hp hP
  have hD2 := vD_perm hp hD
  have hPc := vP_l hP2
  have hDc := vD_l hD2
  have hF := fA hDc hS hA
  have bl : FrameBlind (va_Pc (.ref b :: As) (fun U => rwP D tys wc t H.size U ∧ va_AO C U)) := fun a U g mk q => ⟨q.1, (rwP.blind (.ref b :: As) D tys wc t H.size a U g mk ⟨q.1, q.2.1⟩).2, va_AO.moved (u := U) (U := U.calling g mk a) (Vm.Alike.refl U.vm) q.2.2⟩
  refine va_callv (va_runI S hM cw ⟨bl, fun U hU hW => ⟨rfl, ⟨by rw [hU], by rw [hU]; exact hPc, va_K.moved hW.alike hK, hDc.weaken (fun _ _ _ _ => trivial), hX.to hS hF hU hW⟩, va_AO.moved hW.alike hao⟩⟩ rfl hn hsize hstack (lv_room hcat) hdg hf) hS (fun q _ h => hF q h) hF (fun u T' H1 locs1 ht _ hw hB _ hk1 hS1 => ?_)
  obtain ⟨hP1, hD1⟩ := hB
  rw [ht] at hP1
  obtain ⟨j1, j2⟩ := vjn hP2 hD2 hk1 hF hP1 hD1
  exact kk u H1 locs1 hw (vP_perm (hq u hw) j1) (vD_perm (hq u hw) j2) hS1
end LO
theorem lim_of {L i : Nat} (hL : L ≤ 2048) (hi : i ≤ L) (c : ¬ Int32.ofNat L - 4 < nI i) : i + 4 ≤ L := by
  rw [lt_toInt, nI_toInt (by omega)] at c
  rcases Nat.lt_or_ge L 4 with w | w
  · exfalso
    have h4 : (Int32.ofNat L - 4).toInt < 0 := by rcases (show L = 0 ∨ L = 1 ∨ L = 2 ∨ L = 3 by omega) with rfl | rfl | rfl | rfl <;> decide
    omega
  · obtain ⟨k, rfl⟩ : ∃ k, L = k + 4 := ⟨L - 4, by omega⟩
    have e : Int32.ofNat (k + 4) - 4 = nI k := by
      have e1 : Int32.ofNat (k + 4) = nI k + 4 := (nI_add k 4).symm
      rw [e1]; grind
    rw [e, nI_toInt (by omega)] at c
    omega
section LL
variable {p : Program} {e : Env} {s : State} {m : MethodId} {below : List Frame} {meth : Method} {c : Code} {l : Launch} {b L : Nat} {xs : Nat → Int32} {D : va_G} {cI cC cW : ClassId} {h a t : Nat → Nat}
set_option maxHeartbeats 4000000 in
set_option maxRecDepth 100000 in
theorem law_loop (hL : L ≤ 2048) (C0 : lw_At p s m meth c b L xs) (htsW : ∀ w ∈ wsL_law, w.before #[Value.ref b] s = true) (hK : va_K D vwCl (tyL cI cC cW) s) (hX : sx t (lA s) s s.heap) : ∀ (n i : Nat) (bd : Int) (Y : Nat → va_H) (S q V : Nat → Int32) (z : Int32) (U : Nat → Int32) (y : Int32) (I : Nat → Int32) (Z : Nat → Nat → Int32) (H : Heap) (locs : List Loc) (ls : Array Slot), i ≤ L → L - i < n → 0 ≤ bd → 4 * bd ≤ 61 * (i : Int) → rel bd Y S q I (Y 4).2.1 Z → va_P D vwCl (ps cI cC cW h Y S q V z U y I ++ md cI a (Y 4).2.1 Z) H → va_D (lA s) (ps cI cC cW h Y S q V z U y I ++ md cI a (Y 4).2.1 Z) → va_S (lA s) s.heap H locs → lv_has ls 4 (lv4 b h a i) → W p l e room_1 s m #[Value.ref b] below meth c H locs 87 3474 (lw_Z below #[Value.ref b] s) (F0 m 18 ls []) := by
  intro n
  induction n with
  | zero => intro i _ _ _ _ _ _ _ _ _ _ _ _ _ _ hn; exact absurd hn (by omega)
  | succ n ih =>
    intro i bd Y S q V z U y I Z H locs ls hi hn hb0 hbi R hP hD hS hl
    obtain ⟨hx, hb, hr, hml, hown, -, hXs, hbl, hlocks, -⟩ := id C0
    have hbA : ¬ lA s b := Nat.not_le.mpr hbl
    refine lv_iload_n hx hb dL_law_18 rfl (lv_at hl 0 rfl) ?_
    refine lv_aload_n hx hb dL_law_19 rfl (lv_at hl 3 rfl) ?_
    refine va_slen hx hb hXs hbl hbA hS dL_law_20 ?_
    refine lv_iconst (v := 4) hx hb dL_law_21 (by decide) ?_
    refine lv_isub hx hb dL_law_22 ?_
    refine lv_icmp_gt (tgt := 846) hx hb dL_law_23 (by decide) (fun _ => ?_) (fun c1 => ?_)
    · refine lv_iconst (v := 1) hx hb dL_law_846 (by decide) ?_
      refine va_forget (fun q hq => hS.2.2 q hq) ?_
      refine W.widen (k := 600000) (n := 7302249) (by omega) (by omega) ?_
      exact lw_ret hx hb hr hlocks dL_law_847
    have h4 : i + 4 ≤ L := lim_of hL hi c1
    have h0 : vp_in (nI i) L := vp_in_nI (by omega) (by omega)
    have h1 : vp_in (nI i + 1) L := by rw [nI_1]; exact vp_in_nI (by omega) (by omega)
    have h2 : vp_in (nI i + 2) L := by rw [show nI i + 2 = nI (i + 2) from nI_add i 2]; exact vp_in_nI (by omega) (by omega)
    have h3 : vp_in (nI i + 3) L := by rw [show nI i + 3 = nI (i + 3) from nI_add i 3]; exact vp_in_nI (by omega) (by omega)
    have NX : nxt p l e s m b below meth c D cI cC cW h a bd i := by
      intro bd' Y' S' q' V' z' U' y' I' N' Z' H' locs' ls' hb' R' hP' hD' hS' hl'
      refine lv_iinc (v := nI (i + 4)) (lv' := lv4 b h a (i + 4)) hx hb dL_law_840 hl' (k := 0) rfl (by rw [← nI_add i 4]; rfl) (by decide) rfl (fun ls hl => ?_)
      refine lv_goto (tgt := 18) hx hb dL_law_843 (by decide) ?_
      exact ih (i + 4) (bd + 61) (wn4 Y' N') S' q' V' z' U' y' I' Z' H' locs' ls h4 (by omega) (by omega) (by omega) (R'.mono hb').n4 (n4_P R'.1 hP') (n4_D hD') hS' hl
    refine lv_aload_n hx hb dL_law_26 rfl (lv_at hl 3 rfl) ?_
    refine lv_iload_n hx hb dL_law_27 rfl (lv_at hl 0 rfl) ?_
    refine va_sld hx hb hXs hbl hbA hS h0 dL_law_28 ?_
    refine lv_bipush (v := 31) hx hb dL_law_29 (by decide) ?_
    refine lv_iand hx hb dL_law_31 ?_
    obtain ⟨j, hj, ej⟩ := pk_andE (xs (nI i).toNatClampNeg) (m := 31) 5 (by decide)
    rw [ej]
    by_cases e0 : j = 0
    · subst e0
      exact lv_tableIn (off := 120) (tgt := 152) hx hb dL_law_32 (by decide) (by decide) (by decide) (by decide) (kc_good C0 htsW hK hX hP hD hS R (by omega) h1 h2 hl NX)
    by_cases e1 : j = 1
    · subst e1
      exact lv_tableIn (off := 153) (tgt := 185) hx hb dL_law_32 (by decide) (by decide) (by decide) (by decide) (kc_demand C0 htsW hK hX hP hD hS R h1 h2 h3 hl NX)
    by_cases e2 : j = 2
    · subst e2
      exact lv_tableIn (off := 196) (tgt := 228) hx hb dL_law_32 (by decide) (by decide) (by decide) (by decide) (kc_deliver C0 htsW hK hX hP hD hS R h1 h2 hl NX)
    by_cases e3 : j = 3
    · subst e3
      exact lv_tableIn (off := 229) (tgt := 261) hx hb dL_law_32 (by decide) (by decide) (by decide) (by decide) (kc_place C0 htsW hK hX hP hD hS R h1 h2 hl NX)
    by_cases e4 : j = 4
    · subst e4
      exact lv_tableIn (off := 262) (tgt := 294) hx hb dL_law_32 (by decide) (by decide) (by decide) (by decide) (kc_take C0 htsW hK hX hP hD hS R h1 hl NX)
    by_cases e5 : j = 5
    · subst e5
      exact lv_tableIn (off := 285) (tgt := 317) hx hb dL_law_32 (by decide) (by decide) (by decide) (by decide) (kc_goodOf C0 htsW hK hX hP hD hS R h1 h2 hl NX)
    by_cases e6 : j = 6
    · subst e6
      exact lv_tableIn (off := 318) (tgt := 350) hx hb dL_law_32 (by decide) (by decide) (by decide) (by decide) (kc_slotOf C0 htsW hK hX hP hD hS R h1 h2 hl NX)
    by_cases e7 : j = 7
    · subst e7
      exact lv_tableIn (off := 351) (tgt := 383) hx hb dL_law_32 (by decide) (by decide) (by decide) (by decide) (kc_nearest C0 htsW hK hX hP hD hS R h1 hl NX)
    by_cases e8 : j = 8
    · subst e8
      exact lv_tableIn (off := 374) (tgt := 406) hx hb dL_law_32 (by decide) (by decide) (by decide) (by decide) (kc_pick C0 htsW hK hX hP hD hS R (by omega) h1 h2 hl NX)
    by_cases e9 : j = 9
    · subst e9
      exact lv_tableIn (off := 407) (tgt := 439) hx hb dL_law_32 (by decide) (by decide) (by decide) (by decide) (kc_refill C0 htsW hK hX hP hD hS R h1 hl NX)
    by_cases e10 : j = 10
    · subst e10
      exact lv_tableIn (off := 430) (tgt := 462) hx hb dL_law_32 (by decide) (by decide) (by decide) (by decide) (kc_endWeek C0 htsW hK hX hP hD hS R (by omega)  hl NX)
    by_cases e11 : j = 11
    · subst e11
      exact lv_tableIn (off := 443) (tgt := 475) hx hb dL_law_32 (by decide) (by decide) (by decide) (by decide) (kc_move C0 htsW hK hX hP hD hS R h1 h2 hl NX)
    by_cases e12 : j = 12
    · subst e12
      exact lv_tableIn (off := 476) (tgt := 508) hx hb dL_law_32 (by decide) (by decide) (by decide) (by decide) (kc_exchange C0 htsW hK hX hP hD hS R h1 h2 hl NX)
    by_cases e13 : j = 13
    · subst e13
      exact lv_tableIn (off := 509) (tgt := 541) hx hb dL_law_32 (by decide) (by decide) (by decide) (by decide) (kc_worth C0 htsW hK hX hP hD hS R h1 h2 h3 hl NX)
    by_cases e14 : j = 14
    · subst e14
      exact lv_tableIn (off := 552) (tgt := 584) hx hb dL_law_32 (by decide) (by decide) (by decide) (by decide) (kc_best C0 htsW hK hX hP hD hS R h1 hl NX)
    by_cases e15 : j = 15
    · subst e15
      exact lv_tableIn (off := 575) (tgt := 607) hx hb dL_law_32 (by decide) (by decide) (by decide) (by decide) (kc_improve C0 htsW hK hX hP hD hS R h1 hl NX)
    by_cases e16 : j = 16
    · subst e16
      exact lv_tableIn (off := 598) (tgt := 630) hx hb dL_law_32 (by decide) (by decide) (by decide) (by decide) (kc_weekly C0 htsW hK hX hP hD hS R h1 hl NX)
    by_cases e17 : j = 17
    · subst e17
      exact lv_tableIn (off := 621) (tgt := 653) hx hb dL_law_32 (by decide) (by decide) (by decide) (by decide) (kc_atBest C0 htsW hK hX hP hD hS R h1 hl NX)
    by_cases e18 : j = 18
    · subst e18
      exact lv_tableIn (off := 644) (tgt := 676) hx hb dL_law_32 (by decide) (by decide) (by decide) (by decide) (kc_account C0 htsW hK hX hP hD hS R h1 hl NX)
    by_cases e19 : j = 19
    · subst e19
      exact lv_tableIn (off := 667) (tgt := 699) hx hb dL_law_32 (by decide) (by decide) (by decide) (by decide) (kc_count C0 htsW hK hX hP hD hS R h1 hl NX)
    by_cases e20 : j = 20
    · subst e20
      exact lv_tableIn (off := 690) (tgt := 722) hx hb dL_law_32 (by decide) (by decide) (by decide) (by decide) (kc_set C0 htsW hK hX hP hD hS R h1 h2 hl NX)
    by_cases e21 : j = 21
    · subst e21
      exact lv_tableIn (off := 723) (tgt := 755) hx hb dL_law_32 (by decide) (by decide) (by decide) (by decide) (kc_undo C0 htsW hK hX hP hD hS R  hl NX)
    by_cases e22 : j = 22
    · subst e22
      exact lv_tableIn (off := 736) (tgt := 768) hx hb dL_law_32 (by decide) (by decide) (by decide) (by decide) (kc_type C0 htsW hK hX hP hD hS R h1 hl NX)
    by_cases e23 : j = 23
    · subst e23
      exact lv_tableIn (off := 759) (tgt := 791) hx hb dL_law_32 (by decide) (by decide) (by decide) (by decide) (kc_clearText C0 htsW hK hX hP hD hS R  hl NX)
    by_cases e24 : j = 24
    · subst e24
      exact lv_tableIn (off := 772) (tgt := 804) hx hb dL_law_32 (by decide) (by decide) (by decide) (by decide) (kc_fault C0 htsW hK hX hP hD hS R (by omega) h1 hl NX)
    by_cases e25 : j = 25
    · subst e25
      exact lv_tableIn (off := 795) (tgt := 827) hx hb dL_law_32 (by decide) (by decide) (by decide) (by decide) (kc_play C0 htsW hK hX hP hD hS R (by omega)  hl NX)
    refine lv_tableOut (tgt := 840) hx hb dL_law_32 (Or.inr ?_) (by decide) (NX bd _ _ _ _ _ _ _ _ _ _ _ _ _ (by omega) R hP hD hS hl)
    rw [nI_toInt (by omega)]
    omega
set_option maxHeartbeats 4000000 in
set_option maxRecDepth 100000 in
/-- THE LAW, from its entry -/
theorem whole_start {p : Program} {e : Env} {s : State} {m : MethodId} {below : List Frame} {meth : Method} {c : Code} (l : Launch) (hflags : l.flags = flags0) {b L : Nat} {xs : Nat → Int32} (hL : L ≤ 2048) (C0 : lw_At p s m meth c b L xs) : W p l e room_1 s m #[Value.ref b] below meth c s.heap [] 0 0 (lw_Z below #[Value.ref b] s) (entryFrame m ([Value.ref b] : List Value).toArray 4) := by
  obtain ⟨hx, hb, hr, hml, hown, hts, hXs, hbl, hlocks, hgv⟩ := id C0
  have htsW : ∀ w ∈ wsL_law, w.before #[Value.ref b] s = true := fun w h => hts w (wsL_law_in w h)
  obtain ⟨D, cI, cC, cW, hK⟩ := law_K hts
  obtain ⟨t, hX⟩ := law_sx hts hgv
  have hao := law_ao hts
  have hA : ∀ q : Nat, s.heap.size ≤ q → lA s q := fun _ h => h
  have CF : CallFix p m c cL_law 4 s #[Value.ref b] wsL_law RL := ⟨hx, hb, hml, hown, htsW⟩
  have hS : va_S (lA s) s.heap s.heap [] := va_S.rf
  have hP : va_P D vwCl [] s.heap := fun k q h => by simp at h
  have hD : va_D (lA s) [] := ⟨fun i j p q h => by simp at h, fun k q h => by simp at h⟩
  have wd1 : (Cond.classLink RL 7 RX5).before #[Value.ref b] s = true := hts _ (by decide +kernel)
  have wd2 : (Cond.instantiable RX5 9).before #[Value.ref b] s = true := hts _ (by decide +kernel)
  have wd3 : (Cond.initialized RX5).before #[Value.ref b] s = true := hts _ (by decide +kernel)
  have wd4 : (Cond.methodLink RL 9 yX5_init).before #[Value.ref b] s = true := hts _ (by decide +kernel)
  have wd5 : (Cond.instanceMethod yX5_init).before #[Value.ref b] s = true := hts _ (by decide +kernel)
  have wd6 : (Cond.classLink RL 10 RX6).before #[Value.ref b] s = true := hts _ (by decide +kernel)
  have wd7 : (Cond.instantiable RX6 17).before #[Value.ref b] s = true := hts _ (by decide +kernel)
  have wd8 : (Cond.initialized RX6).before #[Value.ref b] s = true := hts _ (by decide +kernel)
  have wd9 : (Cond.methodLink RL 12 yX6_init).before #[Value.ref b] s = true := hts _ (by decide +kernel)
  have wd10 : (Cond.instanceMethod yX6_init).before #[Value.ref b] s = true := hts _ (by decide +kernel)
  have hl := lv_entry ([.ref b]) (n := 4) (Nat.le_of_ble_eq_true rfl)
  rw [lg_entry_eq]
  generalize (lg_sl ([.ref b]) ++ List.replicate (4 - (lg_sl ([.ref b])).length) Slot.unset).toArray = ls at hl ⊢
  have hl : lv_has ls 4 [(0, .ref b)] := hl
  refine va_new (ci := 4) (fs := [.null, .null, .null, .null, .null, .null, .int 0, .int 0, .int 0]) (C := RX5) (T := TX5) (N := 9) hx hb hts inX5 tyX5 tyX5_ok hown wd1 wd2 wd3 hK hP hD hS hA rfl (fun j hj => by rcases (show j = 0 ∨ j = 1 ∨ j = 2 ∨ j = 3 ∨ j = 4 ∨ j = 5 ∨ j = 6 ∨ j = 7 ∨ j = 8 by omega) with rfl | rfl | rfl | rfl | rfl | rfl | rfl | rfl | rfl <;> rfl) (Nat.le_of_ble_eq_true rfl) (Nat.le_of_ble_eq_true rfl) dL_law_0 (fun q0 H hP hD hS => ?_)
  have hP : va_P D vwCl [(q0, .inr (4, [.null, .null, .null, .null, .null, .null, .int 0, .int 0, .int 0]))] H := hP
  have hD : va_D (lA s) [(q0, .inr (4, [.null, .null, .null, .null, .null, .null, .int 0, .int 0, .int 0]))] := hD
  refine lv_dup hx hb dL_law_3 rfl ?_
  refine rwIO (C := RX4) (wc := [(q0, .inr (4, [.null, .null, .null, .null, .null, .null, .int 0, .int 0, .int 0]))]) (Rr := []) (w1 := fun u : (Nat → Nat) × (Nat → va_H) => ps cI cC cW u.1 u.2 (fun _ => 0) (fun _ => 0) (fun _ => 0) 0 (fun _ => 0) 0 (fun _ => 0)) (List.Perm.refl _) (fun u _ => by rw [List.append_nil]) CF (c_X5_init l D cI cC cW t q0 _) (cwI 0 htsW gL_law_X5_init rfl rfl rfl wd3 wd4 wd5 rfl (by decide +kernel) ⟨Nat.le_of_ble_eq_true rfl, Nat.le_of_ble_eq_true rfl⟩) hao hP hD hK hX hS hA rfl hl.1 rfl (Nat.le_of_ble_eq_true rfl) dL_law_4 ⟨Nat.le_of_ble_eq_true rfl, Nat.le_of_ble_eq_true rfl⟩ (fun u H2 locs2 hu hP2 hD2 hS2 => ?_)
  clear hS hD hP
  obtain ⟨h, Y⟩ := u
  obtain ⟨e1, hW⟩ := hu
  dsimp only at e1 hW hP2 hD2
  subst e1
  refine lv_astore_n (lv' := [(1, .ref (h 0)), (0, .ref b)]) hx hb dL_law_7 rfl hl (by decide) rfl (fun ls hl => ?_)
  refine va_new (ci := 5) (fs := [.null, .null, .int 0, .null, .null, .int 0, .int 0, .int 0, .int 0, .null, .null, .int 0, .int 0, .int 0, .int 0, .int 0, .int 0]) (C := RX6) (T := TX6) (N := 17) hx hb hts inX6 tyX6 tyX6_ok hown wd6 wd7 wd8 hK hP2 hD2 hS2 hA rfl (fun j hj => by rcases (show j = 0 ∨ j = 1 ∨ j = 2 ∨ j = 3 ∨ j = 4 ∨ j = 5 ∨ j = 6 ∨ j = 7 ∨ j = 8 ∨ j = 9 ∨ j = 10 ∨ j = 11 ∨ j = 12 ∨ j = 13 ∨ j = 14 ∨ j = 15 ∨ j = 16 by omega) with rfl | rfl | rfl | rfl | rfl | rfl | rfl | rfl | rfl | rfl | rfl | rfl | rfl | rfl | rfl | rfl | rfl <;> rfl) (Nat.le_of_ble_eq_true rfl) (Nat.le_of_ble_eq_true rfl) dL_law_8 (fun q1 H hP hD hS => ?_)
  refine lv_dup hx hb dL_law_11 rfl ?_
  refine rwI (wc := [(q1, .inr (5, [.null, .null, .int 0, .null, .null, .int 0, .int 0, .int 0, .int 0, .null, .null, .int 0, .int 0, .int 0, .int 0, .int 0, .int 0]))]) (Rr := ps cI cC cW h Y (fun _ => 0) (fun _ => 0) (fun _ => 0) 0 (fun _ => 0) 0 (fun _ => 0)) (wn := fun u : Nat → Nat => md cI u (upd (upd (upd (fun _ => 0) 2 30) 3 60) 4 1) (fun _ _ => 0)) (w1 := fun u : Nat → Nat => ps cI cC cW h Y (fun _ => 0) (fun _ => 0) (fun _ => 0) 0 (fun _ => 0) 0 (fun _ => 0) ++ md cI u N00 (fun _ _ => 0)) List.perm_append_comm (fun _ _ => List.perm_append_comm) CF (c_X6_init l D cI cC cW t q1 _) (cwI 0 htsW gL_law_X6_init rfl rfl rfl wd8 wd9 wd10 rfl (by decide +kernel) ⟨Nat.le_of_ble_eq_true rfl, Nat.le_of_ble_eq_true rfl⟩) hP hD hK hX hS hA rfl hl.1 rfl (Nat.le_of_ble_eq_true rfl) dL_law_12 ⟨Nat.le_of_ble_eq_true rfl, Nat.le_of_ble_eq_true rfl⟩ (fun a H3 locs3 ha hP3 hD3 hS3 => ?_)
  clear hS hD hP
  subst ha
  refine lv_astore_n (lv' := [(2, .ref (a 0)), (1, .ref (h 0)), (0, .ref b)]) hx hb dL_law_15 rfl hl (by decide) rfl (fun ls hl => ?_)
  refine lv_iconst (v := 0) hx hb dL_law_16 (by decide) ?_
  refine lv_istore_n (lv' := lv4 b h a 0) hx hb dL_law_17 rfl hl (by decide) rfl (fun ls hl => ?_)
  have R0 := rel_0 hW
  exact law_loop (h := h) (a := a) hL C0 htsW hK hX (L + 1) 0 0 (wn4 Y N00) _ _ _ _ _ _ _ _ _ _ ls (Nat.zero_le L) (by omega) (by omega) (by omega) R0.n4 (n4_P R0.1 hP3) (n4_D hD3) hS3 hl
end LL
