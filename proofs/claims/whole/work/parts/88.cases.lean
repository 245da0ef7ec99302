section LC
variable {p : Program} {e : Env} {s : State} {m : MethodId} {below : List Frame} {meth : Method} {c : Code} {l : Launch} {b L : Nat} {xs : Nat → Int32} {D : va_G} {cI cC cW : ClassId} {h a t : Nat → Nat} {Y : Nat → va_H} {S q V U I : Nat → Int32} {z y : Int32} {Z : Nat → Nat → Int32} {H : Heap} {locs : List Loc} {ls : Array Slot} {bd : Int} {i : Nat}
set_option maxHeartbeats 4000000 in
set_option maxRecDepth 100000 in
theorem kc_good (C0 : lw_At p s m meth c b L xs) (hts : ∀ w ∈ wsL_law, w.before #[Value.ref b] s = true) (hK : va_K D vwCl (tyL cI cC cW) s) (hX : sx t (lA s) s s.heap) (hP : va_P D vwCl (ps cI cC cW h Y S q V z U y I ++ md cI a (Y 4).2.1 Z) H) (hD : va_D (lA s) (ps cI cC cW h Y S q V z U y I ++ md cI a (Y 4).2.1 Z)) (hS : va_S (lA s) s.heap H locs) (R : rel bd Y S q I (Y 4).2.1 Z) (hb0 : 0 ≤ bd) (h1 : vp_in (nI i + 1) L) (h2 : vp_in (nI i + 2) L) (hl : lv_has ls 4 (lv4 b h a i)) (NX : nxt p l e s m b below meth c D cI cC cW h a bd i) : W p l e room_1 s m #[Value.ref b] below meth c H locs 87 3474 (lw_Z below #[Value.ref b] s) (F0 m 152 ls []) := by
  obtain ⟨hx, hb, hr, hml, hown, -, hXs, hbl, hlocks, -⟩ := id C0
  have hA : ∀ q : Nat, s.heap.size ≤ q → lA s q := fun _ h => h
  have CF : CallFix p m c cL_law 4 s #[Value.ref b] wsL_law RL := ⟨hx, hb, hml, hown, hts⟩
  have P := s_good (V := V) (z := z) (U := U) (y := y) hb0 R (x1 := ar xs i 1) (x2 := ar xs i 2)
  refine lv_aload_n hx hb dL_law_152 rfl (lv_at hl 2 rfl) ?_
  refine rdA hx hb hXs hbl hS hl (v := 1) h1 dL_law_153 dL_law_154 dL_law_155 (by decide) dL_law_156 dL_law_157 ?_
  refine rdA hx hb hXs hbl hS hl (v := 2) h2 dL_law_158 dL_law_159 dL_law_160 (by decide) dL_law_161 dL_law_162 ?_
  refine rwVs (wc := ps cI cC cW h Y S q V z U y I) (Rr := md cI a (Y 4).2.1 Z) (wn := fun u : (Nat → va_H) × (Nat → Int32) => ps cI cC cW h u.1 S q V z U y u.2) (w1 := fun u : (Nat → va_H) × (Nat → Int32) => ps cI cC cW h u.1 S q V z U y u.2 ++ md cI a (Y 4).2.1 Z) (List.Perm.refl _) (fun _ => List.Perm.refl _) CF (c_X5_good l D cI cC cW t h _ Y S q V z U y I (ar xs i 1) (ar xs i 2) R.sf R.st.1) (cwV 2 hts gL_law_X5_good rfl rfl rfl (by decide +kernel) ⟨Nat.le_of_ble_eq_true rfl, Nat.le_of_ble_eq_true rfl⟩) hP hD hK hX hS hA 0 4 ps_0 rfl rfl hl.1 rfl (Nat.le_of_ble_eq_true rfl) dL_law_163 ⟨Nat.le_of_ble_eq_true rfl, Nat.le_of_ble_eq_true rfl⟩ (fun H locs hP hD hS => ?_)
  refine lv_aload_n hx hb dL_law_166 rfl (lv_at hl 1 rfl) ?_
  refine rdA hx hb hXs hbl hS hl (v := 1) h1 dL_law_167 dL_law_168 dL_law_169 (by decide) dL_law_170 dL_law_171 ?_
  refine rdA hx hb hXs hbl hS hl (v := 2) h2 dL_law_172 dL_law_173 dL_law_174 (by decide) dL_law_175 dL_law_176 ?_
  refine rwVs (wc := md cI a (Y 4).2.1 Z) (Rr := ps cI cC cW h (sp_X5_good Y S q V z U y I (ar xs i 1) (ar xs i 2)).2.1 S q V z U y (sp_X5_good Y S q V z U y I (ar xs i 1) (ar xs i 2)).2.2) (wn := fun u : (Nat → Int32) × (Nat → Nat → Int32) => md cI a u.1 u.2) (w1 := fun u : (Nat → Int32) × (Nat → Nat → Int32) => ps cI cC cW h (sp_X5_good Y S q V z U y I (ar xs i 1) (ar xs i 2)).2.1 S q V z U y (sp_X5_good Y S q V z U y I (ar xs i 1) (ar xs i 2)).2.2 ++ md cI a u.1 u.2) List.perm_append_comm (fun _ => List.perm_append_comm) CF (c_X6_good l D cI cC cW t a _ (Y 4).2.1 Z (ar xs i 1) (ar xs i 2) R.sf R.ps) (cwV 2 hts gL_law_X6_good rfl rfl rfl (by decide +kernel) ⟨Nat.le_of_ble_eq_true rfl, Nat.le_of_ble_eq_true rfl⟩) hP hD hK hX hS hA 0 5 md_0 rfl rfl hl.1 rfl (Nat.le_of_ble_eq_true rfl) dL_law_177 ⟨Nat.le_of_ble_eq_true rfl, Nat.le_of_ble_eq_true rfl⟩ (fun H locs hP hD hS => ?_)
  refine lv_icmp_eq (tgt := 840) hx hb dL_law_180 (by decide) (fun _ => ?_) (fun ne => absurd P.1 ne)
  exact NX _ _ _ _ _ _ _ _ _ _ _ _ _ _ (by omega) P.2 hP hD hS hl
set_option maxHeartbeats 4000000 in
set_option maxRecDepth 100000 in
theorem kc_demand (C0 : lw_At p s m meth c b L xs) (hts : ∀ w ∈ wsL_law, w.before #[Value.ref b] s = true) (hK : va_K D vwCl (tyL cI cC cW) s) (hX : sx t (lA s) s s.heap) (hP : va_P D vwCl (ps cI cC cW h Y S q V z U y I ++ md cI a (Y 4).2.1 Z) H) (hD : va_D (lA s) (ps cI cC cW h Y S q V z U y I ++ md cI a (Y 4).2.1 Z)) (hS : va_S (lA s) s.heap H locs) (R : rel bd Y S q I (Y 4).2.1 Z) (h1 : vp_in (nI i + 1) L) (h2 : vp_in (nI i + 2) L) (h3 : vp_in (nI i + 3) L) (hl : lv_has ls 4 (lv4 b h a i)) (NX : nxt p l e s m b below meth c D cI cC cW h a bd i) : W p l e room_1 s m #[Value.ref b] below meth c H locs 87 3474 (lw_Z below #[Value.ref b] s) (F0 m 185 ls []) := by
  obtain ⟨hx, hb, hr, hml, hown, -, hXs, hbl, hlocks, -⟩ := id C0
  have hA : ∀ q : Nat, s.heap.size ≤ q → lA s q := fun _ h => h
  have CF : CallFix p m c cL_law 4 s #[Value.ref b] wsL_law RL := ⟨hx, hb, hml, hown, hts⟩
  have P := s_demand (V := V) (z := z) (U := U) (y := y) R (x1 := ar xs i 1) (x2 := ar xs i 2) (x3 := ar xs i 3)
  refine lv_aload_n hx hb dL_law_185 rfl (lv_at hl 2 rfl) ?_
  refine rdA hx hb hXs hbl hS hl (v := 1) h1 dL_law_186 dL_law_187 dL_law_188 (by decide) dL_law_189 dL_law_190 ?_
  refine rdA hx hb hXs hbl hS hl (v := 2) h2 dL_law_191 dL_law_192 dL_law_193 (by decide) dL_law_194 dL_law_195 ?_
  refine rdA hx hb hXs hbl hS hl (v := 3) h3 dL_law_196 dL_law_197 dL_law_198 (by decide) dL_law_199 dL_law_200 ?_
  refine rwVs (wc := ps cI cC cW h Y S q V z U y I) (Rr := md cI a (Y 4).2.1 Z) (wn := fun u : (Nat → va_H) × (Nat → Int32) => ps cI cC cW h u.1 S q V z U y u.2) (w1 := fun u : (Nat → va_H) × (Nat → Int32) => ps cI cC cW h u.1 S q V z U y u.2 ++ md cI a (Y 4).2.1 Z) (List.Perm.refl _) (fun _ => List.Perm.refl _) CF (c_X5_demand l D cI cC cW t h _ Y S q V z U y I (ar xs i 1) (ar xs i 2) (ar xs i 3) R.sf R.st.1) (cwV 3 hts gL_law_X5_demand rfl rfl rfl (by decide +kernel) ⟨Nat.le_of_ble_eq_true rfl, Nat.le_of_ble_eq_true rfl⟩) hP hD hK hX hS hA 0 4 ps_0 rfl rfl hl.1 rfl (Nat.le_of_ble_eq_true rfl) dL_law_201 ⟨Nat.le_of_ble_eq_true rfl, Nat.le_of_ble_eq_true rfl⟩ (fun H locs hP hD hS => ?_)
  refine lv_aload_n hx hb dL_law_204 rfl (lv_at hl 1 rfl) ?_
  refine rdA hx hb hXs hbl hS hl (v := 1) h1 dL_law_205 dL_law_206 dL_law_207 (by decide) dL_law_208 dL_law_209 ?_
  refine rdA hx hb hXs hbl hS hl (v := 2) h2 dL_law_210 dL_law_211 dL_law_212 (by decide) dL_law_213 dL_law_214 ?_
  refine rdA hx hb hXs hbl hS hl (v := 3) h3 dL_law_215 dL_law_216 dL_law_217 (by decide) dL_law_218 dL_law_219 ?_
  refine rwVs (wc := md cI a (Y 4).2.1 Z) (Rr := ps cI cC cW h (sp_X5_demand Y S q V z U y I (ar xs i 1) (ar xs i 2) (ar xs i 3)).2.1 S q V z U y (sp_X5_demand Y S q V z U y I (ar xs i 1) (ar xs i 2) (ar xs i 3)).2.2) (wn := fun u : (Nat → Int32) × (Nat → Nat → Int32) => md cI a u.1 u.2) (w1 := fun u : (Nat → Int32) × (Nat → Nat → Int32) => ps cI cC cW h (sp_X5_demand Y S q V z U y I (ar xs i 1) (ar xs i 2) (ar xs i 3)).2.1 S q V z U y (sp_X5_demand Y S q V z U y I (ar xs i 1) (ar xs i 2) (ar xs i 3)).2.2 ++ md cI a u.1 u.2) List.perm_append_comm (fun _ => List.perm_append_comm) CF (c_X6_demand l D cI cC cW t a _ (Y 4).2.1 Z (ar xs i 1) (ar xs i 2) (ar xs i 3) R.sf R.ps) (cwV 3 hts gL_law_X6_demand rfl rfl rfl (by decide +kernel) ⟨Nat.le_of_ble_eq_true rfl, Nat.le_of_ble_eq_true rfl⟩) hP hD hK hX hS hA 0 5 md_0 rfl rfl hl.1 rfl (Nat.le_of_ble_eq_true rfl) dL_law_220 ⟨Nat.le_of_ble_eq_true rfl, Nat.le_of_ble_eq_true rfl⟩ (fun H locs hP hD hS => ?_)
  refine lv_icmp_eq (tgt := 840) hx hb dL_law_223 (by decide) (fun _ => ?_) (fun ne => absurd P.1 ne)
  exact NX _ _ _ _ _ _ _ _ _ _ _ _ _ _ (by omega) P.2 hP hD hS hl
set_option maxHeartbeats 4000000 in
set_option maxRecDepth 100000 in
theorem kc_deliver (C0 : lw_At p s m meth c b L xs) (hts : ∀ w ∈ wsL_law, w.before #[Value.ref b] s = true) (hK : va_K D vwCl (tyL cI cC cW) s) (hX : sx t (lA s) s s.heap) (hP : va_P D vwCl (ps cI cC cW h Y S q V z U y I ++ md cI a (Y 4).2.1 Z) H) (hD : va_D (lA s) (ps cI cC cW h Y S q V z U y I ++ md cI a (Y 4).2.1 Z)) (hS : va_S (lA s) s.heap H locs) (R : rel bd Y S q I (Y 4).2.1 Z) (h1 : vp_in (nI i + 1) L) (h2 : vp_in (nI i + 2) L) (hl : lv_has ls 4 (lv4 b h a i)) (NX : nxt p l e s m b below meth c D cI cC cW h a bd i) : W p l e room_1 s m #[Value.ref b] below meth c H locs 87 3474 (lw_Z below #[Value.ref b] s) (F0 m 228 ls []) := by
  obtain ⟨hx, hb, hr, hml, hown, -, hXs, hbl, hlocks, -⟩ := id C0
  have hA : ∀ q : Nat, s.heap.size ≤ q → lA s q := fun _ h => h
  have CF : CallFix p m c cL_law 4 s #[Value.ref b] wsL_law RL := ⟨hx, hb, hml, hown, hts⟩
  have P := s_deliver (V := V) (z := z) (U := U) (y := y) R (x1 := ar xs i 1) (x2 := ar xs i 2)
  refine lv_aload_n hx hb dL_law_228 rfl (lv_at hl 2 rfl) ?_
  refine rdA hx hb hXs hbl hS hl (v := 1) h1 dL_law_229 dL_law_230 dL_law_231 (by decide) dL_law_232 dL_law_233 ?_
  refine rdA hx hb hXs hbl hS hl (v := 2) h2 dL_law_234 dL_law_235 dL_law_236 (by decide) dL_law_237 dL_law_238 ?_
  refine rwVs (wc := ps cI cC cW h Y S q V z U y I) (Rr := md cI a (Y 4).2.1 Z) (wn := fun u : (Nat → va_H) × (Nat → Int32) => ps cI cC cW h u.1 S q V z U y u.2) (w1 := fun u : (Nat → va_H) × (Nat → Int32) => ps cI cC cW h u.1 S q V z U y u.2 ++ md cI a (Y 4).2.1 Z) (List.Perm.refl _) (fun _ => List.Perm.refl _) CF (c_X5_deliver l D cI cC cW t h _ Y S q V z U y I (ar xs i 1) (ar xs i 2) R.sf R.st.1) (cwV 2 hts gL_law_X5_deliver rfl rfl rfl (by decide +kernel) ⟨Nat.le_of_ble_eq_true rfl, Nat.le_of_ble_eq_true rfl⟩) hP hD hK hX hS hA 0 4 ps_0 rfl rfl hl.1 rfl (Nat.le_of_ble_eq_true rfl) dL_law_239 ⟨Nat.le_of_ble_eq_true rfl, Nat.le_of_ble_eq_true rfl⟩ (fun H locs hP hD hS => ?_)
  refine lv_aload_n hx hb dL_law_242 rfl (lv_at hl 1 rfl) ?_
  refine rdA hx hb hXs hbl hS hl (v := 1) h1 dL_law_243 dL_law_244 dL_law_245 (by decide) dL_law_246 dL_law_247 ?_
  refine rdA hx hb hXs hbl hS hl (v := 2) h2 dL_law_248 dL_law_249 dL_law_250 (by decide) dL_law_251 dL_law_252 ?_
  refine rwVs (wc := md cI a (Y 4).2.1 Z) (Rr := ps cI cC cW h (sp_X5_deliver Y S q V z U y I (ar xs i 1) (ar xs i 2)).2.1 S q V z U y (sp_X5_deliver Y S q V z U y I (ar xs i 1) (ar xs i 2)).2.2) (wn := fun u : (Nat → Int32) × (Nat → Nat → Int32) => md cI a u.1 u.2) (w1 := fun u : (Nat → Int32) × (Nat → Nat → Int32) => ps cI cC cW h (sp_X5_deliver Y S q V z U y I (ar xs i 1) (ar xs i 2)).2.1 S q V z U y (sp_X5_deliver Y S q V z U y I (ar xs i 1) (ar xs i 2)).2.2 ++ md cI a u.1 u.2) List.perm_append_comm (fun _ => List.perm_append_comm) CF (c_X6_deliver l D cI cC cW t a _ (Y 4).2.1 Z (ar xs i 1) (ar xs i 2) R.sf R.ps) (cwV 2 hts gL_law_X6_deliver rfl rfl rfl (by decide +kernel) ⟨Nat.le_of_ble_eq_true rfl, Nat.le_of_ble_eq_true rfl⟩) hP hD hK hX hS hA 0 5 md_0 rfl rfl hl.1 rfl (Nat.le_of_ble_eq_true rfl) dL_law_253 ⟨Nat.le_of_ble_eq_true rfl, Nat.le_of_ble_eq_true rfl⟩ (fun H locs hP hD hS => ?_)
  refine lv_icmp_eq (tgt := 840) hx hb dL_law_256 (by decide) (fun _ => ?_) (fun ne => absurd P.1 ne)
  exact NX _ _ _ _ _ _ _ _ _ _ _ _ _ _ (by omega) P.2 hP hD hS hl
set_option maxHeartbeats 4000000 in
set_option maxRecDepth 100000 in
theorem kc_place (C0 : lw_At p s m meth c b L xs) (hts : ∀ w ∈ wsL_law, w.before #[Value.ref b] s = true) (hK : va_K D vwCl (tyL cI cC cW) s) (hX : sx t (lA s) s s.heap) (hP : va_P D vwCl (ps cI cC cW h Y S q V z U y I ++ md cI a (Y 4).2.1 Z) H) (hD : va_D (lA s) (ps cI cC cW h Y S q V z U y I ++ md cI a (Y 4).2.1 Z)) (hS : va_S (lA s) s.heap H locs) (R : rel bd Y S q I (Y 4).2.1 Z) (h1 : vp_in (nI i + 1) L) (h2 : vp_in (nI i + 2) L) (hl : lv_has ls 4 (lv4 b h a i)) (NX : nxt p l e s m b below meth c D cI cC cW h a bd i) : W p l e room_1 s m #[Value.ref b] below meth c H locs 87 3474 (lw_Z below #[Value.ref b] s) (F0 m 261 ls []) := by
  obtain ⟨hx, hb, hr, hml, hown, -, hXs, hbl, hlocks, -⟩ := id C0
  have hA : ∀ q : Nat, s.heap.size ≤ q → lA s q := fun _ h => h
  have CF : CallFix p m c cL_law 4 s #[Value.ref b] wsL_law RL := ⟨hx, hb, hml, hown, hts⟩
  have P := s_place (V := V) (z := z) (U := U) (y := y) R (x1 := ar xs i 1) (x2 := ar xs i 2)
  refine lv_aload_n hx hb dL_law_261 rfl (lv_at hl 2 rfl) ?_
  refine rdA hx hb hXs hbl hS hl (v := 1) h1 dL_law_262 dL_law_263 dL_law_264 (by decide) dL_law_265 dL_law_266 ?_
  refine rdA hx hb hXs hbl hS hl (v := 2) h2 dL_law_267 dL_law_268 dL_law_269 (by decide) dL_law_270 dL_law_271 ?_
  refine rwVs (wc := ps cI cC cW h Y S q V z U y I) (Rr := md cI a (Y 4).2.1 Z) (wn := fun u : (Nat → va_H) × (Nat → Int32) => ps cI cC cW h u.1 S q V z U y u.2) (w1 := fun u : (Nat → va_H) × (Nat → Int32) => ps cI cC cW h u.1 S q V z U y u.2 ++ md cI a (Y 4).2.1 Z) (List.Perm.refl _) (fun _ => List.Perm.refl _) CF (c_X5_place l D cI cC cW t h _ Y S q V z U y I (ar xs i 1) (ar xs i 2) R.sf R.st.1) (cwV 2 hts gL_law_X5_place rfl rfl rfl (by decide +kernel) ⟨Nat.le_of_ble_eq_true rfl, Nat.le_of_ble_eq_true rfl⟩) hP hD hK hX hS hA 0 4 ps_0 rfl rfl hl.1 rfl (Nat.le_of_ble_eq_true rfl) dL_law_272 ⟨Nat.le_of_ble_eq_true rfl, Nat.le_of_ble_eq_true rfl⟩ (fun H locs hP hD hS => ?_)
  refine lv_aload_n hx hb dL_law_275 rfl (lv_at hl 1 rfl) ?_
  refine rdA hx hb hXs hbl hS hl (v := 1) h1 dL_law_276 dL_law_277 dL_law_278 (by decide) dL_law_279 dL_law_280 ?_
  refine rdA hx hb hXs hbl hS hl (v := 2) h2 dL_law_281 dL_law_282 dL_law_283 (by decide) dL_law_284 dL_law_285 ?_
  refine rwVs (wc := md cI a (Y 4).2.1 Z) (Rr := ps cI cC cW h (sp_X5_place Y S q V z U y I (ar xs i 1) (ar xs i 2)).2.1 S q V z U y (sp_X5_place Y S q V z U y I (ar xs i 1) (ar xs i 2)).2.2) (wn := fun u : (Nat → Int32) × (Nat → Nat → Int32) => md cI a u.1 u.2) (w1 := fun u : (Nat → Int32) × (Nat → Nat → Int32) => ps cI cC cW h (sp_X5_place Y S q V z U y I (ar xs i 1) (ar xs i 2)).2.1 S q V z U y (sp_X5_place Y S q V z U y I (ar xs i 1) (ar xs i 2)).2.2 ++ md cI a u.1 u.2) List.perm_append_comm (fun _ => List.perm_append_comm) CF (c_X6_place l D cI cC cW t a _ (Y 4).2.1 Z (ar xs i 1) (ar xs i 2) R.sf R.ps) (cwV 2 hts gL_law_X6_place rfl rfl rfl (by decide +kernel) ⟨Nat.le_of_ble_eq_true rfl, Nat.le_of_ble_eq_true rfl⟩) hP hD hK hX hS hA 0 5 md_0 rfl rfl hl.1 rfl (Nat.le_of_ble_eq_true rfl) dL_law_286 ⟨Nat.le_of_ble_eq_true rfl, Nat.le_of_ble_eq_true rfl⟩ (fun H locs hP hD hS => ?_)
  refine lv_icmp_eq (tgt := 840) hx hb dL_law_289 (by decide) (fun _ => ?_) (fun ne => absurd P.1 ne)
  exact NX _ _ _ _ _ _ _ _ _ _ _ _ _ _ (by omega) P.2 hP hD hS hl
set_option maxHeartbeats 4000000 in
set_option maxRecDepth 100000 in
theorem kc_take (C0 : lw_At p s m meth c b L xs) (hts : ∀ w ∈ wsL_law, w.before #[Value.ref b] s = true) (hK : va_K D vwCl (tyL cI cC cW) s) (hX : sx t (lA s) s s.heap) (hP : va_P D vwCl (ps cI cC cW h Y S q V z U y I ++ md cI a (Y 4).2.1 Z) H) (hD : va_D (lA s) (ps cI cC cW h Y S q V z U y I ++ md cI a (Y 4).2.1 Z)) (hS : va_S (lA s) s.heap H locs) (R : rel bd Y S q I (Y 4).2.1 Z) (h1 : vp_in (nI i + 1) L) (hl : lv_has ls 4 (lv4 b h a i)) (NX : nxt p l e s m b below meth c D cI cC cW h a bd i) : W p l e room_1 s m #[Value.ref b] below meth c H locs 87 3474 (lw_Z below #[Value.ref b] s) (F0 m 294 ls []) := by
  obtain ⟨hx, hb, hr, hml, hown, -, hXs, hbl, hlocks, -⟩ := id C0
  have hA : ∀ q : Nat, s.heap.size ≤ q → lA s q := fun _ h => h
  have CF : CallFix p m c cL_law 4 s #[Value.ref b] wsL_law RL := ⟨hx, hb, hml, hown, hts⟩
  have P := s_take (V := V) (z := z) (U := U) (y := y) R (x1 := ar xs i 1)
  refine lv_aload_n hx hb dL_law_294 rfl (lv_at hl 2 rfl) ?_
  refine rdA hx hb hXs hbl hS hl (v := 1) h1 dL_law_295 dL_law_296 dL_law_297 (by decide) dL_law_298 dL_law_299 ?_
  refine rwVs (wc := ps cI cC cW h Y S q V z U y I) (Rr := md cI a (Y 4).2.1 Z) (wn := fun u : (Nat → va_H) × (Nat → Int32) => ps cI cC cW h u.1 S q V z U y u.2) (w1 := fun u : (Nat → va_H) × (Nat → Int32) => ps cI cC cW h u.1 S q V z U y u.2 ++ md cI a (Y 4).2.1 Z) (List.Perm.refl _) (fun _ => List.Perm.refl _) CF (c_X5_take l D cI cC cW t h _ Y S q V z U y I (ar xs i 1) R.sf R.st.1) (cwV 1 hts gL_law_X5_take rfl rfl rfl (by decide +kernel) ⟨Nat.le_of_ble_eq_true rfl, Nat.le_of_ble_eq_true rfl⟩) hP hD hK hX hS hA 0 4 ps_0 rfl rfl hl.1 rfl (Nat.le_of_ble_eq_true rfl) dL_law_300 ⟨Nat.le_of_ble_eq_true rfl, Nat.le_of_ble_eq_true rfl⟩ (fun H locs hP hD hS => ?_)
  refine lv_aload_n hx hb dL_law_303 rfl (lv_at hl 1 rfl) ?_
  refine rdA hx hb hXs hbl hS hl (v := 1) h1 dL_law_304 dL_law_305 dL_law_306 (by decide) dL_law_307 dL_law_308 ?_
  refine rwVs (wc := md cI a (Y 4).2.1 Z) (Rr := ps cI cC cW h (sp_X5_take Y S q V z U y I (ar xs i 1)).2.1 S q V z U y (sp_X5_take Y S q V z U y I (ar xs i 1)).2.2) (wn := fun u : (Nat → Int32) × (Nat → Nat → Int32) => md cI a u.1 u.2) (w1 := fun u : (Nat → Int32) × (Nat → Nat → Int32) => ps cI cC cW h (sp_X5_take Y S q V z U y I (ar xs i 1)).2.1 S q V z U y (sp_X5_take Y S q V z U y I (ar xs i 1)).2.2 ++ md cI a u.1 u.2) List.perm_append_comm (fun _ => List.perm_append_comm) CF (c_X6_take l D cI cC cW t a _ (Y 4).2.1 Z (ar xs i 1) R.sf R.ps) (cwV 1 hts gL_law_X6_take rfl rfl rfl (by decide +kernel) ⟨Nat.le_of_ble_eq_true rfl, Nat.le_of_ble_eq_true rfl⟩) hP hD hK hX hS hA 0 5 md_0 rfl rfl hl.1 rfl (Nat.le_of_ble_eq_true rfl) dL_law_309 ⟨Nat.le_of_ble_eq_true rfl, Nat.le_of_ble_eq_true rfl⟩ (fun H locs hP hD hS => ?_)
  refine lv_icmp_eq (tgt := 840) hx hb dL_law_312 (by decide) (fun _ => ?_) (fun ne => absurd P.1 ne)
  exact NX _ _ _ _ _ _ _ _ _ _ _ _ _ _ (by omega) P.2 hP hD hS hl
set_option maxHeartbeats 4000000 in
set_option maxRecDepth 100000 in
theorem kc_goodOf (C0 : lw_At p s m meth c b L xs) (hts : ∀ w ∈ wsL_law, w.before #[Value.ref b] s = true) (hK : va_K D vwCl (tyL cI cC cW) s) (hX : sx t (lA s) s s.heap) (hP : va_P D vwCl (ps cI cC cW h Y S q V z U y I ++ md cI a (Y 4).2.1 Z) H) (hD : va_D (lA s) (ps cI cC cW h Y S q V z U y I ++ md cI a (Y 4).2.1 Z)) (hS : va_S (lA s) s.heap H locs) (R : rel bd Y S q I (Y 4).2.1 Z) (h1 : vp_in (nI i + 1) L) (h2 : vp_in (nI i + 2) L) (hl : lv_has ls 4 (lv4 b h a i)) (NX : nxt p l e s m b below meth c D cI cC cW h a bd i) : W p l e room_1 s m #[Value.ref b] below meth c H locs 87 3474 (lw_Z below #[Value.ref b] s) (F0 m 317 ls []) := by
  obtain ⟨hx, hb, hr, hml, hown, -, hXs, hbl, hlocks, -⟩ := id C0
  have hA : ∀ q : Nat, s.heap.size ≤ q → lA s q := fun _ h => h
  have CF : CallFix p m c cL_law 4 s #[Value.ref b] wsL_law RL := ⟨hx, hb, hml, hown, hts⟩
  have P := s_goodOf (V := V) (z := z) (U := U) (y := y) R (x1 := ar xs i 1) (x2 := ar xs i 2)
  refine lv_aload_n hx hb dL_law_317 rfl (lv_at hl 2 rfl) ?_
  refine rdA hx hb hXs hbl hS hl (v := 1) h1 dL_law_318 dL_law_319 dL_law_320 (by decide) dL_law_321 dL_law_322 ?_
  refine rdA hx hb hXs hbl hS hl (v := 2) h2 dL_law_323 dL_law_324 dL_law_325 (by decide) dL_law_326 dL_law_327 ?_
  refine roV CF (c_X5_goodOf l D cI cC cW t h Y S q V z U y I (ar xs i 1) (ar xs i 2) R.sf) (cwV 2 hts gL_law_X5_goodOf rfl rfl rfl (by decide +kernel) ⟨Nat.le_of_ble_eq_true rfl, Nat.le_of_ble_eq_true rfl⟩) (vP_l hP) hK hX hS 0 4 ps_0 rfl rfl hl.1 rfl (Nat.le_of_ble_eq_true rfl) dL_law_328 ⟨Nat.le_of_ble_eq_true rfl, Nat.le_of_ble_eq_true rfl⟩ ?_
  refine lv_aload_n hx hb dL_law_331 rfl (lv_at hl 1 rfl) ?_
  refine rdA hx hb hXs hbl hS hl (v := 1) h1 dL_law_332 dL_law_333 dL_law_334 (by decide) dL_law_335 dL_law_336 ?_
  refine rdA hx hb hXs hbl hS hl (v := 2) h2 dL_law_337 dL_law_338 dL_law_339 (by decide) dL_law_340 dL_law_341 ?_
  refine roV CF (c_X6_goodOf l D cI cC cW t a (Y 4).2.1 Z (ar xs i 1) (ar xs i 2) R.sf) (cwV 2 hts gL_law_X6_goodOf rfl rfl rfl (by decide +kernel) ⟨Nat.le_of_ble_eq_true rfl, Nat.le_of_ble_eq_true rfl⟩) (vP_r hP) hK hX hS 0 5 md_0 rfl rfl hl.1 rfl (Nat.le_of_ble_eq_true rfl) dL_law_342 ⟨Nat.le_of_ble_eq_true rfl, Nat.le_of_ble_eq_true rfl⟩ ?_
  refine lv_icmp_eq (tgt := 840) hx hb dL_law_345 (by decide) (fun _ => ?_) (fun ne => absurd P ne)
  exact NX bd _ _ _ _ _ _ _ _ _ _ _ _ _ (by omega) R hP hD hS hl
set_option maxHeartbeats 4000000 in
set_option maxRecDepth 100000 in
theorem kc_slotOf (C0 : lw_At p s m meth c b L xs) (hts : ∀ w ∈ wsL_law, w.before #[Value.ref b] s = true) (hK : va_K D vwCl (tyL cI cC cW) s) (hX : sx t (lA s) s s.heap) (hP : va_P D vwCl (ps cI cC cW h Y S q V z U y I ++ md cI a (Y 4).2.1 Z) H) (hD : va_D (lA s) (ps cI cC cW h Y S q V z U y I ++ md cI a (Y 4).2.1 Z)) (hS : va_S (lA s) s.heap H locs) (R : rel bd Y S q I (Y 4).2.1 Z) (h1 : vp_in (nI i + 1) L) (h2 : vp_in (nI i + 2) L) (hl : lv_has ls 4 (lv4 b h a i)) (NX : nxt p l e s m b below meth c D cI cC cW h a bd i) : W p l e room_1 s m #[Value.ref b] below meth c H locs 87 3474 (lw_Z below #[Value.ref b] s) (F0 m 350 ls []) := by
  obtain ⟨hx, hb, hr, hml, hown, -, hXs, hbl, hlocks, -⟩ := id C0
  have hA : ∀ q : Nat, s.heap.size ≤ q → lA s q := fun _ h => h
  have CF : CallFix p m c cL_law 4 s #[Value.ref b] wsL_law RL := ⟨hx, hb, hml, hown, hts⟩
  have P := s_slotOf (V := V) (z := z) (U := U) (y := y) R (x1 := ar xs i 1) (x2 := ar xs i 2)
  refine lv_aload_n hx hb dL_law_350 rfl (lv_at hl 2 rfl) ?_
  refine rdA hx hb hXs hbl hS hl (v := 1) h1 dL_law_351 dL_law_352 dL_law_353 (by decide) dL_law_354 dL_law_355 ?_
  refine rdA hx hb hXs hbl hS hl (v := 2) h2 dL_law_356 dL_law_357 dL_law_358 (by decide) dL_law_359 dL_law_360 ?_
  refine roV CF (c_X5_slotOf l D cI cC cW t h Y S q V z U y I (ar xs i 1) (ar xs i 2) ) (cwV 2 hts gL_law_X5_slotOf rfl rfl rfl (by decide +kernel) ⟨Nat.le_of_ble_eq_true rfl, Nat.le_of_ble_eq_true rfl⟩) (vP_l hP) hK hX hS 0 4 ps_0 rfl rfl hl.1 rfl (Nat.le_of_ble_eq_true rfl) dL_law_361 ⟨Nat.le_of_ble_eq_true rfl, Nat.le_of_ble_eq_true rfl⟩ ?_
  refine lv_aload_n hx hb dL_law_364 rfl (lv_at hl 1 rfl) ?_
  refine rdA hx hb hXs hbl hS hl (v := 1) h1 dL_law_365 dL_law_366 dL_law_367 (by decide) dL_law_368 dL_law_369 ?_
  refine rdA hx hb hXs hbl hS hl (v := 2) h2 dL_law_370 dL_law_371 dL_law_372 (by decide) dL_law_373 dL_law_374 ?_
  refine roV CF (c_X6_slotOf l D cI cC cW t a (Y 4).2.1 Z (ar xs i 1) (ar xs i 2) R.sf) (cwV 2 hts gL_law_X6_slotOf rfl rfl rfl (by decide +kernel) ⟨Nat.le_of_ble_eq_true rfl, Nat.le_of_ble_eq_true rfl⟩) (vP_r hP) hK hX hS 0 5 md_0 rfl rfl hl.1 rfl (Nat.le_of_ble_eq_true rfl) dL_law_375 ⟨Nat.le_of_ble_eq_true rfl, Nat.le_of_ble_eq_true rfl⟩ ?_
  refine lv_icmp_eq (tgt := 840) hx hb dL_law_378 (by decide) (fun _ => ?_) (fun ne => absurd P ne)
  exact NX bd _ _ _ _ _ _ _ _ _ _ _ _ _ (by omega) R hP hD hS hl
set_option maxHeartbeats 4000000 in
set_option maxRecDepth 100000 in
theorem kc_nearest (C0 : lw_At p s m meth c b L xs) (hts : ∀ w ∈ wsL_law, w.before #[Value.ref b] s = true) (hK : va_K D vwCl (tyL cI cC cW) s) (hX : sx t (lA s) s s.heap) (hP : va_P D vwCl (ps cI cC cW h Y S q V z U y I ++ md cI a (Y 4).2.1 Z) H) (hD : va_D (lA s) (ps cI cC cW h Y S q V z U y I ++ md cI a (Y 4).2.1 Z)) (hS : va_S (lA s) s.heap H locs) (R : rel bd Y S q I (Y 4).2.1 Z) (h1 : vp_in (nI i + 1) L) (hl : lv_has ls 4 (lv4 b h a i)) (NX : nxt p l e s m b below meth c D cI cC cW h a bd i) : W p l e room_1 s m #[Value.ref b] below meth c H locs 87 3474 (lw_Z below #[Value.ref b] s) (F0 m 383 ls []) := by
  obtain ⟨hx, hb, hr, hml, hown, -, hXs, hbl, hlocks, -⟩ := id C0
  have hA : ∀ q : Nat, s.heap.size ≤ q → lA s q := fun _ h => h
  have CF : CallFix p m c cL_law 4 s #[Value.ref b] wsL_law RL := ⟨hx, hb, hml, hown, hts⟩
  have P := s_nearest (V := V) (z := z) (U := U) (y := y) R (x1 := ar xs i 1)
  refine lv_aload_n hx hb dL_law_383 rfl (lv_at hl 2 rfl) ?_
  refine rdA hx hb hXs hbl hS hl (v := 1) h1 dL_law_384 dL_law_385 dL_law_386 (by decide) dL_law_387 dL_law_388 ?_
  refine roV CF (c_X5_nearest l D cI cC cW t h Y S q V z U y I (ar xs i 1) R.sf) (cwV 1 hts gL_law_X5_nearest rfl rfl rfl (by decide +kernel) ⟨Nat.le_of_ble_eq_true rfl, Nat.le_of_ble_eq_true rfl⟩) (vP_l hP) hK hX hS 0 4 ps_0 rfl rfl hl.1 rfl (Nat.le_of_ble_eq_true rfl) dL_law_389 ⟨Nat.le_of_ble_eq_true rfl, Nat.le_of_ble_eq_true rfl⟩ ?_
  refine lv_aload_n hx hb dL_law_392 rfl (lv_at hl 1 rfl) ?_
  refine rdA hx hb hXs hbl hS hl (v := 1) h1 dL_law_393 dL_law_394 dL_law_395 (by decide) dL_law_396 dL_law_397 ?_
  refine roV CF (c_X6_nearest l D cI cC cW t a (Y 4).2.1 Z (ar xs i 1) R.sf) (cwV 1 hts gL_law_X6_nearest rfl rfl rfl (by decide +kernel) ⟨Nat.le_of_ble_eq_true rfl, Nat.le_of_ble_eq_true rfl⟩) (vP_r hP) hK hX hS 0 5 md_0 rfl rfl hl.1 rfl (Nat.le_of_ble_eq_true rfl) dL_law_398 ⟨Nat.le_of_ble_eq_true rfl, Nat.le_of_ble_eq_true rfl⟩ ?_
  refine lv_icmp_eq (tgt := 840) hx hb dL_law_401 (by decide) (fun _ => ?_) (fun ne => absurd P ne)
  exact NX bd _ _ _ _ _ _ _ _ _ _ _ _ _ (by omega) R hP hD hS hl
set_option maxHeartbeats 4000000 in
set_option maxRecDepth 100000 in
theorem kc_pick (C0 : lw_At p s m meth c b L xs) (hts : ∀ w ∈ wsL_law, w.before #[Value.ref b] s = true) (hK : va_K D vwCl (tyL cI cC cW) s) (hX : sx t (lA s) s s.heap) (hP : va_P D vwCl (ps cI cC cW h Y S q V z U y I ++ md cI a (Y 4).2.1 Z) H) (hD : va_D (lA s) (ps cI cC cW h Y S q V z U y I ++ md cI a (Y 4).2.1 Z)) (hS : va_S (lA s) s.heap H locs) (R : rel bd Y S q I (Y 4).2.1 Z) (hbd : bd ≤ 90000) (h1 : vp_in (nI i + 1) L) (h2 : vp_in (nI i + 2) L) (hl : lv_has ls 4 (lv4 b h a i)) (NX : nxt p l e s m b below meth c D cI cC cW h a bd i) : W p l e room_1 s m #[Value.ref b] below meth c H locs 87 3474 (lw_Z below #[Value.ref b] s) (F0 m 406 ls []) := by
  obtain ⟨hx, hb, hr, hml, hown, -, hXs, hbl, hlocks, -⟩ := id C0
  have hA : ∀ q : Nat, s.heap.size ≤ q → lA s q := fun _ h => h
  have CF : CallFix p m c cL_law 4 s #[Value.ref b] wsL_law RL := ⟨hx, hb, hml, hown, hts⟩
  have P := s_pick (V := V) (z := z) (U := U) (y := y) (by omega) R (x1 := ar xs i 1) (x2 := ar xs i 2)
  refine lv_aload_n hx hb dL_law_406 rfl (lv_at hl 2 rfl) ?_
  refine rdA hx hb hXs hbl hS hl (v := 1) h1 dL_law_407 dL_law_408 dL_law_409 (by decide) dL_law_410 dL_law_411 ?_
  refine rdA hx hb hXs hbl hS hl (v := 2) h2 dL_law_412 dL_law_413 dL_law_414 (by decide) dL_law_415 dL_law_416 ?_
  refine rwVs (wc := ps cI cC cW h Y S q V z U y I) (Rr := md cI a (Y 4).2.1 Z) (wn := fun u : (Nat → va_H) × (Nat → Int32) => ps cI cC cW h u.1 S q V z U y u.2) (w1 := fun u : (Nat → va_H) × (Nat → Int32) => ps cI cC cW h u.1 S q V z U y u.2 ++ md cI a (Y 4).2.1 Z) (List.Perm.refl _) (fun _ => List.Perm.refl _) CF (c_X5_pick l D cI cC cW t h _ Y S q V z U y I (ar xs i 1) (ar xs i 2) R.sf R.st.1) (cwV 2 hts gL_law_X5_pick rfl rfl rfl (by decide +kernel) ⟨Nat.le_of_ble_eq_true rfl, Nat.le_of_ble_eq_true rfl⟩) hP hD hK hX hS hA 0 4 ps_0 rfl rfl hl.1 rfl (Nat.le_of_ble_eq_true rfl) dL_law_417 ⟨Nat.le_of_ble_eq_true rfl, Nat.le_of_ble_eq_true rfl⟩ (fun H locs hP hD hS => ?_)
  refine lv_aload_n hx hb dL_law_420 rfl (lv_at hl 1 rfl) ?_
  refine rdA hx hb hXs hbl hS hl (v := 1) h1 dL_law_421 dL_law_422 dL_law_423 (by decide) dL_law_424 dL_law_425 ?_
  refine rdA hx hb hXs hbl hS hl (v := 2) h2 dL_law_426 dL_law_427 dL_law_428 (by decide) dL_law_429 dL_law_430 ?_
  refine rwVs (wc := md cI a (Y 4).2.1 Z) (Rr := ps cI cC cW h (sp_X5_pick Y S q V z U y I (ar xs i 1) (ar xs i 2)).2.1 S q V z U y (sp_X5_pick Y S q V z U y I (ar xs i 1) (ar xs i 2)).2.2) (wn := fun u : (Nat → Int32) × (Nat → Nat → Int32) => md cI a u.1 u.2) (w1 := fun u : (Nat → Int32) × (Nat → Nat → Int32) => ps cI cC cW h (sp_X5_pick Y S q V z U y I (ar xs i 1) (ar xs i 2)).2.1 S q V z U y (sp_X5_pick Y S q V z U y I (ar xs i 1) (ar xs i 2)).2.2 ++ md cI a u.1 u.2) List.perm_append_comm (fun _ => List.perm_append_comm) CF (c_X6_pick l D cI cC cW t a _ (Y 4).2.1 Z (ar xs i 1) (ar xs i 2) R.sf R.ps R.ld) (cwV 2 hts gL_law_X6_pick rfl rfl rfl (by decide +kernel) ⟨Nat.le_of_ble_eq_true rfl, Nat.le_of_ble_eq_true rfl⟩) hP hD hK hX hS hA 0 5 md_0 rfl rfl hl.1 rfl (Nat.le_of_ble_eq_true rfl) dL_law_431 ⟨Nat.le_of_ble_eq_true rfl, Nat.le_of_ble_eq_true rfl⟩ (fun H locs hP hD hS => ?_)
  refine lv_icmp_eq (tgt := 840) hx hb dL_law_434 (by decide) (fun _ => ?_) (fun ne => absurd P.1 ne)
  exact NX _ _ _ _ _ _ _ _ _ _ _ _ _ _ (by omega) P.2 hP hD hS hl
set_option maxHeartbeats 4000000 in
set_option maxRecDepth 100000 in
theorem kc_refill (C0 : lw_At p s m meth c b L xs) (hts : ∀ w ∈ wsL_law, w.before #[Value.ref b] s = true) (hK : va_K D vwCl (tyL cI cC cW) s) (hX : sx t (lA s) s s.heap) (hP : va_P D vwCl (ps cI cC cW h Y S q V z U y I ++ md cI a (Y 4).2.1 Z) H) (hD : va_D (lA s) (ps cI cC cW h Y S q V z U y I ++ md cI a (Y 4).2.1 Z)) (hS : va_S (lA s) s.heap H locs) (R : rel bd Y S q I (Y 4).2.1 Z) (h1 : vp_in (nI i + 1) L) (hl : lv_has ls 4 (lv4 b h a i)) (NX : nxt p l e s m b below meth c D cI cC cW h a bd i) : W p l e room_1 s m #[Value.ref b] below meth c H locs 87 3474 (lw_Z below #[Value.ref b] s) (F0 m 439 ls []) := by
  obtain ⟨hx, hb, hr, hml, hown, -, hXs, hbl, hlocks, -⟩ := id C0
  have hA : ∀ q : Nat, s.heap.size ≤ q → lA s q := fun _ h => h
  have CF : CallFix p m c cL_law 4 s #[Value.ref b] wsL_law RL := ⟨hx, hb, hml, hown, hts⟩
  have P := s_refill (V := V) (z := z) (U := U) (y := y) R (x1 := ar xs i 1)
  refine lv_aload_n hx hb dL_law_439 rfl (lv_at hl 2 rfl) ?_
  refine rdA hx hb hXs hbl hS hl (v := 1) h1 dL_law_440 dL_law_441 dL_law_442 (by decide) dL_law_443 dL_law_444 ?_
  refine rwVs (wc := ps cI cC cW h Y S q V z U y I) (Rr := md cI a (Y 4).2.1 Z) (wn := fun u : (Nat → va_H) × (Nat → Int32) => ps cI cC cW h u.1 S q V z U y u.2) (w1 := fun u : (Nat → va_H) × (Nat → Int32) => ps cI cC cW h u.1 S q V z U y u.2 ++ md cI a (Y 4).2.1 Z) (List.Perm.refl _) (fun _ => List.Perm.refl _) CF (c_X5_refill l D cI cC cW t h _ Y S q V z U y I (ar xs i 1) R.sf R.st.1) (cwV 1 hts gL_law_X5_refill rfl rfl rfl (by decide +kernel) ⟨Nat.le_of_ble_eq_true rfl, Nat.le_of_ble_eq_true rfl⟩) hP hD hK hX hS hA 0 4 ps_0 rfl rfl hl.1 rfl (Nat.le_of_ble_eq_true rfl) dL_law_445 ⟨Nat.le_of_ble_eq_true rfl, Nat.le_of_ble_eq_true rfl⟩ (fun H locs hP hD hS => ?_)
  refine lv_aload_n hx hb dL_law_448 rfl (lv_at hl 1 rfl) ?_
  refine rdA hx hb hXs hbl hS hl (v := 1) h1 dL_law_449 dL_law_450 dL_law_451 (by decide) dL_law_452 dL_law_453 ?_
  refine rwVs (wc := md cI a (Y 4).2.1 Z) (Rr := ps cI cC cW h (sp_X5_refill Y S q V z U y I (ar xs i 1)).2.1 S q V z U y (sp_X5_refill Y S q V z U y I (ar xs i 1)).2.2) (wn := fun u : (Nat → Int32) × (Nat → Nat → Int32) => md cI a u.1 u.2) (w1 := fun u : (Nat → Int32) × (Nat → Nat → Int32) => ps cI cC cW h (sp_X5_refill Y S q V z U y I (ar xs i 1)).2.1 S q V z U y (sp_X5_refill Y S q V z U y I (ar xs i 1)).2.2 ++ md cI a u.1 u.2) List.perm_append_comm (fun _ => List.perm_append_comm) CF (c_X6_refill l D cI cC cW t a _ (Y 4).2.1 Z (ar xs i 1) R.sf R.ps R.ld) (cwV 1 hts gL_law_X6_refill rfl rfl rfl (by decide +kernel) ⟨Nat.le_of_ble_eq_true rfl, Nat.le_of_ble_eq_true rfl⟩) hP hD hK hX hS hA 0 5 md_0 rfl rfl hl.1 rfl (Nat.le_of_ble_eq_true rfl) dL_law_454 ⟨Nat.le_of_ble_eq_true rfl, Nat.le_of_ble_eq_true rfl⟩ (fun H locs hP hD hS => ?_)
  refine lv_icmp_eq (tgt := 840) hx hb dL_law_457 (by decide) (fun _ => ?_) (fun ne => absurd P.1 ne)
  exact NX _ _ _ _ _ _ _ _ _ _ _ _ _ _ (by omega) P.2 hP hD hS hl
set_option maxHeartbeats 4000000 in
set_option maxRecDepth 100000 in
theorem kc_endWeek (C0 : lw_At p s m meth c b L xs) (hts : ∀ w ∈ wsL_law, w.before #[Value.ref b] s = true) (hK : va_K D vwCl (tyL cI cC cW) s) (hX : sx t (lA s) s s.heap) (hP : va_P D vwCl (ps cI cC cW h Y S q V z U y I ++ md cI a (Y 4).2.1 Z) H) (hD : va_D (lA s) (ps cI cC cW h Y S q V z U y I ++ md cI a (Y 4).2.1 Z)) (hS : va_S (lA s) s.heap H locs) (R : rel bd Y S q I (Y 4).2.1 Z) (hbd : bd ≤ 90000)  (hl : lv_has ls 4 (lv4 b h a i)) (NX : nxt p l e s m b below meth c D cI cC cW h a bd i) : W p l e room_1 s m #[Value.ref b] below meth c H locs 87 3474 (lw_Z below #[Value.ref b] s) (F0 m 462 ls []) := by
  obtain ⟨hx, hb, hr, hml, hown, -, hXs, hbl, hlocks, -⟩ := id C0
  have hA : ∀ q : Nat, s.heap.size ≤ q → lA s q := fun _ h => h
  have CF : CallFix p m c cL_law 4 s #[Value.ref b] wsL_law RL := ⟨hx, hb, hml, hown, hts⟩
  have P := s_endWeek (V := V) (z := z) (U := U) (y := y) (by omega) R 
  refine lv_aload_n hx hb dL_law_462 rfl (lv_at hl 2 rfl) ?_
  refine rwVs (wc := ps cI cC cW h Y S q V z U y I) (Rr := md cI a (Y 4).2.1 Z) (wn := fun u : (Nat → va_H) × (Nat → Int32) => ps cI cC cW h u.1 S q V z U y u.2) (w1 := fun u : (Nat → va_H) × (Nat → Int32) => ps cI cC cW h u.1 S q V z U y u.2 ++ md cI a (Y 4).2.1 Z) (List.Perm.refl _) (fun _ => List.Perm.refl _) CF (c_X5_endWeek l D cI cC cW t h _ Y S q V z U y I  R.sf R.st.1) (cwV 0 hts gL_law_X5_endWeek rfl rfl rfl (by decide +kernel) ⟨Nat.le_of_ble_eq_true rfl, Nat.le_of_ble_eq_true rfl⟩) hP hD hK hX hS hA 0 4 ps_0 rfl rfl hl.1 rfl (Nat.le_of_ble_eq_true rfl) dL_law_463 ⟨Nat.le_of_ble_eq_true rfl, Nat.le_of_ble_eq_true rfl⟩ (fun H locs hP hD hS => ?_)
  refine lv_aload_n hx hb dL_law_466 rfl (lv_at hl 1 rfl) ?_
  refine rwVs (wc := md cI a (Y 4).2.1 Z) (Rr := ps cI cC cW h (sp_X5_endWeek Y S q V z U y I ).2.1 S q V z U y (sp_X5_endWeek Y S q V z U y I ).2.2) (wn := fun u : (Nat → Int32) × (Nat → Nat → Int32) => md cI a u.1 u.2) (w1 := fun u : (Nat → Int32) × (Nat → Nat → Int32) => ps cI cC cW h (sp_X5_endWeek Y S q V z U y I ).2.1 S q V z U y (sp_X5_endWeek Y S q V z U y I ).2.2 ++ md cI a u.1 u.2) List.perm_append_comm (fun _ => List.perm_append_comm) CF (c_X6_endWeek l D cI cC cW t a _ (Y 4).2.1 Z  R.sf R.ps) (cwV 0 hts gL_law_X6_endWeek rfl rfl rfl (by decide +kernel) ⟨Nat.le_of_ble_eq_true rfl, Nat.le_of_ble_eq_true rfl⟩) hP hD hK hX hS hA 0 5 md_0 rfl rfl hl.1 rfl (Nat.le_of_ble_eq_true rfl) dL_law_467 ⟨Nat.le_of_ble_eq_true rfl, Nat.le_of_ble_eq_true rfl⟩ (fun H locs hP hD hS => ?_)
  refine lv_icmp_eq (tgt := 840) hx hb dL_law_470 (by decide) (fun _ => ?_) (fun ne => absurd P.1 ne)
  exact NX _ _ _ _ _ _ _ _ _ _ _ _ _ _ (by omega) P.2 hP hD hS hl
set_option maxHeartbeats 4000000 in
set_option maxRecDepth 100000 in
theorem kc_move (C0 : lw_At p s m meth c b L xs) (hts : ∀ w ∈ wsL_law, w.before #[Value.ref b] s = true) (hK : va_K D vwCl (tyL cI cC cW) s) (hX : sx t (lA s) s s.heap) (hP : va_P D vwCl (ps cI cC cW h Y S q V z U y I ++ md cI a (Y 4).2.1 Z) H) (hD : va_D (lA s) (ps cI cC cW h Y S q V z U y I ++ md cI a (Y 4).2.1 Z)) (hS : va_S (lA s) s.heap H locs) (R : rel bd Y S q I (Y 4).2.1 Z) (h1 : vp_in (nI i + 1) L) (h2 : vp_in (nI i + 2) L) (hl : lv_has ls 4 (lv4 b h a i)) (NX : nxt p l e s m b below meth c D cI cC cW h a bd i) : W p l e room_1 s m #[Value.ref b] below meth c H locs 87 3474 (lw_Z below #[Value.ref b] s) (F0 m 475 ls []) := by
  obtain ⟨hx, hb, hr, hml, hown, -, hXs, hbl, hlocks, -⟩ := id C0
  have hA : ∀ q : Nat, s.heap.size ≤ q → lA s q := fun _ h => h
  have CF : CallFix p m c cL_law 4 s #[Value.ref b] wsL_law RL := ⟨hx, hb, hml, hown, hts⟩
  have P := s_move (V := V) (z := z) (U := U) (y := y) R (x1 := ar xs i 1) (x2 := ar xs i 2)
  refine lv_aload_n hx hb dL_law_475 rfl (lv_at hl 2 rfl) ?_
  refine rdA hx hb hXs hbl hS hl (v := 1) h1 dL_law_476 dL_law_477 dL_law_478 (by decide) dL_law_479 dL_law_480 ?_
  refine rdA hx hb hXs hbl hS hl (v := 2) h2 dL_law_481 dL_law_482 dL_law_483 (by decide) dL_law_484 dL_law_485 ?_
  refine rwVs (wc := ps cI cC cW h Y S q V z U y I) (Rr := md cI a (Y 4).2.1 Z) (wn := fun u : (Nat → va_H) × (Nat → Int32) => ps cI cC cW h u.1 S q V z U y u.2) (w1 := fun u : (Nat → va_H) × (Nat → Int32) => ps cI cC cW h u.1 S q V z U y u.2 ++ md cI a (Y 4).2.1 Z) (List.Perm.refl _) (fun _ => List.Perm.refl _) CF (c_X5_move l D cI cC cW t h _ Y S q V z U y I (ar xs i 1) (ar xs i 2) R.sf R.st.1) (cwV 2 hts gL_law_X5_move rfl rfl rfl (by decide +kernel) ⟨Nat.le_of_ble_eq_true rfl, Nat.le_of_ble_eq_true rfl⟩) hP hD hK hX hS hA 0 4 ps_0 rfl rfl hl.1 rfl (Nat.le_of_ble_eq_true rfl) dL_law_486 ⟨Nat.le_of_ble_eq_true rfl, Nat.le_of_ble_eq_true rfl⟩ (fun H locs hP hD hS => ?_)
  refine lv_aload_n hx hb dL_law_489 rfl (lv_at hl 1 rfl) ?_
  refine rdA hx hb hXs hbl hS hl (v := 1) h1 dL_law_490 dL_law_491 dL_law_492 (by decide) dL_law_493 dL_law_494 ?_
  refine rdA hx hb hXs hbl hS hl (v := 2) h2 dL_law_495 dL_law_496 dL_law_497 (by decide) dL_law_498 dL_law_499 ?_
  refine rwVs (wc := md cI a (Y 4).2.1 Z) (Rr := ps cI cC cW h (sp_X5_move Y S q V z U y I (ar xs i 1) (ar xs i 2)).2.1 S q V z U y (sp_X5_move Y S q V z U y I (ar xs i 1) (ar xs i 2)).2.2) (wn := fun u : (Nat → Int32) × (Nat → Nat → Int32) => md cI a u.1 u.2) (w1 := fun u : (Nat → Int32) × (Nat → Nat → Int32) => ps cI cC cW h (sp_X5_move Y S q V z U y I (ar xs i 1) (ar xs i 2)).2.1 S q V z U y (sp_X5_move Y S q V z U y I (ar xs i 1) (ar xs i 2)).2.2 ++ md cI a u.1 u.2) List.perm_append_comm (fun _ => List.perm_append_comm) CF (c_X6_move l D cI cC cW t a _ (Y 4).2.1 Z (ar xs i 1) (ar xs i 2) R.sf R.ps) (cwV 2 hts gL_law_X6_move rfl rfl rfl (by decide +kernel) ⟨Nat.le_of_ble_eq_true rfl, Nat.le_of_ble_eq_true rfl⟩) hP hD hK hX hS hA 0 5 md_0 rfl rfl hl.1 rfl (Nat.le_of_ble_eq_true rfl) dL_law_500 ⟨Nat.le_of_ble_eq_true rfl, Nat.le_of_ble_eq_true rfl⟩ (fun H locs hP hD hS => ?_)
  refine lv_icmp_eq (tgt := 840) hx hb dL_law_503 (by decide) (fun _ => ?_) (fun ne => absurd P.1 ne)
  exact NX _ _ _ _ _ _ _ _ _ _ _ _ _ _ (by omega) P.2 hP hD hS hl
set_option maxHeartbeats 4000000 in
set_option maxRecDepth 100000 in
theorem kc_exchange (C0 : lw_At p s m meth c b L xs) (hts : ∀ w ∈ wsL_law, w.before #[Value.ref b] s = true) (hK : va_K D vwCl (tyL cI cC cW) s) (hX : sx t (lA s) s s.heap) (hP : va_P D vwCl (ps cI cC cW h Y S q V z U y I ++ md cI a (Y 4).2.1 Z) H) (hD : va_D (lA s) (ps cI cC cW h Y S q V z U y I ++ md cI a (Y 4).2.1 Z)) (hS : va_S (lA s) s.heap H locs) (R : rel bd Y S q I (Y 4).2.1 Z) (h1 : vp_in (nI i + 1) L) (h2 : vp_in (nI i + 2) L) (hl : lv_has ls 4 (lv4 b h a i)) (NX : nxt p l e s m b below meth c D cI cC cW h a bd i) : W p l e room_1 s m #[Value.ref b] below meth c H locs 87 3474 (lw_Z below #[Value.ref b] s) (F0 m 508 ls []) := by
  obtain ⟨hx, hb, hr, hml, hown, -, hXs, hbl, hlocks, -⟩ := id C0
  have hA : ∀ q : Nat, s.heap.size ≤ q → lA s q := fun _ h => h
  have CF : CallFix p m c cL_law 4 s #[Value.ref b] wsL_law RL := ⟨hx, hb, hml, hown, hts⟩
  have P := s_exchange (V := V) (z := z) (U := U) (y := y) R (x1 := ar xs i 1) (x2 := ar xs i 2)
  refine lv_aload_n hx hb dL_law_508 rfl (lv_at hl 2 rfl) ?_
  refine rdA hx hb hXs hbl hS hl (v := 1) h1 dL_law_509 dL_law_510 dL_law_511 (by decide) dL_law_512 dL_law_513 ?_
  refine rdA hx hb hXs hbl hS hl (v := 2) h2 dL_law_514 dL_law_515 dL_law_516 (by decide) dL_law_517 dL_law_518 ?_
  refine rwVs (wc := ps cI cC cW h Y S q V z U y I) (Rr := md cI a (Y 4).2.1 Z) (wn := fun u : (Nat → va_H) × (Nat → Int32) => ps cI cC cW h u.1 S q V z U y u.2) (w1 := fun u : (Nat → va_H) × (Nat → Int32) => ps cI cC cW h u.1 S q V z U y u.2 ++ md cI a (Y 4).2.1 Z) (List.Perm.refl _) (fun _ => List.Perm.refl _) CF (c_X5_exchange l D cI cC cW t h _ Y S q V z U y I (ar xs i 1) (ar xs i 2) R.sf R.st.1) (cwV 2 hts gL_law_X5_exchange rfl rfl rfl (by decide +kernel) ⟨Nat.le_of_ble_eq_true rfl, Nat.le_of_ble_eq_true rfl⟩) hP hD hK hX hS hA 0 4 ps_0 rfl rfl hl.1 rfl (Nat.le_of_ble_eq_true rfl) dL_law_519 ⟨Nat.le_of_ble_eq_true rfl, Nat.le_of_ble_eq_true rfl⟩ (fun H locs hP hD hS => ?_)
  refine lv_aload_n hx hb dL_law_522 rfl (lv_at hl 1 rfl) ?_
  refine rdA hx hb hXs hbl hS hl (v := 1) h1 dL_law_523 dL_law_524 dL_law_525 (by decide) dL_law_526 dL_law_527 ?_
  refine rdA hx hb hXs hbl hS hl (v := 2) h2 dL_law_528 dL_law_529 dL_law_530 (by decide) dL_law_531 dL_law_532 ?_
  refine rwVs (wc := md cI a (Y 4).2.1 Z) (Rr := ps cI cC cW h (sp_X5_exchange Y S q V z U y I (ar xs i 1) (ar xs i 2)).2.1 S q V z U y (sp_X5_exchange Y S q V z U y I (ar xs i 1) (ar xs i 2)).2.2) (wn := fun u : (Nat → Int32) × (Nat → Nat → Int32) => md cI a u.1 u.2) (w1 := fun u : (Nat → Int32) × (Nat → Nat → Int32) => ps cI cC cW h (sp_X5_exchange Y S q V z U y I (ar xs i 1) (ar xs i 2)).2.1 S q V z U y (sp_X5_exchange Y S q V z U y I (ar xs i 1) (ar xs i 2)).2.2 ++ md cI a u.1 u.2) List.perm_append_comm (fun _ => List.perm_append_comm) CF (c_X6_exchange l D cI cC cW t a _ (Y 4).2.1 Z (ar xs i 1) (ar xs i 2) R.sf R.ps) (cwV 2 hts gL_law_X6_exchange rfl rfl rfl (by decide +kernel) ⟨Nat.le_of_ble_eq_true rfl, Nat.le_of_ble_eq_true rfl⟩) hP hD hK hX hS hA 0 5 md_0 rfl rfl hl.1 rfl (Nat.le_of_ble_eq_true rfl) dL_law_533 ⟨Nat.le_of_ble_eq_true rfl, Nat.le_of_ble_eq_true rfl⟩ (fun H locs hP hD hS => ?_)
  refine lv_icmp_eq (tgt := 840) hx hb dL_law_536 (by decide) (fun _ => ?_) (fun ne => absurd P.1 ne)
  exact NX _ _ _ _ _ _ _ _ _ _ _ _ _ _ (by omega) P.2 hP hD hS hl
set_option maxHeartbeats 4000000 in
set_option maxRecDepth 100000 in
theorem kc_worth (C0 : lw_At p s m meth c b L xs) (hts : ∀ w ∈ wsL_law, w.before #[Value.ref b] s = true) (hK : va_K D vwCl (tyL cI cC cW) s) (hX : sx t (lA s) s s.heap) (hP : va_P D vwCl (ps cI cC cW h Y S q V z U y I ++ md cI a (Y 4).2.1 Z) H) (hD : va_D (lA s) (ps cI cC cW h Y S q V z U y I ++ md cI a (Y 4).2.1 Z)) (hS : va_S (lA s) s.heap H locs) (R : rel bd Y S q I (Y 4).2.1 Z) (h1 : vp_in (nI i + 1) L) (h2 : vp_in (nI i + 2) L) (h3 : vp_in (nI i + 3) L) (hl : lv_has ls 4 (lv4 b h a i)) (NX : nxt p l e s m b below meth c D cI cC cW h a bd i) : W p l e room_1 s m #[Value.ref b] below meth c H locs 87 3474 (lw_Z below #[Value.ref b] s) (F0 m 541 ls []) := by
  obtain ⟨hx, hb, hr, hml, hown, -, hXs, hbl, hlocks, -⟩ := id C0
  have hA : ∀ q : Nat, s.heap.size ≤ q → lA s q := fun _ h => h
  have CF : CallFix p m c cL_law 4 s #[Value.ref b] wsL_law RL := ⟨hx, hb, hml, hown, hts⟩
  have P := s_worth (V := V) (z := z) (U := U) (y := y) R (x1 := ar xs i 1) (x2 := ar xs i 2) (x3 := ar xs i 3)
  refine lv_aload_n hx hb dL_law_541 rfl (lv_at hl 2 rfl) ?_
  refine rdA hx hb hXs hbl hS hl (v := 1) h1 dL_law_542 dL_law_543 dL_law_544 (by decide) dL_law_545 dL_law_546 ?_
  refine rdA hx hb hXs hbl hS hl (v := 2) h2 dL_law_547 dL_law_548 dL_law_549 (by decide) dL_law_550 dL_law_551 ?_
  refine rdA hx hb hXs hbl hS hl (v := 3) h3 dL_law_552 dL_law_553 dL_law_554 (by decide) dL_law_555 dL_law_556 ?_
  refine roV CF (c_X5_worth l D cI cC cW t h Y S q V z U y I (ar xs i 1) (ar xs i 2) (ar xs i 3) R.sf) (cwV 3 hts gL_law_X5_worth rfl rfl rfl (by decide +kernel) ⟨Nat.le_of_ble_eq_true rfl, Nat.le_of_ble_eq_true rfl⟩) (vP_l hP) hK hX hS 0 4 ps_0 rfl rfl hl.1 rfl (Nat.le_of_ble_eq_true rfl) dL_law_557 ⟨Nat.le_of_ble_eq_true rfl, Nat.le_of_ble_eq_true rfl⟩ ?_
  refine lv_aload_n hx hb dL_law_560 rfl (lv_at hl 1 rfl) ?_
  refine rdA hx hb hXs hbl hS hl (v := 1) h1 dL_law_561 dL_law_562 dL_law_563 (by decide) dL_law_564 dL_law_565 ?_
  refine rdA hx hb hXs hbl hS hl (v := 2) h2 dL_law_566 dL_law_567 dL_law_568 (by decide) dL_law_569 dL_law_570 ?_
  refine rdA hx hb hXs hbl hS hl (v := 3) h3 dL_law_571 dL_law_572 dL_law_573 (by decide) dL_law_574 dL_law_575 ?_
  refine roV CF (c_X6_worth l D cI cC cW t a (Y 4).2.1 Z (ar xs i 1) (ar xs i 2) (ar xs i 3) R.sf) (cwV 3 hts gL_law_X6_worth rfl rfl rfl (by decide +kernel) ⟨Nat.le_of_ble_eq_true rfl, Nat.le_of_ble_eq_true rfl⟩) (vP_r hP) hK hX hS 0 5 md_0 rfl rfl hl.1 rfl (Nat.le_of_ble_eq_true rfl) dL_law_576 ⟨Nat.le_of_ble_eq_true rfl, Nat.le_of_ble_eq_true rfl⟩ ?_
  refine lv_icmp_eq (tgt := 840) hx hb dL_law_579 (by decide) (fun _ => ?_) (fun ne => absurd P ne)
  exact NX bd _ _ _ _ _ _ _ _ _ _ _ _ _ (by omega) R hP hD hS hl
set_option maxHeartbeats 4000000 in
set_option maxRecDepth 100000 in
theorem kc_best (C0 : lw_At p s m meth c b L xs) (hts : ∀ w ∈ wsL_law, w.before #[Value.ref b] s = true) (hK : va_K D vwCl (tyL cI cC cW) s) (hX : sx t (lA s) s s.heap) (hP : va_P D vwCl (ps cI cC cW h Y S q V z U y I ++ md cI a (Y 4).2.1 Z) H) (hD : va_D (lA s) (ps cI cC cW h Y S q V z U y I ++ md cI a (Y 4).2.1 Z)) (hS : va_S (lA s) s.heap H locs) (R : rel bd Y S q I (Y 4).2.1 Z) (h1 : vp_in (nI i + 1) L) (hl : lv_has ls 4 (lv4 b h a i)) (NX : nxt p l e s m b below meth c D cI cC cW h a bd i) : W p l e room_1 s m #[Value.ref b] below meth c H locs 87 3474 (lw_Z below #[Value.ref b] s) (F0 m 584 ls []) := by
  obtain ⟨hx, hb, hr, hml, hown, -, hXs, hbl, hlocks, -⟩ := id C0
  have hA : ∀ q : Nat, s.heap.size ≤ q → lA s q := fun _ h => h
  have CF : CallFix p m c cL_law 4 s #[Value.ref b] wsL_law RL := ⟨hx, hb, hml, hown, hts⟩
  have P := s_best (V := V) (z := z) (U := U) (y := y) R (x1 := ar xs i 1)
  refine lv_aload_n hx hb dL_law_584 rfl (lv_at hl 2 rfl) ?_
  refine rdA hx hb hXs hbl hS hl (v := 1) h1 dL_law_585 dL_law_586 dL_law_587 (by decide) dL_law_588 dL_law_589 ?_
  refine roV CF (c_X5_best l D cI cC cW t h Y S q V z U y I (ar xs i 1) R.sf) (cwV 1 hts gL_law_X5_best rfl rfl rfl (by decide +kernel) ⟨Nat.le_of_ble_eq_true rfl, Nat.le_of_ble_eq_true rfl⟩) (vP_l hP) hK hX hS 0 4 ps_0 rfl rfl hl.1 rfl (Nat.le_of_ble_eq_true rfl) dL_law_590 ⟨Nat.le_of_ble_eq_true rfl, Nat.le_of_ble_eq_true rfl⟩ ?_
  refine lv_aload_n hx hb dL_law_593 rfl (lv_at hl 1 rfl) ?_
  refine rdA hx hb hXs hbl hS hl (v := 1) h1 dL_law_594 dL_law_595 dL_law_596 (by decide) dL_law_597 dL_law_598 ?_
  refine rwVs (wc := md cI a (Y 4).2.1 Z) (Rr := ps cI cC cW h Y S q V z U y I) (wn := fun u : (Nat → Int32) × (Nat → Nat → Int32) => md cI a u.1 u.2) (w1 := fun u : (Nat → Int32) × (Nat → Nat → Int32) => ps cI cC cW h Y S q V z U y I ++ md cI a u.1 u.2) List.perm_append_comm (fun _ => List.perm_append_comm) CF (c_X6_best l D cI cC cW t a _ (Y 4).2.1 Z (ar xs i 1) R.sf) (cwV 1 hts gL_law_X6_best rfl rfl rfl (by decide +kernel) ⟨Nat.le_of_ble_eq_true rfl, Nat.le_of_ble_eq_true rfl⟩) hP hD hK hX hS hA 0 5 md_0 rfl rfl hl.1 rfl (Nat.le_of_ble_eq_true rfl) dL_law_599 ⟨Nat.le_of_ble_eq_true rfl, Nat.le_of_ble_eq_true rfl⟩ (fun H locs hP hD hS => ?_)
  refine lv_icmp_eq (tgt := 840) hx hb dL_law_602 (by decide) (fun _ => ?_) (fun ne => absurd P.1 ne)
  exact NX _ _ _ _ _ _ _ _ _ _ _ _ _ _ (by omega) P.2 hP hD hS hl
set_option maxHeartbeats 4000000 in
set_option maxRecDepth 100000 in
theorem kc_improve (C0 : lw_At p s m meth c b L xs) (hts : ∀ w ∈ wsL_law, w.before #[Value.ref b] s = true) (hK : va_K D vwCl (tyL cI cC cW) s) (hX : sx t (lA s) s s.heap) (hP : va_P D vwCl (ps cI cC cW h Y S q V z U y I ++ md cI a (Y 4).2.1 Z) H) (hD : va_D (lA s) (ps cI cC cW h Y S q V z U y I ++ md cI a (Y 4).2.1 Z)) (hS : va_S (lA s) s.heap H locs) (R : rel bd Y S q I (Y 4).2.1 Z) (h1 : vp_in (nI i + 1) L) (hl : lv_has ls 4 (lv4 b h a i)) (NX : nxt p l e s m b below meth c D cI cC cW h a bd i) : W p l e room_1 s m #[Value.ref b] below meth c H locs 87 3474 (lw_Z below #[Value.ref b] s) (F0 m 607 ls []) := by
  obtain ⟨hx, hb, hr, hml, hown, -, hXs, hbl, hlocks, -⟩ := id C0
  have hA : ∀ q : Nat, s.heap.size ≤ q → lA s q := fun _ h => h
  have CF : CallFix p m c cL_law 4 s #[Value.ref b] wsL_law RL := ⟨hx, hb, hml, hown, hts⟩
  have P := s_improve (V := V) (z := z) (U := U) (y := y) R (x1 := ar xs i 1)
  refine lv_aload_n hx hb dL_law_607 rfl (lv_at hl 2 rfl) ?_
  refine rdA hx hb hXs hbl hS hl (v := 1) h1 dL_law_608 dL_law_609 dL_law_610 (by decide) dL_law_611 dL_law_612 ?_
  refine rwVs (wc := ps cI cC cW h Y S q V z U y I) (Rr := md cI a (Y 4).2.1 Z) (wn := fun u : (Nat → va_H) × (Nat → Int32) => ps cI cC cW h u.1 S q V z U y u.2) (w1 := fun u : (Nat → va_H) × (Nat → Int32) => ps cI cC cW h u.1 S q V z U y u.2 ++ md cI a (Y 4).2.1 Z) (List.Perm.refl _) (fun _ => List.Perm.refl _) CF (c_X5_improve l D cI cC cW t h _ Y S q V z U y I (ar xs i 1) R.sf R.st.1) (cwV 1 hts gL_law_X5_improve rfl rfl rfl (by decide +kernel) ⟨Nat.le_of_ble_eq_true rfl, Nat.le_of_ble_eq_true rfl⟩) hP hD hK hX hS hA 0 4 ps_0 rfl rfl hl.1 rfl (Nat.le_of_ble_eq_true rfl) dL_law_613 ⟨Nat.le_of_ble_eq_true rfl, Nat.le_of_ble_eq_true rfl⟩ (fun H locs hP hD hS => ?_)
  refine lv_aload_n hx hb dL_law_616 rfl (lv_at hl 1 rfl) ?_
  refine rdA hx hb hXs hbl hS hl (v := 1) h1 dL_law_617 dL_law_618 dL_law_619 (by decide) dL_law_620 dL_law_621 ?_
  refine rwVs (wc := md cI a (Y 4).2.1 Z) (Rr := ps cI cC cW h (sp_X5_improve Y S q V z U y I (ar xs i 1)).2.1 S q V z U y (sp_X5_improve Y S q V z U y I (ar xs i 1)).2.2) (wn := fun u : (Nat → Int32) × (Nat → Nat → Int32) => md cI a u.1 u.2) (w1 := fun u : (Nat → Int32) × (Nat → Nat → Int32) => ps cI cC cW h (sp_X5_improve Y S q V z U y I (ar xs i 1)).2.1 S q V z U y (sp_X5_improve Y S q V z U y I (ar xs i 1)).2.2 ++ md cI a u.1 u.2) List.perm_append_comm (fun _ => List.perm_append_comm) CF (c_X6_improve l D cI cC cW t a _ (Y 4).2.1 Z (ar xs i 1) R.sf R.ps) (cwV 1 hts gL_law_X6_improve rfl rfl rfl (by decide +kernel) ⟨Nat.le_of_ble_eq_true rfl, Nat.le_of_ble_eq_true rfl⟩) hP hD hK hX hS hA 0 5 md_0 rfl rfl hl.1 rfl (Nat.le_of_ble_eq_true rfl) dL_law_622 ⟨Nat.le_of_ble_eq_true rfl, Nat.le_of_ble_eq_true rfl⟩ (fun H locs hP hD hS => ?_)
  refine lv_icmp_eq (tgt := 840) hx hb dL_law_625 (by decide) (fun _ => ?_) (fun ne => absurd P.1 ne)
  exact NX _ _ _ _ _ _ _ _ _ _ _ _ _ _ (by omega) P.2 hP hD hS hl
set_option maxHeartbeats 4000000 in
set_option maxRecDepth 100000 in
theorem kc_weekly (C0 : lw_At p s m meth c b L xs) (hts : ∀ w ∈ wsL_law, w.before #[Value.ref b] s = true) (hK : va_K D vwCl (tyL cI cC cW) s) (hX : sx t (lA s) s s.heap) (hP : va_P D vwCl (ps cI cC cW h Y S q V z U y I ++ md cI a (Y 4).2.1 Z) H) (hD : va_D (lA s) (ps cI cC cW h Y S q V z U y I ++ md cI a (Y 4).2.1 Z)) (hS : va_S (lA s) s.heap H locs) (R : rel bd Y S q I (Y 4).2.1 Z) (h1 : vp_in (nI i + 1) L) (hl : lv_has ls 4 (lv4 b h a i)) (NX : nxt p l e s m b below meth c D cI cC cW h a bd i) : W p l e room_1 s m #[Value.ref b] below meth c H locs 87 3474 (lw_Z below #[Value.ref b] s) (F0 m 630 ls []) := by
  obtain ⟨hx, hb, hr, hml, hown, -, hXs, hbl, hlocks, -⟩ := id C0
  have hA : ∀ q : Nat, s.heap.size ≤ q → lA s q := fun _ h => h
  have CF : CallFix p m c cL_law 4 s #[Value.ref b] wsL_law RL := ⟨hx, hb, hml, hown, hts⟩
  have P := s_weekly (V := V) (z := z) (U := U) (y := y) R (x1 := ar xs i 1)
  refine lv_aload_n hx hb dL_law_630 rfl (lv_at hl 2 rfl) ?_
  refine rdA hx hb hXs hbl hS hl (v := 1) h1 dL_law_631 dL_law_632 dL_law_633 (by decide) dL_law_634 dL_law_635 ?_
  refine roV CF (c_X5_weekly l D cI cC cW t h Y S q V z U y I (ar xs i 1) R.sf) (cwV 1 hts gL_law_X5_weekly rfl rfl rfl (by decide +kernel) ⟨Nat.le_of_ble_eq_true rfl, Nat.le_of_ble_eq_true rfl⟩) (vP_l hP) hK hX hS 0 4 ps_0 rfl rfl hl.1 rfl (Nat.le_of_ble_eq_true rfl) dL_law_636 ⟨Nat.le_of_ble_eq_true rfl, Nat.le_of_ble_eq_true rfl⟩ ?_
  refine lv_aload_n hx hb dL_law_639 rfl (lv_at hl 1 rfl) ?_
  refine rdA hx hb hXs hbl hS hl (v := 1) h1 dL_law_640 dL_law_641 dL_law_642 (by decide) dL_law_643 dL_law_644 ?_
  refine roV CF (c_X6_weekly l D cI cC cW t a (Y 4).2.1 Z (ar xs i 1) R.sf) (cwV 1 hts gL_law_X6_weekly rfl rfl rfl (by decide +kernel) ⟨Nat.le_of_ble_eq_true rfl, Nat.le_of_ble_eq_true rfl⟩) (vP_r hP) hK hX hS 0 5 md_0 rfl rfl hl.1 rfl (Nat.le_of_ble_eq_true rfl) dL_law_645 ⟨Nat.le_of_ble_eq_true rfl, Nat.le_of_ble_eq_true rfl⟩ ?_
  refine lv_icmp_eq (tgt := 840) hx hb dL_law_648 (by decide) (fun _ => ?_) (fun ne => absurd P ne)
  exact NX bd _ _ _ _ _ _ _ _ _ _ _ _ _ (by omega) R hP hD hS hl
set_option maxHeartbeats 4000000 in
set_option maxRecDepth 100000 in
theorem kc_atBest (C0 : lw_At p s m meth c b L xs) (hts : ∀ w ∈ wsL_law, w.before #[Value.ref b] s = true) (hK : va_K D vwCl (tyL cI cC cW) s) (hX : sx t (lA s) s s.heap) (hP : va_P D vwCl (ps cI cC cW h Y S q V z U y I ++ md cI a (Y 4).2.1 Z) H) (hD : va_D (lA s) (ps cI cC cW h Y S q V z U y I ++ md cI a (Y 4).2.1 Z)) (hS : va_S (lA s) s.heap H locs) (R : rel bd Y S q I (Y 4).2.1 Z) (h1 : vp_in (nI i + 1) L) (hl : lv_has ls 4 (lv4 b h a i)) (NX : nxt p l e s m b below meth c D cI cC cW h a bd i) : W p l e room_1 s m #[Value.ref b] below meth c H locs 87 3474 (lw_Z below #[Value.ref b] s) (F0 m 653 ls []) := by
  obtain ⟨hx, hb, hr, hml, hown, -, hXs, hbl, hlocks, -⟩ := id C0
  have hA : ∀ q : Nat, s.heap.size ≤ q → lA s q := fun _ h => h
  have CF : CallFix p m c cL_law 4 s #[Value.ref b] wsL_law RL := ⟨hx, hb, hml, hown, hts⟩
  have P := s_atBest (V := V) (z := z) (U := U) (y := y) R (x1 := ar xs i 1)
  refine lv_aload_n hx hb dL_law_653 rfl (lv_at hl 2 rfl) ?_
  refine rdA hx hb hXs hbl hS hl (v := 1) h1 dL_law_654 dL_law_655 dL_law_656 (by decide) dL_law_657 dL_law_658 ?_
  refine rwVs (wc := ps cI cC cW h Y S q V z U y I) (Rr := md cI a (Y 4).2.1 Z) (wn := fun u : (Nat → Int32) × Int32 × (Nat → Int32) × Int32 => ps cI cC cW h Y S q u.1 u.2.1 u.2.2.1 u.2.2.2 I) (w1 := fun u : (Nat → Int32) × Int32 × (Nat → Int32) × Int32 => ps cI cC cW h Y S q u.1 u.2.1 u.2.2.1 u.2.2.2 I ++ md cI a (Y 4).2.1 Z) (List.Perm.refl _) (fun _ => List.Perm.refl _) CF (c_X5_atBest l D cI cC cW t h _ Y S q V z U y I (ar xs i 1) R.sf) (cwV 1 hts gL_law_X5_atBest rfl rfl rfl (by decide +kernel) ⟨Nat.le_of_ble_eq_true rfl, Nat.le_of_ble_eq_true rfl⟩) hP hD hK hX hS hA 0 4 ps_0 rfl rfl hl.1 rfl (Nat.le_of_ble_eq_true rfl) dL_law_659 ⟨Nat.le_of_ble_eq_true rfl, Nat.le_of_ble_eq_true rfl⟩ (fun H locs hP hD hS => ?_)
  refine lv_aload_n hx hb dL_law_662 rfl (lv_at hl 1 rfl) ?_
  refine rdA hx hb hXs hbl hS hl (v := 1) h1 dL_law_663 dL_law_664 dL_law_665 (by decide) dL_law_666 dL_law_667 ?_
  refine rwVs (wc := md cI a (Y 4).2.1 Z) (Rr := ps cI cC cW h Y S q (sp_X5_atBest Y S q V z U y I (ar xs i 1)).2.1 (sp_X5_atBest Y S q V z U y I (ar xs i 1)).2.2.1 (sp_X5_atBest Y S q V z U y I (ar xs i 1)).2.2.2.1 (sp_X5_atBest Y S q V z U y I (ar xs i 1)).2.2.2.2 I) (wn := fun u : Nat → Nat → Int32 => md cI a (Y 4).2.1 u) (w1 := fun u : Nat → Nat → Int32 => ps cI cC cW h Y S q (sp_X5_atBest Y S q V z U y I (ar xs i 1)).2.1 (sp_X5_atBest Y S q V z U y I (ar xs i 1)).2.2.1 (sp_X5_atBest Y S q V z U y I (ar xs i 1)).2.2.2.1 (sp_X5_atBest Y S q V z U y I (ar xs i 1)).2.2.2.2 I ++ md cI a (Y 4).2.1 u) List.perm_append_comm (fun _ => List.perm_append_comm) CF (c_X6_atBest l D cI cC cW t a _ (Y 4).2.1 Z (ar xs i 1) R.sf) (cwV 1 hts gL_law_X6_atBest rfl rfl rfl (by decide +kernel) ⟨Nat.le_of_ble_eq_true rfl, Nat.le_of_ble_eq_true rfl⟩) hP hD hK hX hS hA 0 5 md_0 rfl rfl hl.1 rfl (Nat.le_of_ble_eq_true rfl) dL_law_668 ⟨Nat.le_of_ble_eq_true rfl, Nat.le_of_ble_eq_true rfl⟩ (fun H locs hP hD hS => ?_)
  refine lv_icmp_eq (tgt := 840) hx hb dL_law_671 (by decide) (fun _ => ?_) (fun ne => absurd P.1 ne)
  exact NX _ _ _ _ _ _ _ _ _ _ _ _ _ _ (by omega) P.2 hP hD hS hl
set_option maxHeartbeats 4000000 in
set_option maxRecDepth 100000 in
theorem kc_account (C0 : lw_At p s m meth c b L xs) (hts : ∀ w ∈ wsL_law, w.before #[Value.ref b] s = true) (hK : va_K D vwCl (tyL cI cC cW) s) (hX : sx t (lA s) s s.heap) (hP : va_P D vwCl (ps cI cC cW h Y S q V z U y I ++ md cI a (Y 4).2.1 Z) H) (hD : va_D (lA s) (ps cI cC cW h Y S q V z U y I ++ md cI a (Y 4).2.1 Z)) (hS : va_S (lA s) s.heap H locs) (R : rel bd Y S q I (Y 4).2.1 Z) (h1 : vp_in (nI i + 1) L) (hl : lv_has ls 4 (lv4 b h a i)) (NX : nxt p l e s m b below meth c D cI cC cW h a bd i) : W p l e room_1 s m #[Value.ref b] below meth c H locs 87 3474 (lw_Z below #[Value.ref b] s) (F0 m 676 ls []) := by
  obtain ⟨hx, hb, hr, hml, hown, -, hXs, hbl, hlocks, -⟩ := id C0
  have hA : ∀ q : Nat, s.heap.size ≤ q → lA s q := fun _ h => h
  have CF : CallFix p m c cL_law 4 s #[Value.ref b] wsL_law RL := ⟨hx, hb, hml, hown, hts⟩
  have P := s_account (V := V) (z := z) (U := U) (y := y) R (x1 := ar xs i 1)
  refine lv_aload_n hx hb dL_law_676 rfl (lv_at hl 2 rfl) ?_
  refine rdA hx hb hXs hbl hS hl (v := 1) h1 dL_law_677 dL_law_678 dL_law_679 (by decide) dL_law_680 dL_law_681 ?_
  refine roV CF (c_X5_account l D cI cC cW t h Y S q V z U y I (ar xs i 1) R.sf) (cwV 1 hts gL_law_X5_account rfl rfl rfl (by decide +kernel) ⟨Nat.le_of_ble_eq_true rfl, Nat.le_of_ble_eq_true rfl⟩) (vP_l hP) hK hX hS 0 4 ps_0 rfl rfl hl.1 rfl (Nat.le_of_ble_eq_true rfl) dL_law_682 ⟨Nat.le_of_ble_eq_true rfl, Nat.le_of_ble_eq_true rfl⟩ ?_
  refine lv_aload_n hx hb dL_law_685 rfl (lv_at hl 1 rfl) ?_
  refine rdA hx hb hXs hbl hS hl (v := 1) h1 dL_law_686 dL_law_687 dL_law_688 (by decide) dL_law_689 dL_law_690 ?_
  refine roV CF (c_X6_account l D cI cC cW t a (Y 4).2.1 Z (ar xs i 1) ) (cwV 1 hts gL_law_X6_account rfl rfl rfl (by decide +kernel) ⟨Nat.le_of_ble_eq_true rfl, Nat.le_of_ble_eq_true rfl⟩) (vP_r hP) hK hX hS 0 5 md_0 rfl rfl hl.1 rfl (Nat.le_of_ble_eq_true rfl) dL_law_691 ⟨Nat.le_of_ble_eq_true rfl, Nat.le_of_ble_eq_true rfl⟩ ?_
  refine lv_icmp_eq (tgt := 840) hx hb dL_law_694 (by decide) (fun _ => ?_) (fun ne => absurd P ne)
  exact NX bd _ _ _ _ _ _ _ _ _ _ _ _ _ (by omega) R hP hD hS hl
set_option maxHeartbeats 4000000 in
set_option maxRecDepth 100000 in
theorem kc_count (C0 : lw_At p s m meth c b L xs) (hts : ∀ w ∈ wsL_law, w.before #[Value.ref b] s = true) (hK : va_K D vwCl (tyL cI cC cW) s) (hX : sx t (lA s) s s.heap) (hP : va_P D vwCl (ps cI cC cW h Y S q V z U y I ++ md cI a (Y 4).2.1 Z) H) (hD : va_D (lA s) (ps cI cC cW h Y S q V z U y I ++ md cI a (Y 4).2.1 Z)) (hS : va_S (lA s) s.heap H locs) (R : rel bd Y S q I (Y 4).2.1 Z) (h1 : vp_in (nI i + 1) L) (hl : lv_has ls 4 (lv4 b h a i)) (NX : nxt p l e s m b below meth c D cI cC cW h a bd i) : W p l e room_1 s m #[Value.ref b] below meth c H locs 87 3474 (lw_Z below #[Value.ref b] s) (F0 m 699 ls []) := by
  obtain ⟨hx, hb, hr, hml, hown, -, hXs, hbl, hlocks, -⟩ := id C0
  have hA : ∀ q : Nat, s.heap.size ≤ q → lA s q := fun _ h => h
  have CF : CallFix p m c cL_law 4 s #[Value.ref b] wsL_law RL := ⟨hx, hb, hml, hown, hts⟩
  have P := s_count (V := V) (z := z) (U := U) (y := y) R (x1 := ar xs i 1)
  refine lv_aload_n hx hb dL_law_699 rfl (lv_at hl 2 rfl) ?_
  refine rdA hx hb hXs hbl hS hl (v := 1) h1 dL_law_700 dL_law_701 dL_law_702 (by decide) dL_law_703 dL_law_704 ?_
  refine roV CF (c_X5_count l D cI cC cW t h Y S q V z U y I (ar xs i 1) R.sf) (cwV 1 hts gL_law_X5_count rfl rfl rfl (by decide +kernel) ⟨Nat.le_of_ble_eq_true rfl, Nat.le_of_ble_eq_true rfl⟩) (vP_l hP) hK hX hS 0 4 ps_0 rfl rfl hl.1 rfl (Nat.le_of_ble_eq_true rfl) dL_law_705 ⟨Nat.le_of_ble_eq_true rfl, Nat.le_of_ble_eq_true rfl⟩ ?_
  refine lv_aload_n hx hb dL_law_708 rfl (lv_at hl 1 rfl) ?_
  refine rdA hx hb hXs hbl hS hl (v := 1) h1 dL_law_709 dL_law_710 dL_law_711 (by decide) dL_law_712 dL_law_713 ?_
  refine roV CF (c_X6_count l D cI cC cW t a (Y 4).2.1 Z (ar xs i 1) R.sf) (cwV 1 hts gL_law_X6_count rfl rfl rfl (by decide +kernel) ⟨Nat.le_of_ble_eq_true rfl, Nat.le_of_ble_eq_true rfl⟩) (vP_r hP) hK hX hS 0 5 md_0 rfl rfl hl.1 rfl (Nat.le_of_ble_eq_true rfl) dL_law_714 ⟨Nat.le_of_ble_eq_true rfl, Nat.le_of_ble_eq_true rfl⟩ ?_
  refine lv_icmp_eq (tgt := 840) hx hb dL_law_717 (by decide) (fun _ => ?_) (fun ne => absurd P ne)
  exact NX bd _ _ _ _ _ _ _ _ _ _ _ _ _ (by omega) R hP hD hS hl
set_option maxHeartbeats 4000000 in
set_option maxRecDepth 100000 in
theorem kc_set (C0 : lw_At p s m meth c b L xs) (hts : ∀ w ∈ wsL_law, w.before #[Value.ref b] s = true) (hK : va_K D vwCl (tyL cI cC cW) s) (hX : sx t (lA s) s s.heap) (hP : va_P D vwCl (ps cI cC cW h Y S q V z U y I ++ md cI a (Y 4).2.1 Z) H) (hD : va_D (lA s) (ps cI cC cW h Y S q V z U y I ++ md cI a (Y 4).2.1 Z)) (hS : va_S (lA s) s.heap H locs) (R : rel bd Y S q I (Y 4).2.1 Z) (h1 : vp_in (nI i + 1) L) (h2 : vp_in (nI i + 2) L) (hl : lv_has ls 4 (lv4 b h a i)) (NX : nxt p l e s m b below meth c D cI cC cW h a bd i) : W p l e room_1 s m #[Value.ref b] below meth c H locs 87 3474 (lw_Z below #[Value.ref b] s) (F0 m 722 ls []) := by
  obtain ⟨hx, hb, hr, hml, hown, -, hXs, hbl, hlocks, -⟩ := id C0
  have hA : ∀ q : Nat, s.heap.size ≤ q → lA s q := fun _ h => h
  have CF : CallFix p m c cL_law 4 s #[Value.ref b] wsL_law RL := ⟨hx, hb, hml, hown, hts⟩
  have P := s_set (V := V) (z := z) (U := U) (y := y) R (x1 := ar xs i 1) (x2 := ar xs i 2)
  refine lv_aload_n hx hb dL_law_722 rfl (lv_at hl 2 rfl) ?_
  refine rdA hx hb hXs hbl hS hl (v := 1) h1 dL_law_723 dL_law_724 dL_law_725 (by decide) dL_law_726 dL_law_727 ?_
  refine rdA hx hb hXs hbl hS hl (v := 2) h2 dL_law_728 dL_law_729 dL_law_730 (by decide) dL_law_731 dL_law_732 ?_
  refine rwVs (wc := ps cI cC cW h Y S q V z U y I) (Rr := md cI a (Y 4).2.1 Z) (wn := fun u : (Nat → va_H) × (Nat → Int32) => ps cI cC cW h u.1 S q V z U y u.2) (w1 := fun u : (Nat → va_H) × (Nat → Int32) => ps cI cC cW h u.1 S q V z U y u.2 ++ md cI a (Y 4).2.1 Z) (List.Perm.refl _) (fun _ => List.Perm.refl _) CF (c_X5_set l D cI cC cW t h _ Y S q V z U y I (ar xs i 1) (ar xs i 2) R.st.1) (cwV 2 hts gL_law_X5_set rfl rfl rfl (by decide +kernel) ⟨Nat.le_of_ble_eq_true rfl, Nat.le_of_ble_eq_true rfl⟩) hP hD hK hX hS hA 0 4 ps_0 rfl rfl hl.1 rfl (Nat.le_of_ble_eq_true rfl) dL_law_733 ⟨Nat.le_of_ble_eq_true rfl, Nat.le_of_ble_eq_true rfl⟩ (fun H locs hP hD hS => ?_)
  refine lv_aload_n hx hb dL_law_736 rfl (lv_at hl 1 rfl) ?_
  refine rdA hx hb hXs hbl hS hl (v := 1) h1 dL_law_737 dL_law_738 dL_law_739 (by decide) dL_law_740 dL_law_741 ?_
  refine rdA hx hb hXs hbl hS hl (v := 2) h2 dL_law_742 dL_law_743 dL_law_744 (by decide) dL_law_745 dL_law_746 ?_
  refine rwVs (wc := md cI a (Y 4).2.1 Z) (Rr := ps cI cC cW h (sp_X5_set Y S q V z U y I (ar xs i 1) (ar xs i 2)).2.1 S q V z U y (sp_X5_set Y S q V z U y I (ar xs i 1) (ar xs i 2)).2.2) (wn := fun u : (Nat → Int32) × (Nat → Nat → Int32) => md cI a u.1 u.2) (w1 := fun u : (Nat → Int32) × (Nat → Nat → Int32) => ps cI cC cW h (sp_X5_set Y S q V z U y I (ar xs i 1) (ar xs i 2)).2.1 S q V z U y (sp_X5_set Y S q V z U y I (ar xs i 1) (ar xs i 2)).2.2 ++ md cI a u.1 u.2) List.perm_append_comm (fun _ => List.perm_append_comm) CF (c_X6_set l D cI cC cW t a _ (Y 4).2.1 Z (ar xs i 1) (ar xs i 2) R.sf R.ps) (cwV 2 hts gL_law_X6_set rfl rfl rfl (by decide +kernel) ⟨Nat.le_of_ble_eq_true rfl, Nat.le_of_ble_eq_true rfl⟩) hP hD hK hX hS hA 0 5 md_0 rfl rfl hl.1 rfl (Nat.le_of_ble_eq_true rfl) dL_law_747 ⟨Nat.le_of_ble_eq_true rfl, Nat.le_of_ble_eq_true rfl⟩ (fun H locs hP hD hS => ?_)
  refine lv_icmp_eq (tgt := 840) hx hb dL_law_750 (by decide) (fun _ => ?_) (fun ne => absurd P.1 ne)
  exact NX _ _ _ _ _ _ _ _ _ _ _ _ _ _ (by omega) P.2 hP hD hS hl
set_option maxHeartbeats 4000000 in
set_option maxRecDepth 100000 in
theorem kc_undo (C0 : lw_At p s m meth c b L xs) (hts : ∀ w ∈ wsL_law, w.before #[Value.ref b] s = true) (hK : va_K D vwCl (tyL cI cC cW) s) (hX : sx t (lA s) s s.heap) (hP : va_P D vwCl (ps cI cC cW h Y S q V z U y I ++ md cI a (Y 4).2.1 Z) H) (hD : va_D (lA s) (ps cI cC cW h Y S q V z U y I ++ md cI a (Y 4).2.1 Z)) (hS : va_S (lA s) s.heap H locs) (R : rel bd Y S q I (Y 4).2.1 Z)  (hl : lv_has ls 4 (lv4 b h a i)) (NX : nxt p l e s m b below meth c D cI cC cW h a bd i) : W p l e room_1 s m #[Value.ref b] below meth c H locs 87 3474 (lw_Z below #[Value.ref b] s) (F0 m 755 ls []) := by
  obtain ⟨hx, hb, hr, hml, hown, -, hXs, hbl, hlocks, -⟩ := id C0
  have hA : ∀ q : Nat, s.heap.size ≤ q → lA s q := fun _ h => h
  have CF : CallFix p m c cL_law 4 s #[Value.ref b] wsL_law RL := ⟨hx, hb, hml, hown, hts⟩
  have P := s_undo (V := V) (z := z) (U := U) (y := y) R 
  refine lv_aload_n hx hb dL_law_755 rfl (lv_at hl 2 rfl) ?_
  refine rwVs (wc := ps cI cC cW h Y S q V z U y I) (Rr := md cI a (Y 4).2.1 Z) (wn := fun u : (Nat → va_H) × (Nat → Int32) => ps cI cC cW h u.1 S q V z U y u.2) (w1 := fun u : (Nat → va_H) × (Nat → Int32) => ps cI cC cW h u.1 S q V z U y u.2 ++ md cI a (Y 4).2.1 Z) (List.Perm.refl _) (fun _ => List.Perm.refl _) CF (c_X5_undo l D cI cC cW t h _ Y S q V z U y I  R.st.1 R.st.2) (cwV 0 hts gL_law_X5_undo rfl rfl rfl (by decide +kernel) ⟨Nat.le_of_ble_eq_true rfl, Nat.le_of_ble_eq_true rfl⟩) hP hD hK hX hS hA 0 4 ps_0 rfl rfl hl.1 rfl (Nat.le_of_ble_eq_true rfl) dL_law_756 ⟨Nat.le_of_ble_eq_true rfl, Nat.le_of_ble_eq_true rfl⟩ (fun H locs hP hD hS => ?_)
  refine lv_aload_n hx hb dL_law_759 rfl (lv_at hl 1 rfl) ?_
  refine rwVs (wc := md cI a (Y 4).2.1 Z) (Rr := ps cI cC cW h (sp_X5_undo Y S q V z U y I ).2.1 S q V z U y (sp_X5_undo Y S q V z U y I ).2.2) (wn := fun u : (Nat → Int32) × (Nat → Nat → Int32) => md cI a u.1 u.2) (w1 := fun u : (Nat → Int32) × (Nat → Nat → Int32) => ps cI cC cW h (sp_X5_undo Y S q V z U y I ).2.1 S q V z U y (sp_X5_undo Y S q V z U y I ).2.2 ++ md cI a u.1 u.2) List.perm_append_comm (fun _ => List.perm_append_comm) CF (c_X6_undo l D cI cC cW t a _ (Y 4).2.1 Z  R.ps) (cwV 0 hts gL_law_X6_undo rfl rfl rfl (by decide +kernel) ⟨Nat.le_of_ble_eq_true rfl, Nat.le_of_ble_eq_true rfl⟩) hP hD hK hX hS hA 0 5 md_0 rfl rfl hl.1 rfl (Nat.le_of_ble_eq_true rfl) dL_law_760 ⟨Nat.le_of_ble_eq_true rfl, Nat.le_of_ble_eq_true rfl⟩ (fun H locs hP hD hS => ?_)
  refine lv_icmp_eq (tgt := 840) hx hb dL_law_763 (by decide) (fun _ => ?_) (fun ne => absurd P.1 ne)
  exact NX _ _ _ _ _ _ _ _ _ _ _ _ _ _ (by omega) P.2 hP hD hS hl
set_option maxHeartbeats 4000000 in
set_option maxRecDepth 100000 in
theorem kc_type (C0 : lw_At p s m meth c b L xs) (hts : ∀ w ∈ wsL_law, w.before #[Value.ref b] s = true) (hK : va_K D vwCl (tyL cI cC cW) s) (hX : sx t (lA s) s s.heap) (hP : va_P D vwCl (ps cI cC cW h Y S q V z U y I ++ md cI a (Y 4).2.1 Z) H) (hD : va_D (lA s) (ps cI cC cW h Y S q V z U y I ++ md cI a (Y 4).2.1 Z)) (hS : va_S (lA s) s.heap H locs) (R : rel bd Y S q I (Y 4).2.1 Z) (h1 : vp_in (nI i + 1) L) (hl : lv_has ls 4 (lv4 b h a i)) (NX : nxt p l e s m b below meth c D cI cC cW h a bd i) : W p l e room_1 s m #[Value.ref b] below meth c H locs 87 3474 (lw_Z below #[Value.ref b] s) (F0 m 768 ls []) := by
  obtain ⟨hx, hb, hr, hml, hown, -, hXs, hbl, hlocks, -⟩ := id C0
  have hA : ∀ q : Nat, s.heap.size ≤ q → lA s q := fun _ h => h
  have CF : CallFix p m c cL_law 4 s #[Value.ref b] wsL_law RL := ⟨hx, hb, hml, hown, hts⟩
  have P := s_type (V := V) (z := z) (U := U) (y := y) R (x1 := ar xs i 1)
  refine lv_aload_n hx hb dL_law_768 rfl (lv_at hl 2 rfl) ?_
  refine rdA hx hb hXs hbl hS hl (v := 1) h1 dL_law_769 dL_law_770 dL_law_771 (by decide) dL_law_772 dL_law_773 ?_
  refine rwVs (wc := ps cI cC cW h Y S q V z U y I) (Rr := md cI a (Y 4).2.1 Z) (wn := fun u : (Nat → Int32) × (Nat → Int32) => ps cI cC cW h Y u.1 u.2 V z U y I) (w1 := fun u : (Nat → Int32) × (Nat → Int32) => ps cI cC cW h Y u.1 u.2 V z U y I ++ md cI a (Y 4).2.1 Z) (List.Perm.refl _) (fun _ => List.Perm.refl _) CF (c_X5_type l D cI cC cW t h _ Y S q V z U y I (ar xs i 1) R.ln) (cwV 1 hts gL_law_X5_type rfl rfl rfl (by decide +kernel) ⟨Nat.le_of_ble_eq_true rfl, Nat.le_of_ble_eq_true rfl⟩) hP hD hK hX hS hA 0 4 ps_0 rfl rfl hl.1 rfl (Nat.le_of_ble_eq_true rfl) dL_law_774 ⟨Nat.le_of_ble_eq_true rfl, Nat.le_of_ble_eq_true rfl⟩ (fun H locs hP hD hS => ?_)
  refine lv_aload_n hx hb dL_law_777 rfl (lv_at hl 1 rfl) ?_
  refine rdA hx hb hXs hbl hS hl (v := 1) h1 dL_law_778 dL_law_779 dL_law_780 (by decide) dL_law_781 dL_law_782 ?_
  refine rwVs (wc := md cI a (Y 4).2.1 Z) (Rr := ps cI cC cW h Y (sp_X5_type Y S q V z U y I (ar xs i 1)).2.1 (sp_X5_type Y S q V z U y I (ar xs i 1)).2.2 V z U y I) (wn := fun u : Nat → Nat → Int32 => md cI a (Y 4).2.1 u) (w1 := fun u : Nat → Nat → Int32 => ps cI cC cW h Y (sp_X5_type Y S q V z U y I (ar xs i 1)).2.1 (sp_X5_type Y S q V z U y I (ar xs i 1)).2.2 V z U y I ++ md cI a (Y 4).2.1 u) List.perm_append_comm (fun _ => List.perm_append_comm) CF (c_X6_type l D cI cC cW t a _ (Y 4).2.1 Z (ar xs i 1) R.ty) (cwV 1 hts gL_law_X6_type rfl rfl rfl (by decide +kernel) ⟨Nat.le_of_ble_eq_true rfl, Nat.le_of_ble_eq_true rfl⟩) hP hD hK hX hS hA 0 5 md_0 rfl rfl hl.1 rfl (Nat.le_of_ble_eq_true rfl) dL_law_783 ⟨Nat.le_of_ble_eq_true rfl, Nat.le_of_ble_eq_true rfl⟩ (fun H locs hP hD hS => ?_)
  refine lv_icmp_eq (tgt := 840) hx hb dL_law_786 (by decide) (fun _ => ?_) (fun ne => absurd P.1 ne)
  exact NX _ _ _ _ _ _ _ _ _ _ _ _ _ _ (by omega) P.2 hP hD hS hl
set_option maxHeartbeats 4000000 in
set_option maxRecDepth 100000 in
theorem kc_clearText (C0 : lw_At p s m meth c b L xs) (hts : ∀ w ∈ wsL_law, w.before #[Value.ref b] s = true) (hK : va_K D vwCl (tyL cI cC cW) s) (hX : sx t (lA s) s s.heap) (hP : va_P D vwCl (ps cI cC cW h Y S q V z U y I ++ md cI a (Y 4).2.1 Z) H) (hD : va_D (lA s) (ps cI cC cW h Y S q V z U y I ++ md cI a (Y 4).2.1 Z)) (hS : va_S (lA s) s.heap H locs) (R : rel bd Y S q I (Y 4).2.1 Z)  (hl : lv_has ls 4 (lv4 b h a i)) (NX : nxt p l e s m b below meth c D cI cC cW h a bd i) : W p l e room_1 s m #[Value.ref b] below meth c H locs 87 3474 (lw_Z below #[Value.ref b] s) (F0 m 791 ls []) := by
  obtain ⟨hx, hb, hr, hml, hown, -, hXs, hbl, hlocks, -⟩ := id C0
  have hA : ∀ q : Nat, s.heap.size ≤ q → lA s q := fun _ h => h
  have CF : CallFix p m c cL_law 4 s #[Value.ref b] wsL_law RL := ⟨hx, hb, hml, hown, hts⟩
  have P := s_clearText (V := V) (z := z) (U := U) (y := y) R 
  refine lv_aload_n hx hb dL_law_791 rfl (lv_at hl 2 rfl) ?_
  refine rwVs (wc := ps cI cC cW h Y S q V z U y I) (Rr := md cI a (Y 4).2.1 Z) (wn := fun u : Nat → Int32 => ps cI cC cW h Y S u V z U y I) (w1 := fun u : Nat → Int32 => ps cI cC cW h Y S u V z U y I ++ md cI a (Y 4).2.1 Z) (List.Perm.refl _) (fun _ => List.Perm.refl _) CF (c_X5_clearText l D cI cC cW t h _ Y S q V z U y I  ) (cwV 0 hts gL_law_X5_clearText rfl rfl rfl (by decide +kernel) ⟨Nat.le_of_ble_eq_true rfl, Nat.le_of_ble_eq_true rfl⟩) hP hD hK hX hS hA 0 4 ps_0 rfl rfl hl.1 rfl (Nat.le_of_ble_eq_true rfl) dL_law_792 ⟨Nat.le_of_ble_eq_true rfl, Nat.le_of_ble_eq_true rfl⟩ (fun H locs hP hD hS => ?_)
  refine lv_aload_n hx hb dL_law_795 rfl (lv_at hl 1 rfl) ?_
  refine rwVs (wc := md cI a (Y 4).2.1 Z) (Rr := ps cI cC cW h Y S (sp_X5_clearText Y S q V z U y I ).2 V z U y I) (wn := fun u : Nat → Nat → Int32 => md cI a (Y 4).2.1 u) (w1 := fun u : Nat → Nat → Int32 => ps cI cC cW h Y S (sp_X5_clearText Y S q V z U y I ).2 V z U y I ++ md cI a (Y 4).2.1 u) List.perm_append_comm (fun _ => List.perm_append_comm) CF (c_X6_clearText l D cI cC cW t a _ (Y 4).2.1 Z  ) (cwV 0 hts gL_law_X6_clearText rfl rfl rfl (by decide +kernel) ⟨Nat.le_of_ble_eq_true rfl, Nat.le_of_ble_eq_true rfl⟩) hP hD hK hX hS hA 0 5 md_0 rfl rfl hl.1 rfl (Nat.le_of_ble_eq_true rfl) dL_law_796 ⟨Nat.le_of_ble_eq_true rfl, Nat.le_of_ble_eq_true rfl⟩ (fun H locs hP hD hS => ?_)
  refine lv_icmp_eq (tgt := 840) hx hb dL_law_799 (by decide) (fun _ => ?_) (fun ne => absurd P.1 ne)
  exact NX _ _ _ _ _ _ _ _ _ _ _ _ _ _ (by omega) P.2 hP hD hS hl
set_option maxHeartbeats 4000000 in
set_option maxRecDepth 100000 in
theorem kc_fault (C0 : lw_At p s m meth c b L xs) (hts : ∀ w ∈ wsL_law, w.before #[Value.ref b] s = true) (hK : va_K D vwCl (tyL cI cC cW) s) (hX : sx t (lA s) s s.heap) (hP : va_P D vwCl (ps cI cC cW h Y S q V z U y I ++ md cI a (Y 4).2.1 Z) H) (hD : va_D (lA s) (ps cI cC cW h Y S q V z U y I ++ md cI a (Y 4).2.1 Z)) (hS : va_S (lA s) s.heap H locs) (R : rel bd Y S q I (Y 4).2.1 Z) (hbd : bd ≤ 90000) (h1 : vp_in (nI i + 1) L) (hl : lv_has ls 4 (lv4 b h a i)) (NX : nxt p l e s m b below meth c D cI cC cW h a bd i) : W p l e room_1 s m #[Value.ref b] below meth c H locs 87 3474 (lw_Z below #[Value.ref b] s) (F0 m 804 ls []) := by
  obtain ⟨hx, hb, hr, hml, hown, -, hXs, hbl, hlocks, -⟩ := id C0
  have hA : ∀ q : Nat, s.heap.size ≤ q → lA s q := fun _ h => h
  have CF : CallFix p m c cL_law 4 s #[Value.ref b] wsL_law RL := ⟨hx, hb, hml, hown, hts⟩
  have P := s_fault (V := V) (z := z) (U := U) (y := y) hbd R (x1 := ar xs i 1)
  refine lv_aload_n hx hb dL_law_804 rfl (lv_at hl 2 rfl) ?_
  refine rdA hx hb hXs hbl hS hl (v := 1) h1 dL_law_805 dL_law_806 dL_law_807 (by decide) dL_law_808 dL_law_809 ?_
  refine rwVs (wc := ps cI cC cW h Y S q V z U y I) (Rr := md cI a (Y 4).2.1 Z) (wn := fun u : (Nat → va_H) × (Nat → Int32) × (Nat → Int32) => ps cI cC cW h u.1 S u.2.1 V z U y u.2.2) (w1 := fun u : (Nat → va_H) × (Nat → Int32) × (Nat → Int32) => ps cI cC cW h u.1 S u.2.1 V z U y u.2.2 ++ md cI a (Y 4).2.1 Z) (List.Perm.refl _) (fun _ => List.Perm.refl _) CF (c_X5_fault l D cI cC cW t h _ Y S q V z U y I (ar xs i 1) R.sf R.ch) (cwV 1 hts gL_law_X5_fault rfl rfl rfl (by decide +kernel) ⟨Nat.le_of_ble_eq_true rfl, Nat.le_of_ble_eq_true rfl⟩) hP hD hK hX hS hA 0 4 ps_0 rfl rfl hl.1 rfl (Nat.le_of_ble_eq_true rfl) dL_law_810 ⟨Nat.le_of_ble_eq_true rfl, Nat.le_of_ble_eq_true rfl⟩ (fun H locs hP hD hS => ?_)
  refine lv_aload_n hx hb dL_law_813 rfl (lv_at hl 1 rfl) ?_
  refine rdA hx hb hXs hbl hS hl (v := 1) h1 dL_law_814 dL_law_815 dL_law_816 (by decide) dL_law_817 dL_law_818 ?_
  refine rwVs (wc := md cI a (Y 4).2.1 Z) (Rr := ps cI cC cW h (sp_X5_fault Y S q V z U y I (ar xs i 1)).2.1 S (sp_X5_fault Y S q V z U y I (ar xs i 1)).2.2.1 V z U y (sp_X5_fault Y S q V z U y I (ar xs i 1)).2.2.2) (wn := fun u : (Nat → Int32) × (Nat → Nat → Int32) => md cI a u.1 u.2) (w1 := fun u : (Nat → Int32) × (Nat → Nat → Int32) => ps cI cC cW h (sp_X5_fault Y S q V z U y I (ar xs i 1)).2.1 S (sp_X5_fault Y S q V z U y I (ar xs i 1)).2.2.1 V z U y (sp_X5_fault Y S q V z U y I (ar xs i 1)).2.2.2 ++ md cI a u.1 u.2) List.perm_append_comm (fun _ => List.perm_append_comm) CF (c_X6_fault l D cI cC cW t a _ (Y 4).2.1 Z (ar xs i 1) R.sf R.ld R.ty) (cwV 1 hts gL_law_X6_fault rfl rfl rfl (by decide +kernel) ⟨Nat.le_of_ble_eq_true rfl, Nat.le_of_ble_eq_true rfl⟩) hP hD hK hX hS hA 0 5 md_0 rfl rfl hl.1 rfl (Nat.le_of_ble_eq_true rfl) dL_law_819 ⟨Nat.le_of_ble_eq_true rfl, Nat.le_of_ble_eq_true rfl⟩ (fun H locs hP hD hS => ?_)
  refine lv_icmp_eq (tgt := 840) hx hb dL_law_822 (by decide) (fun _ => ?_) (fun ne => absurd P.1 ne)
  exact NX _ _ _ _ _ _ _ _ _ _ _ _ _ _ (by omega) P.2 hP hD hS hl
set_option maxHeartbeats 4000000 in
set_option maxRecDepth 100000 in
theorem kc_play (C0 : lw_At p s m meth c b L xs) (hts : ∀ w ∈ wsL_law, w.before #[Value.ref b] s = true) (hK : va_K D vwCl (tyL cI cC cW) s) (hX : sx t (lA s) s s.heap) (hP : va_P D vwCl (ps cI cC cW h Y S q V z U y I ++ md cI a (Y 4).2.1 Z) H) (hD : va_D (lA s) (ps cI cC cW h Y S q V z U y I ++ md cI a (Y 4).2.1 Z)) (hS : va_S (lA s) s.heap H locs) (R : rel bd Y S q I (Y 4).2.1 Z) (hbd : bd ≤ 90000)  (hl : lv_has ls 4 (lv4 b h a i)) (NX : nxt p l e s m b below meth c D cI cC cW h a bd i) : W p l e room_1 s m #[Value.ref b] below meth c H locs 87 3474 (lw_Z below #[Value.ref b] s) (F0 m 827 ls []) := by
  obtain ⟨hx, hb, hr, hml, hown, -, hXs, hbl, hlocks, -⟩ := id C0
  have hA : ∀ q : Nat, s.heap.size ≤ q → lA s q := fun _ h => h
  have CF : CallFix p m c cL_law 4 s #[Value.ref b] wsL_law RL := ⟨hx, hb, hml, hown, hts⟩
  have P := s_play (V := V) (z := z) (U := U) (y := y) hbd R 
  refine lv_aload_n hx hb dL_law_827 rfl (lv_at hl 2 rfl) ?_
  refine rwVs (wc := ps cI cC cW h Y S q V z U y I) (Rr := md cI a (Y 4).2.1 Z) (wn := fun u : (Nat → va_H) × (Nat → Int32) × (Nat → Int32) => ps cI cC cW h u.1 S u.2.1 V z U y u.2.2) (w1 := fun u : (Nat → va_H) × (Nat → Int32) × (Nat → Int32) => ps cI cC cW h u.1 S u.2.1 V z U y u.2.2 ++ md cI a (Y 4).2.1 Z) (List.Perm.refl _) (fun _ => List.Perm.refl _) CF (c_X5_play l D cI cC cW t h _ Y S q V z U y I  R.sf R.ch R.st.1) (cwV 0 hts gL_law_X5_play rfl rfl rfl (by decide +kernel) ⟨Nat.le_of_ble_eq_true rfl, Nat.le_of_ble_eq_true rfl⟩) hP hD hK hX hS hA 0 4 ps_0 rfl rfl hl.1 rfl (Nat.le_of_ble_eq_true rfl) dL_law_828 ⟨Nat.le_of_ble_eq_true rfl, Nat.le_of_ble_eq_true rfl⟩ (fun H locs hP hD hS => ?_)
  refine lv_aload_n hx hb dL_law_831 rfl (lv_at hl 1 rfl) ?_
  refine rwVs (wc := md cI a (Y 4).2.1 Z) (Rr := ps cI cC cW h (sp_X5_play Y S q V z U y I ).2.1 S (sp_X5_play Y S q V z U y I ).2.2.1 V z U y (sp_X5_play Y S q V z U y I ).2.2.2) (wn := fun u : (Nat → Int32) × (Nat → Nat → Int32) => md cI a u.1 u.2) (w1 := fun u : (Nat → Int32) × (Nat → Nat → Int32) => ps cI cC cW h (sp_X5_play Y S q V z U y I ).2.1 S (sp_X5_play Y S q V z U y I ).2.2.1 V z U y (sp_X5_play Y S q V z U y I ).2.2.2 ++ md cI a u.1 u.2) List.perm_append_comm (fun _ => List.perm_append_comm) CF (c_X6_play l D cI cC cW t a _ (Y 4).2.1 Z  R.sf R.ld R.ty R.ps) (cwV 0 hts gL_law_X6_play rfl rfl rfl (by decide +kernel) ⟨Nat.le_of_ble_eq_true rfl, Nat.le_of_ble_eq_true rfl⟩) hP hD hK hX hS hA 0 5 md_0 rfl rfl hl.1 rfl (Nat.le_of_ble_eq_true rfl) dL_law_832 ⟨Nat.le_of_ble_eq_true rfl, Nat.le_of_ble_eq_true rfl⟩ (fun H locs hP hD hS => ?_)
  refine lv_icmp_eq (tgt := 840) hx hb dL_law_835 (by decide) (fun _ => ?_) (fun ne => absurd P.1 ne)
  exact NX _ _ _ _ _ _ _ _ _ _ _ _ _ _ (by omega) P.2 hP hD hS hl
end LC
