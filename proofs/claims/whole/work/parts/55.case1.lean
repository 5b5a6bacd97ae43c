/-! the law: its cases -/
section ZLX
variable {p : Program} {l : Launch} {e : Env} {s : State} {m : MethodId} {below : List Frame} {meth : Method} {c : Code} {b L : Nat} {xs : Nat → Int32} {g : zG} {mo oa ua ar i cells slots c1 s1 : Nat} {ad : zAd} {Q : State → Prop} {S : zSt} {th : Int32} {o : Nat → Int64} {H : Heap} {locs : List Loc} {ls : Array Slot}
set_option maxHeartbeats 4000000 in
set_option maxRecDepth 100000 in
theorem L_add (hst : l.stackTraces = false) (hL : L ≤ 4096) (C0 : lw_At p s m meth c b L xs) (hK : zK g s) (hX : zX (fun q : Nat => s.heap.size ≤ q) s s.heap) (hi : i + 8 ≤ L) (hc0 : cells + 11 ≤ room_1.cells) (hs0 : slots + 301 ≤ room_1.slots) (hI : zI S) (hP : va_P g.1 vwCl (zWm g mo ad th S.1 S.2.2.2.2.2.2.2 ++ zWc g oa ua ar o S) H) (hD : va_D (fun q : Nat => s.heap.size ≤ q) (zWm g mo ad th S.1 S.2.2.2.2.2.2.2 ++ zWc g oa ua ar o S)) (hS : va_S (fun q : Nat => s.heap.size ≤ q) s.heap H locs) (hl : lv_has ls 7 [(0, .ref b), (1, .ref ua), (2, .ref mo), (3, .ref oa), (4, .int (nI i))]) (kk : zNx p l e s m below meth c Q g mo ad oa ua ar b i cells slots) : W p l e room_1 s m #[Value.ref b] below meth c H locs cells slots Q (F0 m 124 ls []) := by
  obtain ⟨hx, hb, hr, hml, hown, hts0, hXs, hbl, hlocks, hgv⟩ := id C0
  have hown : s.vm.findClass RL = some m.cls := hown
  have hts : ∀ w ∈ wsL_law, w.before #[Value.ref b] s = true := fun w h => hts0 w (wsL_law_in w h)
  have hA : ∀ q : Nat, s.heap.size ≤ q → (fun q : Nat => s.heap.size ≤ q) q := fun _ h => h
  have hbA : ¬ (fun q : Nat => s.heap.size ≤ q) b := Nat.not_le.mpr hbl
  refine lv_aload_n hx hb dL_law_124 rfl (lv_at hl 1 rfl) ?_
  refine lv_aload_n hx hb dL_law_125 rfl (lv_at hl 0 rfl) ?_
  refine lv_iload hx hb dL_law_126 (lv_at hl 4 rfl) ?_
  refine lv_iconst (v := nI 1) hx hb dL_law_128 (by decide) ?_
  refine z_iadd hx hb dL_law_129 ?_
  refine z_sld hx hb hXs hbl hbA hS (j := i + 1) (by omega) hL dL_law_130 ?_
  refine lv_aload_n hx hb dL_law_131 rfl (lv_at hl 0 rfl) ?_
  refine lv_iload hx hb dL_law_132 (lv_at hl 4 rfl) ?_
  refine lv_iconst (v := nI 2) hx hb dL_law_134 (by decide) ?_
  refine z_iadd hx hb dL_law_135 ?_
  refine z_sld hx hb hXs hbl hbA hS (j := i + 2) (by omega) hL dL_law_136 ?_
  refine lv_aload_n hx hb dL_law_137 rfl (lv_at hl 0 rfl) ?_
  refine lv_iload hx hb dL_law_138 (lv_at hl 4 rfl) ?_
  refine lv_iconst (v := nI 3) hx hb dL_law_140 (by decide) ?_
  refine z_iadd hx hb dL_law_141 ?_
  refine z_sld hx hb hXs hbl hbA hS (j := i + 3) (by omega) hL dL_law_142 ?_
  refine lv_aload_n hx hb dL_law_143 rfl (lv_at hl 0 rfl) ?_
  refine lv_iload hx hb dL_law_144 (lv_at hl 4 rfl) ?_
  refine lv_iconst (v := nI 4) hx hb dL_law_146 (by decide) ?_
  refine z_iadd hx hb dL_law_147 ?_
  refine z_sld hx hb hXs hbl hbA hS (j := i + 4) (by omega) hL dL_law_148 ?_
  refine lv_aload_n hx hb dL_law_149 rfl (lv_at hl 0 rfl) ?_
  refine lv_iload hx hb dL_law_150 (lv_at hl 4 rfl) ?_
  refine lv_iconst (v := nI 5) hx hb dL_law_152 (by decide) ?_
  refine z_iadd hx hb dL_law_153 ?_
  refine z_sld hx hb hXs hbl hbA hS (j := i + 5) (by omega) hL dL_law_154 ?_
  refine lv_aload_n hx hb dL_law_155 rfl (lv_at hl 0 rfl) ?_
  refine lv_iload hx hb dL_law_156 (lv_at hl 4 rfl) ?_
  refine lv_bipush (v := nI 6) hx hb dL_law_158 (by decide) ?_
  refine z_iadd hx hb dL_law_160 ?_
  refine z_sld hx hb hXs hbl hbA hS (j := i + 6) (by omega) hL dL_law_161 ?_
  refine lv_aload_n hx hb dL_law_162 rfl (lv_at hl 0 rfl) ?_
  refine lv_iload hx hb dL_law_163 (lv_at hl 4 rfl) ?_
  refine lv_bipush (v := nI 7) hx hb dL_law_165 (by decide) ?_
  refine z_iadd hx hb dL_law_167 ?_
  refine z_sld hx hb hXs hbl hbA hS (j := i + 7) (by omega) hL dL_law_168 ?_
  refine lv_aload_n hx hb dL_law_169 rfl (lv_at hl 3 rfl) ?_
  have hP : va_P g.1 vwCl (zWm g mo ad th S.1 S.2.2.2.2.2.2.2 ++ zWc g oa ua ar o S ++ []) H := by rw [List.append_nil]; exact hP
  have hD : va_D (fun q : Nat => s.heap.size ≤ q) (zWm g mo ad th S.1 S.2.2.2.2.2.2.2 ++ zWc g oa ua ar o S ++ []) := by rw [List.append_nil]; exact hD
  refine z_ai (wa := zWm g mo ad th S.1 S.2.2.2.2.2.2.2) (wc := zWc g oa ua ar o S) (wb := []) (vx_runSW (As := [.ref ua, .int (xs (i + 1)), .int (xs (i + 2)), .int (xs (i + 3)), .int (xs (i + 4)), .int (xs (i + 5)), .int (xs (i + 6)), .int (xs (i + 7)), .ref oa]) (rest := []) ⟨hx, hb, hml, hown, hts⟩ (C_add l hst g oa ua ar o S (xs (i + 1)) (xs (i + 2)) (xs (i + 3)) (xs (i + 4)) (xs (i + 5)) (xs (i + 6)) (xs (i + 7)) hI H.size _ rfl) (vx_cwSW 9 hts gL_law_L_add rfl rfl rfl (by decide +kernel) ⟨Nat.le_of_ble_eq_true rfl, Nat.le_of_ble_eq_true rfl⟩) (zpreXS (wa := zWm g mo ad th S.1 S.2.2.2.2.2.2.2) (wc := zWc g oa ua ar o S) (wb := []) hK hP hD hS hA hX) rfl rfl hl.1 rfl (lv_room (Nat.le_of_ble_eq_true rfl)) dL_law_170 ⟨by omega, by omega⟩) hP hD hS hA (fun r wC H locs hqC hP hD hS => ?_)
  rw [List.append_nil] at hP hD
  refine lv_istore (lv' := [(5, .int r), (0, .ref b), (1, .ref ua), (2, .ref mo), (3, .ref oa), (4, .int (nI i))]) hx hb dL_law_173 hl (by decide) rfl (fun ls hl => ?_)
  refine lv_aload_n hx hb dL_law_175 rfl (lv_at hl 3 rfl) ?_
  refine lv_aload_n hx hb dL_law_176 rfl (lv_at hl 1 rfl) ?_
  refine lv_iload hx hb dL_law_177 (lv_at hl 5 rfl) ?_
  refine lv_iconst (v := nI 1) hx hb dL_law_179 (by decide) ?_
  refine z_iadd hx hb dL_law_180 ?_
  refine z_sld hx hb hXs hbl hbA hS (j := i + 1) (by omega) hL dL_law_181 ?_
  refine lv_aload_n hx hb dL_law_182 rfl (lv_at hl 1 rfl) ?_
  refine lv_iload hx hb dL_law_183 (lv_at hl 5 rfl) ?_
  refine lv_iconst (v := nI 2) hx hb dL_law_185 (by decide) ?_
  refine z_iadd hx hb dL_law_186 ?_
  refine z_sld hx hb hXs hbl hbA hS (j := i + 2) (by omega) hL dL_law_187 ?_
  refine lv_aload_n hx hb dL_law_188 rfl (lv_at hl 1 rfl) ?_
  refine lv_iload hx hb dL_law_189 (lv_at hl 5 rfl) ?_
  refine lv_iconst (v := nI 3) hx hb dL_law_191 (by decide) ?_
  refine z_iadd hx hb dL_law_192 ?_
  refine z_sld hx hb hXs hbl hbA hS (j := i + 3) (by omega) hL dL_law_193 ?_
  refine lv_aload_n hx hb dL_law_194 rfl (lv_at hl 1 rfl) ?_
  refine lv_iload hx hb dL_law_195 (lv_at hl 5 rfl) ?_
  refine lv_iconst (v := nI 4) hx hb dL_law_197 (by decide) ?_
  refine z_iadd hx hb dL_law_198 ?_
  refine z_sld hx hb hXs hbl hbA hS (j := i + 4) (by omega) hL dL_law_199 ?_
  refine lv_aload_n hx hb dL_law_200 rfl (lv_at hl 1 rfl) ?_
  refine lv_iload hx hb dL_law_201 (lv_at hl 5 rfl) ?_
  refine lv_iconst (v := nI 5) hx hb dL_law_203 (by decide) ?_
  refine z_iadd hx hb dL_law_204 ?_
  refine z_sld hx hb hXs hbl hbA hS (j := i + 5) (by omega) hL dL_law_205 ?_
  refine lv_aload_n hx hb dL_law_206 rfl (lv_at hl 1 rfl) ?_
  refine lv_iload hx hb dL_law_207 (lv_at hl 5 rfl) ?_
  refine lv_bipush (v := nI 6) hx hb dL_law_209 (by decide) ?_
  refine z_iadd hx hb dL_law_211 ?_
  refine z_sld hx hb hXs hbl hbA hS (j := i + 6) (by omega) hL dL_law_212 ?_
  refine lv_aload_n hx hb dL_law_213 rfl (lv_at hl 1 rfl) ?_
  refine lv_iload hx hb dL_law_214 (lv_at hl 5 rfl) ?_
  refine lv_bipush (v := nI 7) hx hb dL_law_216 (by decide) ?_
  refine z_iadd hx hb dL_law_218 ?_
  refine z_sld hx hb hXs hbl hbA hS (j := i + 7) (by omega) hL dL_law_219 ?_
  refine z_ai (wa := []) (wc := zWm g mo ad th S.1 S.2.2.2.2.2.2.2) (wb := wC) (va_runV (As := [.int (xs (i + 1)), .int (xs (i + 2)), .int (xs (i + 3)), .int (xs (i + 4)), .int (xs (i + 5)), .int (xs (i + 6)), .int (xs (i + 7))]) (rest := []) ⟨hx, hb, hml, hown, hts⟩ (M_add l g mo ad th S (xs (i + 1)) (xs (i + 2)) (xs (i + 3)) (xs (i + 4)) (xs (i + 5)) (xs (i + 6)) (xs (i + 7)) hI H.size _ rfl) (cwV 7 hts gL_law_X2_add rfl rfl rfl (by decide +kernel) ⟨Nat.le_of_ble_eq_true rfl, Nat.le_of_ble_eq_true rfl⟩) (zpreV (wa := []) (wc := zWm g mo ad th S.1 S.2.2.2.2.2.2.2) (wb := wC) (q0 := 0) (ci := 2) (T := TX2) (N := 13) hK hP hD rfl rfl) rfl rfl hl.1 rfl (lv_room (Nat.le_of_ble_eq_true rfl)) dL_law_220 ⟨by omega, by omega⟩) hP hD hS hA (fun q wM H locs hqM hP hD hS => ?_)
  exact L_tail C0 hK (T_add hI hqC hqM) hP hD hS hl kk (by omega) (by omega) hc0 hs0 dL_law_223 dL_law_225 dL_law_226 dL_law_229 dL_law_231 dL_law_236 dL_law_238 dL_law_241 dL_law_242 dL_law_243 dL_law_244 dL_law_246 dL_law_247 dL_law_248 dL_law_253 (by decide)

set_option maxHeartbeats 4000000 in
set_option maxRecDepth 100000 in
theorem L_pass (hst : l.stackTraces = false) (hL : L ≤ 4096) (C0 : lw_At p s m meth c b L xs) (hK : zK g s) (hX : zX (fun q : Nat => s.heap.size ≤ q) s s.heap) (hi : i + 8 ≤ L) (hc0 : cells + 11 ≤ room_1.cells) (hs0 : slots + 301 ≤ room_1.slots) (hI : zI S) (hP : va_P g.1 vwCl (zWm g mo ad th S.1 S.2.2.2.2.2.2.2 ++ zWc g oa ua ar o S) H) (hD : va_D (fun q : Nat => s.heap.size ≤ q) (zWm g mo ad th S.1 S.2.2.2.2.2.2.2 ++ zWc g oa ua ar o S)) (hS : va_S (fun q : Nat => s.heap.size ≤ q) s.heap H locs) (hl : lv_has ls 7 [(0, .ref b), (1, .ref ua), (2, .ref mo), (3, .ref oa), (4, .int (nI i))]) (kk : zNx p l e s m below meth c Q g mo ad oa ua ar b i cells slots) : W p l e room_1 s m #[Value.ref b] below meth c H locs cells slots Q (F0 m 256 ls []) := by
  obtain ⟨hx, hb, hr, hml, hown, hts0, hXs, hbl, hlocks, hgv⟩ := id C0
  have hown : s.vm.findClass RL = some m.cls := hown
  have hts : ∀ w ∈ wsL_law, w.before #[Value.ref b] s = true := fun w h => hts0 w (wsL_law_in w h)
  have hA : ∀ q : Nat, s.heap.size ≤ q → (fun q : Nat => s.heap.size ≤ q) q := fun _ h => h
  have hbA : ¬ (fun q : Nat => s.heap.size ≤ q) b := Nat.not_le.mpr hbl
  refine lv_aload_n hx hb dL_law_256 rfl (lv_at hl 1 rfl) ?_
  refine lv_aload_n hx hb dL_law_257 rfl (lv_at hl 0 rfl) ?_
  refine lv_iload hx hb dL_law_258 (lv_at hl 4 rfl) ?_
  refine lv_iconst (v := nI 1) hx hb dL_law_260 (by decide) ?_
  refine z_iadd hx hb dL_law_261 ?_
  refine z_sld hx hb hXs hbl hbA hS (j := i + 1) (by omega) hL dL_law_262 ?_
  refine lv_aload_n hx hb dL_law_263 rfl (lv_at hl 3 rfl) ?_
  have hP : va_P g.1 vwCl (zWm g mo ad th S.1 S.2.2.2.2.2.2.2 ++ zWc g oa ua ar o S ++ []) H := by rw [List.append_nil]; exact hP
  have hD : va_D (fun q : Nat => s.heap.size ≤ q) (zWm g mo ad th S.1 S.2.2.2.2.2.2.2 ++ zWc g oa ua ar o S ++ []) := by rw [List.append_nil]; exact hD
  refine z_ai (wa := zWm g mo ad th S.1 S.2.2.2.2.2.2.2) (wc := zWc g oa ua ar o S) (wb := []) (vx_runSW (As := [.ref ua, .int (xs (i + 1)), .ref oa]) (rest := []) ⟨hx, hb, hml, hown, hts⟩ (C_pass l hst g oa ua ar o S (xs (i + 1)) hI H.size _ rfl) (vx_cwSW 3 hts gL_law_L_pass rfl rfl rfl (by decide +kernel) ⟨Nat.le_of_ble_eq_true rfl, Nat.le_of_ble_eq_true rfl⟩) (zpreXS (wa := zWm g mo ad th S.1 S.2.2.2.2.2.2.2) (wc := zWc g oa ua ar o S) (wb := []) hK hP hD hS hA hX) rfl rfl hl.1 rfl (lv_room (Nat.le_of_ble_eq_true rfl)) dL_law_264 ⟨by omega, by omega⟩) hP hD hS hA (fun r wC H locs hqC hP hD hS => ?_)
  rw [List.append_nil] at hP hD
  refine lv_istore (lv' := [(5, .int r), (0, .ref b), (1, .ref ua), (2, .ref mo), (3, .ref oa), (4, .int (nI i))]) hx hb dL_law_267 hl (by decide) rfl (fun ls hl => ?_)
  refine lv_aload_n hx hb dL_law_269 rfl (lv_at hl 3 rfl) ?_
  refine lv_aload_n hx hb dL_law_270 rfl (lv_at hl 1 rfl) ?_
  refine lv_iload hx hb dL_law_271 (lv_at hl 5 rfl) ?_
  refine lv_iconst (v := nI 1) hx hb dL_law_273 (by decide) ?_
  refine z_iadd hx hb dL_law_274 ?_
  refine z_sld hx hb hXs hbl hbA hS (j := i + 1) (by omega) hL dL_law_275 ?_
  refine z_ai (wa := []) (wc := zWm g mo ad th S.1 S.2.2.2.2.2.2.2) (wb := wC) (va_runV (As := [.int (xs (i + 1))]) (rest := []) ⟨hx, hb, hml, hown, hts⟩ (M_pass l g mo ad th S (xs (i + 1)) hI H.size _ rfl) (cwV 1 hts gL_law_X2_pass rfl rfl rfl (by decide +kernel) ⟨Nat.le_of_ble_eq_true rfl, Nat.le_of_ble_eq_true rfl⟩) (zpreV (wa := []) (wc := zWm g mo ad th S.1 S.2.2.2.2.2.2.2) (wb := wC) (q0 := 0) (ci := 2) (T := TX2) (N := 13) hK hP hD rfl rfl) rfl rfl hl.1 rfl (lv_room (Nat.le_of_ble_eq_true rfl)) dL_law_276 ⟨by omega, by omega⟩) hP hD hS hA (fun q wM H locs hqM hP hD hS => ?_)
  exact L_tail C0 hK (T_pass hI hqC hqM) hP hD hS hl kk (by omega) (by omega) hc0 hs0 dL_law_279 dL_law_281 dL_law_282 dL_law_285 dL_law_287 dL_law_292 dL_law_294 dL_law_297 dL_law_298 dL_law_299 dL_law_300 dL_law_302 dL_law_303 dL_law_304 dL_law_309 (by decide)

set_option maxHeartbeats 4000000 in
set_option maxRecDepth 100000 in
theorem L_review (hst : l.stackTraces = false) (hL : L ≤ 4096) (C0 : lw_At p s m meth c b L xs) (hK : zK g s) (hX : zX (fun q : Nat => s.heap.size ≤ q) s s.heap) (hi : i + 8 ≤ L) (hc0 : cells + 11 ≤ room_1.cells) (hs0 : slots + 301 ≤ room_1.slots) (hI : zI S) (hP : va_P g.1 vwCl (zWm g mo ad th S.1 S.2.2.2.2.2.2.2 ++ zWc g oa ua ar o S) H) (hD : va_D (fun q : Nat => s.heap.size ≤ q) (zWm g mo ad th S.1 S.2.2.2.2.2.2.2 ++ zWc g oa ua ar o S)) (hS : va_S (fun q : Nat => s.heap.size ≤ q) s.heap H locs) (hl : lv_has ls 7 [(0, .ref b), (1, .ref ua), (2, .ref mo), (3, .ref oa), (4, .int (nI i))]) (kk : zNx p l e s m below meth c Q g mo ad oa ua ar b i cells slots) : W p l e room_1 s m #[Value.ref b] below meth c H locs cells slots Q (F0 m 312 ls []) := by
  obtain ⟨hx, hb, hr, hml, hown, hts0, hXs, hbl, hlocks, hgv⟩ := id C0
  have hown : s.vm.findClass RL = some m.cls := hown
  have hts : ∀ w ∈ wsL_law, w.before #[Value.ref b] s = true := fun w h => hts0 w (wsL_law_in w h)
  have hA : ∀ q : Nat, s.heap.size ≤ q → (fun q : Nat => s.heap.size ≤ q) q := fun _ h => h
  have hbA : ¬ (fun q : Nat => s.heap.size ≤ q) b := Nat.not_le.mpr hbl
  refine lv_aload_n hx hb dL_law_312 rfl (lv_at hl 1 rfl) ?_
  refine lv_aload_n hx hb dL_law_313 rfl (lv_at hl 0 rfl) ?_
  refine lv_iload hx hb dL_law_314 (lv_at hl 4 rfl) ?_
  refine lv_iconst (v := nI 1) hx hb dL_law_316 (by decide) ?_
  refine z_iadd hx hb dL_law_317 ?_
  refine z_sld hx hb hXs hbl hbA hS (j := i + 1) (by omega) hL dL_law_318 ?_
  refine lv_aload_n hx hb dL_law_319 rfl (lv_at hl 0 rfl) ?_
  refine lv_iload hx hb dL_law_320 (lv_at hl 4 rfl) ?_
  refine lv_iconst (v := nI 2) hx hb dL_law_322 (by decide) ?_
  refine z_iadd hx hb dL_law_323 ?_
  refine z_sld hx hb hXs hbl hbA hS (j := i + 2) (by omega) hL dL_law_324 ?_
  refine lv_aload_n hx hb dL_law_325 rfl (lv_at hl 3 rfl) ?_
  have hP : va_P g.1 vwCl (zWm g mo ad th S.1 S.2.2.2.2.2.2.2 ++ zWc g oa ua ar o S ++ []) H := by rw [List.append_nil]; exact hP
  have hD : va_D (fun q : Nat => s.heap.size ≤ q) (zWm g mo ad th S.1 S.2.2.2.2.2.2.2 ++ zWc g oa ua ar o S ++ []) := by rw [List.append_nil]; exact hD
  refine z_ai (wa := zWm g mo ad th S.1 S.2.2.2.2.2.2.2) (wc := zWc g oa ua ar o S) (wb := []) (vx_runSW (As := [.ref ua, .int (xs (i + 1)), .int (xs (i + 2)), .ref oa]) (rest := []) ⟨hx, hb, hml, hown, hts⟩ (C_review l hst g oa ua ar o S (xs (i + 1)) (xs (i + 2)) hI H.size _ rfl) (vx_cwSW 4 hts gL_law_L_review rfl rfl rfl (by decide +kernel) ⟨Nat.le_of_ble_eq_true rfl, Nat.le_of_ble_eq_true rfl⟩) (zpreXS (wa := zWm g mo ad th S.1 S.2.2.2.2.2.2.2) (wc := zWc g oa ua ar o S) (wb := []) hK hP hD hS hA hX) rfl rfl hl.1 rfl (lv_room (Nat.le_of_ble_eq_true rfl)) dL_law_326 ⟨by omega, by omega⟩) hP hD hS hA (fun r wC H locs hqC hP hD hS => ?_)
  rw [List.append_nil] at hP hD
  refine lv_istore (lv' := [(5, .int r), (0, .ref b), (1, .ref ua), (2, .ref mo), (3, .ref oa), (4, .int (nI i))]) hx hb dL_law_329 hl (by decide) rfl (fun ls hl => ?_)
  refine lv_aload_n hx hb dL_law_331 rfl (lv_at hl 3 rfl) ?_
  refine lv_aload_n hx hb dL_law_332 rfl (lv_at hl 1 rfl) ?_
  refine lv_iload hx hb dL_law_333 (lv_at hl 5 rfl) ?_
  refine lv_iconst (v := nI 1) hx hb dL_law_335 (by decide) ?_
  refine z_iadd hx hb dL_law_336 ?_
  refine z_sld hx hb hXs hbl hbA hS (j := i + 1) (by omega) hL dL_law_337 ?_
  refine lv_aload_n hx hb dL_law_338 rfl (lv_at hl 1 rfl) ?_
  refine lv_iload hx hb dL_law_339 (lv_at hl 5 rfl) ?_
  refine lv_iconst (v := nI 2) hx hb dL_law_341 (by decide) ?_
  refine z_iadd hx hb dL_law_342 ?_
  refine z_sld hx hb hXs hbl hbA hS (j := i + 2) (by omega) hL dL_law_343 ?_
  refine z_ai (wa := []) (wc := zWm g mo ad th S.1 S.2.2.2.2.2.2.2) (wb := wC) (va_runV (As := [.int (xs (i + 1)), .int (xs (i + 2))]) (rest := []) ⟨hx, hb, hml, hown, hts⟩ (M_review l g mo ad th S (xs (i + 1)) (xs (i + 2)) hI H.size _ rfl) (cwV 2 hts gL_law_X2_review rfl rfl rfl (by decide +kernel) ⟨Nat.le_of_ble_eq_true rfl, Nat.le_of_ble_eq_true rfl⟩) (zpreV (wa := []) (wc := zWm g mo ad th S.1 S.2.2.2.2.2.2.2) (wb := wC) (q0 := 0) (ci := 2) (T := TX2) (N := 13) hK hP hD rfl rfl) rfl rfl hl.1 rfl (lv_room (Nat.le_of_ble_eq_true rfl)) dL_law_344 ⟨by omega, by omega⟩) hP hD hS hA (fun q wM H locs hqM hP hD hS => ?_)
  exact L_tail C0 hK (z_comb (dt_review (xs (i + 2))) hI hqC hqM) hP hD hS hl kk (by omega) (by omega) hc0 hs0 dL_law_347 dL_law_349 dL_law_350 dL_law_353 dL_law_355 dL_law_360 dL_law_362 dL_law_365 dL_law_366 dL_law_367 dL_law_368 dL_law_370 dL_law_371 dL_law_372 dL_law_377 (by decide)

set_option maxHeartbeats 4000000 in
set_option maxRecDepth 100000 in
theorem L_lengthen (hst : l.stackTraces = false) (hL : L ≤ 4096) (C0 : lw_At p s m meth c b L xs) (hK : zK g s) (hX : zX (fun q : Nat => s.heap.size ≤ q) s s.heap) (hi : i + 8 ≤ L) (hc0 : cells + 11 ≤ room_1.cells) (hs0 : slots + 301 ≤ room_1.slots) (hI : zI S) (hP : va_P g.1 vwCl (zWm g mo ad th S.1 S.2.2.2.2.2.2.2 ++ zWc g oa ua ar o S) H) (hD : va_D (fun q : Nat => s.heap.size ≤ q) (zWm g mo ad th S.1 S.2.2.2.2.2.2.2 ++ zWc g oa ua ar o S)) (hS : va_S (fun q : Nat => s.heap.size ≤ q) s.heap H locs) (hl : lv_has ls 7 [(0, .ref b), (1, .ref ua), (2, .ref mo), (3, .ref oa), (4, .int (nI i))]) (kk : zNx p l e s m below meth c Q g mo ad oa ua ar b i cells slots) : W p l e room_1 s m #[Value.ref b] below meth c H locs cells slots Q (F0 m 380 ls []) := by
  obtain ⟨hx, hb, hr, hml, hown, hts0, hXs, hbl, hlocks, hgv⟩ := id C0
  have hown : s.vm.findClass RL = some m.cls := hown
  have hts : ∀ w ∈ wsL_law, w.before #[Value.ref b] s = true := fun w h => hts0 w (wsL_law_in w h)
  have hA : ∀ q : Nat, s.heap.size ≤ q → (fun q : Nat => s.heap.size ≤ q) q := fun _ h => h
  have hbA : ¬ (fun q : Nat => s.heap.size ≤ q) b := Nat.not_le.mpr hbl
  refine lv_aload_n hx hb dL_law_380 rfl (lv_at hl 1 rfl) ?_
  refine lv_aload_n hx hb dL_law_381 rfl (lv_at hl 0 rfl) ?_
  refine lv_iload hx hb dL_law_382 (lv_at hl 4 rfl) ?_
  refine lv_iconst (v := nI 1) hx hb dL_law_384 (by decide) ?_
  refine z_iadd hx hb dL_law_385 ?_
  refine z_sld hx hb hXs hbl hbA hS (j := i + 1) (by omega) hL dL_law_386 ?_
  refine lv_aload_n hx hb dL_law_387 rfl (lv_at hl 0 rfl) ?_
  refine lv_iload hx hb dL_law_388 (lv_at hl 4 rfl) ?_
  refine lv_iconst (v := nI 2) hx hb dL_law_390 (by decide) ?_
  refine z_iadd hx hb dL_law_391 ?_
  refine z_sld hx hb hXs hbl hbA hS (j := i + 2) (by omega) hL dL_law_392 ?_
  refine lv_aload_n hx hb dL_law_393 rfl (lv_at hl 0 rfl) ?_
  refine lv_iload hx hb dL_law_394 (lv_at hl 4 rfl) ?_
  refine lv_iconst (v := nI 3) hx hb dL_law_396 (by decide) ?_
  refine z_iadd hx hb dL_law_397 ?_
  refine z_sld hx hb hXs hbl hbA hS (j := i + 3) (by omega) hL dL_law_398 ?_
  refine lv_aload_n hx hb dL_law_399 rfl (lv_at hl 3 rfl) ?_
  have hP : va_P g.1 vwCl (zWm g mo ad th S.1 S.2.2.2.2.2.2.2 ++ zWc g oa ua ar o S ++ []) H := by rw [List.append_nil]; exact hP
  have hD : va_D (fun q : Nat => s.heap.size ≤ q) (zWm g mo ad th S.1 S.2.2.2.2.2.2.2 ++ zWc g oa ua ar o S ++ []) := by rw [List.append_nil]; exact hD
  refine z_ai (wa := zWm g mo ad th S.1 S.2.2.2.2.2.2.2) (wc := zWc g oa ua ar o S) (wb := []) (vx_runSW (As := [.ref ua, .int (xs (i + 1)), .int (xs (i + 2)), .int (xs (i + 3)), .ref oa]) (rest := []) ⟨hx, hb, hml, hown, hts⟩ (C_lengthen l hst g oa ua ar o S (xs (i + 1)) (xs (i + 2)) (xs (i + 3)) hI H.size _ rfl) (vx_cwSW 5 hts gL_law_L_lengthen rfl rfl rfl (by decide +kernel) ⟨Nat.le_of_ble_eq_true rfl, Nat.le_of_ble_eq_true rfl⟩) (zpreXS (wa := zWm g mo ad th S.1 S.2.2.2.2.2.2.2) (wc := zWc g oa ua ar o S) (wb := []) hK hP hD hS hA hX) rfl rfl hl.1 rfl (lv_room (Nat.le_of_ble_eq_true rfl)) dL_law_400 ⟨by omega, by omega⟩) hP hD hS hA (fun r wC H locs hqC hP hD hS => ?_)
  rw [List.append_nil] at hP hD
  refine lv_istore (lv' := [(5, .int r), (0, .ref b), (1, .ref ua), (2, .ref mo), (3, .ref oa), (4, .int (nI i))]) hx hb dL_law_403 hl (by decide) rfl (fun ls hl => ?_)
  refine lv_aload_n hx hb dL_law_405 rfl (lv_at hl 3 rfl) ?_
  refine lv_aload_n hx hb dL_law_406 rfl (lv_at hl 1 rfl) ?_
  refine lv_iload hx hb dL_law_407 (lv_at hl 5 rfl) ?_
  refine lv_iconst (v := nI 1) hx hb dL_law_409 (by decide) ?_
  refine z_iadd hx hb dL_law_410 ?_
  refine z_sld hx hb hXs hbl hbA hS (j := i + 1) (by omega) hL dL_law_411 ?_
  refine lv_aload_n hx hb dL_law_412 rfl (lv_at hl 1 rfl) ?_
  refine lv_iload hx hb dL_law_413 (lv_at hl 5 rfl) ?_
  refine lv_iconst (v := nI 2) hx hb dL_law_415 (by decide) ?_
  refine z_iadd hx hb dL_law_416 ?_
  refine z_sld hx hb hXs hbl hbA hS (j := i + 2) (by omega) hL dL_law_417 ?_
  refine lv_aload_n hx hb dL_law_418 rfl (lv_at hl 1 rfl) ?_
  refine lv_iload hx hb dL_law_419 (lv_at hl 5 rfl) ?_
  refine lv_iconst (v := nI 3) hx hb dL_law_421 (by decide) ?_
  refine z_iadd hx hb dL_law_422 ?_
  refine z_sld hx hb hXs hbl hbA hS (j := i + 3) (by omega) hL dL_law_423 ?_
  refine z_ai (wa := []) (wc := zWm g mo ad th S.1 S.2.2.2.2.2.2.2) (wb := wC) (va_runV (As := [.int (xs (i + 1)), .int (xs (i + 2)), .int (xs (i + 3))]) (rest := []) ⟨hx, hb, hml, hown, hts⟩ (M_lengthen l g mo ad th S (xs (i + 1)) (xs (i + 2)) (xs (i + 3)) hI H.size _ rfl) (cwV 3 hts gL_law_X2_lengthen rfl rfl rfl (by decide +kernel) ⟨Nat.le_of_ble_eq_true rfl, Nat.le_of_ble_eq_true rfl⟩) (zpreV (wa := []) (wc := zWm g mo ad th S.1 S.2.2.2.2.2.2.2) (wb := wC) (q0 := 0) (ci := 2) (T := TX2) (N := 13) hK hP hD rfl rfl) rfl rfl hl.1 rfl (lv_room (Nat.le_of_ble_eq_true rfl)) dL_law_424 ⟨by omega, by omega⟩) hP hD hS hA (fun q wM H locs hqM hP hD hS => ?_)
  exact L_tail C0 hK (z_comb (dt_lengthen (xs (i + 2)) (xs (i + 3))) hI hqC hqM) hP hD hS hl kk (by omega) (by omega) hc0 hs0 dL_law_427 dL_law_429 dL_law_430 dL_law_433 dL_law_435 dL_law_440 dL_law_442 dL_law_445 dL_law_446 dL_law_447 dL_law_448 dL_law_450 dL_law_451 dL_law_452 dL_law_457 (by decide)

set_option maxHeartbeats 4000000 in
set_option maxRecDepth 100000 in
theorem L_shorten (hst : l.stackTraces = false) (hL : L ≤ 4096) (C0 : lw_At p s m meth c b L xs) (hK : zK g s) (hX : zX (fun q : Nat => s.heap.size ≤ q) s s.heap) (hi : i + 8 ≤ L) (hc0 : cells + 11 ≤ room_1.cells) (hs0 : slots + 301 ≤ room_1.slots) (hI : zI S) (hP : va_P g.1 vwCl (zWm g mo ad th S.1 S.2.2.2.2.2.2.2 ++ zWc g oa ua ar o S) H) (hD : va_D (fun q : Nat => s.heap.size ≤ q) (zWm g mo ad th S.1 S.2.2.2.2.2.2.2 ++ zWc g oa ua ar o S)) (hS : va_S (fun q : Nat => s.heap.size ≤ q) s.heap H locs) (hl : lv_has ls 7 [(0, .ref b), (1, .ref ua), (2, .ref mo), (3, .ref oa), (4, .int (nI i))]) (kk : zNx p l e s m below meth c Q g mo ad oa ua ar b i cells slots) : W p l e room_1 s m #[Value.ref b] below meth c H locs cells slots Q (F0 m 460 ls []) := by
  obtain ⟨hx, hb, hr, hml, hown, hts0, hXs, hbl, hlocks, hgv⟩ := id C0
  have hown : s.vm.findClass RL = some m.cls := hown
  have hts : ∀ w ∈ wsL_law, w.before #[Value.ref b] s = true := fun w h => hts0 w (wsL_law_in w h)
  have hA : ∀ q : Nat, s.heap.size ≤ q → (fun q : Nat => s.heap.size ≤ q) q := fun _ h => h
  have hbA : ¬ (fun q : Nat => s.heap.size ≤ q) b := Nat.not_le.mpr hbl
  refine lv_aload_n hx hb dL_law_460 rfl (lv_at hl 1 rfl) ?_
  refine lv_aload_n hx hb dL_law_461 rfl (lv_at hl 0 rfl) ?_
  refine lv_iload hx hb dL_law_462 (lv_at hl 4 rfl) ?_
  refine lv_iconst (v := nI 1) hx hb dL_law_464 (by decide) ?_
  refine z_iadd hx hb dL_law_465 ?_
  refine z_sld hx hb hXs hbl hbA hS (j := i + 1) (by omega) hL dL_law_466 ?_
  refine lv_aload_n hx hb dL_law_467 rfl (lv_at hl 0 rfl) ?_
  refine lv_iload hx hb dL_law_468 (lv_at hl 4 rfl) ?_
  refine lv_iconst (v := nI 2) hx hb dL_law_470 (by decide) ?_
  refine z_iadd hx hb dL_law_471 ?_
  refine z_sld hx hb hXs hbl hbA hS (j := i + 2) (by omega) hL dL_law_472 ?_
  refine lv_aload_n hx hb dL_law_473 rfl (lv_at hl 3 rfl) ?_
  have hP : va_P g.1 vwCl (zWm g mo ad th S.1 S.2.2.2.2.2.2.2 ++ zWc g oa ua ar o S ++ []) H := by rw [List.append_nil]; exact hP
  have hD : va_D (fun q : Nat => s.heap.size ≤ q) (zWm g mo ad th S.1 S.2.2.2.2.2.2.2 ++ zWc g oa ua ar o S ++ []) := by rw [List.append_nil]; exact hD
  refine z_ai (wa := zWm g mo ad th S.1 S.2.2.2.2.2.2.2) (wc := zWc g oa ua ar o S) (wb := []) (vx_runSW (As := [.ref ua, .int (xs (i + 1)), .int (xs (i + 2)), .ref oa]) (rest := []) ⟨hx, hb, hml, hown, hts⟩ (C_shorten l hst g oa ua ar o S (xs (i + 1)) (xs (i + 2)) hI H.size _ rfl) (vx_cwSW 4 hts gL_law_L_shorten rfl rfl rfl (by decide +kernel) ⟨Nat.le_of_ble_eq_true rfl, Nat.le_of_ble_eq_true rfl⟩) (zpreXS (wa := zWm g mo ad th S.1 S.2.2.2.2.2.2.2) (wc := zWc g oa ua ar o S) (wb := []) hK hP hD hS hA hX) rfl rfl hl.1 rfl (lv_room (Nat.le_of_ble_eq_true rfl)) dL_law_474 ⟨by omega, by omega⟩) hP hD hS hA (fun r wC H locs hqC hP hD hS => ?_)
  rw [List.append_nil] at hP hD
  refine lv_istore (lv' := [(5, .int r), (0, .ref b), (1, .ref ua), (2, .ref mo), (3, .ref oa), (4, .int (nI i))]) hx hb dL_law_477 hl (by decide) rfl (fun ls hl => ?_)
  refine lv_aload_n hx hb dL_law_479 rfl (lv_at hl 3 rfl) ?_
  refine lv_aload_n hx hb dL_law_480 rfl (lv_at hl 1 rfl) ?_
  refine lv_iload hx hb dL_law_481 (lv_at hl 5 rfl) ?_
  refine lv_iconst (v := nI 1) hx hb dL_law_483 (by decide) ?_
  refine z_iadd hx hb dL_law_484 ?_
  refine z_sld hx hb hXs hbl hbA hS (j := i + 1) (by omega) hL dL_law_485 ?_
  refine lv_aload_n hx hb dL_law_486 rfl (lv_at hl 1 rfl) ?_
  refine lv_iload hx hb dL_law_487 (lv_at hl 5 rfl) ?_
  refine lv_iconst (v := nI 2) hx hb dL_law_489 (by decide) ?_
  refine z_iadd hx hb dL_law_490 ?_
  refine z_sld hx hb hXs hbl hbA hS (j := i + 2) (by omega) hL dL_law_491 ?_
  refine z_ai (wa := []) (wc := zWm g mo ad th S.1 S.2.2.2.2.2.2.2) (wb := wC) (va_runV (As := [.int (xs (i + 1)), .int (xs (i + 2))]) (rest := []) ⟨hx, hb, hml, hown, hts⟩ (M_shorten l g mo ad th S (xs (i + 1)) (xs (i + 2)) hI H.size _ rfl) (cwV 2 hts gL_law_X2_shorten rfl rfl rfl (by decide +kernel) ⟨Nat.le_of_ble_eq_true rfl, Nat.le_of_ble_eq_true rfl⟩) (zpreV (wa := []) (wc := zWm g mo ad th S.1 S.2.2.2.2.2.2.2) (wb := wC) (q0 := 0) (ci := 2) (T := TX2) (N := 13) hK hP hD rfl rfl) rfl rfl hl.1 rfl (lv_room (Nat.le_of_ble_eq_true rfl)) dL_law_492 ⟨by omega, by omega⟩) hP hD hS hA (fun q wM H locs hqM hP hD hS => ?_)
  exact L_tail C0 hK (z_comb (dt_shorten (xs (i + 2))) hI hqC hqM) hP hD hS hl kk (by omega) (by omega) hc0 hs0 dL_law_495 dL_law_497 dL_law_498 dL_law_501 dL_law_503 dL_law_508 dL_law_510 dL_law_513 dL_law_514 dL_law_515 dL_law_516 dL_law_518 dL_law_519 dL_law_520 dL_law_525 (by decide)

set_option maxHeartbeats 4000000 in
set_option maxRecDepth 100000 in
theorem L_cut (hst : l.stackTraces = false) (hL : L ≤ 4096) (C0 : lw_At p s m meth c b L xs) (hK : zK g s) (hX : zX (fun q : Nat => s.heap.size ≤ q) s s.heap) (hi : i + 8 ≤ L) (hc0 : cells + 11 ≤ room_1.cells) (hs0 : slots + 301 ≤ room_1.slots) (hI : zI S) (hP : va_P g.1 vwCl (zWm g mo ad th S.1 S.2.2.2.2.2.2.2 ++ zWc g oa ua ar o S) H) (hD : va_D (fun q : Nat => s.heap.size ≤ q) (zWm g mo ad th S.1 S.2.2.2.2.2.2.2 ++ zWc g oa ua ar o S)) (hS : va_S (fun q : Nat => s.heap.size ≤ q) s.heap H locs) (hl : lv_has ls 7 [(0, .ref b), (1, .ref ua), (2, .ref mo), (3, .ref oa), (4, .int (nI i))]) (kk : zNx p l e s m below meth c Q g mo ad oa ua ar b i cells slots) : W p l e room_1 s m #[Value.ref b] below meth c H locs cells slots Q (F0 m 528 ls []) := by
  obtain ⟨hx, hb, hr, hml, hown, hts0, hXs, hbl, hlocks, hgv⟩ := id C0
  have hown : s.vm.findClass RL = some m.cls := hown
  have hts : ∀ w ∈ wsL_law, w.before #[Value.ref b] s = true := fun w h => hts0 w (wsL_law_in w h)
  have hA : ∀ q : Nat, s.heap.size ≤ q → (fun q : Nat => s.heap.size ≤ q) q := fun _ h => h
  have hbA : ¬ (fun q : Nat => s.heap.size ≤ q) b := Nat.not_le.mpr hbl
  refine lv_aload_n hx hb dL_law_528 rfl (lv_at hl 1 rfl) ?_
  refine lv_aload_n hx hb dL_law_529 rfl (lv_at hl 0 rfl) ?_
  refine lv_iload hx hb dL_law_530 (lv_at hl 4 rfl) ?_
  refine lv_iconst (v := nI 1) hx hb dL_law_532 (by decide) ?_
  refine z_iadd hx hb dL_law_533 ?_
  refine z_sld hx hb hXs hbl hbA hS (j := i + 1) (by omega) hL dL_law_534 ?_
  refine lv_aload_n hx hb dL_law_535 rfl (lv_at hl 0 rfl) ?_
  refine lv_iload hx hb dL_law_536 (lv_at hl 4 rfl) ?_
  refine lv_iconst (v := nI 2) hx hb dL_law_538 (by decide) ?_
  refine z_iadd hx hb dL_law_539 ?_
  refine z_sld hx hb hXs hbl hbA hS (j := i + 2) (by omega) hL dL_law_540 ?_
  refine lv_aload_n hx hb dL_law_541 rfl (lv_at hl 3 rfl) ?_
  have hP : va_P g.1 vwCl (zWm g mo ad th S.1 S.2.2.2.2.2.2.2 ++ zWc g oa ua ar o S ++ []) H := by rw [List.append_nil]; exact hP
  have hD : va_D (fun q : Nat => s.heap.size ≤ q) (zWm g mo ad th S.1 S.2.2.2.2.2.2.2 ++ zWc g oa ua ar o S ++ []) := by rw [List.append_nil]; exact hD
  refine z_ai (wa := zWm g mo ad th S.1 S.2.2.2.2.2.2.2) (wc := zWc g oa ua ar o S) (wb := []) (vx_runSW (As := [.ref ua, .int (xs (i + 1)), .int (xs (i + 2)), .ref oa]) (rest := []) ⟨hx, hb, hml, hown, hts⟩ (C_cut l hst g oa ua ar o S (xs (i + 1)) (xs (i + 2)) hI H.size _ rfl) (vx_cwSW 4 hts gL_law_L_cut rfl rfl rfl (by decide +kernel) ⟨Nat.le_of_ble_eq_true rfl, Nat.le_of_ble_eq_true rfl⟩) (zpreXS (wa := zWm g mo ad th S.1 S.2.2.2.2.2.2.2) (wc := zWc g oa ua ar o S) (wb := []) hK hP hD hS hA hX) rfl rfl hl.1 rfl (lv_room (Nat.le_of_ble_eq_true rfl)) dL_law_542 ⟨by omega, by omega⟩) hP hD hS hA (fun r wC H locs hqC hP hD hS => ?_)
  rw [List.append_nil] at hP hD
  refine lv_istore (lv' := [(5, .int r), (0, .ref b), (1, .ref ua), (2, .ref mo), (3, .ref oa), (4, .int (nI i))]) hx hb dL_law_545 hl (by decide) rfl (fun ls hl => ?_)
  refine lv_aload_n hx hb dL_law_547 rfl (lv_at hl 3 rfl) ?_
  refine lv_aload_n hx hb dL_law_548 rfl (lv_at hl 1 rfl) ?_
  refine lv_iload hx hb dL_law_549 (lv_at hl 5 rfl) ?_
  refine lv_iconst (v := nI 1) hx hb dL_law_551 (by decide) ?_
  refine z_iadd hx hb dL_law_552 ?_
  refine z_sld hx hb hXs hbl hbA hS (j := i + 1) (by omega) hL dL_law_553 ?_
  refine lv_aload_n hx hb dL_law_554 rfl (lv_at hl 1 rfl) ?_
  refine lv_iload hx hb dL_law_555 (lv_at hl 5 rfl) ?_
  refine lv_iconst (v := nI 2) hx hb dL_law_557 (by decide) ?_
  refine z_iadd hx hb dL_law_558 ?_
  refine z_sld hx hb hXs hbl hbA hS (j := i + 2) (by omega) hL dL_law_559 ?_
  refine z_ai (wa := []) (wc := zWm g mo ad th S.1 S.2.2.2.2.2.2.2) (wb := wC) (va_runV (As := [.int (xs (i + 1)), .int (xs (i + 2))]) (rest := []) ⟨hx, hb, hml, hown, hts⟩ (M_cut l g mo ad th S (xs (i + 1)) (xs (i + 2)) hI H.size _ rfl) (cwV 2 hts gL_law_X2_cut rfl rfl rfl (by decide +kernel) ⟨Nat.le_of_ble_eq_true rfl, Nat.le_of_ble_eq_true rfl⟩) (zpreV (wa := []) (wc := zWm g mo ad th S.1 S.2.2.2.2.2.2.2) (wb := wC) (q0 := 0) (ci := 2) (T := TX2) (N := 13) hK hP hD rfl rfl) rfl rfl hl.1 rfl (lv_room (Nat.le_of_ble_eq_true rfl)) dL_law_560 ⟨by omega, by omega⟩) hP hD hS hA (fun q wM H locs hqM hP hD hS => ?_)
  exact L_tail C0 hK (z_comb (dt_cut (xs (i + 2))) hI hqC hqM) hP hD hS hl kk (by omega) (by omega) hc0 hs0 dL_law_563 dL_law_565 dL_law_566 dL_law_569 dL_law_571 dL_law_576 dL_law_578 dL_law_581 dL_law_582 dL_law_583 dL_law_584 dL_law_586 dL_law_587 dL_law_588 dL_law_593 (by decide)
end ZLX
