/-- an index of the call's five numbers is in the script -/
theorem lw_ix {i L : Nat} (h : i + 6 ≤ L) (hL : L ≤ 3072) (j : Nat) (hj : j < 6) : ixok (nI i + nI j) L = true := by
  rw [nI_add]
  exact ixok_of (vp_in_nI (by omega) (by omega))
theorem lw_ix0 {i L : Nat} (h : i + 6 ≤ L) (hL : L ≤ 3072) : ixok (nI i) L = true := ixok_of (vp_in_nI (by omega) (by omega))
theorem z_sld {E : zE} {cc : ByteArray} {nL : Nat} {own : String} {Ts : List Cond} {rm : Room} {t : zTy} {ce sl pc : Nat} {w : va_W} {lv : List (Nat × Value)} {stk : List Value} (C : zC E cc nL own Ts rm t) {b L : Nat} {xs : Nat → Int32} (hX : va_X b L xs (ze_s E) (ze_s E).heap) (hbl : b < (ze_s E).heap.size) (hbA : ¬ ze_A E b) {i : Int32} (hin : ixok i L = true) (hdg : decode cc pc = .ok (.iaload, 1)) (kk : zG E nL ce sl w (pc + 1) lv (.int (xs i.toNatClampNeg) :: stk)) : zG E nL ce sl w pc lv (.int i :: .ref b :: stk) := fun H locs ls hP hD hS hl => va_sld C.ex C.cd hX hbl hbA hS (ixok_in hin) hdg (kk H locs ls hP hD hS hl)
theorem z_slen {E : zE} {cc : ByteArray} {nL : Nat} {own : String} {Ts : List Cond} {rm : Room} {t : zTy} {ce sl pc : Nat} {w : va_W} {lv : List (Nat × Value)} {stk : List Value} (C : zC E cc nL own Ts rm t) {b L : Nat} {xs : Nat → Int32} (hX : va_X b L xs (ze_s E) (ze_s E).heap) (hbl : b < (ze_s E).heap.size) (hbA : ¬ ze_A E b) (hdg : decode cc pc = .ok (.arraylength, 1)) (kk : zG E nL ce sl w (pc + 1) lv (.int (nI L) :: stk)) : zG E nL ce sl w pc lv (.ref b :: stk) := fun H locs ls hP hD hS hl => va_slen C.ex C.cd hX hbl hbA hS hdg (kk H locs ls hP hD hS hl)
/-- the law's world and place -/
abbrev lwG (E : zE) (t : zTy) (a b : Nat → Nat) (scr i : Nat) (x m : ST) (pc : Nat) (stk : List Value) : Prop := zG E 4 78 3328 (CW t a x ++ MW t b m) pc [(0, .ref scr), (1, .ref (a 0)), (2, .ref (b 0)), (3, .int (nI i))] stk
/-- what the cases stand on -/
def lwC (E : zE) (t : zTy) (scr L i : Nat) (xs : Nat → Int32) : Prop := zC E cL_law 4 RL wsL_law room_1 t ∧ va_X scr L xs (ze_s E) (ze_s E).heap ∧ scr < (ze_s E).heap.size ∧ ¬ ze_A E scr ∧ i + 6 ≤ L ∧ L ≤ 3072
set_option maxHeartbeats 4000000 in
set_option maxRecDepth 100000 in
theorem lawc_mirror (E : zE) (t : zTy) (a b : Nat → Nat) (scr L i k : Nat) (xs : Nat → Int32) (x m : ST) (C0 : lwC E t scr L i xs) (op : ∃ (r : Int32) (x' m' : ST), fX11_mirror (xs (nI i + nI 1).toNatClampNeg) (xs (nI i + nI 2).toNatClampNeg) x = some (r, x') ∧ fX12_mirror (xs (nI i + nI 1).toNatClampNeg) (xs (nI i + nI 2).toNatClampNeg) m = some (r, m') ∧ Rel (k + 1) x' m') (K : ∀ x' m' : ST, Rel (k + 1) x' m' → lwG E t a b scr i x' m' 1307 []) : lwG E t a b scr i x m 180 [] := by
  obtain ⟨C, hX, hbl, hbA, hi, hL⟩ := C0
  obtain ⟨r, x', m', h1, h2, h3⟩ := op
  refine z_aload_n C dL_law_180 rfl 1 rfl ?_
  refine z_aload_n C dL_law_181 rfl 0 rfl ?_
  refine z_iload_n C dL_law_182 rfl 3 rfl ?_
  refine z_iconst C dL_law_183 (nI 1) rfl ?_
  refine z_iadd C dL_law_184 ?_
  refine z_sld C hX hbl hbA (lw_ix hi hL 1 (by decide)) dL_law_185 ?_
  refine z_aload_n C dL_law_186 rfl 0 rfl ?_
  refine z_iload_n C dL_law_187 rfl 3 rfl ?_
  refine z_iconst C dL_law_188 (nI 2) rfl ?_
  refine z_iadd C dL_law_189 ?_
  refine z_sld C hX hbl hbA (lw_ix hi hL 2 (by decide)) dL_law_190 ?_
  refine z_callLi C (rest := []) (tX11_mirror (ze_l E) (ze_D E) t a h1) gL_law_X11_mirror rfl hdX11_mirror ⟨(Nat.le_of_ble_eq_true rfl), (Nat.le_of_ble_eq_true rfl)⟩ ⟨(Nat.le_of_ble_eq_true rfl), (Nat.le_of_ble_eq_true rfl)⟩ 0 cw_at_0 rfl rfl rfl (Nat.le_of_ble_eq_true rfl) dL_law_191 ?_
  refine z_aload_n C dL_law_194 rfl 2 rfl ?_
  refine z_aload_n C dL_law_195 rfl 0 rfl ?_
  refine z_iload_n C dL_law_196 rfl 3 rfl ?_
  refine z_iconst C dL_law_197 (nI 1) rfl ?_
  refine z_iadd C dL_law_198 ?_
  refine z_sld C hX hbl hbA (lw_ix hi hL 1 (by decide)) dL_law_199 ?_
  refine z_aload_n C dL_law_200 rfl 0 rfl ?_
  refine z_iload_n C dL_law_201 rfl 3 rfl ?_
  refine z_iconst C dL_law_202 (nI 2) rfl ?_
  refine z_iadd C dL_law_203 ?_
  refine z_sld C hX hbl hbA (lw_ix hi hL 2 (by decide)) dL_law_204 ?_
  refine z_callRi C (rest := [.int r]) (tX12_mirror (ze_l E) (ze_D E) t b h2) gL_law_X12_mirror rfl hdX12_mirror ⟨(Nat.le_of_ble_eq_true rfl), (Nat.le_of_ble_eq_true rfl)⟩ ⟨(Nat.le_of_ble_eq_true rfl), (Nat.le_of_ble_eq_true rfl)⟩ 0 mw_at_0 rfl rfl rfl (Nat.le_of_ble_eq_true rfl) dL_law_205 ?_
  refine z_icmp_eq C 1307 dL_law_208 (by decide) (fun _ => ?_) (fun c => absurd rfl c)
  exact K x' m' h3
set_option maxHeartbeats 4000000 in
set_option maxRecDepth 100000 in
theorem lawc_light (E : zE) (t : zTy) (a b : Nat → Nat) (scr L i k : Nat) (xs : Nat → Int32) (x m : ST) (C0 : lwC E t scr L i xs) (op : ∃ (r : Int32) (x' m' : ST), fX11_light (xs (nI i + nI 1).toNatClampNeg) (xs (nI i + nI 2).toNatClampNeg) (xs (nI i + nI 3).toNatClampNeg) x = some (r, x') ∧ fX12_light (xs (nI i + nI 1).toNatClampNeg) (xs (nI i + nI 2).toNatClampNeg) (xs (nI i + nI 3).toNatClampNeg) m = some (r, m') ∧ Rel (k + 1) x' m') (K : ∀ x' m' : ST, Rel (k + 1) x' m' → lwG E t a b scr i x' m' 1307 []) : lwG E t a b scr i x m 213 [] := by
  obtain ⟨C, hX, hbl, hbA, hi, hL⟩ := C0
  obtain ⟨r, x', m', h1, h2, h3⟩ := op
  refine z_aload_n C dL_law_213 rfl 1 rfl ?_
  refine z_aload_n C dL_law_214 rfl 0 rfl ?_
  refine z_iload_n C dL_law_215 rfl 3 rfl ?_
  refine z_iconst C dL_law_216 (nI 1) rfl ?_
  refine z_iadd C dL_law_217 ?_
  refine z_sld C hX hbl hbA (lw_ix hi hL 1 (by decide)) dL_law_218 ?_
  refine z_aload_n C dL_law_219 rfl 0 rfl ?_
  refine z_iload_n C dL_law_220 rfl 3 rfl ?_
  refine z_iconst C dL_law_221 (nI 2) rfl ?_
  refine z_iadd C dL_law_222 ?_
  refine z_sld C hX hbl hbA (lw_ix hi hL 2 (by decide)) dL_law_223 ?_
  refine z_aload_n C dL_law_224 rfl 0 rfl ?_
  refine z_iload_n C dL_law_225 rfl 3 rfl ?_
  refine z_iconst C dL_law_226 (nI 3) rfl ?_
  refine z_iadd C dL_law_227 ?_
  refine z_sld C hX hbl hbA (lw_ix hi hL 3 (by decide)) dL_law_228 ?_
  refine z_callLi C (rest := []) (tX11_light (ze_l E) (ze_D E) t a h1) gL_law_X11_light rfl hdX11_light ⟨(Nat.le_of_ble_eq_true rfl), (Nat.le_of_ble_eq_true rfl)⟩ ⟨(Nat.le_of_ble_eq_true rfl), (Nat.le_of_ble_eq_true rfl)⟩ 0 cw_at_0 rfl rfl rfl (Nat.le_of_ble_eq_true rfl) dL_law_229 ?_
  refine z_aload_n C dL_law_232 rfl 2 rfl ?_
  refine z_aload_n C dL_law_233 rfl 0 rfl ?_
  refine z_iload_n C dL_law_234 rfl 3 rfl ?_
  refine z_iconst C dL_law_235 (nI 1) rfl ?_
  refine z_iadd C dL_law_236 ?_
  refine z_sld C hX hbl hbA (lw_ix hi hL 1 (by decide)) dL_law_237 ?_
  refine z_aload_n C dL_law_238 rfl 0 rfl ?_
  refine z_iload_n C dL_law_239 rfl 3 rfl ?_
  refine z_iconst C dL_law_240 (nI 2) rfl ?_
  refine z_iadd C dL_law_241 ?_
  refine z_sld C hX hbl hbA (lw_ix hi hL 2 (by decide)) dL_law_242 ?_
  refine z_aload_n C dL_law_243 rfl 0 rfl ?_
  refine z_iload_n C dL_law_244 rfl 3 rfl ?_
  refine z_iconst C dL_law_245 (nI 3) rfl ?_
  refine z_iadd C dL_law_246 ?_
  refine z_sld C hX hbl hbA (lw_ix hi hL 3 (by decide)) dL_law_247 ?_
  refine z_callRi C (rest := [.int r]) (tX12_light (ze_l E) (ze_D E) t b h2) gL_law_X12_light rfl hdX12_light ⟨(Nat.le_of_ble_eq_true rfl), (Nat.le_of_ble_eq_true rfl)⟩ ⟨(Nat.le_of_ble_eq_true rfl), (Nat.le_of_ble_eq_true rfl)⟩ 0 mw_at_0 rfl rfl rfl (Nat.le_of_ble_eq_true rfl) dL_law_248 ?_
  refine z_icmp_eq C 1307 dL_law_251 (by decide) (fun _ => ?_) (fun c => absurd rfl c)
  exact K x' m' h3
set_option maxHeartbeats 4000000 in
set_option maxRecDepth 100000 in
theorem lawc_board (E : zE) (t : zTy) (a b : Nat → Nat) (scr L i k : Nat) (xs : Nat → Int32) (x m : ST) (C0 : lwC E t scr L i xs) (op : ∃ (r : Int32) (x' m' : ST), fX11_board (xs (nI i + nI 1).toNatClampNeg) (xs (nI i + nI 2).toNatClampNeg) (xs (nI i + nI 3).toNatClampNeg) (xs (nI i + nI 4).toNatClampNeg) x = some (r, x') ∧ fX12_board (xs (nI i + nI 1).toNatClampNeg) (xs (nI i + nI 2).toNatClampNeg) (xs (nI i + nI 3).toNatClampNeg) (xs (nI i + nI 4).toNatClampNeg) m = some (r, m') ∧ Rel (k + 1) x' m') (K : ∀ x' m' : ST, Rel (k + 1) x' m' → lwG E t a b scr i x' m' 1307 []) : lwG E t a b scr i x m 256 [] := by
  obtain ⟨C, hX, hbl, hbA, hi, hL⟩ := C0
  obtain ⟨r, x', m', h1, h2, h3⟩ := op
  refine z_aload_n C dL_law_256 rfl 1 rfl ?_
  refine z_aload_n C dL_law_257 rfl 0 rfl ?_
  refine z_iload_n C dL_law_258 rfl 3 rfl ?_
  refine z_iconst C dL_law_259 (nI 1) rfl ?_
  refine z_iadd C dL_law_260 ?_
  refine z_sld C hX hbl hbA (lw_ix hi hL 1 (by decide)) dL_law_261 ?_
  refine z_aload_n C dL_law_262 rfl 0 rfl ?_
  refine z_iload_n C dL_law_263 rfl 3 rfl ?_
  refine z_iconst C dL_law_264 (nI 2) rfl ?_
  refine z_iadd C dL_law_265 ?_
  refine z_sld C hX hbl hbA (lw_ix hi hL 2 (by decide)) dL_law_266 ?_
  refine z_aload_n C dL_law_267 rfl 0 rfl ?_
  refine z_iload_n C dL_law_268 rfl 3 rfl ?_
  refine z_iconst C dL_law_269 (nI 3) rfl ?_
  refine z_iadd C dL_law_270 ?_
  refine z_sld C hX hbl hbA (lw_ix hi hL 3 (by decide)) dL_law_271 ?_
  refine z_aload_n C dL_law_272 rfl 0 rfl ?_
  refine z_iload_n C dL_law_273 rfl 3 rfl ?_
  refine z_iconst C dL_law_274 (nI 4) rfl ?_
  refine z_iadd C dL_law_275 ?_
  refine z_sld C hX hbl hbA (lw_ix hi hL 4 (by decide)) dL_law_276 ?_
  refine z_callLi C (rest := []) (tX11_board (ze_l E) (ze_D E) t a h1) gL_law_X11_board rfl hdX11_board ⟨(Nat.le_of_ble_eq_true rfl), (Nat.le_of_ble_eq_true rfl)⟩ ⟨(Nat.le_of_ble_eq_true rfl), (Nat.le_of_ble_eq_true rfl)⟩ 0 cw_at_0 rfl rfl rfl (Nat.le_of_ble_eq_true rfl) dL_law_277 ?_
  refine z_aload_n C dL_law_280 rfl 2 rfl ?_
  refine z_aload_n C dL_law_281 rfl 0 rfl ?_
  refine z_iload_n C dL_law_282 rfl 3 rfl ?_
  refine z_iconst C dL_law_283 (nI 1) rfl ?_
  refine z_iadd C dL_law_284 ?_
  refine z_sld C hX hbl hbA (lw_ix hi hL 1 (by decide)) dL_law_285 ?_
  refine z_aload_n C dL_law_286 rfl 0 rfl ?_
  refine z_iload_n C dL_law_287 rfl 3 rfl ?_
  refine z_iconst C dL_law_288 (nI 2) rfl ?_
  refine z_iadd C dL_law_289 ?_
  refine z_sld C hX hbl hbA (lw_ix hi hL 2 (by decide)) dL_law_290 ?_
  refine z_aload_n C dL_law_291 rfl 0 rfl ?_
  refine z_iload_n C dL_law_292 rfl 3 rfl ?_
  refine z_iconst C dL_law_293 (nI 3) rfl ?_
  refine z_iadd C dL_law_294 ?_
  refine z_sld C hX hbl hbA (lw_ix hi hL 3 (by decide)) dL_law_295 ?_
  refine z_aload_n C dL_law_296 rfl 0 rfl ?_
  refine z_iload_n C dL_law_297 rfl 3 rfl ?_
  refine z_iconst C dL_law_298 (nI 4) rfl ?_
  refine z_iadd C dL_law_299 ?_
  refine z_sld C hX hbl hbA (lw_ix hi hL 4 (by decide)) dL_law_300 ?_
  refine z_callRi C (rest := [.int r]) (tX12_board (ze_l E) (ze_D E) t b h2) gL_law_X12_board rfl hdX12_board ⟨(Nat.le_of_ble_eq_true rfl), (Nat.le_of_ble_eq_true rfl)⟩ ⟨(Nat.le_of_ble_eq_true rfl), (Nat.le_of_ble_eq_true rfl)⟩ 0 mw_at_0 rfl rfl rfl (Nat.le_of_ble_eq_true rfl) dL_law_301 ?_
  refine z_icmp_eq C 1307 dL_law_304 (by decide) (fun _ => ?_) (fun c => absurd rfl c)
  exact K x' m' h3
set_option maxHeartbeats 4000000 in
set_option maxRecDepth 100000 in
theorem lawc_set (E : zE) (t : zTy) (a b : Nat → Nat) (scr L i k : Nat) (xs : Nat → Int32) (x m : ST) (C0 : lwC E t scr L i xs) (op : ∃ (r : Int32) (x' m' : ST), fX11_set (xs (nI i + nI 1).toNatClampNeg) (xs (nI i + nI 2).toNatClampNeg) x = some (r, x') ∧ fX12_set (xs (nI i + nI 1).toNatClampNeg) (xs (nI i + nI 2).toNatClampNeg) m = some (r, m') ∧ Rel (k + 1) x' m') (K : ∀ x' m' : ST, Rel (k + 1) x' m' → lwG E t a b scr i x' m' 1307 []) : lwG E t a b scr i x m 309 [] := by
  obtain ⟨C, hX, hbl, hbA, hi, hL⟩ := C0
  obtain ⟨r, x', m', h1, h2, h3⟩ := op
  refine z_aload_n C dL_law_309 rfl 1 rfl ?_
  refine z_aload_n C dL_law_310 rfl 0 rfl ?_
  refine z_iload_n C dL_law_311 rfl 3 rfl ?_
  refine z_iconst C dL_law_312 (nI 1) rfl ?_
  refine z_iadd C dL_law_313 ?_
  refine z_sld C hX hbl hbA (lw_ix hi hL 1 (by decide)) dL_law_314 ?_
  refine z_aload_n C dL_law_315 rfl 0 rfl ?_
  refine z_iload_n C dL_law_316 rfl 3 rfl ?_
  refine z_iconst C dL_law_317 (nI 2) rfl ?_
  refine z_iadd C dL_law_318 ?_
  refine z_sld C hX hbl hbA (lw_ix hi hL 2 (by decide)) dL_law_319 ?_
  refine z_callLi C (rest := []) (tX11_set (ze_l E) (ze_D E) t a h1) gL_law_X11_set rfl hdX11_set ⟨(Nat.le_of_ble_eq_true rfl), (Nat.le_of_ble_eq_true rfl)⟩ ⟨(Nat.le_of_ble_eq_true rfl), (Nat.le_of_ble_eq_true rfl)⟩ 0 cw_at_0 rfl rfl rfl (Nat.le_of_ble_eq_true rfl) dL_law_320 ?_
  refine z_aload_n C dL_law_323 rfl 2 rfl ?_
  refine z_aload_n C dL_law_324 rfl 0 rfl ?_
  refine z_iload_n C dL_law_325 rfl 3 rfl ?_
  refine z_iconst C dL_law_326 (nI 1) rfl ?_
  refine z_iadd C dL_law_327 ?_
  refine z_sld C hX hbl hbA (lw_ix hi hL 1 (by decide)) dL_law_328 ?_
  refine z_aload_n C dL_law_329 rfl 0 rfl ?_
  refine z_iload_n C dL_law_330 rfl 3 rfl ?_
  refine z_iconst C dL_law_331 (nI 2) rfl ?_
  refine z_iadd C dL_law_332 ?_
  refine z_sld C hX hbl hbA (lw_ix hi hL 2 (by decide)) dL_law_333 ?_
  refine z_callRi C (rest := [.int r]) (tX12_set (ze_l E) (ze_D E) t b h2) gL_law_X12_set rfl hdX12_set ⟨(Nat.le_of_ble_eq_true rfl), (Nat.le_of_ble_eq_true rfl)⟩ ⟨(Nat.le_of_ble_eq_true rfl), (Nat.le_of_ble_eq_true rfl)⟩ 0 mw_at_0 rfl rfl rfl (Nat.le_of_ble_eq_true rfl) dL_law_334 ?_
  refine z_icmp_eq C 1307 dL_law_337 (by decide) (fun _ => ?_) (fun c => absurd rfl c)
  exact K x' m' h3
set_option maxHeartbeats 4000000 in
set_option maxRecDepth 100000 in
theorem lawc_rest (E : zE) (t : zTy) (a b : Nat → Nat) (scr L i k : Nat) (xs : Nat → Int32) (x m : ST) (C0 : lwC E t scr L i xs) (op : ∃ (r : Int32) (x' m' : ST), fX11_rest (xs (nI i + nI 1).toNatClampNeg) (xs (nI i + nI 2).toNatClampNeg) x = some (r, x') ∧ fX12_rest (xs (nI i + nI 1).toNatClampNeg) (xs (nI i + nI 2).toNatClampNeg) m = some (r, m') ∧ Rel (k + 1) x' m') (K : ∀ x' m' : ST, Rel (k + 1) x' m' → lwG E t a b scr i x' m' 1307 []) : lwG E t a b scr i x m 342 [] := by
  obtain ⟨C, hX, hbl, hbA, hi, hL⟩ := C0
  obtain ⟨r, x', m', h1, h2, h3⟩ := op
  refine z_aload_n C dL_law_342 rfl 1 rfl ?_
  refine z_aload_n C dL_law_343 rfl 0 rfl ?_
  refine z_iload_n C dL_law_344 rfl 3 rfl ?_
  refine z_iconst C dL_law_345 (nI 1) rfl ?_
  refine z_iadd C dL_law_346 ?_
  refine z_sld C hX hbl hbA (lw_ix hi hL 1 (by decide)) dL_law_347 ?_
  refine z_aload_n C dL_law_348 rfl 0 rfl ?_
  refine z_iload_n C dL_law_349 rfl 3 rfl ?_
  refine z_iconst C dL_law_350 (nI 2) rfl ?_
  refine z_iadd C dL_law_351 ?_
  refine z_sld C hX hbl hbA (lw_ix hi hL 2 (by decide)) dL_law_352 ?_
  refine z_callLi C (rest := []) (tX11_rest (ze_l E) (ze_D E) t a h1) gL_law_X11_rest rfl hdX11_rest ⟨(Nat.le_of_ble_eq_true rfl), (Nat.le_of_ble_eq_true rfl)⟩ ⟨(Nat.le_of_ble_eq_true rfl), (Nat.le_of_ble_eq_true rfl)⟩ 0 cw_at_0 rfl rfl rfl (Nat.le_of_ble_eq_true rfl) dL_law_353 ?_
  refine z_aload_n C dL_law_356 rfl 2 rfl ?_
  refine z_aload_n C dL_law_357 rfl 0 rfl ?_
  refine z_iload_n C dL_law_358 rfl 3 rfl ?_
  refine z_iconst C dL_law_359 (nI 1) rfl ?_
  refine z_iadd C dL_law_360 ?_
  refine z_sld C hX hbl hbA (lw_ix hi hL 1 (by decide)) dL_law_361 ?_
  refine z_aload_n C dL_law_362 rfl 0 rfl ?_
  refine z_iload_n C dL_law_363 rfl 3 rfl ?_
  refine z_iconst C dL_law_364 (nI 2) rfl ?_
  refine z_iadd C dL_law_365 ?_
  refine z_sld C hX hbl hbA (lw_ix hi hL 2 (by decide)) dL_law_366 ?_
  refine z_callRi C (rest := [.int r]) (tX12_rest (ze_l E) (ze_D E) t b h2) gL_law_X12_rest rfl hdX12_rest ⟨(Nat.le_of_ble_eq_true rfl), (Nat.le_of_ble_eq_true rfl)⟩ ⟨(Nat.le_of_ble_eq_true rfl), (Nat.le_of_ble_eq_true rfl)⟩ 0 mw_at_0 rfl rfl rfl (Nat.le_of_ble_eq_true rfl) dL_law_367 ?_
  refine z_icmp_eq C 1307 dL_law_370 (by decide) (fun _ => ?_) (fun c => absurd rfl c)
  exact K x' m' h3
set_option maxHeartbeats 4000000 in
set_option maxRecDepth 100000 in
theorem lawc_spot (E : zE) (t : zTy) (a b : Nat → Nat) (scr L i k : Nat) (xs : Nat → Int32) (x m : ST) (C0 : lwC E t scr L i xs) (op : ∃ (r : Int32) (x' m' : ST), fX11_spot (xs (nI i + nI 1).toNatClampNeg) (xs (nI i + nI 2).toNatClampNeg) x = some (r, x') ∧ fX12_spot (xs (nI i + nI 1).toNatClampNeg) (xs (nI i + nI 2).toNatClampNeg) m = some (r, m') ∧ Rel (k + 1) x' m') (K : ∀ x' m' : ST, Rel (k + 1) x' m' → lwG E t a b scr i x' m' 1307 []) : lwG E t a b scr i x m 375 [] := by
  obtain ⟨C, hX, hbl, hbA, hi, hL⟩ := C0
  obtain ⟨r, x', m', h1, h2, h3⟩ := op
  refine z_aload_n C dL_law_375 rfl 1 rfl ?_
  refine z_aload_n C dL_law_376 rfl 0 rfl ?_
  refine z_iload_n C dL_law_377 rfl 3 rfl ?_
  refine z_iconst C dL_law_378 (nI 1) rfl ?_
  refine z_iadd C dL_law_379 ?_
  refine z_sld C hX hbl hbA (lw_ix hi hL 1 (by decide)) dL_law_380 ?_
  refine z_aload_n C dL_law_381 rfl 0 rfl ?_
  refine z_iload_n C dL_law_382 rfl 3 rfl ?_
  refine z_iconst C dL_law_383 (nI 2) rfl ?_
  refine z_iadd C dL_law_384 ?_
  refine z_sld C hX hbl hbA (lw_ix hi hL 2 (by decide)) dL_law_385 ?_
  refine z_callLi C (rest := []) (tX11_spot (ze_l E) (ze_D E) t a h1) gL_law_X11_spot rfl hdX11_spot ⟨(Nat.le_of_ble_eq_true rfl), (Nat.le_of_ble_eq_true rfl)⟩ ⟨(Nat.le_of_ble_eq_true rfl), (Nat.le_of_ble_eq_true rfl)⟩ 0 cw_at_0 rfl rfl rfl (Nat.le_of_ble_eq_true rfl) dL_law_386 ?_
  refine z_aload_n C dL_law_389 rfl 2 rfl ?_
  refine z_aload_n C dL_law_390 rfl 0 rfl ?_
  refine z_iload_n C dL_law_391 rfl 3 rfl ?_
  refine z_iconst C dL_law_392 (nI 1) rfl ?_
  refine z_iadd C dL_law_393 ?_
  refine z_sld C hX hbl hbA (lw_ix hi hL 1 (by decide)) dL_law_394 ?_
  refine z_aload_n C dL_law_395 rfl 0 rfl ?_
  refine z_iload_n C dL_law_396 rfl 3 rfl ?_
  refine z_iconst C dL_law_397 (nI 2) rfl ?_
  refine z_iadd C dL_law_398 ?_
  refine z_sld C hX hbl hbA (lw_ix hi hL 2 (by decide)) dL_law_399 ?_
  refine z_callRi C (rest := [.int r]) (tX12_spot (ze_l E) (ze_D E) t b h2) gL_law_X12_spot rfl hdX12_spot ⟨(Nat.le_of_ble_eq_true rfl), (Nat.le_of_ble_eq_true rfl)⟩ ⟨(Nat.le_of_ble_eq_true rfl), (Nat.le_of_ble_eq_true rfl)⟩ 0 mw_at_0 rfl rfl rfl (Nat.le_of_ble_eq_true rfl) dL_law_400 ?_
  refine z_icmp_eq C 1307 dL_law_403 (by decide) (fun _ => ?_) (fun c => absurd rfl c)
  exact K x' m' h3
set_option maxHeartbeats 4000000 in
set_option maxRecDepth 100000 in
theorem lawc_table (E : zE) (t : zTy) (a b : Nat → Nat) (scr L i k : Nat) (xs : Nat → Int32) (x m : ST) (C0 : lwC E t scr L i xs) (op : ∃ (r : Int32) (x' m' : ST), fX11_table (xs (nI i + nI 1).toNatClampNeg) (xs (nI i + nI 2).toNatClampNeg) (xs (nI i + nI 3).toNatClampNeg) x = some (r, x') ∧ fX12_table (xs (nI i + nI 1).toNatClampNeg) (xs (nI i + nI 2).toNatClampNeg) (xs (nI i + nI 3).toNatClampNeg) m = some (r, m') ∧ Rel (k + 1) x' m') (K : ∀ x' m' : ST, Rel (k + 1) x' m' → lwG E t a b scr i x' m' 1307 []) : lwG E t a b scr i x m 408 [] := by
  obtain ⟨C, hX, hbl, hbA, hi, hL⟩ := C0
  obtain ⟨r, x', m', h1, h2, h3⟩ := op
  refine z_aload_n C dL_law_408 rfl 1 rfl ?_
  refine z_aload_n C dL_law_409 rfl 0 rfl ?_
  refine z_iload_n C dL_law_410 rfl 3 rfl ?_
  refine z_iconst C dL_law_411 (nI 1) rfl ?_
  refine z_iadd C dL_law_412 ?_
  refine z_sld C hX hbl hbA (lw_ix hi hL 1 (by decide)) dL_law_413 ?_
  refine z_aload_n C dL_law_414 rfl 0 rfl ?_
  refine z_iload_n C dL_law_415 rfl 3 rfl ?_
  refine z_iconst C dL_law_416 (nI 2) rfl ?_
  refine z_iadd C dL_law_417 ?_
  refine z_sld C hX hbl hbA (lw_ix hi hL 2 (by decide)) dL_law_418 ?_
  refine z_aload_n C dL_law_419 rfl 0 rfl ?_
  refine z_iload_n C dL_law_420 rfl 3 rfl ?_
  refine z_iconst C dL_law_421 (nI 3) rfl ?_
  refine z_iadd C dL_law_422 ?_
  refine z_sld C hX hbl hbA (lw_ix hi hL 3 (by decide)) dL_law_423 ?_
  refine z_callLi C (rest := []) (tX11_table (ze_l E) (ze_D E) t a h1) gL_law_X11_table rfl hdX11_table ⟨(Nat.le_of_ble_eq_true rfl), (Nat.le_of_ble_eq_true rfl)⟩ ⟨(Nat.le_of_ble_eq_true rfl), (Nat.le_of_ble_eq_true rfl)⟩ 0 cw_at_0 rfl rfl rfl (Nat.le_of_ble_eq_true rfl) dL_law_424 ?_
  refine z_aload_n C dL_law_427 rfl 2 rfl ?_
  refine z_aload_n C dL_law_428 rfl 0 rfl ?_
  refine z_iload_n C dL_law_429 rfl 3 rfl ?_
  refine z_iconst C dL_law_430 (nI 1) rfl ?_
  refine z_iadd C dL_law_431 ?_
  refine z_sld C hX hbl hbA (lw_ix hi hL 1 (by decide)) dL_law_432 ?_
  refine z_aload_n C dL_law_433 rfl 0 rfl ?_
  refine z_iload_n C dL_law_434 rfl 3 rfl ?_
  refine z_iconst C dL_law_435 (nI 2) rfl ?_
  refine z_iadd C dL_law_436 ?_
  refine z_sld C hX hbl hbA (lw_ix hi hL 2 (by decide)) dL_law_437 ?_
  refine z_aload_n C dL_law_438 rfl 0 rfl ?_
  refine z_iload_n C dL_law_439 rfl 3 rfl ?_
  refine z_iconst C dL_law_440 (nI 3) rfl ?_
  refine z_iadd C dL_law_441 ?_
  refine z_sld C hX hbl hbA (lw_ix hi hL 3 (by decide)) dL_law_442 ?_
  refine z_callRi C (rest := [.int r]) (tX12_table (ze_l E) (ze_D E) t b h2) gL_law_X12_table rfl hdX12_table ⟨(Nat.le_of_ble_eq_true rfl), (Nat.le_of_ble_eq_true rfl)⟩ ⟨(Nat.le_of_ble_eq_true rfl), (Nat.le_of_ble_eq_true rfl)⟩ 0 mw_at_0 rfl rfl rfl (Nat.le_of_ble_eq_true rfl) dL_law_443 ?_
  refine z_icmp_eq C 1307 dL_law_446 (by decide) (fun _ => ?_) (fun c => absurd rfl c)
  exact K x' m' h3
set_option maxHeartbeats 4000000 in
set_option maxRecDepth 100000 in
theorem lawc_poke (E : zE) (t : zTy) (a b : Nat → Nat) (scr L i k : Nat) (xs : Nat → Int32) (x m : ST) (C0 : lwC E t scr L i xs) (op : ∃ (r : Int32) (x' m' : ST), fX11_poke (xs (nI i + nI 1).toNatClampNeg) (xs (nI i + nI 2).toNatClampNeg) (xs (nI i + nI 3).toNatClampNeg) (xs (nI i + nI 4).toNatClampNeg) (xs (nI i + nI 5).toNatClampNeg) x = some (r, x') ∧ fX12_poke (xs (nI i + nI 1).toNatClampNeg) (xs (nI i + nI 2).toNatClampNeg) (xs (nI i + nI 3).toNatClampNeg) (xs (nI i + nI 4).toNatClampNeg) (xs (nI i + nI 5).toNatClampNeg) m = some (r, m') ∧ Rel (k + 1) x' m') (K : ∀ x' m' : ST, Rel (k + 1) x' m' → lwG E t a b scr i x' m' 1307 []) : lwG E t a b scr i x m 451 [] := by
  obtain ⟨C, hX, hbl, hbA, hi, hL⟩ := C0
  obtain ⟨r, x', m', h1, h2, h3⟩ := op
  refine z_aload_n C dL_law_451 rfl 1 rfl ?_
  refine z_aload_n C dL_law_452 rfl 0 rfl ?_
  refine z_iload_n C dL_law_453 rfl 3 rfl ?_
  refine z_iconst C dL_law_454 (nI 1) rfl ?_
  refine z_iadd C dL_law_455 ?_
  refine z_sld C hX hbl hbA (lw_ix hi hL 1 (by decide)) dL_law_456 ?_
  refine z_aload_n C dL_law_457 rfl 0 rfl ?_
  refine z_iload_n C dL_law_458 rfl 3 rfl ?_
  refine z_iconst C dL_law_459 (nI 2) rfl ?_
  refine z_iadd C dL_law_460 ?_
  refine z_sld C hX hbl hbA (lw_ix hi hL 2 (by decide)) dL_law_461 ?_
  refine z_aload_n C dL_law_462 rfl 0 rfl ?_
  refine z_iload_n C dL_law_463 rfl 3 rfl ?_
  refine z_iconst C dL_law_464 (nI 3) rfl ?_
  refine z_iadd C dL_law_465 ?_
  refine z_sld C hX hbl hbA (lw_ix hi hL 3 (by decide)) dL_law_466 ?_
  refine z_aload_n C dL_law_467 rfl 0 rfl ?_
  refine z_iload_n C dL_law_468 rfl 3 rfl ?_
  refine z_iconst C dL_law_469 (nI 4) rfl ?_
  refine z_iadd C dL_law_470 ?_
  refine z_sld C hX hbl hbA (lw_ix hi hL 4 (by decide)) dL_law_471 ?_
  refine z_aload_n C dL_law_472 rfl 0 rfl ?_
  refine z_iload_n C dL_law_473 rfl 3 rfl ?_
  refine z_iconst C dL_law_474 (nI 5) rfl ?_
  refine z_iadd C dL_law_475 ?_
  refine z_sld C hX hbl hbA (lw_ix hi hL 5 (by decide)) dL_law_476 ?_
  refine z_callLi C (rest := []) (tX11_poke (ze_l E) (ze_D E) t a h1) gL_law_X11_poke rfl hdX11_poke ⟨(Nat.le_of_ble_eq_true rfl), (Nat.le_of_ble_eq_true rfl)⟩ ⟨(Nat.le_of_ble_eq_true rfl), (Nat.le_of_ble_eq_true rfl)⟩ 0 cw_at_0 rfl rfl rfl (Nat.le_of_ble_eq_true rfl) dL_law_477 ?_
  refine z_aload_n C dL_law_480 rfl 2 rfl ?_
  refine z_aload_n C dL_law_481 rfl 0 rfl ?_
  refine z_iload_n C dL_law_482 rfl 3 rfl ?_
  refine z_iconst C dL_law_483 (nI 1) rfl ?_
  refine z_iadd C dL_law_484 ?_
  refine z_sld C hX hbl hbA (lw_ix hi hL 1 (by decide)) dL_law_485 ?_
  refine z_aload_n C dL_law_486 rfl 0 rfl ?_
  refine z_iload_n C dL_law_487 rfl 3 rfl ?_
  refine z_iconst C dL_law_488 (nI 2) rfl ?_
  refine z_iadd C dL_law_489 ?_
  refine z_sld C hX hbl hbA (lw_ix hi hL 2 (by decide)) dL_law_490 ?_
  refine z_aload_n C dL_law_491 rfl 0 rfl ?_
  refine z_iload_n C dL_law_492 rfl 3 rfl ?_
  refine z_iconst C dL_law_493 (nI 3) rfl ?_
  refine z_iadd C dL_law_494 ?_
  refine z_sld C hX hbl hbA (lw_ix hi hL 3 (by decide)) dL_law_495 ?_
  refine z_aload_n C dL_law_496 rfl 0 rfl ?_
  refine z_iload_n C dL_law_497 rfl 3 rfl ?_
  refine z_iconst C dL_law_498 (nI 4) rfl ?_
  refine z_iadd C dL_law_499 ?_
  refine z_sld C hX hbl hbA (lw_ix hi hL 4 (by decide)) dL_law_500 ?_
  refine z_aload_n C dL_law_501 rfl 0 rfl ?_
  refine z_iload_n C dL_law_502 rfl 3 rfl ?_
  refine z_iconst C dL_law_503 (nI 5) rfl ?_
  refine z_iadd C dL_law_504 ?_
  refine z_sld C hX hbl hbA (lw_ix hi hL 5 (by decide)) dL_law_505 ?_
  refine z_callRi C (rest := [.int r]) (tX12_poke (ze_l E) (ze_D E) t b h2) gL_law_X12_poke rfl hdX12_poke ⟨(Nat.le_of_ble_eq_true rfl), (Nat.le_of_ble_eq_true rfl)⟩ ⟨(Nat.le_of_ble_eq_true rfl), (Nat.le_of_ble_eq_true rfl)⟩ 0 mw_at_0 rfl rfl rfl (Nat.le_of_ble_eq_true rfl) dL_law_506 ?_
  refine z_icmp_eq C 1307 dL_law_509 (by decide) (fun _ => ?_) (fun c => absurd rfl c)
  exact K x' m' h3
set_option maxHeartbeats 4000000 in
set_option maxRecDepth 100000 in
theorem lawc_told (E : zE) (t : zTy) (a b : Nat → Nat) (scr L i k : Nat) (xs : Nat → Int32) (x m : ST) (C0 : lwC E t scr L i xs) (op : ∃ (r : Int32) (x' m' : ST), fX11_told (xs (nI i + nI 1).toNatClampNeg) (xs (nI i + nI 2).toNatClampNeg) (xs (nI i + nI 3).toNatClampNeg) x = some (r, x') ∧ fX12_told (xs (nI i + nI 1).toNatClampNeg) (xs (nI i + nI 2).toNatClampNeg) (xs (nI i + nI 3).toNatClampNeg) m = some (r, m') ∧ Rel (k + 1) x' m') (K : ∀ x' m' : ST, Rel (k + 1) x' m' → lwG E t a b scr i x' m' 1307 []) : lwG E t a b scr i x m 514 [] := by
  obtain ⟨C, hX, hbl, hbA, hi, hL⟩ := C0
  obtain ⟨r, x', m', h1, h2, h3⟩ := op
  refine z_aload_n C dL_law_514 rfl 1 rfl ?_
  refine z_aload_n C dL_law_515 rfl 0 rfl ?_
  refine z_iload_n C dL_law_516 rfl 3 rfl ?_
  refine z_iconst C dL_law_517 (nI 1) rfl ?_
  refine z_iadd C dL_law_518 ?_
  refine z_sld C hX hbl hbA (lw_ix hi hL 1 (by decide)) dL_law_519 ?_
  refine z_aload_n C dL_law_520 rfl 0 rfl ?_
  refine z_iload_n C dL_law_521 rfl 3 rfl ?_
  refine z_iconst C dL_law_522 (nI 2) rfl ?_
  refine z_iadd C dL_law_523 ?_
  refine z_sld C hX hbl hbA (lw_ix hi hL 2 (by decide)) dL_law_524 ?_
  refine z_aload_n C dL_law_525 rfl 0 rfl ?_
  refine z_iload_n C dL_law_526 rfl 3 rfl ?_
  refine z_iconst C dL_law_527 (nI 3) rfl ?_
  refine z_iadd C dL_law_528 ?_
  refine z_sld C hX hbl hbA (lw_ix hi hL 3 (by decide)) dL_law_529 ?_
  refine z_callLi C (rest := []) (tX11_told (ze_l E) (ze_D E) t a h1) gL_law_X11_told rfl hdX11_told ⟨(Nat.le_of_ble_eq_true rfl), (Nat.le_of_ble_eq_true rfl)⟩ ⟨(Nat.le_of_ble_eq_true rfl), (Nat.le_of_ble_eq_true rfl)⟩ 0 cw_at_0 rfl rfl rfl (Nat.le_of_ble_eq_true rfl) dL_law_530 ?_
  refine z_aload_n C dL_law_533 rfl 2 rfl ?_
  refine z_aload_n C dL_law_534 rfl 0 rfl ?_
  refine z_iload_n C dL_law_535 rfl 3 rfl ?_
  refine z_iconst C dL_law_536 (nI 1) rfl ?_
  refine z_iadd C dL_law_537 ?_
  refine z_sld C hX hbl hbA (lw_ix hi hL 1 (by decide)) dL_law_538 ?_
  refine z_aload_n C dL_law_539 rfl 0 rfl ?_
  refine z_iload_n C dL_law_540 rfl 3 rfl ?_
  refine z_iconst C dL_law_541 (nI 2) rfl ?_
  refine z_iadd C dL_law_542 ?_
  refine z_sld C hX hbl hbA (lw_ix hi hL 2 (by decide)) dL_law_543 ?_
  refine z_aload_n C dL_law_544 rfl 0 rfl ?_
  refine z_iload_n C dL_law_545 rfl 3 rfl ?_
  refine z_iconst C dL_law_546 (nI 3) rfl ?_
  refine z_iadd C dL_law_547 ?_
  refine z_sld C hX hbl hbA (lw_ix hi hL 3 (by decide)) dL_law_548 ?_
  refine z_callRi C (rest := [.int r]) (tX12_told (ze_l E) (ze_D E) t b h2) gL_law_X12_told rfl hdX12_told ⟨(Nat.le_of_ble_eq_true rfl), (Nat.le_of_ble_eq_true rfl)⟩ ⟨(Nat.le_of_ble_eq_true rfl), (Nat.le_of_ble_eq_true rfl)⟩ 0 mw_at_0 rfl rfl rfl (Nat.le_of_ble_eq_true rfl) dL_law_549 ?_
  refine z_icmp_eq C 1307 dL_law_552 (by decide) (fun _ => ?_) (fun c => absurd rfl c)
  exact K x' m' h3
set_option maxHeartbeats 4000000 in
set_option maxRecDepth 100000 in
theorem lawc_dead (E : zE) (t : zTy) (a b : Nat → Nat) (scr L i k : Nat) (xs : Nat → Int32) (x m : ST) (C0 : lwC E t scr L i xs) (op : ∃ (r : Int32) (x' m' : ST), fX11_dead (xs (nI i + nI 1).toNatClampNeg) (if (xs (nI i + nI 2).toNatClampNeg) = 0 then 0 else 1) x = some (r, x') ∧ fX12_dead (xs (nI i + nI 1).toNatClampNeg) (if (xs (nI i + nI 2).toNatClampNeg) = 0 then 0 else 1) m = some (r, m') ∧ Rel (k + 1) x' m') (K : ∀ x' m' : ST, Rel (k + 1) x' m' → lwG E t a b scr i x' m' 1307 []) : lwG E t a b scr i x m 557 [] := by
  obtain ⟨C, hX, hbl, hbA, hi, hL⟩ := C0
  obtain ⟨r, x', m', h1, h2, h3⟩ := op
  refine z_aload_n C dL_law_557 rfl 1 rfl ?_
  refine z_aload_n C dL_law_558 rfl 0 rfl ?_
  refine z_iload_n C dL_law_559 rfl 3 rfl ?_
  refine z_iconst C dL_law_560 (nI 1) rfl ?_
  refine z_iadd C dL_law_561 ?_
  refine z_sld C hX hbl hbA (lw_ix hi hL 1 (by decide)) dL_law_562 ?_
  refine z_aload_n C dL_law_563 rfl 0 rfl ?_
  refine z_iload_n C dL_law_564 rfl 3 rfl ?_
  refine z_iconst C dL_law_565 (nI 2) rfl ?_
  refine z_iadd C dL_law_566 ?_
  refine z_sld C hX hbl hbA (lw_ix hi hL 2 (by decide)) dL_law_567 ?_
  have K568 : ∀ zb : Int32, zb = (if (xs (nI i + nI 2).toNatClampNeg) = 0 then 0 else 1) → lwG E t a b scr i x m 576 [.int zb, .int (xs (nI i + nI 1).toNatClampNeg), .ref (a 0)] := by
    intro zb ez
    subst ez
    refine z_callLi C (rest := []) (tX11_dead (ze_l E) (ze_D E) t a h1) gL_law_X11_dead rfl hdX11_dead ⟨(Nat.le_of_ble_eq_true rfl), (Nat.le_of_ble_eq_true rfl)⟩ ⟨(Nat.le_of_ble_eq_true rfl), (Nat.le_of_ble_eq_true rfl)⟩ 0 cw_at_0 rfl rfl rfl (Nat.le_of_ble_eq_true rfl) dL_law_576 ?_
    refine z_aload_n C dL_law_579 rfl 2 rfl ?_
    refine z_aload_n C dL_law_580 rfl 0 rfl ?_
    refine z_iload_n C dL_law_581 rfl 3 rfl ?_
    refine z_iconst C dL_law_582 (nI 1) rfl ?_
    refine z_iadd C dL_law_583 ?_
    refine z_sld C hX hbl hbA (lw_ix hi hL 1 (by decide)) dL_law_584 ?_
    refine z_aload_n C dL_law_585 rfl 0 rfl ?_
    refine z_iload_n C dL_law_586 rfl 3 rfl ?_
    refine z_iconst C dL_law_587 (nI 2) rfl ?_
    refine z_iadd C dL_law_588 ?_
    refine z_sld C hX hbl hbA (lw_ix hi hL 2 (by decide)) dL_law_589 ?_
    have K590 : ∀ zb : Int32, zb = (if (xs (nI i + nI 2).toNatClampNeg) = 0 then 0 else 1) → lwG E t a b scr i x' m 598 [.int zb, .int (xs (nI i + nI 1).toNatClampNeg), .ref (b 0), .int r] := by
      intro zb ez
      subst ez
      refine z_callRi C (rest := [.int r]) (tX12_dead (ze_l E) (ze_D E) t b h2) gL_law_X12_dead rfl hdX12_dead ⟨(Nat.le_of_ble_eq_true rfl), (Nat.le_of_ble_eq_true rfl)⟩ ⟨(Nat.le_of_ble_eq_true rfl), (Nat.le_of_ble_eq_true rfl)⟩ 0 mw_at_0 rfl rfl rfl (Nat.le_of_ble_eq_true rfl) dL_law_598 ?_
      refine z_icmp_eq C 1307 dL_law_601 (by decide) (fun _ => ?_) (fun c => absurd rfl c)
      exact K x' m' h3
    refine z_if_eq C 597 dL_law_590 (by decide) (fun c => ?_) (fun c => ?_)
    · refine z_iconst C dL_law_597 0 rfl ?_
      exact K590 0 (by rw [if_pos c])
    · refine z_iconst C dL_law_593 1 rfl ?_
      refine z_goto C 598 dL_law_594 (by decide) ?_
      exact K590 1 (by rw [if_neg c])
  refine z_if_eq C 575 dL_law_568 (by decide) (fun c => ?_) (fun c => ?_)
  · refine z_iconst C dL_law_575 0 rfl ?_
    exact K568 0 (by rw [if_pos c])
  · refine z_iconst C dL_law_571 1 rfl ?_
    refine z_goto C 576 dL_law_572 (by decide) ?_
    exact K568 1 (by rw [if_neg c])
set_option maxHeartbeats 4000000 in
set_option maxRecDepth 100000 in
theorem lawc_seen (E : zE) (t : zTy) (a b : Nat → Nat) (scr L i k : Nat) (xs : Nat → Int32) (x m : ST) (C0 : lwC E t scr L i xs) (op : ∃ (r : Int32) (x' m' : ST), fX11_seen x = some (r, x') ∧ fX12_seen m = some (r, m') ∧ Rel (k + 1) x' m') (K : ∀ x' m' : ST, Rel (k + 1) x' m' → lwG E t a b scr i x' m' 1307 []) : lwG E t a b scr i x m 606 [] := by
  obtain ⟨C, hX, hbl, hbA, hi, hL⟩ := C0
  obtain ⟨r, x', m', h1, h2, h3⟩ := op
  refine z_aload_n C dL_law_606 rfl 1 rfl ?_
  refine z_callLi C (rest := []) (tX11_seen (ze_l E) (ze_D E) t a h1) gL_law_X11_seen rfl hdX11_seen ⟨(Nat.le_of_ble_eq_true rfl), (Nat.le_of_ble_eq_true rfl)⟩ ⟨(Nat.le_of_ble_eq_true rfl), (Nat.le_of_ble_eq_true rfl)⟩ 0 cw_at_0 rfl rfl rfl (Nat.le_of_ble_eq_true rfl) dL_law_607 ?_
  refine z_aload_n C dL_law_610 rfl 2 rfl ?_
  refine z_callRi C (rest := [.int r]) (tX12_seen (ze_l E) (ze_D E) t b h2) gL_law_X12_seen rfl hdX12_seen ⟨(Nat.le_of_ble_eq_true rfl), (Nat.le_of_ble_eq_true rfl)⟩ ⟨(Nat.le_of_ble_eq_true rfl), (Nat.le_of_ble_eq_true rfl)⟩ 0 mw_at_0 rfl rfl rfl (Nat.le_of_ble_eq_true rfl) dL_law_611 ?_
  refine z_icmp_eq C 1307 dL_law_614 (by decide) (fun _ => ?_) (fun c => absurd rfl c)
  exact K x' m' h3
set_option maxHeartbeats 4000000 in
set_option maxRecDepth 100000 in
theorem lawc_bend (E : zE) (t : zTy) (a b : Nat → Nat) (scr L i k : Nat) (xs : Nat → Int32) (x m : ST) (C0 : lwC E t scr L i xs) (op : ∃ (r : Int64) (x' m' : ST), fX11_bend (xs (nI i + nI 1).toNatClampNeg) (xs (nI i + nI 2).toNatClampNeg) x = some (r, x') ∧ fX12_bend (xs (nI i + nI 1).toNatClampNeg) (xs (nI i + nI 2).toNatClampNeg) m = some (r, m') ∧ Rel (k + 1) x' m') (K : ∀ x' m' : ST, Rel (k + 1) x' m' → lwG E t a b scr i x' m' 1307 []) : lwG E t a b scr i x m 619 [] := by
  obtain ⟨C, hX, hbl, hbA, hi, hL⟩ := C0
  obtain ⟨r, x', m', h1, h2, h3⟩ := op
  refine z_aload_n C dL_law_619 rfl 1 rfl ?_
  refine z_aload_n C dL_law_620 rfl 0 rfl ?_
  refine z_iload_n C dL_law_621 rfl 3 rfl ?_
  refine z_iconst C dL_law_622 (nI 1) rfl ?_
  refine z_iadd C dL_law_623 ?_
  refine z_sld C hX hbl hbA (lw_ix hi hL 1 (by decide)) dL_law_624 ?_
  refine z_aload_n C dL_law_625 rfl 0 rfl ?_
  refine z_iload_n C dL_law_626 rfl 3 rfl ?_
  refine z_iconst C dL_law_627 (nI 2) rfl ?_
  refine z_iadd C dL_law_628 ?_
  refine z_sld C hX hbl hbA (lw_ix hi hL 2 (by decide)) dL_law_629 ?_
  refine z_callLl C (rest := []) (tX11_bend (ze_l E) (ze_D E) t a h1) gL_law_X11_bend rfl hdX11_bend ⟨(Nat.le_of_ble_eq_true rfl), (Nat.le_of_ble_eq_true rfl)⟩ ⟨(Nat.le_of_ble_eq_true rfl), (Nat.le_of_ble_eq_true rfl)⟩ 0 cw_at_0 rfl rfl rfl (Nat.le_of_ble_eq_true rfl) dL_law_630 ?_
  refine z_aload_n C dL_law_633 rfl 2 rfl ?_
  refine z_aload_n C dL_law_634 rfl 0 rfl ?_
  refine z_iload_n C dL_law_635 rfl 3 rfl ?_
  refine z_iconst C dL_law_636 (nI 1) rfl ?_
  refine z_iadd C dL_law_637 ?_
  refine z_sld C hX hbl hbA (lw_ix hi hL 1 (by decide)) dL_law_638 ?_
  refine z_aload_n C dL_law_639 rfl 0 rfl ?_
  refine z_iload_n C dL_law_640 rfl 3 rfl ?_
  refine z_iconst C dL_law_641 (nI 2) rfl ?_
  refine z_iadd C dL_law_642 ?_
  refine z_sld C hX hbl hbA (lw_ix hi hL 2 (by decide)) dL_law_643 ?_
  refine z_callRl C (rest := [.long r]) (tX12_bend (ze_l E) (ze_D E) t b h2) gL_law_X12_bend rfl hdX12_bend ⟨(Nat.le_of_ble_eq_true rfl), (Nat.le_of_ble_eq_true rfl)⟩ ⟨(Nat.le_of_ble_eq_true rfl), (Nat.le_of_ble_eq_true rfl)⟩ 0 mw_at_0 rfl rfl rfl (Nat.le_of_ble_eq_true rfl) dL_law_644 ?_
  refine z_lcmp_eq C 1307 dL_law_647 dL_law_648 (by decide) (fun _ => ?_) (fun c => absurd rfl c)
  exact K x' m' h3
set_option maxHeartbeats 4000000 in
set_option maxRecDepth 100000 in
theorem lawc_whole (E : zE) (t : zTy) (a b : Nat → Nat) (scr L i k : Nat) (xs : Nat → Int32) (x m : ST) (C0 : lwC E t scr L i xs) (op : ∃ (r : Int32) (x' m' : ST), fX11_whole (xs (nI i + nI 1).toNatClampNeg) x = some (r, x') ∧ fX12_whole (xs (nI i + nI 1).toNatClampNeg) m = some (r, m') ∧ Rel (k + 1) x' m') (K : ∀ x' m' : ST, Rel (k + 1) x' m' → lwG E t a b scr i x' m' 1307 []) : lwG E t a b scr i x m 653 [] := by
  obtain ⟨C, hX, hbl, hbA, hi, hL⟩ := C0
  obtain ⟨r, x', m', h1, h2, h3⟩ := op
  refine z_aload_n C dL_law_653 rfl 1 rfl ?_
  refine z_aload_n C dL_law_654 rfl 0 rfl ?_
  refine z_iload_n C dL_law_655 rfl 3 rfl ?_
  refine z_iconst C dL_law_656 (nI 1) rfl ?_
  refine z_iadd C dL_law_657 ?_
  refine z_sld C hX hbl hbA (lw_ix hi hL 1 (by decide)) dL_law_658 ?_
  refine z_callLi C (rest := []) (tX11_whole (ze_l E) (ze_D E) t a h1) gL_law_X11_whole rfl hdX11_whole ⟨(Nat.le_of_ble_eq_true rfl), (Nat.le_of_ble_eq_true rfl)⟩ ⟨(Nat.le_of_ble_eq_true rfl), (Nat.le_of_ble_eq_true rfl)⟩ 0 cw_at_0 rfl rfl rfl (Nat.le_of_ble_eq_true rfl) dL_law_659 ?_
  refine z_aload_n C dL_law_662 rfl 2 rfl ?_
  refine z_aload_n C dL_law_663 rfl 0 rfl ?_
  refine z_iload_n C dL_law_664 rfl 3 rfl ?_
  refine z_iconst C dL_law_665 (nI 1) rfl ?_
  refine z_iadd C dL_law_666 ?_
  refine z_sld C hX hbl hbA (lw_ix hi hL 1 (by decide)) dL_law_667 ?_
  refine z_callRi C (rest := [.int r]) (tX12_whole (ze_l E) (ze_D E) t b h2) gL_law_X12_whole rfl hdX12_whole ⟨(Nat.le_of_ble_eq_true rfl), (Nat.le_of_ble_eq_true rfl)⟩ ⟨(Nat.le_of_ble_eq_true rfl), (Nat.le_of_ble_eq_true rfl)⟩ 0 mw_at_0 rfl rfl rfl (Nat.le_of_ble_eq_true rfl) dL_law_668 ?_
  refine z_icmp_eq C 1307 dL_law_671 (by decide) (fun _ => ?_) (fun c => absurd rfl c)
  exact K x' m' h3
set_option maxHeartbeats 4000000 in
set_option maxRecDepth 100000 in
theorem lawc_nearest (E : zE) (t : zTy) (a b : Nat → Nat) (scr L i k : Nat) (xs : Nat → Int32) (x m : ST) (C0 : lwC E t scr L i xs) (op : ∃ (r : Int32) (x' m' : ST), fX11_nearest (xs (nI i + nI 1).toNatClampNeg) x = some (r, x') ∧ fX12_nearest (xs (nI i + nI 1).toNatClampNeg) m = some (r, m') ∧ Rel (k + 1) x' m') (K : ∀ x' m' : ST, Rel (k + 1) x' m' → lwG E t a b scr i x' m' 1307 []) : lwG E t a b scr i x m 676 [] := by
  obtain ⟨C, hX, hbl, hbA, hi, hL⟩ := C0
  obtain ⟨r, x', m', h1, h2, h3⟩ := op
  refine z_aload_n C dL_law_676 rfl 1 rfl ?_
  refine z_aload_n C dL_law_677 rfl 0 rfl ?_
  refine z_iload_n C dL_law_678 rfl 3 rfl ?_
  refine z_iconst C dL_law_679 (nI 1) rfl ?_
  refine z_iadd C dL_law_680 ?_
  refine z_sld C hX hbl hbA (lw_ix hi hL 1 (by decide)) dL_law_681 ?_
  refine z_callLi C (rest := []) (tX11_nearest (ze_l E) (ze_D E) t a h1) gL_law_X11_nearest rfl hdX11_nearest ⟨(Nat.le_of_ble_eq_true rfl), (Nat.le_of_ble_eq_true rfl)⟩ ⟨(Nat.le_of_ble_eq_true rfl), (Nat.le_of_ble_eq_true rfl)⟩ 0 cw_at_0 rfl rfl rfl (Nat.le_of_ble_eq_true rfl) dL_law_682 ?_
  refine z_aload_n C dL_law_685 rfl 2 rfl ?_
  refine z_aload_n C dL_law_686 rfl 0 rfl ?_
  refine z_iload_n C dL_law_687 rfl 3 rfl ?_
  refine z_iconst C dL_law_688 (nI 1) rfl ?_
  refine z_iadd C dL_law_689 ?_
  refine z_sld C hX hbl hbA (lw_ix hi hL 1 (by decide)) dL_law_690 ?_
  refine z_callRi C (rest := [.int r]) (tX12_nearest (ze_l E) (ze_D E) t b h2) gL_law_X12_nearest rfl hdX12_nearest ⟨(Nat.le_of_ble_eq_true rfl), (Nat.le_of_ble_eq_true rfl)⟩ ⟨(Nat.le_of_ble_eq_true rfl), (Nat.le_of_ble_eq_true rfl)⟩ 0 mw_at_0 rfl rfl rfl (Nat.le_of_ble_eq_true rfl) dL_law_691 ?_
  refine z_icmp_eq C 1307 dL_law_694 (by decide) (fun _ => ?_) (fun c => absurd rfl c)
  exact K x' m' h3
set_option maxHeartbeats 4000000 in
set_option maxRecDepth 100000 in
theorem lawc_off (E : zE) (t : zTy) (a b : Nat → Nat) (scr L i k : Nat) (xs : Nat → Int32) (x m : ST) (C0 : lwC E t scr L i xs) (op : ∃ (r : Int64) (x' m' : ST), fX11_off x = some (r, x') ∧ fX12_off m = some (r, m') ∧ Rel (k + 1) x' m') (K : ∀ x' m' : ST, Rel (k + 1) x' m' → lwG E t a b scr i x' m' 1307 []) : lwG E t a b scr i x m 699 [] := by
  obtain ⟨C, hX, hbl, hbA, hi, hL⟩ := C0
  obtain ⟨r, x', m', h1, h2, h3⟩ := op
  refine z_aload_n C dL_law_699 rfl 1 rfl ?_
  refine z_callLl C (rest := []) (tX11_off (ze_l E) (ze_D E) t a h1) gL_law_X11_off rfl hdX11_off ⟨(Nat.le_of_ble_eq_true rfl), (Nat.le_of_ble_eq_true rfl)⟩ ⟨(Nat.le_of_ble_eq_true rfl), (Nat.le_of_ble_eq_true rfl)⟩ 0 cw_at_0 rfl rfl rfl (Nat.le_of_ble_eq_true rfl) dL_law_700 ?_
  refine z_aload_n C dL_law_703 rfl 2 rfl ?_
  refine z_callRl C (rest := [.long r]) (tX12_off (ze_l E) (ze_D E) t b h2) gL_law_X12_off rfl hdX12_off ⟨(Nat.le_of_ble_eq_true rfl), (Nat.le_of_ble_eq_true rfl)⟩ ⟨(Nat.le_of_ble_eq_true rfl), (Nat.le_of_ble_eq_true rfl)⟩ 0 mw_at_0 rfl rfl rfl (Nat.le_of_ble_eq_true rfl) dL_law_704 ?_
  refine z_lcmp_eq C 1307 dL_law_707 dL_law_708 (by decide) (fun _ => ?_) (fun c => absurd rfl c)
  exact K x' m' h3
set_option maxHeartbeats 4000000 in
set_option maxRecDepth 100000 in
theorem lawc_start (E : zE) (t : zTy) (a b : Nat → Nat) (scr L i k : Nat) (xs : Nat → Int32) (x m : ST) (C0 : lwC E t scr L i xs) (op : ∃ (r : Int32) (x' m' : ST), fX11_start x = some (r, x') ∧ fX12_start m = some (r, m') ∧ Rel (k + 1) x' m') (K : ∀ x' m' : ST, Rel (k + 1) x' m' → lwG E t a b scr i x' m' 1307 []) : lwG E t a b scr i x m 713 [] := by
  obtain ⟨C, hX, hbl, hbA, hi, hL⟩ := C0
  obtain ⟨r, x', m', h1, h2, h3⟩ := op
  refine z_aload_n C dL_law_713 rfl 1 rfl ?_
  refine z_callLi C (rest := []) (tX11_start (ze_l E) (ze_D E) t a h1) gL_law_X11_start rfl hdX11_start ⟨(Nat.le_of_ble_eq_true rfl), (Nat.le_of_ble_eq_true rfl)⟩ ⟨(Nat.le_of_ble_eq_true rfl), (Nat.le_of_ble_eq_true rfl)⟩ 0 cw_at_0 rfl rfl rfl (Nat.le_of_ble_eq_true rfl) dL_law_714 ?_
  refine z_aload_n C dL_law_717 rfl 2 rfl ?_
  refine z_callRi C (rest := [.int r]) (tX12_start (ze_l E) (ze_D E) t b h2) gL_law_X12_start rfl hdX12_start ⟨(Nat.le_of_ble_eq_true rfl), (Nat.le_of_ble_eq_true rfl)⟩ ⟨(Nat.le_of_ble_eq_true rfl), (Nat.le_of_ble_eq_true rfl)⟩ 0 mw_at_0 rfl rfl rfl (Nat.le_of_ble_eq_true rfl) dL_law_718 ?_
  refine z_icmp_eq C 1307 dL_law_721 (by decide) (fun _ => ?_) (fun c => absurd rfl c)
  exact K x' m' h3
set_option maxHeartbeats 4000000 in
set_option maxRecDepth 100000 in
theorem lawc_stop (E : zE) (t : zTy) (a b : Nat → Nat) (scr L i k : Nat) (xs : Nat → Int32) (x m : ST) (C0 : lwC E t scr L i xs) (op : ∃ (r : Int32) (x' m' : ST), fX11_stop x = some (r, x') ∧ fX12_stop m = some (r, m') ∧ Rel (k + 1) x' m') (K : ∀ x' m' : ST, Rel (k + 1) x' m' → lwG E t a b scr i x' m' 1307 []) : lwG E t a b scr i x m 726 [] := by
  obtain ⟨C, hX, hbl, hbA, hi, hL⟩ := C0
  obtain ⟨r, x', m', h1, h2, h3⟩ := op
  refine z_aload_n C dL_law_726 rfl 1 rfl ?_
  refine z_callLi C (rest := []) (tX11_stop (ze_l E) (ze_D E) t a h1) gL_law_X11_stop rfl hdX11_stop ⟨(Nat.le_of_ble_eq_true rfl), (Nat.le_of_ble_eq_true rfl)⟩ ⟨(Nat.le_of_ble_eq_true rfl), (Nat.le_of_ble_eq_true rfl)⟩ 0 cw_at_0 rfl rfl rfl (Nat.le_of_ble_eq_true rfl) dL_law_727 ?_
  refine z_aload_n C dL_law_730 rfl 2 rfl ?_
  refine z_callRi C (rest := [.int r]) (tX12_stop (ze_l E) (ze_D E) t b h2) gL_law_X12_stop rfl hdX12_stop ⟨(Nat.le_of_ble_eq_true rfl), (Nat.le_of_ble_eq_true rfl)⟩ ⟨(Nat.le_of_ble_eq_true rfl), (Nat.le_of_ble_eq_true rfl)⟩ 0 mw_at_0 rfl rfl rfl (Nat.le_of_ble_eq_true rfl) dL_law_731 ?_
  refine z_icmp_eq C 1307 dL_law_734 (by decide) (fun _ => ?_) (fun c => absurd rfl c)
  exact K x' m' h3
set_option maxHeartbeats 4000000 in
set_option maxRecDepth 100000 in
theorem lawc_frames (E : zE) (t : zTy) (a b : Nat → Nat) (scr L i k : Nat) (xs : Nat → Int32) (x m : ST) (C0 : lwC E t scr L i xs) (op : ∃ (r : Int32) (x' m' : ST), fX11_frames (xs (nI i + nI 1).toNatClampNeg) x = some (r, x') ∧ fX12_frames (xs (nI i + nI 1).toNatClampNeg) m = some (r, m') ∧ Rel (k + 1) x' m') (K : ∀ x' m' : ST, Rel (k + 1) x' m' → lwG E t a b scr i x' m' 1307 []) : lwG E t a b scr i x m 739 [] := by
  obtain ⟨C, hX, hbl, hbA, hi, hL⟩ := C0
  obtain ⟨r, x', m', h1, h2, h3⟩ := op
  refine z_aload_n C dL_law_739 rfl 1 rfl ?_
  refine z_aload_n C dL_law_740 rfl 0 rfl ?_
  refine z_iload_n C dL_law_741 rfl 3 rfl ?_
  refine z_iconst C dL_law_742 (nI 1) rfl ?_
  refine z_iadd C dL_law_743 ?_
  refine z_sld C hX hbl hbA (lw_ix hi hL 1 (by decide)) dL_law_744 ?_
  refine z_callLi C (rest := []) (tX11_frames (ze_l E) (ze_D E) t a h1) gL_law_X11_frames rfl hdX11_frames ⟨(Nat.le_of_ble_eq_true rfl), (Nat.le_of_ble_eq_true rfl)⟩ ⟨(Nat.le_of_ble_eq_true rfl), (Nat.le_of_ble_eq_true rfl)⟩ 0 cw_at_0 rfl rfl rfl (Nat.le_of_ble_eq_true rfl) dL_law_745 ?_
  refine z_aload_n C dL_law_748 rfl 2 rfl ?_
  refine z_aload_n C dL_law_749 rfl 0 rfl ?_
  refine z_iload_n C dL_law_750 rfl 3 rfl ?_
  refine z_iconst C dL_law_751 (nI 1) rfl ?_
  refine z_iadd C dL_law_752 ?_
  refine z_sld C hX hbl hbA (lw_ix hi hL 1 (by decide)) dL_law_753 ?_
  refine z_callRi C (rest := [.int r]) (tX12_frames (ze_l E) (ze_D E) t b h2) gL_law_X12_frames rfl hdX12_frames ⟨(Nat.le_of_ble_eq_true rfl), (Nat.le_of_ble_eq_true rfl)⟩ ⟨(Nat.le_of_ble_eq_true rfl), (Nat.le_of_ble_eq_true rfl)⟩ 0 mw_at_0 rfl rfl rfl (Nat.le_of_ble_eq_true rfl) dL_law_754 ?_
  refine z_icmp_eq C 1307 dL_law_757 (by decide) (fun _ => ?_) (fun c => absurd rfl c)
  exact K x' m' h3
set_option maxHeartbeats 4000000 in
set_option maxRecDepth 100000 in
theorem lawc_state (E : zE) (t : zTy) (a b : Nat → Nat) (scr L i k : Nat) (xs : Nat → Int32) (x m : ST) (C0 : lwC E t scr L i xs) (op : ∃ (r : Int32) (x' m' : ST), fX11_state (xs (nI i + nI 1).toNatClampNeg) x = some (r, x') ∧ fX12_state (xs (nI i + nI 1).toNatClampNeg) m = some (r, m') ∧ Rel (k + 1) x' m') (K : ∀ x' m' : ST, Rel (k + 1) x' m' → lwG E t a b scr i x' m' 1307 []) : lwG E t a b scr i x m 762 [] := by
  obtain ⟨C, hX, hbl, hbA, hi, hL⟩ := C0
  obtain ⟨r, x', m', h1, h2, h3⟩ := op
  refine z_aload_n C dL_law_762 rfl 1 rfl ?_
  refine z_aload_n C dL_law_763 rfl 0 rfl ?_
  refine z_iload_n C dL_law_764 rfl 3 rfl ?_
  refine z_iconst C dL_law_765 (nI 1) rfl ?_
  refine z_iadd C dL_law_766 ?_
  refine z_sld C hX hbl hbA (lw_ix hi hL 1 (by decide)) dL_law_767 ?_
  refine z_callLi C (rest := []) (tX11_state (ze_l E) (ze_D E) t a h1) gL_law_X11_state rfl hdX11_state ⟨(Nat.le_of_ble_eq_true rfl), (Nat.le_of_ble_eq_true rfl)⟩ ⟨(Nat.le_of_ble_eq_true rfl), (Nat.le_of_ble_eq_true rfl)⟩ 0 cw_at_0 rfl rfl rfl (Nat.le_of_ble_eq_true rfl) dL_law_768 ?_
  refine z_aload_n C dL_law_771 rfl 2 rfl ?_
  refine z_aload_n C dL_law_772 rfl 0 rfl ?_
  refine z_iload_n C dL_law_773 rfl 3 rfl ?_
  refine z_iconst C dL_law_774 (nI 1) rfl ?_
  refine z_iadd C dL_law_775 ?_
  refine z_sld C hX hbl hbA (lw_ix hi hL 1 (by decide)) dL_law_776 ?_
  refine z_callRi C (rest := [.int r]) (tX12_state (ze_l E) (ze_D E) t b h2) gL_law_X12_state rfl hdX12_state ⟨(Nat.le_of_ble_eq_true rfl), (Nat.le_of_ble_eq_true rfl)⟩ ⟨(Nat.le_of_ble_eq_true rfl), (Nat.le_of_ble_eq_true rfl)⟩ 0 mw_at_0 rfl rfl rfl (Nat.le_of_ble_eq_true rfl) dL_law_777 ?_
  refine z_icmp_eq C 1307 dL_law_780 (by decide) (fun _ => ?_) (fun c => absurd rfl c)
  exact K x' m' h3
set_option maxHeartbeats 4000000 in
set_option maxRecDepth 100000 in
theorem lawc_units (E : zE) (t : zTy) (a b : Nat → Nat) (scr L i k : Nat) (xs : Nat → Int32) (x m : ST) (C0 : lwC E t scr L i xs) (op : ∃ (r : Int32) (x' m' : ST), fX11_units (xs (nI i + nI 1).toNatClampNeg) (xs (nI i + nI 2).toNatClampNeg) x = some (r, x') ∧ fX12_units (xs (nI i + nI 1).toNatClampNeg) (xs (nI i + nI 2).toNatClampNeg) m = some (r, m') ∧ Rel (k + 1) x' m') (K : ∀ x' m' : ST, Rel (k + 1) x' m' → lwG E t a b scr i x' m' 1307 []) : lwG E t a b scr i x m 785 [] := by
  obtain ⟨C, hX, hbl, hbA, hi, hL⟩ := C0
  obtain ⟨r, x', m', h1, h2, h3⟩ := op
  refine z_aload_n C dL_law_785 rfl 1 rfl ?_
  refine z_aload_n C dL_law_786 rfl 0 rfl ?_
  refine z_iload_n C dL_law_787 rfl 3 rfl ?_
  refine z_iconst C dL_law_788 (nI 1) rfl ?_
  refine z_iadd C dL_law_789 ?_
  refine z_sld C hX hbl hbA (lw_ix hi hL 1 (by decide)) dL_law_790 ?_
  refine z_aload_n C dL_law_791 rfl 0 rfl ?_
  refine z_iload_n C dL_law_792 rfl 3 rfl ?_
  refine z_iconst C dL_law_793 (nI 2) rfl ?_
  refine z_iadd C dL_law_794 ?_
  refine z_sld C hX hbl hbA (lw_ix hi hL 2 (by decide)) dL_law_795 ?_
  refine z_callLi C (rest := []) (tX11_units (ze_l E) (ze_D E) t a h1) gL_law_X11_units rfl hdX11_units ⟨(Nat.le_of_ble_eq_true rfl), (Nat.le_of_ble_eq_true rfl)⟩ ⟨(Nat.le_of_ble_eq_true rfl), (Nat.le_of_ble_eq_true rfl)⟩ 0 cw_at_0 rfl rfl rfl (Nat.le_of_ble_eq_true rfl) dL_law_796 ?_
  refine z_aload_n C dL_law_799 rfl 2 rfl ?_
  refine z_aload_n C dL_law_800 rfl 0 rfl ?_
  refine z_iload_n C dL_law_801 rfl 3 rfl ?_
  refine z_iconst C dL_law_802 (nI 1) rfl ?_
  refine z_iadd C dL_law_803 ?_
  refine z_sld C hX hbl hbA (lw_ix hi hL 1 (by decide)) dL_law_804 ?_
  refine z_aload_n C dL_law_805 rfl 0 rfl ?_
  refine z_iload_n C dL_law_806 rfl 3 rfl ?_
  refine z_iconst C dL_law_807 (nI 2) rfl ?_
  refine z_iadd C dL_law_808 ?_
  refine z_sld C hX hbl hbA (lw_ix hi hL 2 (by decide)) dL_law_809 ?_
  refine z_callRi C (rest := [.int r]) (tX12_units (ze_l E) (ze_D E) t b h2) gL_law_X12_units rfl hdX12_units ⟨(Nat.le_of_ble_eq_true rfl), (Nat.le_of_ble_eq_true rfl)⟩ ⟨(Nat.le_of_ble_eq_true rfl), (Nat.le_of_ble_eq_true rfl)⟩ 0 mw_at_0 rfl rfl rfl (Nat.le_of_ble_eq_true rfl) dL_law_810 ?_
  refine z_icmp_eq C 1307 dL_law_813 (by decide) (fun _ => ?_) (fun c => absurd rfl c)
  exact K x' m' h3
set_option maxHeartbeats 4000000 in
set_option maxRecDepth 100000 in
theorem lawc_shed (E : zE) (t : zTy) (a b : Nat → Nat) (scr L i k : Nat) (xs : Nat → Int32) (x m : ST) (C0 : lwC E t scr L i xs) (op : ∃ (r : Int32) (x' m' : ST), fX11_shed x = some (r, x') ∧ fX12_shed m = some (r, m') ∧ Rel (k + 1) x' m') (K : ∀ x' m' : ST, Rel (k + 1) x' m' → lwG E t a b scr i x' m' 1307 []) : lwG E t a b scr i x m 818 [] := by
  obtain ⟨C, hX, hbl, hbA, hi, hL⟩ := C0
  obtain ⟨r, x', m', h1, h2, h3⟩ := op
  refine z_aload_n C dL_law_818 rfl 1 rfl ?_
  refine z_callLi C (rest := []) (tX11_shed (ze_l E) (ze_D E) t a h1) gL_law_X11_shed rfl hdX11_shed ⟨(Nat.le_of_ble_eq_true rfl), (Nat.le_of_ble_eq_true rfl)⟩ ⟨(Nat.le_of_ble_eq_true rfl), (Nat.le_of_ble_eq_true rfl)⟩ 0 cw_at_0 rfl rfl rfl (Nat.le_of_ble_eq_true rfl) dL_law_819 ?_
  refine z_aload_n C dL_law_822 rfl 2 rfl ?_
  refine z_callRi C (rest := [.int r]) (tX12_shed (ze_l E) (ze_D E) t b h2) gL_law_X12_shed rfl hdX12_shed ⟨(Nat.le_of_ble_eq_true rfl), (Nat.le_of_ble_eq_true rfl)⟩ ⟨(Nat.le_of_ble_eq_true rfl), (Nat.le_of_ble_eq_true rfl)⟩ 0 mw_at_0 rfl rfl rfl (Nat.le_of_ble_eq_true rfl) dL_law_823 ?_
  refine z_icmp_eq C 1307 dL_law_826 (by decide) (fun _ => ?_) (fun c => absurd rfl c)
  exact K x' m' h3
set_option maxHeartbeats 4000000 in
set_option maxRecDepth 100000 in
theorem lawc_log (E : zE) (t : zTy) (a b : Nat → Nat) (scr L i k : Nat) (xs : Nat → Int32) (x m : ST) (C0 : lwC E t scr L i xs) (op : ∃ (r : Int32) (x' m' : ST), fX11_log (xs (nI i + nI 1).toNatClampNeg) (xs (nI i + nI 2).toNatClampNeg) x = some (r, x') ∧ fX12_log (xs (nI i + nI 1).toNatClampNeg) (xs (nI i + nI 2).toNatClampNeg) m = some (r, m') ∧ Rel (k + 1) x' m') (K : ∀ x' m' : ST, Rel (k + 1) x' m' → lwG E t a b scr i x' m' 1307 []) : lwG E t a b scr i x m 831 [] := by
  obtain ⟨C, hX, hbl, hbA, hi, hL⟩ := C0
  obtain ⟨r, x', m', h1, h2, h3⟩ := op
  refine z_aload_n C dL_law_831 rfl 1 rfl ?_
  refine z_aload_n C dL_law_832 rfl 0 rfl ?_
  refine z_iload_n C dL_law_833 rfl 3 rfl ?_
  refine z_iconst C dL_law_834 (nI 1) rfl ?_
  refine z_iadd C dL_law_835 ?_
  refine z_sld C hX hbl hbA (lw_ix hi hL 1 (by decide)) dL_law_836 ?_
  refine z_aload_n C dL_law_837 rfl 0 rfl ?_
  refine z_iload_n C dL_law_838 rfl 3 rfl ?_
  refine z_iconst C dL_law_839 (nI 2) rfl ?_
  refine z_iadd C dL_law_840 ?_
  refine z_sld C hX hbl hbA (lw_ix hi hL 2 (by decide)) dL_law_841 ?_
  refine z_callLi C (rest := []) (tX11_log (ze_l E) (ze_D E) t a h1) gL_law_X11_log rfl hdX11_log ⟨(Nat.le_of_ble_eq_true rfl), (Nat.le_of_ble_eq_true rfl)⟩ ⟨(Nat.le_of_ble_eq_true rfl), (Nat.le_of_ble_eq_true rfl)⟩ 0 cw_at_0 rfl rfl rfl (Nat.le_of_ble_eq_true rfl) dL_law_842 ?_
  refine z_aload_n C dL_law_845 rfl 2 rfl ?_
  refine z_aload_n C dL_law_846 rfl 0 rfl ?_
  refine z_iload_n C dL_law_847 rfl 3 rfl ?_
  refine z_iconst C dL_law_848 (nI 1) rfl ?_
  refine z_iadd C dL_law_849 ?_
  refine z_sld C hX hbl hbA (lw_ix hi hL 1 (by decide)) dL_law_850 ?_
  refine z_aload_n C dL_law_851 rfl 0 rfl ?_
  refine z_iload_n C dL_law_852 rfl 3 rfl ?_
  refine z_iconst C dL_law_853 (nI 2) rfl ?_
  refine z_iadd C dL_law_854 ?_
  refine z_sld C hX hbl hbA (lw_ix hi hL 2 (by decide)) dL_law_855 ?_
  refine z_callRi C (rest := [.int r]) (tX12_log (ze_l E) (ze_D E) t b h2) gL_law_X12_log rfl hdX12_log ⟨(Nat.le_of_ble_eq_true rfl), (Nat.le_of_ble_eq_true rfl)⟩ ⟨(Nat.le_of_ble_eq_true rfl), (Nat.le_of_ble_eq_true rfl)⟩ 0 mw_at_0 rfl rfl rfl (Nat.le_of_ble_eq_true rfl) dL_law_856 ?_
  refine z_icmp_eq C 1307 dL_law_859 (by decide) (fun _ => ?_) (fun c => absurd rfl c)
  exact K x' m' h3
set_option maxHeartbeats 4000000 in
set_option maxRecDepth 100000 in
theorem lawc_loop (E : zE) (t : zTy) (a b : Nat → Nat) (scr L i k : Nat) (xs : Nat → Int32) (x m : ST) (C0 : lwC E t scr L i xs) (op : ∃ (r : Int32) (x' m' : ST), fX11_loop (xs (nI i + nI 1).toNatClampNeg) (xs (nI i + nI 2).toNatClampNeg) (xs (nI i + nI 3).toNatClampNeg) (xs (nI i + nI 4).toNatClampNeg) (xs (nI i + nI 5).toNatClampNeg) x = some (r, x') ∧ fX12_loop (xs (nI i + nI 1).toNatClampNeg) (xs (nI i + nI 2).toNatClampNeg) (xs (nI i + nI 3).toNatClampNeg) (xs (nI i + nI 4).toNatClampNeg) (xs (nI i + nI 5).toNatClampNeg) m = some (r, m') ∧ Rel (k + 1) x' m') (K : ∀ x' m' : ST, Rel (k + 1) x' m' → lwG E t a b scr i x' m' 1307 []) : lwG E t a b scr i x m 864 [] := by
  obtain ⟨C, hX, hbl, hbA, hi, hL⟩ := C0
  obtain ⟨r, x', m', h1, h2, h3⟩ := op
  refine z_aload_n C dL_law_864 rfl 1 rfl ?_
  refine z_aload_n C dL_law_865 rfl 0 rfl ?_
  refine z_iload_n C dL_law_866 rfl 3 rfl ?_
  refine z_iconst C dL_law_867 (nI 1) rfl ?_
  refine z_iadd C dL_law_868 ?_
  refine z_sld C hX hbl hbA (lw_ix hi hL 1 (by decide)) dL_law_869 ?_
  refine z_aload_n C dL_law_870 rfl 0 rfl ?_
  refine z_iload_n C dL_law_871 rfl 3 rfl ?_
  refine z_iconst C dL_law_872 (nI 2) rfl ?_
  refine z_iadd C dL_law_873 ?_
  refine z_sld C hX hbl hbA (lw_ix hi hL 2 (by decide)) dL_law_874 ?_
  refine z_aload_n C dL_law_875 rfl 0 rfl ?_
  refine z_iload_n C dL_law_876 rfl 3 rfl ?_
  refine z_iconst C dL_law_877 (nI 3) rfl ?_
  refine z_iadd C dL_law_878 ?_
  refine z_sld C hX hbl hbA (lw_ix hi hL 3 (by decide)) dL_law_879 ?_
  refine z_aload_n C dL_law_880 rfl 0 rfl ?_
  refine z_iload_n C dL_law_881 rfl 3 rfl ?_
  refine z_iconst C dL_law_882 (nI 4) rfl ?_
  refine z_iadd C dL_law_883 ?_
  refine z_sld C hX hbl hbA (lw_ix hi hL 4 (by decide)) dL_law_884 ?_
  refine z_aload_n C dL_law_885 rfl 0 rfl ?_
  refine z_iload_n C dL_law_886 rfl 3 rfl ?_
  refine z_iconst C dL_law_887 (nI 5) rfl ?_
  refine z_iadd C dL_law_888 ?_
  refine z_sld C hX hbl hbA (lw_ix hi hL 5 (by decide)) dL_law_889 ?_
  refine z_callLi C (rest := []) (tX11_loop (ze_l E) (ze_D E) t a h1) gL_law_X11_loop rfl hdX11_loop ⟨(Nat.le_of_ble_eq_true rfl), (Nat.le_of_ble_eq_true rfl)⟩ ⟨(Nat.le_of_ble_eq_true rfl), (Nat.le_of_ble_eq_true rfl)⟩ 0 cw_at_0 rfl rfl rfl (Nat.le_of_ble_eq_true rfl) dL_law_890 ?_
  refine z_aload_n C dL_law_893 rfl 2 rfl ?_
  refine z_aload_n C dL_law_894 rfl 0 rfl ?_
  refine z_iload_n C dL_law_895 rfl 3 rfl ?_
  refine z_iconst C dL_law_896 (nI 1) rfl ?_
  refine z_iadd C dL_law_897 ?_
  refine z_sld C hX hbl hbA (lw_ix hi hL 1 (by decide)) dL_law_898 ?_
  refine z_aload_n C dL_law_899 rfl 0 rfl ?_
  refine z_iload_n C dL_law_900 rfl 3 rfl ?_
  refine z_iconst C dL_law_901 (nI 2) rfl ?_
  refine z_iadd C dL_law_902 ?_
  refine z_sld C hX hbl hbA (lw_ix hi hL 2 (by decide)) dL_law_903 ?_
  refine z_aload_n C dL_law_904 rfl 0 rfl ?_
  refine z_iload_n C dL_law_905 rfl 3 rfl ?_
  refine z_iconst C dL_law_906 (nI 3) rfl ?_
  refine z_iadd C dL_law_907 ?_
  refine z_sld C hX hbl hbA (lw_ix hi hL 3 (by decide)) dL_law_908 ?_
  refine z_aload_n C dL_law_909 rfl 0 rfl ?_
  refine z_iload_n C dL_law_910 rfl 3 rfl ?_
  refine z_iconst C dL_law_911 (nI 4) rfl ?_
  refine z_iadd C dL_law_912 ?_
  refine z_sld C hX hbl hbA (lw_ix hi hL 4 (by decide)) dL_law_913 ?_
  refine z_aload_n C dL_law_914 rfl 0 rfl ?_
  refine z_iload_n C dL_law_915 rfl 3 rfl ?_
  refine z_iconst C dL_law_916 (nI 5) rfl ?_
  refine z_iadd C dL_law_917 ?_
  refine z_sld C hX hbl hbA (lw_ix hi hL 5 (by decide)) dL_law_918 ?_
  refine z_callRi C (rest := [.int r]) (tX12_loop (ze_l E) (ze_D E) t b h2) gL_law_X12_loop rfl hdX12_loop ⟨(Nat.le_of_ble_eq_true rfl), (Nat.le_of_ble_eq_true rfl)⟩ ⟨(Nat.le_of_ble_eq_true rfl), (Nat.le_of_ble_eq_true rfl)⟩ 0 mw_at_0 rfl rfl rfl (Nat.le_of_ble_eq_true rfl) dL_law_919 ?_
  refine z_icmp_eq C 1307 dL_law_922 (by decide) (fun _ => ?_) (fun c => absurd rfl c)
  exact K x' m' h3
set_option maxHeartbeats 4000000 in
set_option maxRecDepth 100000 in
theorem lawc_steady (E : zE) (t : zTy) (a b : Nat → Nat) (scr L i k : Nat) (xs : Nat → Int32) (x m : ST) (C0 : lwC E t scr L i xs) (op : ∃ (r : Int32) (x' m' : ST), fX11_steady (xs (nI i + nI 1).toNatClampNeg) x = some (r, x') ∧ fX12_steady (xs (nI i + nI 1).toNatClampNeg) m = some (r, m') ∧ Rel (k + 1) x' m') (K : ∀ x' m' : ST, Rel (k + 1) x' m' → lwG E t a b scr i x' m' 1307 []) : lwG E t a b scr i x m 927 [] := by
  obtain ⟨C, hX, hbl, hbA, hi, hL⟩ := C0
  obtain ⟨r, x', m', h1, h2, h3⟩ := op
  refine z_aload_n C dL_law_927 rfl 1 rfl ?_
  refine z_aload_n C dL_law_928 rfl 0 rfl ?_
  refine z_iload_n C dL_law_929 rfl 3 rfl ?_
  refine z_iconst C dL_law_930 (nI 1) rfl ?_
  refine z_iadd C dL_law_931 ?_
  refine z_sld C hX hbl hbA (lw_ix hi hL 1 (by decide)) dL_law_932 ?_
  refine z_callLi C (rest := []) (tX11_steady (ze_l E) (ze_D E) t a h1) gL_law_X11_steady rfl hdX11_steady ⟨(Nat.le_of_ble_eq_true rfl), (Nat.le_of_ble_eq_true rfl)⟩ ⟨(Nat.le_of_ble_eq_true rfl), (Nat.le_of_ble_eq_true rfl)⟩ 0 cw_at_0 rfl rfl rfl (Nat.le_of_ble_eq_true rfl) dL_law_933 ?_
  refine z_aload_n C dL_law_936 rfl 2 rfl ?_
  refine z_aload_n C dL_law_937 rfl 0 rfl ?_
  refine z_iload_n C dL_law_938 rfl 3 rfl ?_
  refine z_iconst C dL_law_939 (nI 1) rfl ?_
  refine z_iadd C dL_law_940 ?_
  refine z_sld C hX hbl hbA (lw_ix hi hL 1 (by decide)) dL_law_941 ?_
  refine z_callRi C (rest := [.int r]) (tX12_steady (ze_l E) (ze_D E) t b h2) gL_law_X12_steady rfl hdX12_steady ⟨(Nat.le_of_ble_eq_true rfl), (Nat.le_of_ble_eq_true rfl)⟩ ⟨(Nat.le_of_ble_eq_true rfl), (Nat.le_of_ble_eq_true rfl)⟩ 0 mw_at_0 rfl rfl rfl (Nat.le_of_ble_eq_true rfl) dL_law_942 ?_
  refine z_icmp_eq C 1307 dL_law_945 (by decide) (fun _ => ?_) (fun c => absurd rfl c)
  exact K x' m' h3
set_option maxHeartbeats 4000000 in
set_option maxRecDepth 100000 in
theorem lawc_unsteady (E : zE) (t : zTy) (a b : Nat → Nat) (scr L i k : Nat) (xs : Nat → Int32) (x m : ST) (C0 : lwC E t scr L i xs) (op : ∃ (r : Int32) (x' m' : ST), fX11_unsteady (xs (nI i + nI 1).toNatClampNeg) (xs (nI i + nI 2).toNatClampNeg) x = some (r, x') ∧ fX12_unsteady (xs (nI i + nI 1).toNatClampNeg) (xs (nI i + nI 2).toNatClampNeg) m = some (r, m') ∧ Rel (k + 1) x' m') (K : ∀ x' m' : ST, Rel (k + 1) x' m' → lwG E t a b scr i x' m' 1307 []) : lwG E t a b scr i x m 950 [] := by
  obtain ⟨C, hX, hbl, hbA, hi, hL⟩ := C0
  obtain ⟨r, x', m', h1, h2, h3⟩ := op
  refine z_aload_n C dL_law_950 rfl 1 rfl ?_
  refine z_aload_n C dL_law_951 rfl 0 rfl ?_
  refine z_iload_n C dL_law_952 rfl 3 rfl ?_
  refine z_iconst C dL_law_953 (nI 1) rfl ?_
  refine z_iadd C dL_law_954 ?_
  refine z_sld C hX hbl hbA (lw_ix hi hL 1 (by decide)) dL_law_955 ?_
  refine z_aload_n C dL_law_956 rfl 0 rfl ?_
  refine z_iload_n C dL_law_957 rfl 3 rfl ?_
  refine z_iconst C dL_law_958 (nI 2) rfl ?_
  refine z_iadd C dL_law_959 ?_
  refine z_sld C hX hbl hbA (lw_ix hi hL 2 (by decide)) dL_law_960 ?_
  refine z_callLi C (rest := []) (tX11_unsteady (ze_l E) (ze_D E) t a h1) gL_law_X11_unsteady rfl hdX11_unsteady ⟨(Nat.le_of_ble_eq_true rfl), (Nat.le_of_ble_eq_true rfl)⟩ ⟨(Nat.le_of_ble_eq_true rfl), (Nat.le_of_ble_eq_true rfl)⟩ 0 cw_at_0 rfl rfl rfl (Nat.le_of_ble_eq_true rfl) dL_law_961 ?_
  refine z_aload_n C dL_law_964 rfl 2 rfl ?_
  refine z_aload_n C dL_law_965 rfl 0 rfl ?_
  refine z_iload_n C dL_law_966 rfl 3 rfl ?_
  refine z_iconst C dL_law_967 (nI 1) rfl ?_
  refine z_iadd C dL_law_968 ?_
  refine z_sld C hX hbl hbA (lw_ix hi hL 1 (by decide)) dL_law_969 ?_
  refine z_aload_n C dL_law_970 rfl 0 rfl ?_
  refine z_iload_n C dL_law_971 rfl 3 rfl ?_
  refine z_iconst C dL_law_972 (nI 2) rfl ?_
  refine z_iadd C dL_law_973 ?_
  refine z_sld C hX hbl hbA (lw_ix hi hL 2 (by decide)) dL_law_974 ?_
  refine z_callRi C (rest := [.int r]) (tX12_unsteady (ze_l E) (ze_D E) t b h2) gL_law_X12_unsteady rfl hdX12_unsteady ⟨(Nat.le_of_ble_eq_true rfl), (Nat.le_of_ble_eq_true rfl)⟩ ⟨(Nat.le_of_ble_eq_true rfl), (Nat.le_of_ble_eq_true rfl)⟩ 0 mw_at_0 rfl rfl rfl (Nat.le_of_ble_eq_true rfl) dL_law_975 ?_
  refine z_icmp_eq C 1307 dL_law_978 (by decide) (fun _ => ?_) (fun c => absurd rfl c)
  exact K x' m' h3
set_option maxHeartbeats 4000000 in
set_option maxRecDepth 100000 in
theorem lawc_cell (E : zE) (t : zTy) (a b : Nat → Nat) (scr L i k : Nat) (xs : Nat → Int32) (x m : ST) (C0 : lwC E t scr L i xs) (op : ∃ (r : Int32) (x' m' : ST), fX11_cell (xs (nI i + nI 1).toNatClampNeg) (xs (nI i + nI 2).toNatClampNeg) (xs (nI i + nI 3).toNatClampNeg) x = some (r, x') ∧ fX12_cell (xs (nI i + nI 1).toNatClampNeg) (xs (nI i + nI 2).toNatClampNeg) (xs (nI i + nI 3).toNatClampNeg) m = some (r, m') ∧ Rel (k + 1) x' m') (K : ∀ x' m' : ST, Rel (k + 1) x' m' → lwG E t a b scr i x' m' 1307 []) : lwG E t a b scr i x m 983 [] := by
  obtain ⟨C, hX, hbl, hbA, hi, hL⟩ := C0
  obtain ⟨r, x', m', h1, h2, h3⟩ := op
  refine z_aload_n C dL_law_983 rfl 1 rfl ?_
  refine z_aload_n C dL_law_984 rfl 0 rfl ?_
  refine z_iload_n C dL_law_985 rfl 3 rfl ?_
  refine z_iconst C dL_law_986 (nI 1) rfl ?_
  refine z_iadd C dL_law_987 ?_
  refine z_sld C hX hbl hbA (lw_ix hi hL 1 (by decide)) dL_law_988 ?_
  refine z_aload_n C dL_law_989 rfl 0 rfl ?_
  refine z_iload_n C dL_law_990 rfl 3 rfl ?_
  refine z_iconst C dL_law_991 (nI 2) rfl ?_
  refine z_iadd C dL_law_992 ?_
  refine z_sld C hX hbl hbA (lw_ix hi hL 2 (by decide)) dL_law_993 ?_
  refine z_aload_n C dL_law_994 rfl 0 rfl ?_
  refine z_iload_n C dL_law_995 rfl 3 rfl ?_
  refine z_iconst C dL_law_996 (nI 3) rfl ?_
  refine z_iadd C dL_law_997 ?_
  refine z_sld C hX hbl hbA (lw_ix hi hL 3 (by decide)) dL_law_998 ?_
  refine z_callLi C (rest := []) (tX11_cell (ze_l E) (ze_D E) t a h1) gL_law_X11_cell rfl hdX11_cell ⟨(Nat.le_of_ble_eq_true rfl), (Nat.le_of_ble_eq_true rfl)⟩ ⟨(Nat.le_of_ble_eq_true rfl), (Nat.le_of_ble_eq_true rfl)⟩ 0 cw_at_0 rfl rfl rfl (Nat.le_of_ble_eq_true rfl) dL_law_999 ?_
  refine z_aload_n C dL_law_1002 rfl 2 rfl ?_
  refine z_aload_n C dL_law_1003 rfl 0 rfl ?_
  refine z_iload_n C dL_law_1004 rfl 3 rfl ?_
  refine z_iconst C dL_law_1005 (nI 1) rfl ?_
  refine z_iadd C dL_law_1006 ?_
  refine z_sld C hX hbl hbA (lw_ix hi hL 1 (by decide)) dL_law_1007 ?_
  refine z_aload_n C dL_law_1008 rfl 0 rfl ?_
  refine z_iload_n C dL_law_1009 rfl 3 rfl ?_
  refine z_iconst C dL_law_1010 (nI 2) rfl ?_
  refine z_iadd C dL_law_1011 ?_
  refine z_sld C hX hbl hbA (lw_ix hi hL 2 (by decide)) dL_law_1012 ?_
  refine z_aload_n C dL_law_1013 rfl 0 rfl ?_
  refine z_iload_n C dL_law_1014 rfl 3 rfl ?_
  refine z_iconst C dL_law_1015 (nI 3) rfl ?_
  refine z_iadd C dL_law_1016 ?_
  refine z_sld C hX hbl hbA (lw_ix hi hL 3 (by decide)) dL_law_1017 ?_
  refine z_callRi C (rest := [.int r]) (tX12_cell (ze_l E) (ze_D E) t b h2) gL_law_X12_cell rfl hdX12_cell ⟨(Nat.le_of_ble_eq_true rfl), (Nat.le_of_ble_eq_true rfl)⟩ ⟨(Nat.le_of_ble_eq_true rfl), (Nat.le_of_ble_eq_true rfl)⟩ 0 mw_at_0 rfl rfl rfl (Nat.le_of_ble_eq_true rfl) dL_law_1018 ?_
  refine z_icmp_eq C 1307 dL_law_1021 (by decide) (fun _ => ?_) (fun c => absurd rfl c)
  exact K x' m' h3
set_option maxHeartbeats 4000000 in
set_option maxRecDepth 100000 in
theorem lawc_wind (E : zE) (t : zTy) (a b : Nat → Nat) (scr L i k : Nat) (xs : Nat → Int32) (x m : ST) (C0 : lwC E t scr L i xs) (op : ∃ (r : Int32) (x' m' : ST), fX11_wind (xs (nI i + nI 1).toNatClampNeg) (xs (nI i + nI 2).toNatClampNeg) x = some (r, x') ∧ fX12_wind (xs (nI i + nI 1).toNatClampNeg) (xs (nI i + nI 2).toNatClampNeg) m = some (r, m') ∧ Rel (k + 1) x' m') (K : ∀ x' m' : ST, Rel (k + 1) x' m' → lwG E t a b scr i x' m' 1307 []) : lwG E t a b scr i x m 1026 [] := by
  obtain ⟨C, hX, hbl, hbA, hi, hL⟩ := C0
  obtain ⟨r, x', m', h1, h2, h3⟩ := op
  refine z_aload_n C dL_law_1026 rfl 1 rfl ?_
  refine z_aload_n C dL_law_1027 rfl 0 rfl ?_
  refine z_iload_n C dL_law_1028 rfl 3 rfl ?_
  refine z_iconst C dL_law_1029 (nI 1) rfl ?_
  refine z_iadd C dL_law_1030 ?_
  refine z_sld C hX hbl hbA (lw_ix hi hL 1 (by decide)) dL_law_1031 ?_
  refine z_aload_n C dL_law_1032 rfl 0 rfl ?_
  refine z_iload_n C dL_law_1033 rfl 3 rfl ?_
  refine z_iconst C dL_law_1034 (nI 2) rfl ?_
  refine z_iadd C dL_law_1035 ?_
  refine z_sld C hX hbl hbA (lw_ix hi hL 2 (by decide)) dL_law_1036 ?_
  refine z_callLi C (rest := []) (tX11_wind (ze_l E) (ze_D E) t a h1) gL_law_X11_wind rfl hdX11_wind ⟨(Nat.le_of_ble_eq_true rfl), (Nat.le_of_ble_eq_true rfl)⟩ ⟨(Nat.le_of_ble_eq_true rfl), (Nat.le_of_ble_eq_true rfl)⟩ 0 cw_at_0 rfl rfl rfl (Nat.le_of_ble_eq_true rfl) dL_law_1037 ?_
  refine z_aload_n C dL_law_1040 rfl 2 rfl ?_
  refine z_aload_n C dL_law_1041 rfl 0 rfl ?_
  refine z_iload_n C dL_law_1042 rfl 3 rfl ?_
  refine z_iconst C dL_law_1043 (nI 1) rfl ?_
  refine z_iadd C dL_law_1044 ?_
  refine z_sld C hX hbl hbA (lw_ix hi hL 1 (by decide)) dL_law_1045 ?_
  refine z_aload_n C dL_law_1046 rfl 0 rfl ?_
  refine z_iload_n C dL_law_1047 rfl 3 rfl ?_
  refine z_iconst C dL_law_1048 (nI 2) rfl ?_
  refine z_iadd C dL_law_1049 ?_
  refine z_sld C hX hbl hbA (lw_ix hi hL 2 (by decide)) dL_law_1050 ?_
  refine z_callRi C (rest := [.int r]) (tX12_wind (ze_l E) (ze_D E) t b h2) gL_law_X12_wind rfl hdX12_wind ⟨(Nat.le_of_ble_eq_true rfl), (Nat.le_of_ble_eq_true rfl)⟩ ⟨(Nat.le_of_ble_eq_true rfl), (Nat.le_of_ble_eq_true rfl)⟩ 0 mw_at_0 rfl rfl rfl (Nat.le_of_ble_eq_true rfl) dL_law_1051 ?_
  refine z_icmp_eq C 1307 dL_law_1054 (by decide) (fun _ => ?_) (fun c => absurd rfl c)
  exact K x' m' h3
set_option maxHeartbeats 4000000 in
set_option maxRecDepth 100000 in
theorem lawc_foretell (E : zE) (t : zTy) (a b : Nat → Nat) (scr L i k : Nat) (xs : Nat → Int32) (x m : ST) (C0 : lwC E t scr L i xs) (op : ∃ (r : Int32) (x' m' : ST), fX11_foretell (xs (nI i + nI 1).toNatClampNeg) (xs (nI i + nI 2).toNatClampNeg) x = some (r, x') ∧ fX12_foretell (xs (nI i + nI 1).toNatClampNeg) (xs (nI i + nI 2).toNatClampNeg) m = some (r, m') ∧ Rel (k + 1) x' m') (K : ∀ x' m' : ST, Rel (k + 1) x' m' → lwG E t a b scr i x' m' 1307 []) : lwG E t a b scr i x m 1059 [] := by
  obtain ⟨C, hX, hbl, hbA, hi, hL⟩ := C0
  obtain ⟨r, x', m', h1, h2, h3⟩ := op
  refine z_aload_n C dL_law_1059 rfl 1 rfl ?_
  refine z_aload_n C dL_law_1060 rfl 0 rfl ?_
  refine z_iload_n C dL_law_1061 rfl 3 rfl ?_
  refine z_iconst C dL_law_1062 (nI 1) rfl ?_
  refine z_iadd C dL_law_1063 ?_
  refine z_sld C hX hbl hbA (lw_ix hi hL 1 (by decide)) dL_law_1064 ?_
  refine z_aload_n C dL_law_1065 rfl 0 rfl ?_
  refine z_iload_n C dL_law_1066 rfl 3 rfl ?_
  refine z_iconst C dL_law_1067 (nI 2) rfl ?_
  refine z_iadd C dL_law_1068 ?_
  refine z_sld C hX hbl hbA (lw_ix hi hL 2 (by decide)) dL_law_1069 ?_
  refine z_callLi C (rest := []) (tX11_foretell (ze_l E) (ze_D E) t a h1) gL_law_X11_foretell rfl hdX11_foretell ⟨(Nat.le_of_ble_eq_true rfl), (Nat.le_of_ble_eq_true rfl)⟩ ⟨(Nat.le_of_ble_eq_true rfl), (Nat.le_of_ble_eq_true rfl)⟩ 0 cw_at_0 rfl rfl rfl (Nat.le_of_ble_eq_true rfl) dL_law_1070 ?_
  refine z_aload_n C dL_law_1073 rfl 2 rfl ?_
  refine z_aload_n C dL_law_1074 rfl 0 rfl ?_
  refine z_iload_n C dL_law_1075 rfl 3 rfl ?_
  refine z_iconst C dL_law_1076 (nI 1) rfl ?_
  refine z_iadd C dL_law_1077 ?_
  refine z_sld C hX hbl hbA (lw_ix hi hL 1 (by decide)) dL_law_1078 ?_
  refine z_aload_n C dL_law_1079 rfl 0 rfl ?_
  refine z_iload_n C dL_law_1080 rfl 3 rfl ?_
  refine z_iconst C dL_law_1081 (nI 2) rfl ?_
  refine z_iadd C dL_law_1082 ?_
  refine z_sld C hX hbl hbA (lw_ix hi hL 2 (by decide)) dL_law_1083 ?_
  refine z_callRi C (rest := [.int r]) (tX12_foretell (ze_l E) (ze_D E) t b h2) gL_law_X12_foretell rfl hdX12_foretell ⟨(Nat.le_of_ble_eq_true rfl), (Nat.le_of_ble_eq_true rfl)⟩ ⟨(Nat.le_of_ble_eq_true rfl), (Nat.le_of_ble_eq_true rfl)⟩ 0 mw_at_0 rfl rfl rfl (Nat.le_of_ble_eq_true rfl) dL_law_1084 ?_
  refine z_icmp_eq C 1307 dL_law_1087 (by decide) (fun _ => ?_) (fun c => absurd rfl c)
  exact K x' m' h3
set_option maxHeartbeats 4000000 in
set_option maxRecDepth 100000 in
theorem lawc_guess (E : zE) (t : zTy) (a b : Nat → Nat) (scr L i k : Nat) (xs : Nat → Int32) (x m : ST) (C0 : lwC E t scr L i xs) (op : ∃ (r : Int32) (x' m' : ST), fX11_guess (xs (nI i + nI 1).toNatClampNeg) (xs (nI i + nI 2).toNatClampNeg) (xs (nI i + nI 3).toNatClampNeg) x = some (r, x') ∧ fX12_guess (xs (nI i + nI 1).toNatClampNeg) (xs (nI i + nI 2).toNatClampNeg) (xs (nI i + nI 3).toNatClampNeg) m = some (r, m') ∧ Rel (k + 1) x' m') (K : ∀ x' m' : ST, Rel (k + 1) x' m' → lwG E t a b scr i x' m' 1307 []) : lwG E t a b scr i x m 1092 [] := by
  obtain ⟨C, hX, hbl, hbA, hi, hL⟩ := C0
  obtain ⟨r, x', m', h1, h2, h3⟩ := op
  refine z_aload_n C dL_law_1092 rfl 1 rfl ?_
  refine z_aload_n C dL_law_1093 rfl 0 rfl ?_
  refine z_iload_n C dL_law_1094 rfl 3 rfl ?_
  refine z_iconst C dL_law_1095 (nI 1) rfl ?_
  refine z_iadd C dL_law_1096 ?_
  refine z_sld C hX hbl hbA (lw_ix hi hL 1 (by decide)) dL_law_1097 ?_
  refine z_aload_n C dL_law_1098 rfl 0 rfl ?_
  refine z_iload_n C dL_law_1099 rfl 3 rfl ?_
  refine z_iconst C dL_law_1100 (nI 2) rfl ?_
  refine z_iadd C dL_law_1101 ?_
  refine z_sld C hX hbl hbA (lw_ix hi hL 2 (by decide)) dL_law_1102 ?_
  refine z_aload_n C dL_law_1103 rfl 0 rfl ?_
  refine z_iload_n C dL_law_1104 rfl 3 rfl ?_
  refine z_iconst C dL_law_1105 (nI 3) rfl ?_
  refine z_iadd C dL_law_1106 ?_
  refine z_sld C hX hbl hbA (lw_ix hi hL 3 (by decide)) dL_law_1107 ?_
  refine z_callLi C (rest := []) (tX11_guess (ze_l E) (ze_D E) t a h1) gL_law_X11_guess rfl hdX11_guess ⟨(Nat.le_of_ble_eq_true rfl), (Nat.le_of_ble_eq_true rfl)⟩ ⟨(Nat.le_of_ble_eq_true rfl), (Nat.le_of_ble_eq_true rfl)⟩ 0 cw_at_0 rfl rfl rfl (Nat.le_of_ble_eq_true rfl) dL_law_1108 ?_
  refine z_aload_n C dL_law_1111 rfl 2 rfl ?_
  refine z_aload_n C dL_law_1112 rfl 0 rfl ?_
  refine z_iload_n C dL_law_1113 rfl 3 rfl ?_
  refine z_iconst C dL_law_1114 (nI 1) rfl ?_
  refine z_iadd C dL_law_1115 ?_
  refine z_sld C hX hbl hbA (lw_ix hi hL 1 (by decide)) dL_law_1116 ?_
  refine z_aload_n C dL_law_1117 rfl 0 rfl ?_
  refine z_iload_n C dL_law_1118 rfl 3 rfl ?_
  refine z_iconst C dL_law_1119 (nI 2) rfl ?_
  refine z_iadd C dL_law_1120 ?_
  refine z_sld C hX hbl hbA (lw_ix hi hL 2 (by decide)) dL_law_1121 ?_
  refine z_aload_n C dL_law_1122 rfl 0 rfl ?_
  refine z_iload_n C dL_law_1123 rfl 3 rfl ?_
  refine z_iconst C dL_law_1124 (nI 3) rfl ?_
  refine z_iadd C dL_law_1125 ?_
  refine z_sld C hX hbl hbA (lw_ix hi hL 3 (by decide)) dL_law_1126 ?_
  refine z_callRi C (rest := [.int r]) (tX12_guess (ze_l E) (ze_D E) t b h2) gL_law_X12_guess rfl hdX12_guess ⟨(Nat.le_of_ble_eq_true rfl), (Nat.le_of_ble_eq_true rfl)⟩ ⟨(Nat.le_of_ble_eq_true rfl), (Nat.le_of_ble_eq_true rfl)⟩ 0 mw_at_0 rfl rfl rfl (Nat.le_of_ble_eq_true rfl) dL_law_1127 ?_
  refine z_icmp_eq C 1307 dL_law_1130 (by decide) (fun _ => ?_) (fun c => absurd rfl c)
  exact K x' m' h3
set_option maxHeartbeats 4000000 in
set_option maxRecDepth 100000 in
theorem lawc_sheet (E : zE) (t : zTy) (a b : Nat → Nat) (scr L i k : Nat) (xs : Nat → Int32) (x m : ST) (C0 : lwC E t scr L i xs) (op : ∃ (r : Int32) (x' m' : ST), fX11_sheet (xs (nI i + nI 1).toNatClampNeg) (xs (nI i + nI 2).toNatClampNeg) (xs (nI i + nI 3).toNatClampNeg) x = some (r, x') ∧ fX12_sheet (xs (nI i + nI 1).toNatClampNeg) (xs (nI i + nI 2).toNatClampNeg) (xs (nI i + nI 3).toNatClampNeg) m = some (r, m') ∧ Rel (k + 1) x' m') (K : ∀ x' m' : ST, Rel (k + 1) x' m' → lwG E t a b scr i x' m' 1307 []) : lwG E t a b scr i x m 1135 [] := by
  obtain ⟨C, hX, hbl, hbA, hi, hL⟩ := C0
  obtain ⟨r, x', m', h1, h2, h3⟩ := op
  refine z_aload_n C dL_law_1135 rfl 1 rfl ?_
  refine z_aload_n C dL_law_1136 rfl 0 rfl ?_
  refine z_iload_n C dL_law_1137 rfl 3 rfl ?_
  refine z_iconst C dL_law_1138 (nI 1) rfl ?_
  refine z_iadd C dL_law_1139 ?_
  refine z_sld C hX hbl hbA (lw_ix hi hL 1 (by decide)) dL_law_1140 ?_
  refine z_aload_n C dL_law_1141 rfl 0 rfl ?_
  refine z_iload_n C dL_law_1142 rfl 3 rfl ?_
  refine z_iconst C dL_law_1143 (nI 2) rfl ?_
  refine z_iadd C dL_law_1144 ?_
  refine z_sld C hX hbl hbA (lw_ix hi hL 2 (by decide)) dL_law_1145 ?_
  refine z_aload_n C dL_law_1146 rfl 0 rfl ?_
  refine z_iload_n C dL_law_1147 rfl 3 rfl ?_
  refine z_iconst C dL_law_1148 (nI 3) rfl ?_
  refine z_iadd C dL_law_1149 ?_
  refine z_sld C hX hbl hbA (lw_ix hi hL 3 (by decide)) dL_law_1150 ?_
  refine z_callLi C (rest := []) (tX11_sheet (ze_l E) (ze_D E) t a h1) gL_law_X11_sheet rfl hdX11_sheet ⟨(Nat.le_of_ble_eq_true rfl), (Nat.le_of_ble_eq_true rfl)⟩ ⟨(Nat.le_of_ble_eq_true rfl), (Nat.le_of_ble_eq_true rfl)⟩ 0 cw_at_0 rfl rfl rfl (Nat.le_of_ble_eq_true rfl) dL_law_1151 ?_
  refine z_aload_n C dL_law_1154 rfl 2 rfl ?_
  refine z_aload_n C dL_law_1155 rfl 0 rfl ?_
  refine z_iload_n C dL_law_1156 rfl 3 rfl ?_
  refine z_iconst C dL_law_1157 (nI 1) rfl ?_
  refine z_iadd C dL_law_1158 ?_
  refine z_sld C hX hbl hbA (lw_ix hi hL 1 (by decide)) dL_law_1159 ?_
  refine z_aload_n C dL_law_1160 rfl 0 rfl ?_
  refine z_iload_n C dL_law_1161 rfl 3 rfl ?_
  refine z_iconst C dL_law_1162 (nI 2) rfl ?_
  refine z_iadd C dL_law_1163 ?_
  refine z_sld C hX hbl hbA (lw_ix hi hL 2 (by decide)) dL_law_1164 ?_
  refine z_aload_n C dL_law_1165 rfl 0 rfl ?_
  refine z_iload_n C dL_law_1166 rfl 3 rfl ?_
  refine z_iconst C dL_law_1167 (nI 3) rfl ?_
  refine z_iadd C dL_law_1168 ?_
  refine z_sld C hX hbl hbA (lw_ix hi hL 3 (by decide)) dL_law_1169 ?_
  refine z_callRi C (rest := [.int r]) (tX12_sheet (ze_l E) (ze_D E) t b h2) gL_law_X12_sheet rfl hdX12_sheet ⟨(Nat.le_of_ble_eq_true rfl), (Nat.le_of_ble_eq_true rfl)⟩ ⟨(Nat.le_of_ble_eq_true rfl), (Nat.le_of_ble_eq_true rfl)⟩ 0 mw_at_0 rfl rfl rfl (Nat.le_of_ble_eq_true rfl) dL_law_1170 ?_
  refine z_icmp_eq C 1307 dL_law_1173 (by decide) (fun _ => ?_) (fun c => absurd rfl c)
  exact K x' m' h3
set_option maxHeartbeats 4000000 in
set_option maxRecDepth 100000 in
theorem lawc_drop (E : zE) (t : zTy) (a b : Nat → Nat) (scr L i k : Nat) (xs : Nat → Int32) (x m : ST) (C0 : lwC E t scr L i xs) (op : ∃ (r : Int32) (x' m' : ST), fX11_drop (xs (nI i + nI 1).toNatClampNeg) x = some (r, x') ∧ fX12_drop (xs (nI i + nI 1).toNatClampNeg) m = some (r, m') ∧ Rel (k + 1) x' m') (K : ∀ x' m' : ST, Rel (k + 1) x' m' → lwG E t a b scr i x' m' 1307 []) : lwG E t a b scr i x m 1178 [] := by
  obtain ⟨C, hX, hbl, hbA, hi, hL⟩ := C0
  obtain ⟨r, x', m', h1, h2, h3⟩ := op
  refine z_aload_n C dL_law_1178 rfl 1 rfl ?_
  refine z_aload_n C dL_law_1179 rfl 0 rfl ?_
  refine z_iload_n C dL_law_1180 rfl 3 rfl ?_
  refine z_iconst C dL_law_1181 (nI 1) rfl ?_
  refine z_iadd C dL_law_1182 ?_
  refine z_sld C hX hbl hbA (lw_ix hi hL 1 (by decide)) dL_law_1183 ?_
  refine z_callLi C (rest := []) (tX11_drop (ze_l E) (ze_D E) t a h1) gL_law_X11_drop rfl hdX11_drop ⟨(Nat.le_of_ble_eq_true rfl), (Nat.le_of_ble_eq_true rfl)⟩ ⟨(Nat.le_of_ble_eq_true rfl), (Nat.le_of_ble_eq_true rfl)⟩ 0 cw_at_0 rfl rfl rfl (Nat.le_of_ble_eq_true rfl) dL_law_1184 ?_
  refine z_aload_n C dL_law_1187 rfl 2 rfl ?_
  refine z_aload_n C dL_law_1188 rfl 0 rfl ?_
  refine z_iload_n C dL_law_1189 rfl 3 rfl ?_
  refine z_iconst C dL_law_1190 (nI 1) rfl ?_
  refine z_iadd C dL_law_1191 ?_
  refine z_sld C hX hbl hbA (lw_ix hi hL 1 (by decide)) dL_law_1192 ?_
  refine z_callRi C (rest := [.int r]) (tX12_drop (ze_l E) (ze_D E) t b h2) gL_law_X12_drop rfl hdX12_drop ⟨(Nat.le_of_ble_eq_true rfl), (Nat.le_of_ble_eq_true rfl)⟩ ⟨(Nat.le_of_ble_eq_true rfl), (Nat.le_of_ble_eq_true rfl)⟩ 0 mw_at_0 rfl rfl rfl (Nat.le_of_ble_eq_true rfl) dL_law_1193 ?_
  refine z_icmp_eq C 1307 dL_law_1196 (by decide) (fun _ => ?_) (fun c => absurd rfl c)
  exact K x' m' h3
set_option maxHeartbeats 4000000 in
set_option maxRecDepth 100000 in
theorem lawc_item (E : zE) (t : zTy) (a b : Nat → Nat) (scr L i k : Nat) (xs : Nat → Int32) (x m : ST) (C0 : lwC E t scr L i xs) (op : ∃ (r : Int32) (x' m' : ST), fX11_item (xs (nI i + nI 1).toNatClampNeg) (xs (nI i + nI 2).toNatClampNeg) (xs (nI i + nI 3).toNatClampNeg) (xs (nI i + nI 4).toNatClampNeg) x = some (r, x') ∧ fX12_item (xs (nI i + nI 1).toNatClampNeg) (xs (nI i + nI 2).toNatClampNeg) (xs (nI i + nI 3).toNatClampNeg) (xs (nI i + nI 4).toNatClampNeg) m = some (r, m') ∧ Rel (k + 1) x' m') (K : ∀ x' m' : ST, Rel (k + 1) x' m' → lwG E t a b scr i x' m' 1307 []) : lwG E t a b scr i x m 1201 [] := by
  obtain ⟨C, hX, hbl, hbA, hi, hL⟩ := C0
  obtain ⟨r, x', m', h1, h2, h3⟩ := op
  refine z_aload_n C dL_law_1201 rfl 1 rfl ?_
  refine z_aload_n C dL_law_1202 rfl 0 rfl ?_
  refine z_iload_n C dL_law_1203 rfl 3 rfl ?_
  refine z_iconst C dL_law_1204 (nI 1) rfl ?_
  refine z_iadd C dL_law_1205 ?_
  refine z_sld C hX hbl hbA (lw_ix hi hL 1 (by decide)) dL_law_1206 ?_
  refine z_aload_n C dL_law_1207 rfl 0 rfl ?_
  refine z_iload_n C dL_law_1208 rfl 3 rfl ?_
  refine z_iconst C dL_law_1209 (nI 2) rfl ?_
  refine z_iadd C dL_law_1210 ?_
  refine z_sld C hX hbl hbA (lw_ix hi hL 2 (by decide)) dL_law_1211 ?_
  refine z_aload_n C dL_law_1212 rfl 0 rfl ?_
  refine z_iload_n C dL_law_1213 rfl 3 rfl ?_
  refine z_iconst C dL_law_1214 (nI 3) rfl ?_
  refine z_iadd C dL_law_1215 ?_
  refine z_sld C hX hbl hbA (lw_ix hi hL 3 (by decide)) dL_law_1216 ?_
  refine z_aload_n C dL_law_1217 rfl 0 rfl ?_
  refine z_iload_n C dL_law_1218 rfl 3 rfl ?_
  refine z_iconst C dL_law_1219 (nI 4) rfl ?_
  refine z_iadd C dL_law_1220 ?_
  refine z_sld C hX hbl hbA (lw_ix hi hL 4 (by decide)) dL_law_1221 ?_
  refine z_callLi C (rest := []) (tX11_item (ze_l E) (ze_D E) t a h1) gL_law_X11_item rfl hdX11_item ⟨(Nat.le_of_ble_eq_true rfl), (Nat.le_of_ble_eq_true rfl)⟩ ⟨(Nat.le_of_ble_eq_true rfl), (Nat.le_of_ble_eq_true rfl)⟩ 0 cw_at_0 rfl rfl rfl (Nat.le_of_ble_eq_true rfl) dL_law_1222 ?_
  refine z_aload_n C dL_law_1225 rfl 2 rfl ?_
  refine z_aload_n C dL_law_1226 rfl 0 rfl ?_
  refine z_iload_n C dL_law_1227 rfl 3 rfl ?_
  refine z_iconst C dL_law_1228 (nI 1) rfl ?_
  refine z_iadd C dL_law_1229 ?_
  refine z_sld C hX hbl hbA (lw_ix hi hL 1 (by decide)) dL_law_1230 ?_
  refine z_aload_n C dL_law_1231 rfl 0 rfl ?_
  refine z_iload_n C dL_law_1232 rfl 3 rfl ?_
  refine z_iconst C dL_law_1233 (nI 2) rfl ?_
  refine z_iadd C dL_law_1234 ?_
  refine z_sld C hX hbl hbA (lw_ix hi hL 2 (by decide)) dL_law_1235 ?_
  refine z_aload_n C dL_law_1236 rfl 0 rfl ?_
  refine z_iload_n C dL_law_1237 rfl 3 rfl ?_
  refine z_iconst C dL_law_1238 (nI 3) rfl ?_
  refine z_iadd C dL_law_1239 ?_
  refine z_sld C hX hbl hbA (lw_ix hi hL 3 (by decide)) dL_law_1240 ?_
  refine z_aload_n C dL_law_1241 rfl 0 rfl ?_
  refine z_iload_n C dL_law_1242 rfl 3 rfl ?_
  refine z_iconst C dL_law_1243 (nI 4) rfl ?_
  refine z_iadd C dL_law_1244 ?_
  refine z_sld C hX hbl hbA (lw_ix hi hL 4 (by decide)) dL_law_1245 ?_
  refine z_callRi C (rest := [.int r]) (tX12_item (ze_l E) (ze_D E) t b h2) gL_law_X12_item rfl hdX12_item ⟨(Nat.le_of_ble_eq_true rfl), (Nat.le_of_ble_eq_true rfl)⟩ ⟨(Nat.le_of_ble_eq_true rfl), (Nat.le_of_ble_eq_true rfl)⟩ 0 mw_at_0 rfl rfl rfl (Nat.le_of_ble_eq_true rfl) dL_law_1246 ?_
  refine z_icmp_eq C 1307 dL_law_1249 (by decide) (fun _ => ?_) (fun c => absurd rfl c)
  exact K x' m' h3
set_option maxHeartbeats 4000000 in
set_option maxRecDepth 100000 in
theorem lawc_layer (E : zE) (t : zTy) (a b : Nat → Nat) (scr L i k : Nat) (xs : Nat → Int32) (x m : ST) (C0 : lwC E t scr L i xs) (op : ∃ (r : Int32) (x' m' : ST), fX11_layer (xs (nI i + nI 1).toNatClampNeg) (xs (nI i + nI 2).toNatClampNeg) (xs (nI i + nI 3).toNatClampNeg) (xs (nI i + nI 4).toNatClampNeg) x = some (r, x') ∧ fX12_layer (xs (nI i + nI 1).toNatClampNeg) (xs (nI i + nI 2).toNatClampNeg) (xs (nI i + nI 3).toNatClampNeg) (xs (nI i + nI 4).toNatClampNeg) m = some (r, m') ∧ Rel (k + 1) x' m') (K : ∀ x' m' : ST, Rel (k + 1) x' m' → lwG E t a b scr i x' m' 1307 []) : lwG E t a b scr i x m 1254 [] := by
  obtain ⟨C, hX, hbl, hbA, hi, hL⟩ := C0
  obtain ⟨r, x', m', h1, h2, h3⟩ := op
  refine z_aload_n C dL_law_1254 rfl 1 rfl ?_
  refine z_aload_n C dL_law_1255 rfl 0 rfl ?_
  refine z_iload_n C dL_law_1256 rfl 3 rfl ?_
  refine z_iconst C dL_law_1257 (nI 1) rfl ?_
  refine z_iadd C dL_law_1258 ?_
  refine z_sld C hX hbl hbA (lw_ix hi hL 1 (by decide)) dL_law_1259 ?_
  refine z_aload_n C dL_law_1260 rfl 0 rfl ?_
  refine z_iload_n C dL_law_1261 rfl 3 rfl ?_
  refine z_iconst C dL_law_1262 (nI 2) rfl ?_
  refine z_iadd C dL_law_1263 ?_
  refine z_sld C hX hbl hbA (lw_ix hi hL 2 (by decide)) dL_law_1264 ?_
  refine z_aload_n C dL_law_1265 rfl 0 rfl ?_
  refine z_iload_n C dL_law_1266 rfl 3 rfl ?_
  refine z_iconst C dL_law_1267 (nI 3) rfl ?_
  refine z_iadd C dL_law_1268 ?_
  refine z_sld C hX hbl hbA (lw_ix hi hL 3 (by decide)) dL_law_1269 ?_
  refine z_aload_n C dL_law_1270 rfl 0 rfl ?_
  refine z_iload_n C dL_law_1271 rfl 3 rfl ?_
  refine z_iconst C dL_law_1272 (nI 4) rfl ?_
  refine z_iadd C dL_law_1273 ?_
  refine z_sld C hX hbl hbA (lw_ix hi hL 4 (by decide)) dL_law_1274 ?_
  refine z_callLi C (rest := []) (tX11_layer (ze_l E) (ze_D E) t a h1) gL_law_X11_layer rfl hdX11_layer ⟨(Nat.le_of_ble_eq_true rfl), (Nat.le_of_ble_eq_true rfl)⟩ ⟨(Nat.le_of_ble_eq_true rfl), (Nat.le_of_ble_eq_true rfl)⟩ 0 cw_at_0 rfl rfl rfl (Nat.le_of_ble_eq_true rfl) dL_law_1275 ?_
  refine z_aload_n C dL_law_1278 rfl 2 rfl ?_
  refine z_aload_n C dL_law_1279 rfl 0 rfl ?_
  refine z_iload_n C dL_law_1280 rfl 3 rfl ?_
  refine z_iconst C dL_law_1281 (nI 1) rfl ?_
  refine z_iadd C dL_law_1282 ?_
  refine z_sld C hX hbl hbA (lw_ix hi hL 1 (by decide)) dL_law_1283 ?_
  refine z_aload_n C dL_law_1284 rfl 0 rfl ?_
  refine z_iload_n C dL_law_1285 rfl 3 rfl ?_
  refine z_iconst C dL_law_1286 (nI 2) rfl ?_
  refine z_iadd C dL_law_1287 ?_
  refine z_sld C hX hbl hbA (lw_ix hi hL 2 (by decide)) dL_law_1288 ?_
  refine z_aload_n C dL_law_1289 rfl 0 rfl ?_
  refine z_iload_n C dL_law_1290 rfl 3 rfl ?_
  refine z_iconst C dL_law_1291 (nI 3) rfl ?_
  refine z_iadd C dL_law_1292 ?_
  refine z_sld C hX hbl hbA (lw_ix hi hL 3 (by decide)) dL_law_1293 ?_
  refine z_aload_n C dL_law_1294 rfl 0 rfl ?_
  refine z_iload_n C dL_law_1295 rfl 3 rfl ?_
  refine z_iconst C dL_law_1296 (nI 4) rfl ?_
  refine z_iadd C dL_law_1297 ?_
  refine z_sld C hX hbl hbA (lw_ix hi hL 4 (by decide)) dL_law_1298 ?_
  refine z_callRi C (rest := [.int r]) (tX12_layer (ze_l E) (ze_D E) t b h2) gL_law_X12_layer rfl hdX12_layer ⟨(Nat.le_of_ble_eq_true rfl), (Nat.le_of_ble_eq_true rfl)⟩ ⟨(Nat.le_of_ble_eq_true rfl), (Nat.le_of_ble_eq_true rfl)⟩ 0 mw_at_0 rfl rfl rfl (Nat.le_of_ble_eq_true rfl) dL_law_1299 ?_
  refine z_icmp_eq C 1307 dL_law_1302 (by decide) (fun _ => ?_) (fun c => absurd rfl c)
  exact K x' m' h3
set_option maxHeartbeats 8000000 in
set_option maxRecDepth 100000 in
theorem law_loop (E : zE) (t : zTy) (a b : Nat → Nat) (scr L : Nat) (xs : Nat → Int32) (hL : L ≤ 3072) (C : zC E cL_law 4 RL wsL_law room_1 t) (hX : va_X scr L xs (ze_s E) (ze_s E).heap) (hbl : scr < (ze_s E).heap.size) (hbA : ¬ ze_A E scr) (R : ∀ (w : va_W) (lv : List (Nat × Value)), zG E 4 78 3328 w 1314 lv [.int 1]) : ∀ (n k i : Nat) (x m : ST), i = 6 * k → i ≤ L → L < i + 6 * n → Rel k x m → lwG E t a b scr i x m 18 [] := by
  intro n
  induction n with
  | zero =>
    intro k i x m hik hle hn hR
    omega
  | succ n ih =>
    intro k i x m hik hle hn hR
    refine z_iload_n C dL_law_18 rfl 3 rfl ?_
    refine z_aload_n C dL_law_19 rfl 0 rfl ?_
    refine z_slen C hX hbl hbA dL_law_20 ?_
    refine z_bipush C dL_law_21 6 rfl ?_
    refine z_isub C dL_law_23 ?_
    refine z_icmp_gt C 1313 dL_law_24 (by decide) (fun c => ?_) (fun c => ?_)
    · refine z_iconst C dL_law_1313 1 rfl ?_
      exact R _ _
    have h6 : i + 6 ≤ L := by
      have e1 : (nI L - 6 : Int32).toInt = (L : Int) - 6 := by
        have := pk_sub_toInt (a := L) (b := 6) (by omega) (by omega)
        exact this
      have e2 : (nI i).toInt = (i : Int) := nI_toInt (by omega)
      rw [Int32.lt_iff_toInt_lt, e1, e2] at c
      omega
    refine z_aload_n C dL_law_27 rfl 0 rfl ?_
    refine z_iload_n C dL_law_28 rfl 3 rfl ?_
    refine z_sld C hX hbl hbA (lw_ix0 h6 hL) dL_law_29 ?_
    refine z_bipush C dL_law_30 (nI 63) rfl ?_
    refine z_iand C dL_law_32 ?_
    have K0 : ∀ x' m' : ST, Rel (k + 1) x' m' → lwG E t a b scr i x' m' 1307 [] := by
      intro x' m' h3
      refine z_iinc C (nI (i + 6)) [(3, .int (nI (i + 6))), (0, .ref scr), (1, .ref (a 0)), (2, .ref (b 0))] dL_law_1307 3 rfl (nI_add i 6) (by decide) rfl ?_
      refine z_goto C 18 dL_law_1310 (by decide) ?_
      exact z_sub [1, 2, 3, 0] rfl (ih (k + 1) (i + 6) x' m' (by omega) (by omega) (by omega) h3)
    have K1 := K0
    by_cases c0 : (xs (nI i).toNatClampNeg &&& nI 63) = 0
    · refine z_swIn C 0 180 dL_law_33 c0 (by decide) (by decide) rfl (by decide) ?_
      exact lawc_mirror E t a b scr L i k xs x m ⟨C, hX, hbl, hbA, h6, hL⟩ (op_mirror hR (by omega) _ _) K1
    by_cases c1 : (xs (nI i).toNatClampNeg &&& nI 63) = 1
    · refine z_swIn C 1 213 dL_law_33 c1 (by decide) (by decide) rfl (by decide) ?_
      exact lawc_light E t a b scr L i k xs x m ⟨C, hX, hbl, hbA, h6, hL⟩ (op_light hR (by omega) _ _ _) K1
    by_cases c2 : (xs (nI i).toNatClampNeg &&& nI 63) = 2
    · refine z_swIn C 2 256 dL_law_33 c2 (by decide) (by decide) rfl (by decide) ?_
      exact lawc_board E t a b scr L i k xs x m ⟨C, hX, hbl, hbA, h6, hL⟩ (op_board hR (by omega) _ _ _ _) K1
    by_cases c3 : (xs (nI i).toNatClampNeg &&& nI 63) = 3
    · refine z_swIn C 3 309 dL_law_33 c3 (by decide) (by decide) rfl (by decide) ?_
      exact lawc_set E t a b scr L i k xs x m ⟨C, hX, hbl, hbA, h6, hL⟩ (op_set hR (by omega) _ _) K1
    by_cases c4 : (xs (nI i).toNatClampNeg &&& nI 63) = 4
    · refine z_swIn C 4 342 dL_law_33 c4 (by decide) (by decide) rfl (by decide) ?_
      exact lawc_rest E t a b scr L i k xs x m ⟨C, hX, hbl, hbA, h6, hL⟩ (op_rest hR (by omega) _ _) K1
    by_cases c5 : (xs (nI i).toNatClampNeg &&& nI 63) = 5
    · refine z_swIn C 5 375 dL_law_33 c5 (by decide) (by decide) rfl (by decide) ?_
      exact lawc_spot E t a b scr L i k xs x m ⟨C, hX, hbl, hbA, h6, hL⟩ (op_spot hR (by omega) _ _) K1
    by_cases c6 : (xs (nI i).toNatClampNeg &&& nI 63) = 6
    · refine z_swIn C 6 408 dL_law_33 c6 (by decide) (by decide) rfl (by decide) ?_
      exact lawc_table E t a b scr L i k xs x m ⟨C, hX, hbl, hbA, h6, hL⟩ (op_table hR (by omega) _ _ _) K1
    by_cases c7 : (xs (nI i).toNatClampNeg &&& nI 63) = 7
    · refine z_swIn C 7 451 dL_law_33 c7 (by decide) (by decide) rfl (by decide) ?_
      exact lawc_poke E t a b scr L i k xs x m ⟨C, hX, hbl, hbA, h6, hL⟩ (op_poke hR (by omega) _ _ _ _ _) K1
    by_cases c8 : (xs (nI i).toNatClampNeg &&& nI 63) = 8
    · refine z_swIn C 8 514 dL_law_33 c8 (by decide) (by decide) rfl (by decide) ?_
      exact lawc_told E t a b scr L i k xs x m ⟨C, hX, hbl, hbA, h6, hL⟩ (op_told hR (by omega) _ _ _) K1
    by_cases c9 : (xs (nI i).toNatClampNeg &&& nI 63) = 9
    · refine z_swIn C 9 557 dL_law_33 c9 (by decide) (by decide) rfl (by decide) ?_
      exact lawc_dead E t a b scr L i k xs x m ⟨C, hX, hbl, hbA, h6, hL⟩ (op_dead hR (by omega) _ _) K1
    by_cases c10 : (xs (nI i).toNatClampNeg &&& nI 63) = 10
    · refine z_swIn C 10 606 dL_law_33 c10 (by decide) (by decide) rfl (by decide) ?_
      exact lawc_seen E t a b scr L i k xs x m ⟨C, hX, hbl, hbA, h6, hL⟩ (op_seen hR (by omega) ) K1
    by_cases c11 : (xs (nI i).toNatClampNeg &&& nI 63) = 11
    · refine z_swIn C 11 619 dL_law_33 c11 (by decide) (by decide) rfl (by decide) ?_
      exact lawc_bend E t a b scr L i k xs x m ⟨C, hX, hbl, hbA, h6, hL⟩ (op_bend hR (by omega) _ _) K1
    by_cases c12 : (xs (nI i).toNatClampNeg &&& nI 63) = 12
    · refine z_swIn C 12 653 dL_law_33 c12 (by decide) (by decide) rfl (by decide) ?_
      exact lawc_whole E t a b scr L i k xs x m ⟨C, hX, hbl, hbA, h6, hL⟩ (op_whole hR (by omega) _) K1
    by_cases c13 : (xs (nI i).toNatClampNeg &&& nI 63) = 13
    · refine z_swIn C 13 676 dL_law_33 c13 (by decide) (by decide) rfl (by decide) ?_
      exact lawc_nearest E t a b scr L i k xs x m ⟨C, hX, hbl, hbA, h6, hL⟩ (op_nearest hR (by omega) _) K1
    by_cases c14 : (xs (nI i).toNatClampNeg &&& nI 63) = 14
    · refine z_swIn C 14 699 dL_law_33 c14 (by decide) (by decide) rfl (by decide) ?_
      exact lawc_off E t a b scr L i k xs x m ⟨C, hX, hbl, hbA, h6, hL⟩ (op_off hR (by omega) ) K1
    by_cases c15 : (xs (nI i).toNatClampNeg &&& nI 63) = 15
    · refine z_swIn C 15 713 dL_law_33 c15 (by decide) (by decide) rfl (by decide) ?_
      exact lawc_start E t a b scr L i k xs x m ⟨C, hX, hbl, hbA, h6, hL⟩ (op_start hR (by omega) ) K1
    by_cases c16 : (xs (nI i).toNatClampNeg &&& nI 63) = 16
    · refine z_swIn C 16 726 dL_law_33 c16 (by decide) (by decide) rfl (by decide) ?_
      exact lawc_stop E t a b scr L i k xs x m ⟨C, hX, hbl, hbA, h6, hL⟩ (op_stop hR (by omega) ) K1
    by_cases c17 : (xs (nI i).toNatClampNeg &&& nI 63) = 17
    · refine z_swIn C 17 739 dL_law_33 c17 (by decide) (by decide) rfl (by decide) ?_
      exact lawc_frames E t a b scr L i k xs x m ⟨C, hX, hbl, hbA, h6, hL⟩ (op_frames hR (by omega) _) K1
    by_cases c18 : (xs (nI i).toNatClampNeg &&& nI 63) = 18
    · refine z_swIn C 18 762 dL_law_33 c18 (by decide) (by decide) rfl (by decide) ?_
      exact lawc_state E t a b scr L i k xs x m ⟨C, hX, hbl, hbA, h6, hL⟩ (op_state hR (by omega) _) K1
    by_cases c19 : (xs (nI i).toNatClampNeg &&& nI 63) = 19
    · refine z_swIn C 19 785 dL_law_33 c19 (by decide) (by decide) rfl (by decide) ?_
      exact lawc_units E t a b scr L i k xs x m ⟨C, hX, hbl, hbA, h6, hL⟩ (op_units hR (by omega) _ _) K1
    by_cases c20 : (xs (nI i).toNatClampNeg &&& nI 63) = 20
    · refine z_swIn C 20 818 dL_law_33 c20 (by decide) (by decide) rfl (by decide) ?_
      exact lawc_shed E t a b scr L i k xs x m ⟨C, hX, hbl, hbA, h6, hL⟩ (op_shed hR (by omega) ) K1
    by_cases c21 : (xs (nI i).toNatClampNeg &&& nI 63) = 21
    · refine z_swIn C 21 831 dL_law_33 c21 (by decide) (by decide) rfl (by decide) ?_
      exact lawc_log E t a b scr L i k xs x m ⟨C, hX, hbl, hbA, h6, hL⟩ (op_log hR (by omega) _ _) K1
    by_cases c22 : (xs (nI i).toNatClampNeg &&& nI 63) = 22
    · refine z_swIn C 22 864 dL_law_33 c22 (by decide) (by decide) rfl (by decide) ?_
      exact lawc_loop E t a b scr L i k xs x m ⟨C, hX, hbl, hbA, h6, hL⟩ (op_loop hR (by omega) _ _ _ _ _) K1
    by_cases c23 : (xs (nI i).toNatClampNeg &&& nI 63) = 23
    · refine z_swIn C 23 927 dL_law_33 c23 (by decide) (by decide) rfl (by decide) ?_
      exact lawc_steady E t a b scr L i k xs x m ⟨C, hX, hbl, hbA, h6, hL⟩ (op_steady hR (by omega) _) K1
    by_cases c24 : (xs (nI i).toNatClampNeg &&& nI 63) = 24
    · refine z_swIn C 24 950 dL_law_33 c24 (by decide) (by decide) rfl (by decide) ?_
      exact lawc_unsteady E t a b scr L i k xs x m ⟨C, hX, hbl, hbA, h6, hL⟩ (op_unsteady hR (by omega) _ _) K1
    by_cases c25 : (xs (nI i).toNatClampNeg &&& nI 63) = 25
    · refine z_swIn C 25 983 dL_law_33 c25 (by decide) (by decide) rfl (by decide) ?_
      exact lawc_cell E t a b scr L i k xs x m ⟨C, hX, hbl, hbA, h6, hL⟩ (op_cell hR (by omega) _ _ _) K1
    by_cases c26 : (xs (nI i).toNatClampNeg &&& nI 63) = 26
    · refine z_swIn C 26 1026 dL_law_33 c26 (by decide) (by decide) rfl (by decide) ?_
      exact lawc_wind E t a b scr L i k xs x m ⟨C, hX, hbl, hbA, h6, hL⟩ (op_wind hR (by omega) _ _) K1
    by_cases c27 : (xs (nI i).toNatClampNeg &&& nI 63) = 27
    · refine z_swIn C 27 1059 dL_law_33 c27 (by decide) (by decide) rfl (by decide) ?_
      exact lawc_foretell E t a b scr L i k xs x m ⟨C, hX, hbl, hbA, h6, hL⟩ (op_foretell hR (by omega) _ _) K1
    by_cases c28 : (xs (nI i).toNatClampNeg &&& nI 63) = 28
    · refine z_swIn C 28 1092 dL_law_33 c28 (by decide) (by decide) rfl (by decide) ?_
      exact lawc_guess E t a b scr L i k xs x m ⟨C, hX, hbl, hbA, h6, hL⟩ (op_guess hR (by omega) _ _ _) K1
    by_cases c29 : (xs (nI i).toNatClampNeg &&& nI 63) = 29
    · refine z_swIn C 29 1135 dL_law_33 c29 (by decide) (by decide) rfl (by decide) ?_
      exact lawc_sheet E t a b scr L i k xs x m ⟨C, hX, hbl, hbA, h6, hL⟩ (op_sheet hR (by omega) _ _ _) K1
    by_cases c30 : (xs (nI i).toNatClampNeg &&& nI 63) = 30
    · refine z_swIn C 30 1178 dL_law_33 c30 (by decide) (by decide) rfl (by decide) ?_
      exact lawc_drop E t a b scr L i k xs x m ⟨C, hX, hbl, hbA, h6, hL⟩ (op_drop hR (by omega) _) K1
    by_cases c31 : (xs (nI i).toNatClampNeg &&& nI 63) = 31
    · refine z_swIn C 31 1201 dL_law_33 c31 (by decide) (by decide) rfl (by decide) ?_
      exact lawc_item E t a b scr L i k xs x m ⟨C, hX, hbl, hbA, h6, hL⟩ (op_item hR (by omega) _ _ _ _) K1
    by_cases c32 : (xs (nI i).toNatClampNeg &&& nI 63) = 32
    · refine z_swIn C 32 1254 dL_law_33 c32 (by decide) (by decide) rfl (by decide) ?_
      exact lawc_layer E t a b scr L i k xs x m ⟨C, hX, hbl, hbA, h6, hL⟩ (op_layer hR (by omega) _ _ _ _) K1
    refine z_swOut C 1307 dL_law_33 (fun k h1 h2 => by rcases (show k = 0 ∨ k = 1 ∨ k = 2 ∨ k = 3 ∨ k = 4 ∨ k = 5 ∨ k = 6 ∨ k = 7 ∨ k = 8 ∨ k = 9 ∨ k = 10 ∨ k = 11 ∨ k = 12 ∨ k = 13 ∨ k = 14 ∨ k = 15 ∨ k = 16 ∨ k = 17 ∨ k = 18 ∨ k = 19 ∨ k = 20 ∨ k = 21 ∨ k = 22 ∨ k = 23 ∨ k = 24 ∨ k = 25 ∨ k = 26 ∨ k = 27 ∨ k = 28 ∨ k = 29 ∨ k = 30 ∨ k = 31 ∨ k = 32 by omega) with rfl | rfl | rfl | rfl | rfl | rfl | rfl | rfl | rfl | rfl | rfl | rfl | rfl | rfl | rfl | rfl | rfl | rfl | rfl | rfl | rfl | rfl | rfl | rfl | rfl | rfl | rfl | rfl | rfl | rfl | rfl | rfl | rfl <;> assumption) (by decide) ?_
    exact K0 x m (Rel.mono hR)
