section LC
variable {p : Program} {l : Launch} {e : Env} {s : State} {m : MethodId} {args : Array Value} {below : List Frame} {meth : Method} {c : Code} {Q : State → Prop} {D : va_G} {cA cR : Nat → ClassId} {cO : ClassId} {kc ks : Nat} {B : jBT} {b Ln : Nat} {xs : Nat → Int32}
variable {pc : Nat} {lv : List (Nat × Value)} {st : List Value} {S : Nat → Int32} {V : Nat → Nat → Int32} {S' : Nat → Int32} {V' : Nat → Nat → Int32} {L' : Nat → Int64} {o : Nat → Int64}
def St_feed (Rel : (Nat → Int32) → (Nat → Nat → Int32) → (Nat → Int32) → (Nat → Nat → Int32) → (Nat → Int64) → Prop) : Prop := ∀ (S : Nat → Int32) (V : Nat → Nat → Int32) (S' : Nat → Int32) (V' : Nat → Nat → Int32) (L' : Nat → Int64) (a1 : Int32) (a2 : Int32) (a3 : Int32) (a4 : Int32) (a5 : Int32), Rel S V S' V' L' → ∃ (r : Int32) (S2 : Nat → Int32) (V2 : Nat → Nat → Int32) (S3 : Nat → Int32) (V3 : Nat → Nat → Int32), fX11_feed_0 S V a1 a2 a3 a4 a5 = some (r, S2, V2) ∧ fX12_feed_0 S' V' a1 a2 a3 a4 a5 = some (r, S3, V3) ∧ Rel S2 V2 S3 V3 L'
set_option maxHeartbeats 4000000 in
set_option maxRecDepth 100000 in
theorem lc_feed (C : jCl p l s m args meth c D cA cR cO B b Ln xs) {Rel : (Nat → Int32) → (Nat → Nat → Int32) → (Nat → Int32) → (Nat → Nat → Int32) → (Nat → Int64) → Prop} (hst : St_feed Rel) (hR : Rel S V S' V' L') {n : Nat} (hn : n + 6 ≤ Ln) (hL : Ln ≤ 3072) (hkr : kc + 6 ≤ 601024 ∧ ks + 36 ≤ 7293034) (kk : ∀ S V S' V' L' o, Rel S V S' V' L' → jWl p l e s m args below meth c Q D cA cR cO (kc + 6) (ks + 36) 1702 [(0, .ref b), (1, .ref s.heap.size), (2, .ref (s.heap.size + 63)), (3, .ref (s.heap.size + 87)), (4, .int (nI n))] [] S V S' V' L' o) : jWl p l e s m args below meth c Q D cA cR cO kc ks 164 [(0, .ref b), (1, .ref s.heap.size), (2, .ref (s.heap.size + 63)), (3, .ref (s.heap.size + 87)), (4, .int (nI n))] [] S V S' V' L' o := by
  obtain ⟨r, S2, V2, S3, V3, h1, h2, hR2⟩ := hst S V S' V' L' (xs (n + 1)) (xs (n + 2)) (xs (n + 3)) (xs (n + 4)) (xs (n + 5)) hR
  refine jl_aload_n C 1 rfl dL_law_164 rfl ?_
  refine jl_arg (k := 1) C 0 4 rfl rfl (by omega) hL (by decide) dL_law_165 dL_law_166 dL_law_168 dL_law_169 dL_law_170 ?_
  refine jl_arg (k := 2) C 0 4 rfl rfl (by omega) hL (by decide) dL_law_171 dL_law_172 dL_law_174 dL_law_175 dL_law_176 ?_
  refine jl_arg (k := 3) C 0 4 rfl rfl (by omega) hL (by decide) dL_law_177 dL_law_178 dL_law_180 dL_law_181 dL_law_182 ?_
  refine jl_arg (k := 4) C 0 4 rfl rfl (by omega) hL (by decide) dL_law_183 dL_law_184 dL_law_186 dL_law_187 dL_law_188 ?_
  refine jl_arg (k := 5) C 0 4 rfl rfl (by omega) hL (by decide) dL_law_189 dL_law_190 dL_law_192 dL_law_193 dL_law_194 ?_
  refine jl_callC (As := [.int (xs (n + 1)), .int (xs (n + 2)), .int (xs (n + 3)), .int (xs (n + 4)), .int (xs (n + 5))]) (rest := []) C (kX11_feed_0 l B D (adb s.heap.size) cA (adb_I _ _) S V (fun _ => 0) (xs (n + 1)) (xs (n + 2)) (xs (n + 3)) (xs (n + 4)) (xs (n + 5)) r S2 V2 h1) mw_X11_feed wd557 wd558 wd556 rfl ⟨rfl, rfl, by decide, by decide⟩ ⟨Nat.le_trans (by omega) hkr.1, Nat.le_trans (by omega) hkr.2⟩ rfl rfl (Nat.le_of_ble_eq_true rfl) dL_law_195 ?_
  refine jl_aload_n C 2 rfl dL_law_198 rfl ?_
  refine jl_arg (k := 1) C 0 4 rfl rfl (by omega) hL (by decide) dL_law_199 dL_law_200 dL_law_202 dL_law_203 dL_law_204 ?_
  refine jl_arg (k := 2) C 0 4 rfl rfl (by omega) hL (by decide) dL_law_205 dL_law_206 dL_law_208 dL_law_209 dL_law_210 ?_
  refine jl_arg (k := 3) C 0 4 rfl rfl (by omega) hL (by decide) dL_law_211 dL_law_212 dL_law_214 dL_law_215 dL_law_216 ?_
  refine jl_arg (k := 4) C 0 4 rfl rfl (by omega) hL (by decide) dL_law_217 dL_law_218 dL_law_220 dL_law_221 dL_law_222 ?_
  refine jl_arg (k := 5) C 0 4 rfl rfl (by omega) hL (by decide) dL_law_223 dL_law_224 dL_law_226 dL_law_227 dL_law_228 ?_
  refine jl_callR (As := [.int (xs (n + 1)), .int (xs (n + 2)), .int (xs (n + 3)), .int (xs (n + 4)), .int (xs (n + 5))]) (rest := [.int r]) C (kX12_feed_0 l B D (adb (s.heap.size + 63)) cR (adb_I _ _) S' V' L' (xs (n + 1)) (xs (n + 2)) (xs (n + 3)) (xs (n + 4)) (xs (n + 5)) r S3 V3 h2) mw_X12_feed wd1625 wd1626 wd1624 rfl ⟨rfl, rfl, by decide, by decide⟩ ⟨Nat.le_trans (by omega) hkr.1, Nat.le_trans (by omega) hkr.2⟩ rfl rfl (Nat.le_of_ble_eq_true rfl) dL_law_229 ?_
  refine jl_eqT (tgt := 1702) C rfl dL_law_232 (by decide) ?_
  refine jl_widen (k2 := kc + 6) (n2 := ks + 36) (by omega) (by omega) ?_
  exact jl_sub [0, 1, 2, 3, 4] rfl (kk _ _ _ _ _ _ hR2)
def St_house (Rel : (Nat → Int32) → (Nat → Nat → Int32) → (Nat → Int32) → (Nat → Nat → Int32) → (Nat → Int64) → Prop) : Prop := ∀ (S : Nat → Int32) (V : Nat → Nat → Int32) (S' : Nat → Int32) (V' : Nat → Nat → Int32) (L' : Nat → Int64) (a1 : Int32), Rel S V S' V' L' → (∃ (r : Int32) (S2 : Nat → Int32) (V2 : Nat → Nat → Int32) (S3 : Nat → Int32) (V3 : Nat → Nat → Int32) (L3 : Nat → Int64), fX11_house_0 S V a1 = some (.inl (r, S2, V2)) ∧ fX12_house_0 S' V' L' a1 = some (r, S3, V3, L3) ∧ fX12_thrown_0 S3 = some 0 ∧ Rel S2 V2 S3 V3 L3) ∨ (∃ (r : Int32) (S3 : Nat → Int32) (V3 : Nat → Nat → Int32) (L3 : Nat → Int64), fX11_house_0 S V a1 = some (.inr 0) ∧ fX12_house_0 S' V' L' a1 = some (r, S3, V3, L3) ∧ fX12_thrown_0 S3 = some 1 ∧ Rel S V S3 V3 L3)
set_option maxHeartbeats 4000000 in
set_option maxRecDepth 100000 in
theorem lc_house (C : jCl p l s m args meth c D cA cR cO B b Ln xs) {Rel : (Nat → Int32) → (Nat → Nat → Int32) → (Nat → Int32) → (Nat → Nat → Int32) → (Nat → Int64) → Prop} (hst : St_house Rel) (hR : Rel S V S' V' L') {n : Nat} (hn : n + 6 ≤ Ln) (hL : Ln ≤ 3072) (hkr : kc + 6 ≤ 601024 ∧ ks + 36 ≤ 7293034) (kk : ∀ S V S' V' L' o, Rel S V S' V' L' → jWl p l e s m args below meth c Q D cA cR cO (kc + 6) (ks + 36) 1702 [(0, .ref b), (1, .ref s.heap.size), (2, .ref (s.heap.size + 63)), (3, .ref (s.heap.size + 87)), (4, .int (nI n))] [] S V S' V' L' o) : jWl p l e s m args below meth c Q D cA cR cO kc ks 237 [(0, .ref b), (1, .ref s.heap.size), (2, .ref (s.heap.size + 63)), (3, .ref (s.heap.size + 87)), (4, .int (nI n))] [] S V S' V' L' o := by
  rcases hst S V S' V' L' (xs (n + 1)) hR with ⟨r, S2, V2, S3, V3, L3, h1, h2, h3, hR2⟩ | ⟨r, S3, V3, L3, h1, h2, h3, hR2⟩
  · refine jl_aload_n C 1 rfl dL_law_237 rfl ?_
    refine jl_arg (k := 1) C 0 4 rfl rfl (by omega) hL (by decide) dL_law_238 dL_law_239 dL_law_241 dL_law_242 dL_law_243 ?_
    refine jl_aload_n C 3 rfl dL_law_244 rfl ?_
    refine jl_callW (As := [.ref s.heap.size, .int (xs (n + 1)), .ref (s.heap.size + 87)]) (rest := []) C (wL_house_ok l B D (adb s.heap.size) cA (adb_I _ _) C.2.2.2.2.2.2.2.2.2 (s.heap.size + 87) cO (adb_out s.heap.size) S V (fun _ => 0) o (xs (n + 1)) r S2 V2 h1) wcw_L_house wd102 wd685 wd684 ⟨by decide +kernel, by decide +kernel, (show Option.map (fun d => d.parameters.length) (parseMethodDescriptor yL_house.desc) = some 3 by decide +kernel)⟩ ⟨rfl, rfl, by decide, by decide⟩ ⟨Nat.le_trans (by omega) hkr.1, Nat.le_trans (by omega) hkr.2⟩ rfl rfl (Nat.le_of_ble_eq_true rfl) dL_law_245 ?_
    refine jl_istore C [(5, .int (0 : Int32)), (0, .ref b), (1, .ref s.heap.size), (2, .ref (s.heap.size + 63)), (3, .ref (s.heap.size + 87)), (4, .int (nI n))] dL_law_248 (by decide) rfl ?_
    refine jl_aload_n C 3 rfl dL_law_250 rfl ?_
    refine jl_arg (k := 1) C 1 5 rfl rfl (by omega) hL (by decide) dL_law_251 dL_law_252 dL_law_254 dL_law_255 dL_law_256 ?_
    refine jl_callR (As := [.int (xs (n + 1))]) (rest := []) C (kX12_house_0 l B D (adb (s.heap.size + 63)) cR (adb_I _ _) S' V' L' (xs (n + 1)) r S3 V3 L3 h2) mw_X12_house wd1633 wd1634 wd1632 rfl ⟨rfl, rfl, by decide, by decide⟩ ⟨Nat.le_trans (by omega) hkr.1, Nat.le_trans (by omega) hkr.2⟩ rfl rfl (Nat.le_of_ble_eq_true rfl) dL_law_257 ?_
    refine jl_istore C [(6, .int r), (5, .int (0 : Int32)), (0, .ref b), (1, .ref s.heap.size), (2, .ref (s.heap.size + 63)), (3, .ref (s.heap.size + 87)), (4, .int (nI n))] dL_law_260 (by decide) rfl ?_
    refine jl_aload_n C 4 rfl dL_law_262 rfl ?_
    refine jl_callR (As := []) (rest := []) C (kX12_thrown_0 l B D (adb (s.heap.size + 63)) cR (adb_I _ _) S3 V3 L3 (0 : Int32) h3) mw_X12_thrown wd1621 wd1622 wd1620 rfl ⟨rfl, rfl, by decide, by decide⟩ ⟨Nat.le_trans (by omega) hkr.1, Nat.le_trans (by omega) hkr.2⟩ rfl rfl (Nat.le_of_ble_eq_true rfl) dL_law_263 ?_
    refine jl_iload C 1 rfl dL_law_266 ?_
    refine jl_eqT (tgt := 273) C rfl dL_law_268 (by decide) ?_
    refine jl_iload C 1 rfl dL_law_273 ?_
    refine jl_if_neF (tgt := 290) C rfl dL_law_275 (by decide) ?_
    refine jl_aload_n C 5 rfl dL_law_278 rfl ?_
    refine jl_iconst C dL_law_279 ci_0 ?_
    refine jl_lald C dL_law_280 ?_
    refine jl_iload C 0 rfl dL_law_281 ?_
    refine jl_i2l C dL_law_283 ?_
    refine jl_lcmp C dL_law_284 ?_
    refine jl_if_eqT (tgt := 290) C (lg_cmp_self _) dL_law_285 (by decide) ?_
    refine jl_goto (tgt := 1702) C dL_law_290 (by decide) ?_
    refine jl_widen (k2 := kc + 6) (n2 := ks + 36) (by omega) (by omega) ?_
    exact jl_sub [2, 3, 4, 5, 6] rfl (kk _ _ _ _ _ _ hR2)
  · refine jl_aload_n C 1 rfl dL_law_237 rfl ?_
    refine jl_arg (k := 1) C 0 4 rfl rfl (by omega) hL (by decide) dL_law_238 dL_law_239 dL_law_241 dL_law_242 dL_law_243 ?_
    refine jl_aload_n C 3 rfl dL_law_244 rfl ?_
    refine jl_callW (As := [.ref s.heap.size, .int (xs (n + 1)), .ref (s.heap.size + 87)]) (rest := []) C (wL_house_ex0 l B D (adb s.heap.size) cA (adb_I _ _) C.2.2.2.2.2.2.2.2.2 (s.heap.size + 87) cO (adb_out s.heap.size) S V (fun _ => 0) o (xs (n + 1)) h1) wcw_L_house wd102 wd685 wd684 ⟨by decide +kernel, by decide +kernel, (show Option.map (fun d => d.parameters.length) (parseMethodDescriptor yL_house.desc) = some 3 by decide +kernel)⟩ ⟨rfl, rfl, by decide, by decide⟩ ⟨Nat.le_trans (by omega) hkr.1, Nat.le_trans (by omega) hkr.2⟩ rfl rfl (Nat.le_of_ble_eq_true rfl) dL_law_245 ?_
    refine jl_istore C [(5, .int (1 : Int32)), (0, .ref b), (1, .ref s.heap.size), (2, .ref (s.heap.size + 63)), (3, .ref (s.heap.size + 87)), (4, .int (nI n))] dL_law_248 (by decide) rfl ?_
    refine jl_aload_n C 3 rfl dL_law_250 rfl ?_
    refine jl_arg (k := 1) C 1 5 rfl rfl (by omega) hL (by decide) dL_law_251 dL_law_252 dL_law_254 dL_law_255 dL_law_256 ?_
    refine jl_callR (As := [.int (xs (n + 1))]) (rest := []) C (kX12_house_0 l B D (adb (s.heap.size + 63)) cR (adb_I _ _) S' V' L' (xs (n + 1)) r S3 V3 L3 h2) mw_X12_house wd1633 wd1634 wd1632 rfl ⟨rfl, rfl, by decide, by decide⟩ ⟨Nat.le_trans (by omega) hkr.1, Nat.le_trans (by omega) hkr.2⟩ rfl rfl (Nat.le_of_ble_eq_true rfl) dL_law_257 ?_
    refine jl_istore C [(6, .int r), (5, .int (1 : Int32)), (0, .ref b), (1, .ref s.heap.size), (2, .ref (s.heap.size + 63)), (3, .ref (s.heap.size + 87)), (4, .int (nI n))] dL_law_260 (by decide) rfl ?_
    refine jl_aload_n C 4 rfl dL_law_262 rfl ?_
    refine jl_callR (As := []) (rest := []) C (kX12_thrown_0 l B D (adb (s.heap.size + 63)) cR (adb_I _ _) S3 V3 L3 (1 : Int32) h3) mw_X12_thrown wd1621 wd1622 wd1620 rfl ⟨rfl, rfl, by decide, by decide⟩ ⟨Nat.le_trans (by omega) hkr.1, Nat.le_trans (by omega) hkr.2⟩ rfl rfl (Nat.le_of_ble_eq_true rfl) dL_law_263 ?_
    refine jl_iload C 1 rfl dL_law_266 ?_
    refine jl_eqT (tgt := 273) C rfl dL_law_268 (by decide) ?_
    refine jl_iload C 1 rfl dL_law_273 ?_
    refine jl_if_neT (tgt := 290) C (by decide) dL_law_275 (by decide) ?_
    refine jl_goto (tgt := 1702) C dL_law_290 (by decide) ?_
    refine jl_widen (k2 := kc + 6) (n2 := ks + 36) (by omega) (by omega) ?_
    exact jl_sub [2, 3, 4, 5, 6] rfl (kk _ _ _ _ _ _ hR2)
def St_fault (Rel : (Nat → Int32) → (Nat → Nat → Int32) → (Nat → Int32) → (Nat → Nat → Int32) → (Nat → Int64) → Prop) : Prop := ∀ (S : Nat → Int32) (V : Nat → Nat → Int32) (S' : Nat → Int32) (V' : Nat → Nat → Int32) (L' : Nat → Int64), Rel S V S' V' L' → ∃ (r : Int32) (S3 : Nat → Int32), fX11_fault_0 S = some r ∧ fX12_fault_0 S' = some (r, S3) ∧ Rel S V S3 V' L'
set_option maxHeartbeats 4000000 in
set_option maxRecDepth 100000 in
theorem lc_fault (C : jCl p l s m args meth c D cA cR cO B b Ln xs) {Rel : (Nat → Int32) → (Nat → Nat → Int32) → (Nat → Int32) → (Nat → Nat → Int32) → (Nat → Int64) → Prop} (hst : St_fault Rel) (hR : Rel S V S' V' L') {n : Nat} (hn : n + 6 ≤ Ln) (hL : Ln ≤ 3072) (hkr : kc + 6 ≤ 601024 ∧ ks + 36 ≤ 7293034) (kk : ∀ S V S' V' L' o, Rel S V S' V' L' → jWl p l e s m args below meth c Q D cA cR cO (kc + 6) (ks + 36) 1702 [(0, .ref b), (1, .ref s.heap.size), (2, .ref (s.heap.size + 63)), (3, .ref (s.heap.size + 87)), (4, .int (nI n))] [] S V S' V' L' o) : jWl p l e s m args below meth c Q D cA cR cO kc ks 293 [(0, .ref b), (1, .ref s.heap.size), (2, .ref (s.heap.size + 63)), (3, .ref (s.heap.size + 87)), (4, .int (nI n))] [] S V S' V' L' o := by
  obtain ⟨r, S3, h1, h2, hR2⟩ := hst S V S' V' L' hR
  refine jl_aload_n C 1 rfl dL_law_293 rfl ?_
  refine jl_callC (As := []) (rest := []) C (kX11_fault_0 l B D (adb s.heap.size) cA (adb_I _ _) S V (fun _ => 0) r h1) mw_X11_fault wd565 wd566 wd564 rfl ⟨rfl, rfl, by decide, by decide⟩ ⟨Nat.le_trans (by omega) hkr.1, Nat.le_trans (by omega) hkr.2⟩ rfl rfl (Nat.le_of_ble_eq_true rfl) dL_law_294 ?_
  refine jl_aload_n C 2 rfl dL_law_297 rfl ?_
  refine jl_callR (As := []) (rest := [.int r]) C (kX12_fault_0 l B D (adb (s.heap.size + 63)) cR (adb_I _ _) S' V' L' r S3 h2) mw_X12_fault wd1752 wd1753 wd1751 rfl ⟨rfl, rfl, by decide, by decide⟩ ⟨Nat.le_trans (by omega) hkr.1, Nat.le_trans (by omega) hkr.2⟩ rfl rfl (Nat.le_of_ble_eq_true rfl) dL_law_298 ?_
  refine jl_eqT (tgt := 1702) C rfl dL_law_301 (by decide) ?_
  refine jl_widen (k2 := kc + 6) (n2 := ks + 36) (by omega) (by omega) ?_
  exact jl_sub [0, 1, 2, 3, 4] rfl (kk _ _ _ _ _ _ hR2)
def St_count (Rel : (Nat → Int32) → (Nat → Nat → Int32) → (Nat → Int32) → (Nat → Nat → Int32) → (Nat → Int64) → Prop) : Prop := ∀ (S : Nat → Int32) (V : Nat → Nat → Int32) (S' : Nat → Int32) (V' : Nat → Nat → Int32) (L' : Nat → Int64) (a1 : Int32), Rel S V S' V' L' → (∃ (r : Int32) (S3 : Nat → Int32), fX11_count_0 S V a1 = some (.inl r) ∧ fX12_count_0 S' V' a1 = some (r, S3) ∧ fX12_thrown_0 S3 = some 0 ∧ Rel S V S3 V' L') ∨ (∃ (r : Int32) (S3 : Nat → Int32), fX11_count_0 S V a1 = some (.inr 1) ∧ fX12_count_0 S' V' a1 = some (r, S3) ∧ fX12_thrown_0 S3 = some 1 ∧ Rel S V S3 V' L')
set_option maxHeartbeats 4000000 in
set_option maxRecDepth 100000 in
theorem lc_count (C : jCl p l s m args meth c D cA cR cO B b Ln xs) {Rel : (Nat → Int32) → (Nat → Nat → Int32) → (Nat → Int32) → (Nat → Nat → Int32) → (Nat → Int64) → Prop} (hst : St_count Rel) (hR : Rel S V S' V' L') {n : Nat} (hn : n + 6 ≤ Ln) (hL : Ln ≤ 3072) (hkr : kc + 6 ≤ 601024 ∧ ks + 36 ≤ 7293034) (kk : ∀ S V S' V' L' o, Rel S V S' V' L' → jWl p l e s m args below meth c Q D cA cR cO (kc + 6) (ks + 36) 1702 [(0, .ref b), (1, .ref s.heap.size), (2, .ref (s.heap.size + 63)), (3, .ref (s.heap.size + 87)), (4, .int (nI n))] [] S V S' V' L' o) : jWl p l e s m args below meth c Q D cA cR cO kc ks 306 [(0, .ref b), (1, .ref s.heap.size), (2, .ref (s.heap.size + 63)), (3, .ref (s.heap.size + 87)), (4, .int (nI n))] [] S V S' V' L' o := by
  rcases hst S V S' V' L' (xs (n + 1)) hR with ⟨r, S3, h1, h2, h3, hR2⟩ | ⟨r, S3, h1, h2, h3, hR2⟩
  · refine jl_aload_n C 1 rfl dL_law_306 rfl ?_
    refine jl_arg (k := 1) C 0 4 rfl rfl (by omega) hL (by decide) dL_law_307 dL_law_308 dL_law_310 dL_law_311 dL_law_312 ?_
    refine jl_aload_n C 3 rfl dL_law_313 rfl ?_
    refine jl_callW (As := [.ref s.heap.size, .int (xs (n + 1)), .ref (s.heap.size + 87)]) (rest := []) C (wL_count_ok l B D (adb s.heap.size) cA (adb_I _ _) C.2.2.2.2.2.2.2.2.2 (s.heap.size + 87) cO (adb_out s.heap.size) S V (fun _ => 0) o (xs (n + 1)) r h1) wcw_L_count wd102 wd1051 wd1050 ⟨by decide +kernel, by decide +kernel, (show Option.map (fun d => d.parameters.length) (parseMethodDescriptor yL_count.desc) = some 3 by decide +kernel)⟩ ⟨rfl, rfl, by decide, by decide⟩ ⟨Nat.le_trans (by omega) hkr.1, Nat.le_trans (by omega) hkr.2⟩ rfl rfl (Nat.le_of_ble_eq_true rfl) dL_law_314 ?_
    refine jl_istore C [(5, .int (0 : Int32)), (0, .ref b), (1, .ref s.heap.size), (2, .ref (s.heap.size + 63)), (3, .ref (s.heap.size + 87)), (4, .int (nI n))] dL_law_317 (by decide) rfl ?_
    refine jl_aload_n C 3 rfl dL_law_319 rfl ?_
    refine jl_arg (k := 1) C 1 5 rfl rfl (by omega) hL (by decide) dL_law_320 dL_law_321 dL_law_323 dL_law_324 dL_law_325 ?_
    refine jl_callR (As := [.int (xs (n + 1))]) (rest := []) C (kX12_count_0 l B D (adb (s.heap.size + 63)) cR (adb_I _ _) S' V' L' (xs (n + 1)) r S3 h2) mw_X12_count wd1756 wd1757 wd1755 rfl ⟨rfl, rfl, by decide, by decide⟩ ⟨Nat.le_trans (by omega) hkr.1, Nat.le_trans (by omega) hkr.2⟩ rfl rfl (Nat.le_of_ble_eq_true rfl) dL_law_326 ?_
    refine jl_istore C [(6, .int r), (5, .int (0 : Int32)), (0, .ref b), (1, .ref s.heap.size), (2, .ref (s.heap.size + 63)), (3, .ref (s.heap.size + 87)), (4, .int (nI n))] dL_law_329 (by decide) rfl ?_
    refine jl_aload_n C 4 rfl dL_law_331 rfl ?_
    refine jl_callR (As := []) (rest := []) C (kX12_thrown_0 l B D (adb (s.heap.size + 63)) cR (adb_I _ _) S3 V' L' (0 : Int32) h3) mw_X12_thrown wd1621 wd1622 wd1620 rfl ⟨rfl, rfl, by decide, by decide⟩ ⟨Nat.le_trans (by omega) hkr.1, Nat.le_trans (by omega) hkr.2⟩ rfl rfl (Nat.le_of_ble_eq_true rfl) dL_law_332 ?_
    refine jl_iload C 1 rfl dL_law_335 ?_
    refine jl_eqT (tgt := 342) C rfl dL_law_337 (by decide) ?_
    refine jl_iload C 1 rfl dL_law_342 ?_
    refine jl_if_neF (tgt := 359) C rfl dL_law_344 (by decide) ?_
    refine jl_aload_n C 5 rfl dL_law_347 rfl ?_
    refine jl_iconst C dL_law_348 ci_0 ?_
    refine jl_lald C dL_law_349 ?_
    refine jl_iload C 0 rfl dL_law_350 ?_
    refine jl_i2l C dL_law_352 ?_
    refine jl_lcmp C dL_law_353 ?_
    refine jl_if_eqT (tgt := 359) C (lg_cmp_self _) dL_law_354 (by decide) ?_
    refine jl_goto (tgt := 1702) C dL_law_359 (by decide) ?_
    refine jl_widen (k2 := kc + 6) (n2 := ks + 36) (by omega) (by omega) ?_
    exact jl_sub [2, 3, 4, 5, 6] rfl (kk _ _ _ _ _ _ hR2)
  · refine jl_aload_n C 1 rfl dL_law_306 rfl ?_
    refine jl_arg (k := 1) C 0 4 rfl rfl (by omega) hL (by decide) dL_law_307 dL_law_308 dL_law_310 dL_law_311 dL_law_312 ?_
    refine jl_aload_n C 3 rfl dL_law_313 rfl ?_
    refine jl_callW (As := [.ref s.heap.size, .int (xs (n + 1)), .ref (s.heap.size + 87)]) (rest := []) C (wL_count_ex1 l B D (adb s.heap.size) cA (adb_I _ _) C.2.2.2.2.2.2.2.2.2 (s.heap.size + 87) cO (adb_out s.heap.size) S V (fun _ => 0) o (xs (n + 1)) h1) wcw_L_count wd102 wd1051 wd1050 ⟨by decide +kernel, by decide +kernel, (show Option.map (fun d => d.parameters.length) (parseMethodDescriptor yL_count.desc) = some 3 by decide +kernel)⟩ ⟨rfl, rfl, by decide, by decide⟩ ⟨Nat.le_trans (by omega) hkr.1, Nat.le_trans (by omega) hkr.2⟩ rfl rfl (Nat.le_of_ble_eq_true rfl) dL_law_314 ?_
    refine jl_istore C [(5, .int (1 : Int32)), (0, .ref b), (1, .ref s.heap.size), (2, .ref (s.heap.size + 63)), (3, .ref (s.heap.size + 87)), (4, .int (nI n))] dL_law_317 (by decide) rfl ?_
    refine jl_aload_n C 3 rfl dL_law_319 rfl ?_
    refine jl_arg (k := 1) C 1 5 rfl rfl (by omega) hL (by decide) dL_law_320 dL_law_321 dL_law_323 dL_law_324 dL_law_325 ?_
    refine jl_callR (As := [.int (xs (n + 1))]) (rest := []) C (kX12_count_0 l B D (adb (s.heap.size + 63)) cR (adb_I _ _) S' V' L' (xs (n + 1)) r S3 h2) mw_X12_count wd1756 wd1757 wd1755 rfl ⟨rfl, rfl, by decide, by decide⟩ ⟨Nat.le_trans (by omega) hkr.1, Nat.le_trans (by omega) hkr.2⟩ rfl rfl (Nat.le_of_ble_eq_true rfl) dL_law_326 ?_
    refine jl_istore C [(6, .int r), (5, .int (1 : Int32)), (0, .ref b), (1, .ref s.heap.size), (2, .ref (s.heap.size + 63)), (3, .ref (s.heap.size + 87)), (4, .int (nI n))] dL_law_329 (by decide) rfl ?_
    refine jl_aload_n C 4 rfl dL_law_331 rfl ?_
    refine jl_callR (As := []) (rest := []) C (kX12_thrown_0 l B D (adb (s.heap.size + 63)) cR (adb_I _ _) S3 V' L' (1 : Int32) h3) mw_X12_thrown wd1621 wd1622 wd1620 rfl ⟨rfl, rfl, by decide, by decide⟩ ⟨Nat.le_trans (by omega) hkr.1, Nat.le_trans (by omega) hkr.2⟩ rfl rfl (Nat.le_of_ble_eq_true rfl) dL_law_332 ?_
    refine jl_iload C 1 rfl dL_law_335 ?_
    refine jl_eqT (tgt := 342) C rfl dL_law_337 (by decide) ?_
    refine jl_iload C 1 rfl dL_law_342 ?_
    refine jl_if_neT (tgt := 359) C (by decide) dL_law_344 (by decide) ?_
    refine jl_goto (tgt := 1702) C dL_law_359 (by decide) ?_
    refine jl_widen (k2 := kc + 6) (n2 := ks + 36) (by omega) (by omega) ?_
    exact jl_sub [2, 3, 4, 5, 6] rfl (kk _ _ _ _ _ _ hR2)
def St_tenant (Rel : (Nat → Int32) → (Nat → Nat → Int32) → (Nat → Int32) → (Nat → Nat → Int32) → (Nat → Int64) → Prop) : Prop := ∀ (S : Nat → Int32) (V : Nat → Nat → Int32) (S' : Nat → Int32) (V' : Nat → Nat → Int32) (L' : Nat → Int64) (a1 : Int32) (a2 : Int32), Rel S V S' V' L' → (∃ (r : Int32) (S3 : Nat → Int32), fX11_tenant_0 S V a1 a2 = some (.inl r) ∧ fX12_tenant_0 S' V' a1 a2 = some (r, S3) ∧ fX12_thrown_0 S3 = some 0 ∧ Rel S V S3 V' L') ∨ (∃ (r : Int32) (S3 : Nat → Int32), fX11_tenant_0 S V a1 a2 = some (.inr 1) ∧ fX12_tenant_0 S' V' a1 a2 = some (r, S3) ∧ fX12_thrown_0 S3 = some 1 ∧ Rel S V S3 V' L')
set_option maxHeartbeats 4000000 in
set_option maxRecDepth 100000 in
theorem lc_tenant (C : jCl p l s m args meth c D cA cR cO B b Ln xs) {Rel : (Nat → Int32) → (Nat → Nat → Int32) → (Nat → Int32) → (Nat → Nat → Int32) → (Nat → Int64) → Prop} (hst : St_tenant Rel) (hR : Rel S V S' V' L') {n : Nat} (hn : n + 6 ≤ Ln) (hL : Ln ≤ 3072) (hkr : kc + 6 ≤ 601024 ∧ ks + 36 ≤ 7293034) (kk : ∀ S V S' V' L' o, Rel S V S' V' L' → jWl p l e s m args below meth c Q D cA cR cO (kc + 6) (ks + 36) 1702 [(0, .ref b), (1, .ref s.heap.size), (2, .ref (s.heap.size + 63)), (3, .ref (s.heap.size + 87)), (4, .int (nI n))] [] S V S' V' L' o) : jWl p l e s m args below meth c Q D cA cR cO kc ks 362 [(0, .ref b), (1, .ref s.heap.size), (2, .ref (s.heap.size + 63)), (3, .ref (s.heap.size + 87)), (4, .int (nI n))] [] S V S' V' L' o := by
  rcases hst S V S' V' L' (xs (n + 1)) (xs (n + 2)) hR with ⟨r, S3, h1, h2, h3, hR2⟩ | ⟨r, S3, h1, h2, h3, hR2⟩
  · refine jl_aload_n C 1 rfl dL_law_362 rfl ?_
    refine jl_arg (k := 1) C 0 4 rfl rfl (by omega) hL (by decide) dL_law_363 dL_law_364 dL_law_366 dL_law_367 dL_law_368 ?_
    refine jl_arg (k := 2) C 0 4 rfl rfl (by omega) hL (by decide) dL_law_369 dL_law_370 dL_law_372 dL_law_373 dL_law_374 ?_
    refine jl_aload_n C 3 rfl dL_law_375 rfl ?_
    refine jl_callW (As := [.ref s.heap.size, .int (xs (n + 1)), .int (xs (n + 2)), .ref (s.heap.size + 87)]) (rest := []) C (wL_tenant_ok l B D (adb s.heap.size) cA (adb_I _ _) C.2.2.2.2.2.2.2.2.2 (s.heap.size + 87) cO (adb_out s.heap.size) S V (fun _ => 0) o (xs (n + 1)) (xs (n + 2)) r h1) wcw_L_tenant wd102 wd1075 wd1074 ⟨by decide +kernel, by decide +kernel, (show Option.map (fun d => d.parameters.length) (parseMethodDescriptor yL_tenant.desc) = some 4 by decide +kernel)⟩ ⟨rfl, rfl, by decide, by decide⟩ ⟨Nat.le_trans (by omega) hkr.1, Nat.le_trans (by omega) hkr.2⟩ rfl rfl (Nat.le_of_ble_eq_true rfl) dL_law_376 ?_
    refine jl_istore C [(5, .int (0 : Int32)), (0, .ref b), (1, .ref s.heap.size), (2, .ref (s.heap.size + 63)), (3, .ref (s.heap.size + 87)), (4, .int (nI n))] dL_law_379 (by decide) rfl ?_
    refine jl_aload_n C 3 rfl dL_law_381 rfl ?_
    refine jl_arg (k := 1) C 1 5 rfl rfl (by omega) hL (by decide) dL_law_382 dL_law_383 dL_law_385 dL_law_386 dL_law_387 ?_
    refine jl_arg (k := 2) C 1 5 rfl rfl (by omega) hL (by decide) dL_law_388 dL_law_389 dL_law_391 dL_law_392 dL_law_393 ?_
    refine jl_callR (As := [.int (xs (n + 1)), .int (xs (n + 2))]) (rest := []) C (kX12_tenant_0 l B D (adb (s.heap.size + 63)) cR (adb_I _ _) S' V' L' (xs (n + 1)) (xs (n + 2)) r S3 h2) mw_X12_tenant wd1811 wd1812 wd1810 rfl ⟨rfl, rfl, by decide, by decide⟩ ⟨Nat.le_trans (by omega) hkr.1, Nat.le_trans (by omega) hkr.2⟩ rfl rfl (Nat.le_of_ble_eq_true rfl) dL_law_394 ?_
    refine jl_istore C [(6, .int r), (5, .int (0 : Int32)), (0, .ref b), (1, .ref s.heap.size), (2, .ref (s.heap.size + 63)), (3, .ref (s.heap.size + 87)), (4, .int (nI n))] dL_law_397 (by decide) rfl ?_
    refine jl_aload_n C 4 rfl dL_law_399 rfl ?_
    refine jl_callR (As := []) (rest := []) C (kX12_thrown_0 l B D (adb (s.heap.size + 63)) cR (adb_I _ _) S3 V' L' (0 : Int32) h3) mw_X12_thrown wd1621 wd1622 wd1620 rfl ⟨rfl, rfl, by decide, by decide⟩ ⟨Nat.le_trans (by omega) hkr.1, Nat.le_trans (by omega) hkr.2⟩ rfl rfl (Nat.le_of_ble_eq_true rfl) dL_law_400 ?_
    refine jl_iload C 1 rfl dL_law_403 ?_
    refine jl_eqT (tgt := 410) C rfl dL_law_405 (by decide) ?_
    refine jl_iload C 1 rfl dL_law_410 ?_
    refine jl_if_neF (tgt := 427) C rfl dL_law_412 (by decide) ?_
    refine jl_aload_n C 5 rfl dL_law_415 rfl ?_
    refine jl_iconst C dL_law_416 ci_0 ?_
    refine jl_lald C dL_law_417 ?_
    refine jl_iload C 0 rfl dL_law_418 ?_
    refine jl_i2l C dL_law_420 ?_
    refine jl_lcmp C dL_law_421 ?_
    refine jl_if_eqT (tgt := 427) C (lg_cmp_self _) dL_law_422 (by decide) ?_
    refine jl_goto (tgt := 1702) C dL_law_427 (by decide) ?_
    refine jl_widen (k2 := kc + 6) (n2 := ks + 36) (by omega) (by omega) ?_
    exact jl_sub [2, 3, 4, 5, 6] rfl (kk _ _ _ _ _ _ hR2)
  · refine jl_aload_n C 1 rfl dL_law_362 rfl ?_
    refine jl_arg (k := 1) C 0 4 rfl rfl (by omega) hL (by decide) dL_law_363 dL_law_364 dL_law_366 dL_law_367 dL_law_368 ?_
    refine jl_arg (k := 2) C 0 4 rfl rfl (by omega) hL (by decide) dL_law_369 dL_law_370 dL_law_372 dL_law_373 dL_law_374 ?_
    refine jl_aload_n C 3 rfl dL_law_375 rfl ?_
    refine jl_callW (As := [.ref s.heap.size, .int (xs (n + 1)), .int (xs (n + 2)), .ref (s.heap.size + 87)]) (rest := []) C (wL_tenant_ex1 l B D (adb s.heap.size) cA (adb_I _ _) C.2.2.2.2.2.2.2.2.2 (s.heap.size + 87) cO (adb_out s.heap.size) S V (fun _ => 0) o (xs (n + 1)) (xs (n + 2)) h1) wcw_L_tenant wd102 wd1075 wd1074 ⟨by decide +kernel, by decide +kernel, (show Option.map (fun d => d.parameters.length) (parseMethodDescriptor yL_tenant.desc) = some 4 by decide +kernel)⟩ ⟨rfl, rfl, by decide, by decide⟩ ⟨Nat.le_trans (by omega) hkr.1, Nat.le_trans (by omega) hkr.2⟩ rfl rfl (Nat.le_of_ble_eq_true rfl) dL_law_376 ?_
    refine jl_istore C [(5, .int (1 : Int32)), (0, .ref b), (1, .ref s.heap.size), (2, .ref (s.heap.size + 63)), (3, .ref (s.heap.size + 87)), (4, .int (nI n))] dL_law_379 (by decide) rfl ?_
    refine jl_aload_n C 3 rfl dL_law_381 rfl ?_
    refine jl_arg (k := 1) C 1 5 rfl rfl (by omega) hL (by decide) dL_law_382 dL_law_383 dL_law_385 dL_law_386 dL_law_387 ?_
    refine jl_arg (k := 2) C 1 5 rfl rfl (by omega) hL (by decide) dL_law_388 dL_law_389 dL_law_391 dL_law_392 dL_law_393 ?_
    refine jl_callR (As := [.int (xs (n + 1)), .int (xs (n + 2))]) (rest := []) C (kX12_tenant_0 l B D (adb (s.heap.size + 63)) cR (adb_I _ _) S' V' L' (xs (n + 1)) (xs (n + 2)) r S3 h2) mw_X12_tenant wd1811 wd1812 wd1810 rfl ⟨rfl, rfl, by decide, by decide⟩ ⟨Nat.le_trans (by omega) hkr.1, Nat.le_trans (by omega) hkr.2⟩ rfl rfl (Nat.le_of_ble_eq_true rfl) dL_law_394 ?_
    refine jl_istore C [(6, .int r), (5, .int (1 : Int32)), (0, .ref b), (1, .ref s.heap.size), (2, .ref (s.heap.size + 63)), (3, .ref (s.heap.size + 87)), (4, .int (nI n))] dL_law_397 (by decide) rfl ?_
    refine jl_aload_n C 4 rfl dL_law_399 rfl ?_
    refine jl_callR (As := []) (rest := []) C (kX12_thrown_0 l B D (adb (s.heap.size + 63)) cR (adb_I _ _) S3 V' L' (1 : Int32) h3) mw_X12_thrown wd1621 wd1622 wd1620 rfl ⟨rfl, rfl, by decide, by decide⟩ ⟨Nat.le_trans (by omega) hkr.1, Nat.le_trans (by omega) hkr.2⟩ rfl rfl (Nat.le_of_ble_eq_true rfl) dL_law_400 ?_
    refine jl_iload C 1 rfl dL_law_403 ?_
    refine jl_eqT (tgt := 410) C rfl dL_law_405 (by decide) ?_
    refine jl_iload C 1 rfl dL_law_410 ?_
    refine jl_if_neT (tgt := 427) C (by decide) dL_law_412 (by decide) ?_
    refine jl_goto (tgt := 1702) C dL_law_427 (by decide) ?_
    refine jl_widen (k2 := kc + 6) (n2 := ks + 36) (by omega) (by omega) ?_
    exact jl_sub [2, 3, 4, 5, 6] rfl (kk _ _ _ _ _ _ hR2)
def St_lease (Rel : (Nat → Int32) → (Nat → Nat → Int32) → (Nat → Int32) → (Nat → Nat → Int32) → (Nat → Int64) → Prop) : Prop := ∀ (S : Nat → Int32) (V : Nat → Nat → Int32) (S' : Nat → Int32) (V' : Nat → Nat → Int32) (L' : Nat → Int64) (a1 : Int32) (a2 : Int32) (a3 : Int32) (a4 : Int32), Rel S V S' V' L' → ∃ (r : Int32) (S2 : Nat → Int32) (V2 : Nat → Nat → Int32) (S3 : Nat → Int32) (V3 : Nat → Nat → Int32), fX11_lease_0 S V a1 a2 a3 a4 = some (r, S2, V2) ∧ fX12_lease_0 S' V' a1 a2 a3 a4 = some (r, S3, V3) ∧ Rel S2 V2 S3 V3 L'
set_option maxHeartbeats 4000000 in
set_option maxRecDepth 100000 in
theorem lc_lease (C : jCl p l s m args meth c D cA cR cO B b Ln xs) {Rel : (Nat → Int32) → (Nat → Nat → Int32) → (Nat → Int32) → (Nat → Nat → Int32) → (Nat → Int64) → Prop} (hst : St_lease Rel) (hR : Rel S V S' V' L') {n : Nat} (hn : n + 6 ≤ Ln) (hL : Ln ≤ 3072) (hkr : kc + 6 ≤ 601024 ∧ ks + 36 ≤ 7293034) (kk : ∀ S V S' V' L' o, Rel S V S' V' L' → jWl p l e s m args below meth c Q D cA cR cO (kc + 6) (ks + 36) 1702 [(0, .ref b), (1, .ref s.heap.size), (2, .ref (s.heap.size + 63)), (3, .ref (s.heap.size + 87)), (4, .int (nI n))] [] S V S' V' L' o) : jWl p l e s m args below meth c Q D cA cR cO kc ks 430 [(0, .ref b), (1, .ref s.heap.size), (2, .ref (s.heap.size + 63)), (3, .ref (s.heap.size + 87)), (4, .int (nI n))] [] S V S' V' L' o := by
  obtain ⟨r, S2, V2, S3, V3, h1, h2, hR2⟩ := hst S V S' V' L' (xs (n + 1)) (xs (n + 2)) (xs (n + 3)) (xs (n + 4)) hR
  refine jl_aload_n C 1 rfl dL_law_430 rfl ?_
  refine jl_arg (k := 1) C 0 4 rfl rfl (by omega) hL (by decide) dL_law_431 dL_law_432 dL_law_434 dL_law_435 dL_law_436 ?_
  refine jl_arg (k := 2) C 0 4 rfl rfl (by omega) hL (by decide) dL_law_437 dL_law_438 dL_law_440 dL_law_441 dL_law_442 ?_
  refine jl_arg (k := 3) C 0 4 rfl rfl (by omega) hL (by decide) dL_law_443 dL_law_444 dL_law_446 dL_law_447 dL_law_448 ?_
  refine jl_arg (k := 4) C 0 4 rfl rfl (by omega) hL (by decide) dL_law_449 dL_law_450 dL_law_452 dL_law_453 dL_law_454 ?_
  refine jl_callC (As := [.int (xs (n + 1)), .int (xs (n + 2)), .int (xs (n + 3)), .int (xs (n + 4))]) (rest := []) C (kX11_lease_0 l B D (adb s.heap.size) cA (adb_I _ _) S V (fun _ => 0) (xs (n + 1)) (xs (n + 2)) (xs (n + 3)) (xs (n + 4)) r S2 V2 h1) mw_X11_lease wd569 wd570 wd568 rfl ⟨rfl, rfl, by decide, by decide⟩ ⟨Nat.le_trans (by omega) hkr.1, Nat.le_trans (by omega) hkr.2⟩ rfl rfl (Nat.le_of_ble_eq_true rfl) dL_law_455 ?_
  refine jl_aload_n C 2 rfl dL_law_458 rfl ?_
  refine jl_arg (k := 1) C 0 4 rfl rfl (by omega) hL (by decide) dL_law_459 dL_law_460 dL_law_462 dL_law_463 dL_law_464 ?_
  refine jl_arg (k := 2) C 0 4 rfl rfl (by omega) hL (by decide) dL_law_465 dL_law_466 dL_law_468 dL_law_469 dL_law_470 ?_
  refine jl_arg (k := 3) C 0 4 rfl rfl (by omega) hL (by decide) dL_law_471 dL_law_472 dL_law_474 dL_law_475 dL_law_476 ?_
  refine jl_arg (k := 4) C 0 4 rfl rfl (by omega) hL (by decide) dL_law_477 dL_law_478 dL_law_480 dL_law_481 dL_law_482 ?_
  refine jl_callR (As := [.int (xs (n + 1)), .int (xs (n + 2)), .int (xs (n + 3)), .int (xs (n + 4))]) (rest := [.int r]) C (kX12_lease_0 l B D (adb (s.heap.size + 63)) cR (adb_I _ _) S' V' L' (xs (n + 1)) (xs (n + 2)) (xs (n + 3)) (xs (n + 4)) r S3 V3 h2) mw_X12_lease wd1763 wd1764 wd1762 rfl ⟨rfl, rfl, by decide, by decide⟩ ⟨Nat.le_trans (by omega) hkr.1, Nat.le_trans (by omega) hkr.2⟩ rfl rfl (Nat.le_of_ble_eq_true rfl) dL_law_483 ?_
  refine jl_eqT (tgt := 1702) C rfl dL_law_486 (by decide) ?_
  refine jl_widen (k2 := kc + 6) (n2 := ks + 36) (by omega) (by omega) ?_
  exact jl_sub [0, 1, 2, 3, 4] rfl (kk _ _ _ _ _ _ hR2)
def St_judge (Rel : (Nat → Int32) → (Nat → Nat → Int32) → (Nat → Int32) → (Nat → Nat → Int32) → (Nat → Int64) → Prop) : Prop := ∀ (S : Nat → Int32) (V : Nat → Nat → Int32) (S' : Nat → Int32) (V' : Nat → Nat → Int32) (L' : Nat → Int64) (a1 : Int32) (a2 : Int32) (a3 : Int32) (a4 : Int32), Rel S V S' V' L' → ∃ (r : Int32) (V2 : Nat → Nat → Int32) (S3 : Nat → Int32) (V3 : Nat → Nat → Int32), fX11_judge_0 S V a1 a2 a3 a4 = some (r, V2) ∧ fX12_judge_0 S' V' a1 a2 a3 a4 = some (r, S3, V3) ∧ Rel S V2 S3 V3 L'
set_option maxHeartbeats 4000000 in
set_option maxRecDepth 100000 in
theorem lc_judge (C : jCl p l s m args meth c D cA cR cO B b Ln xs) {Rel : (Nat → Int32) → (Nat → Nat → Int32) → (Nat → Int32) → (Nat → Nat → Int32) → (Nat → Int64) → Prop} (hst : St_judge Rel) (hR : Rel S V S' V' L') {n : Nat} (hn : n + 6 ≤ Ln) (hL : Ln ≤ 3072) (hkr : kc + 6 ≤ 601024 ∧ ks + 36 ≤ 7293034) (kk : ∀ S V S' V' L' o, Rel S V S' V' L' → jWl p l e s m args below meth c Q D cA cR cO (kc + 6) (ks + 36) 1702 [(0, .ref b), (1, .ref s.heap.size), (2, .ref (s.heap.size + 63)), (3, .ref (s.heap.size + 87)), (4, .int (nI n))] [] S V S' V' L' o) : jWl p l e s m args below meth c Q D cA cR cO kc ks 491 [(0, .ref b), (1, .ref s.heap.size), (2, .ref (s.heap.size + 63)), (3, .ref (s.heap.size + 87)), (4, .int (nI n))] [] S V S' V' L' o := by
  obtain ⟨r, V2, S3, V3, h1, h2, hR2⟩ := hst S V S' V' L' (xs (n + 1)) (xs (n + 2)) (xs (n + 3)) (xs (n + 4)) hR
  refine jl_aload_n C 1 rfl dL_law_491 rfl ?_
  refine jl_arg (k := 1) C 0 4 rfl rfl (by omega) hL (by decide) dL_law_492 dL_law_493 dL_law_495 dL_law_496 dL_law_497 ?_
  refine jl_arg (k := 2) C 0 4 rfl rfl (by omega) hL (by decide) dL_law_498 dL_law_499 dL_law_501 dL_law_502 dL_law_503 ?_
  refine jl_arg (k := 3) C 0 4 rfl rfl (by omega) hL (by decide) dL_law_504 dL_law_505 dL_law_507 dL_law_508 dL_law_509 ?_
  refine jl_arg (k := 4) C 0 4 rfl rfl (by omega) hL (by decide) dL_law_510 dL_law_511 dL_law_513 dL_law_514 dL_law_515 ?_
  refine jl_callC (As := [.int (xs (n + 1)), .int (xs (n + 2)), .int (xs (n + 3)), .int (xs (n + 4))]) (rest := []) C (kX11_judge_0 l B D (adb s.heap.size) cA (adb_I _ _) S V (fun _ => 0) (xs (n + 1)) (xs (n + 2)) (xs (n + 3)) (xs (n + 4)) r V2 h1) mw_X11_judge wd644 wd645 wd643 rfl ⟨rfl, rfl, by decide, by decide⟩ ⟨Nat.le_trans (by omega) hkr.1, Nat.le_trans (by omega) hkr.2⟩ rfl rfl (Nat.le_of_ble_eq_true rfl) dL_law_516 ?_
  refine jl_aload_n C 2 rfl dL_law_519 rfl ?_
  refine jl_arg (k := 1) C 0 4 rfl rfl (by omega) hL (by decide) dL_law_520 dL_law_521 dL_law_523 dL_law_524 dL_law_525 ?_
  refine jl_arg (k := 2) C 0 4 rfl rfl (by omega) hL (by decide) dL_law_526 dL_law_527 dL_law_529 dL_law_530 dL_law_531 ?_
  refine jl_arg (k := 3) C 0 4 rfl rfl (by omega) hL (by decide) dL_law_532 dL_law_533 dL_law_535 dL_law_536 dL_law_537 ?_
  refine jl_arg (k := 4) C 0 4 rfl rfl (by omega) hL (by decide) dL_law_538 dL_law_539 dL_law_541 dL_law_542 dL_law_543 ?_
  refine jl_callR (As := [.int (xs (n + 1)), .int (xs (n + 2)), .int (xs (n + 3)), .int (xs (n + 4))]) (rest := [.int r]) C (kX12_judge_0 l B D (adb (s.heap.size + 63)) cR (adb_I _ _) S' V' L' (xs (n + 1)) (xs (n + 2)) (xs (n + 3)) (xs (n + 4)) r S3 V3 h2) mw_X12_judge wd1803 wd1804 wd1802 rfl ⟨rfl, rfl, by decide, by decide⟩ ⟨Nat.le_trans (by omega) hkr.1, Nat.le_trans (by omega) hkr.2⟩ rfl rfl (Nat.le_of_ble_eq_true rfl) dL_law_544 ?_
  refine jl_eqT (tgt := 1702) C rfl dL_law_547 (by decide) ?_
  refine jl_widen (k2 := kc + 6) (n2 := ks + 36) (by omega) (by omega) ?_
  exact jl_sub [0, 1, 2, 3, 4] rfl (kk _ _ _ _ _ _ hR2)
def St_undo (Rel : (Nat → Int32) → (Nat → Nat → Int32) → (Nat → Int32) → (Nat → Nat → Int32) → (Nat → Int64) → Prop) : Prop := ∀ (S : Nat → Int32) (V : Nat → Nat → Int32) (S' : Nat → Int32) (V' : Nat → Nat → Int32) (L' : Nat → Int64), Rel S V S' V' L' → ∃ (r : Int32) (S2 : Nat → Int32) (V2 : Nat → Nat → Int32) (S3 : Nat → Int32), fX11_undo_0 S V = some (r, S2, V2) ∧ fX12_undo_0 S' = some (r, S3) ∧ Rel S2 V2 S3 V' L'
set_option maxHeartbeats 4000000 in
set_option maxRecDepth 100000 in
theorem lc_undo (C : jCl p l s m args meth c D cA cR cO B b Ln xs) {Rel : (Nat → Int32) → (Nat → Nat → Int32) → (Nat → Int32) → (Nat → Nat → Int32) → (Nat → Int64) → Prop} (hst : St_undo Rel) (hR : Rel S V S' V' L') {n : Nat} (hn : n + 6 ≤ Ln) (hL : Ln ≤ 3072) (hkr : kc + 6 ≤ 601024 ∧ ks + 36 ≤ 7293034) (kk : ∀ S V S' V' L' o, Rel S V S' V' L' → jWl p l e s m args below meth c Q D cA cR cO (kc + 6) (ks + 36) 1702 [(0, .ref b), (1, .ref s.heap.size), (2, .ref (s.heap.size + 63)), (3, .ref (s.heap.size + 87)), (4, .int (nI n))] [] S V S' V' L' o) : jWl p l e s m args below meth c Q D cA cR cO kc ks 552 [(0, .ref b), (1, .ref s.heap.size), (2, .ref (s.heap.size + 63)), (3, .ref (s.heap.size + 87)), (4, .int (nI n))] [] S V S' V' L' o := by
  obtain ⟨r, S2, V2, S3, h1, h2, hR2⟩ := hst S V S' V' L' hR
  refine jl_aload_n C 1 rfl dL_law_552 rfl ?_
  refine jl_callC (As := []) (rest := []) C (kX11_undo_0 l B D (adb s.heap.size) cA (adb_I _ _) S V (fun _ => 0) r S2 V2 h1) mw_X11_undo wd648 wd649 wd647 rfl ⟨rfl, rfl, by decide, by decide⟩ ⟨Nat.le_trans (by omega) hkr.1, Nat.le_trans (by omega) hkr.2⟩ rfl rfl (Nat.le_of_ble_eq_true rfl) dL_law_553 ?_
  refine jl_aload_n C 2 rfl dL_law_556 rfl ?_
  refine jl_callR (As := []) (rest := [.int r]) C (kX12_undo_0 l B D (adb (s.heap.size + 63)) cR (adb_I _ _) S' V' L' r S3 h2) mw_X12_undo wd1807 wd1808 wd1806 rfl ⟨rfl, rfl, by decide, by decide⟩ ⟨Nat.le_trans (by omega) hkr.1, Nat.le_trans (by omega) hkr.2⟩ rfl rfl (Nat.le_of_ble_eq_true rfl) dL_law_557 ?_
  refine jl_eqT (tgt := 1702) C rfl dL_law_560 (by decide) ?_
  refine jl_widen (k2 := kc + 6) (n2 := ks + 36) (by omega) (by omega) ?_
  exact jl_sub [0, 1, 2, 3, 4] rfl (kk _ _ _ _ _ _ hR2)
def St_in (Rel : (Nat → Int32) → (Nat → Nat → Int32) → (Nat → Int32) → (Nat → Nat → Int32) → (Nat → Int64) → Prop) : Prop := ∀ (S : Nat → Int32) (V : Nat → Nat → Int32) (S' : Nat → Int32) (V' : Nat → Nat → Int32) (L' : Nat → Int64) (a1 : Int32) (a2 : Int32), Rel S V S' V' L' → (∃ (r : Int32) (S3 : Nat → Int32), fX11_in_0 V a1 a2 = some (.inl r) ∧ fX12_in_0 S' V' a1 a2 = some (r, S3) ∧ fX12_thrown_0 S3 = some 0 ∧ Rel S V S3 V' L') ∨ (∃ (r : Int32) (S3 : Nat → Int32), fX11_in_0 V a1 a2 = some (.inr 1) ∧ fX12_in_0 S' V' a1 a2 = some (r, S3) ∧ fX12_thrown_0 S3 = some 1 ∧ Rel S V S3 V' L')
set_option maxHeartbeats 4000000 in
set_option maxRecDepth 100000 in
theorem lc_in (C : jCl p l s m args meth c D cA cR cO B b Ln xs) {Rel : (Nat → Int32) → (Nat → Nat → Int32) → (Nat → Int32) → (Nat → Nat → Int32) → (Nat → Int64) → Prop} (hst : St_in Rel) (hR : Rel S V S' V' L') {n : Nat} (hn : n + 6 ≤ Ln) (hL : Ln ≤ 3072) (hkr : kc + 6 ≤ 601024 ∧ ks + 36 ≤ 7293034) (kk : ∀ S V S' V' L' o, Rel S V S' V' L' → jWl p l e s m args below meth c Q D cA cR cO (kc + 6) (ks + 36) 1702 [(0, .ref b), (1, .ref s.heap.size), (2, .ref (s.heap.size + 63)), (3, .ref (s.heap.size + 87)), (4, .int (nI n))] [] S V S' V' L' o) : jWl p l e s m args below meth c Q D cA cR cO kc ks 565 [(0, .ref b), (1, .ref s.heap.size), (2, .ref (s.heap.size + 63)), (3, .ref (s.heap.size + 87)), (4, .int (nI n))] [] S V S' V' L' o := by
  rcases hst S V S' V' L' (xs (n + 1)) (xs (n + 2)) hR with ⟨r, S3, h1, h2, h3, hR2⟩ | ⟨r, S3, h1, h2, h3, hR2⟩
  · refine jl_aload_n C 1 rfl dL_law_565 rfl ?_
    refine jl_arg (k := 1) C 0 4 rfl rfl (by omega) hL (by decide) dL_law_566 dL_law_567 dL_law_569 dL_law_570 dL_law_571 ?_
    refine jl_arg (k := 2) C 0 4 rfl rfl (by omega) hL (by decide) dL_law_572 dL_law_573 dL_law_575 dL_law_576 dL_law_577 ?_
    refine jl_aload_n C 3 rfl dL_law_578 rfl ?_
    refine jl_callW (As := [.ref s.heap.size, .int (xs (n + 1)), .int (xs (n + 2)), .ref (s.heap.size + 87)]) (rest := []) C (wL_in_ok l B D (adb s.heap.size) cA (adb_I _ _) C.2.2.2.2.2.2.2.2.2 (s.heap.size + 87) cO (adb_out s.heap.size) S V (fun _ => 0) o (xs (n + 1)) (xs (n + 2)) r h1) wcw_L_in wd102 wd1104 wd1103 ⟨by decide +kernel, by decide +kernel, (show Option.map (fun d => d.parameters.length) (parseMethodDescriptor yL_in.desc) = some 4 by decide +kernel)⟩ ⟨rfl, rfl, by decide, by decide⟩ ⟨Nat.le_trans (by omega) hkr.1, Nat.le_trans (by omega) hkr.2⟩ rfl rfl (Nat.le_of_ble_eq_true rfl) dL_law_579 ?_
    refine jl_istore C [(5, .int (0 : Int32)), (0, .ref b), (1, .ref s.heap.size), (2, .ref (s.heap.size + 63)), (3, .ref (s.heap.size + 87)), (4, .int (nI n))] dL_law_582 (by decide) rfl ?_
    refine jl_aload_n C 3 rfl dL_law_584 rfl ?_
    refine jl_arg (k := 1) C 1 5 rfl rfl (by omega) hL (by decide) dL_law_585 dL_law_586 dL_law_588 dL_law_589 dL_law_590 ?_
    refine jl_arg (k := 2) C 1 5 rfl rfl (by omega) hL (by decide) dL_law_591 dL_law_592 dL_law_594 dL_law_595 dL_law_596 ?_
    refine jl_callR (As := [.int (xs (n + 1)), .int (xs (n + 2))]) (rest := []) C (kX12_in_0 l B D (adb (s.heap.size + 63)) cR (adb_I _ _) S' V' L' (xs (n + 1)) (xs (n + 2)) r S3 h2) mw_X12_in wd1823 wd1824 wd1822 rfl ⟨rfl, rfl, by decide, by decide⟩ ⟨Nat.le_trans (by omega) hkr.1, Nat.le_trans (by omega) hkr.2⟩ rfl rfl (Nat.le_of_ble_eq_true rfl) dL_law_597 ?_
    refine jl_istore C [(6, .int r), (5, .int (0 : Int32)), (0, .ref b), (1, .ref s.heap.size), (2, .ref (s.heap.size + 63)), (3, .ref (s.heap.size + 87)), (4, .int (nI n))] dL_law_600 (by decide) rfl ?_
    refine jl_aload_n C 4 rfl dL_law_602 rfl ?_
    refine jl_callR (As := []) (rest := []) C (kX12_thrown_0 l B D (adb (s.heap.size + 63)) cR (adb_I _ _) S3 V' L' (0 : Int32) h3) mw_X12_thrown wd1621 wd1622 wd1620 rfl ⟨rfl, rfl, by decide, by decide⟩ ⟨Nat.le_trans (by omega) hkr.1, Nat.le_trans (by omega) hkr.2⟩ rfl rfl (Nat.le_of_ble_eq_true rfl) dL_law_603 ?_
    refine jl_iload C 1 rfl dL_law_606 ?_
    refine jl_eqT (tgt := 613) C rfl dL_law_608 (by decide) ?_
    refine jl_iload C 1 rfl dL_law_613 ?_
    refine jl_if_neF (tgt := 630) C rfl dL_law_615 (by decide) ?_
    refine jl_aload_n C 5 rfl dL_law_618 rfl ?_
    refine jl_iconst C dL_law_619 ci_0 ?_
    refine jl_lald C dL_law_620 ?_
    refine jl_iload C 0 rfl dL_law_621 ?_
    refine jl_i2l C dL_law_623 ?_
    refine jl_lcmp C dL_law_624 ?_
    refine jl_if_eqT (tgt := 630) C (lg_cmp_self _) dL_law_625 (by decide) ?_
    refine jl_goto (tgt := 1702) C dL_law_630 (by decide) ?_
    refine jl_widen (k2 := kc + 6) (n2 := ks + 36) (by omega) (by omega) ?_
    exact jl_sub [2, 3, 4, 5, 6] rfl (kk _ _ _ _ _ _ hR2)
  · refine jl_aload_n C 1 rfl dL_law_565 rfl ?_
    refine jl_arg (k := 1) C 0 4 rfl rfl (by omega) hL (by decide) dL_law_566 dL_law_567 dL_law_569 dL_law_570 dL_law_571 ?_
    refine jl_arg (k := 2) C 0 4 rfl rfl (by omega) hL (by decide) dL_law_572 dL_law_573 dL_law_575 dL_law_576 dL_law_577 ?_
    refine jl_aload_n C 3 rfl dL_law_578 rfl ?_
    refine jl_callW (As := [.ref s.heap.size, .int (xs (n + 1)), .int (xs (n + 2)), .ref (s.heap.size + 87)]) (rest := []) C (wL_in_ex1 l B D (adb s.heap.size) cA (adb_I _ _) C.2.2.2.2.2.2.2.2.2 (s.heap.size + 87) cO (adb_out s.heap.size) S V (fun _ => 0) o (xs (n + 1)) (xs (n + 2)) h1) wcw_L_in wd102 wd1104 wd1103 ⟨by decide +kernel, by decide +kernel, (show Option.map (fun d => d.parameters.length) (parseMethodDescriptor yL_in.desc) = some 4 by decide +kernel)⟩ ⟨rfl, rfl, by decide, by decide⟩ ⟨Nat.le_trans (by omega) hkr.1, Nat.le_trans (by omega) hkr.2⟩ rfl rfl (Nat.le_of_ble_eq_true rfl) dL_law_579 ?_
    refine jl_istore C [(5, .int (1 : Int32)), (0, .ref b), (1, .ref s.heap.size), (2, .ref (s.heap.size + 63)), (3, .ref (s.heap.size + 87)), (4, .int (nI n))] dL_law_582 (by decide) rfl ?_
    refine jl_aload_n C 3 rfl dL_law_584 rfl ?_
    refine jl_arg (k := 1) C 1 5 rfl rfl (by omega) hL (by decide) dL_law_585 dL_law_586 dL_law_588 dL_law_589 dL_law_590 ?_
    refine jl_arg (k := 2) C 1 5 rfl rfl (by omega) hL (by decide) dL_law_591 dL_law_592 dL_law_594 dL_law_595 dL_law_596 ?_
    refine jl_callR (As := [.int (xs (n + 1)), .int (xs (n + 2))]) (rest := []) C (kX12_in_0 l B D (adb (s.heap.size + 63)) cR (adb_I _ _) S' V' L' (xs (n + 1)) (xs (n + 2)) r S3 h2) mw_X12_in wd1823 wd1824 wd1822 rfl ⟨rfl, rfl, by decide, by decide⟩ ⟨Nat.le_trans (by omega) hkr.1, Nat.le_trans (by omega) hkr.2⟩ rfl rfl (Nat.le_of_ble_eq_true rfl) dL_law_597 ?_
    refine jl_istore C [(6, .int r), (5, .int (1 : Int32)), (0, .ref b), (1, .ref s.heap.size), (2, .ref (s.heap.size + 63)), (3, .ref (s.heap.size + 87)), (4, .int (nI n))] dL_law_600 (by decide) rfl ?_
    refine jl_aload_n C 4 rfl dL_law_602 rfl ?_
    refine jl_callR (As := []) (rest := []) C (kX12_thrown_0 l B D (adb (s.heap.size + 63)) cR (adb_I _ _) S3 V' L' (1 : Int32) h3) mw_X12_thrown wd1621 wd1622 wd1620 rfl ⟨rfl, rfl, by decide, by decide⟩ ⟨Nat.le_trans (by omega) hkr.1, Nat.le_trans (by omega) hkr.2⟩ rfl rfl (Nat.le_of_ble_eq_true rfl) dL_law_603 ?_
    refine jl_iload C 1 rfl dL_law_606 ?_
    refine jl_eqT (tgt := 613) C rfl dL_law_608 (by decide) ?_
    refine jl_iload C 1 rfl dL_law_613 ?_
    refine jl_if_neT (tgt := 630) C (by decide) dL_law_615 (by decide) ?_
    refine jl_goto (tgt := 1702) C dL_law_630 (by decide) ?_
    refine jl_widen (k2 := kc + 6) (n2 := ks + 36) (by omega) (by omega) ?_
    exact jl_sub [2, 3, 4, 5, 6] rfl (kk _ _ _ _ _ _ hR2)
end LC
