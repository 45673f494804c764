section LC
variable {p : Program} {l : Launch} {e : Env} {s : State} {m : MethodId} {args : Array Value} {below : List Frame} {meth : Method} {c : Code} {Q : State → Prop} {D : va_G} {cA cR : Nat → ClassId} {cO : ClassId} {kc ks : Nat} {B : jBT} {b Ln : Nat} {xs : Nat → Int32}
variable {pc : Nat} {lv : List (Nat × Value)} {st : List Value} {S : Nat → Int32} {V : Nat → Nat → Int32} {S' : Nat → Int32} {V' : Nat → Nat → Int32} {L' : Nat → Int64} {o : Nat → Int64}
def St_shared (Rel : (Nat → Int32) → (Nat → Nat → Int32) → (Nat → Int32) → (Nat → Nat → Int32) → (Nat → Int64) → Prop) : Prop := ∀ (S : Nat → Int32) (V : Nat → Nat → Int32) (S' : Nat → Int32) (V' : Nat → Nat → Int32) (L' : Nat → Int64) (a1 : Int32) (a2 : Int32), Rel S V S' V' L' → (∃ (r : Int32) (S3 : Nat → Int32), fX11_shared_0 S V a1 a2 = some (.inl r) ∧ fX12_shared_0 S' V' a1 a2 = some (r, S3) ∧ fX12_thrown_0 S3 = some 0 ∧ Rel S V S3 V' L') ∨ (∃ (r : Int32) (S3 : Nat → Int32), fX11_shared_0 S V a1 a2 = some (.inr 1) ∧ fX12_shared_0 S' V' a1 a2 = some (r, S3) ∧ fX12_thrown_0 S3 = some 1 ∧ Rel S V S3 V' L') ∨ (∃ (r : Int32) (S3 : Nat → Int32), fX11_shared_0 S V a1 a2 = some (.inr 0) ∧ fX12_shared_0 S' V' a1 a2 = some (r, S3) ∧ fX12_thrown_0 S3 = some 2 ∧ Rel S V S3 V' L')
set_option maxHeartbeats 4000000 in
set_option maxRecDepth 100000 in
theorem lc_shared (C : jCl p l s m args meth c D cA cR cO B b Ln xs) {Rel : (Nat → Int32) → (Nat → Nat → Int32) → (Nat → Int32) → (Nat → Nat → Int32) → (Nat → Int64) → Prop} (hst : St_shared Rel) (hR : Rel S V S' V' L') {n : Nat} (hn : n + 6 ≤ Ln) (hL : Ln ≤ 3072) (hkr : kc + 6 ≤ 601024 ∧ ks + 36 ≤ 7293034) (kk : ∀ S V S' V' L' o, Rel S V S' V' L' → jWl p l e s m args below meth c Q D cA cR cO (kc + 6) (ks + 36) 1702 [(0, .ref b), (1, .ref s.heap.size), (2, .ref (s.heap.size + 63)), (3, .ref (s.heap.size + 87)), (4, .int (nI n))] [] S V S' V' L' o) : jWl p l e s m args below meth c Q D cA cR cO kc ks 1221 [(0, .ref b), (1, .ref s.heap.size), (2, .ref (s.heap.size + 63)), (3, .ref (s.heap.size + 87)), (4, .int (nI n))] [] S V S' V' L' o := by
  rcases hst S V S' V' L' (xs (n + 1)) (xs (n + 2)) hR with ⟨r, S3, h1, h2, h3, hR2⟩ | ⟨r, S3, h1, h2, h3, hR2⟩ | ⟨r, S3, h1, h2, h3, hR2⟩
  · refine jl_aload_n C 1 rfl dL_law_1221 rfl ?_
    refine jl_arg (k := 1) C 0 4 rfl rfl (by omega) hL (by decide) dL_law_1222 dL_law_1223 dL_law_1225 dL_law_1226 dL_law_1227 ?_
    refine jl_arg (k := 2) C 0 4 rfl rfl (by omega) hL (by decide) dL_law_1228 dL_law_1229 dL_law_1231 dL_law_1232 dL_law_1233 ?_
    refine jl_aload_n C 3 rfl dL_law_1234 rfl ?_
    refine jl_callW (As := [.ref s.heap.size, .int (xs (n + 1)), .int (xs (n + 2)), .ref (s.heap.size + 87)]) (rest := []) C (wL_shared_ok l B D (adb s.heap.size) cA (adb_I _ _) C.2.2.2.2.2.2.2.2.2 (s.heap.size + 87) cO (adb_out s.heap.size) S V (fun _ => 0) o (xs (n + 1)) (xs (n + 2)) r h1) wcw_L_shared wd102 wd1332 wd1331 ⟨by decide +kernel, by decide +kernel, (show Option.map (fun d => d.parameters.length) (parseMethodDescriptor yL_shared.desc) = some 4 by decide +kernel)⟩ ⟨rfl, rfl, by decide, by decide⟩ ⟨Nat.le_trans (by omega) hkr.1, Nat.le_trans (by omega) hkr.2⟩ rfl rfl (Nat.le_of_ble_eq_true rfl) dL_law_1235 ?_
    refine jl_istore C [(5, .int (0 : Int32)), (0, .ref b), (1, .ref s.heap.size), (2, .ref (s.heap.size + 63)), (3, .ref (s.heap.size + 87)), (4, .int (nI n))] dL_law_1238 (by decide) rfl ?_
    refine jl_aload_n C 3 rfl dL_law_1240 rfl ?_
    refine jl_arg (k := 1) C 1 5 rfl rfl (by omega) hL (by decide) dL_law_1241 dL_law_1242 dL_law_1244 dL_law_1245 dL_law_1246 ?_
    refine jl_arg (k := 2) C 1 5 rfl rfl (by omega) hL (by decide) dL_law_1247 dL_law_1248 dL_law_1250 dL_law_1251 dL_law_1252 ?_
    refine jl_callR (As := [.int (xs (n + 1)), .int (xs (n + 2))]) (rest := []) C (kX12_shared_0 l B D (adb (s.heap.size + 63)) cR (adb_I _ _) S' V' L' (xs (n + 1)) (xs (n + 2)) r S3 h2) mw_X12_shared wd1921 wd1922 wd1920 rfl ⟨rfl, rfl, by decide, by decide⟩ ⟨Nat.le_trans (by omega) hkr.1, Nat.le_trans (by omega) hkr.2⟩ rfl rfl (Nat.le_of_ble_eq_true rfl) dL_law_1253 ?_
    refine jl_istore C [(6, .int r), (5, .int (0 : Int32)), (0, .ref b), (1, .ref s.heap.size), (2, .ref (s.heap.size + 63)), (3, .ref (s.heap.size + 87)), (4, .int (nI n))] dL_law_1256 (by decide) rfl ?_
    refine jl_aload_n C 4 rfl dL_law_1258 rfl ?_
    refine jl_callR (As := []) (rest := []) C (kX12_thrown_0 l B D (adb (s.heap.size + 63)) cR (adb_I _ _) S3 V' L' (0 : Int32) h3) mw_X12_thrown wd1621 wd1622 wd1620 rfl ⟨rfl, rfl, by decide, by decide⟩ ⟨Nat.le_trans (by omega) hkr.1, Nat.le_trans (by omega) hkr.2⟩ rfl rfl (Nat.le_of_ble_eq_true rfl) dL_law_1259 ?_
    refine jl_iload C 1 rfl dL_law_1262 ?_
    refine jl_eqT (tgt := 1269) C rfl dL_law_1264 (by decide) ?_
    refine jl_iload C 1 rfl dL_law_1269 ?_
    refine jl_if_neF (tgt := 1286) C rfl dL_law_1271 (by decide) ?_
    refine jl_aload_n C 5 rfl dL_law_1274 rfl ?_
    refine jl_iconst C dL_law_1275 ci_0 ?_
    refine jl_lald C dL_law_1276 ?_
    refine jl_iload C 0 rfl dL_law_1277 ?_
    refine jl_i2l C dL_law_1279 ?_
    refine jl_lcmp C dL_law_1280 ?_
    refine jl_if_eqT (tgt := 1286) C (lg_cmp_self _) dL_law_1281 (by decide) ?_
    refine jl_goto (tgt := 1702) C dL_law_1286 (by decide) ?_
    refine jl_widen (k2 := kc + 6) (n2 := ks + 36) (by omega) (by omega) ?_
    exact jl_sub [2, 3, 4, 5, 6] rfl (kk _ _ _ _ _ _ hR2)
  · refine jl_aload_n C 1 rfl dL_law_1221 rfl ?_
    refine jl_arg (k := 1) C 0 4 rfl rfl (by omega) hL (by decide) dL_law_1222 dL_law_1223 dL_law_1225 dL_law_1226 dL_law_1227 ?_
    refine jl_arg (k := 2) C 0 4 rfl rfl (by omega) hL (by decide) dL_law_1228 dL_law_1229 dL_law_1231 dL_law_1232 dL_law_1233 ?_
    refine jl_aload_n C 3 rfl dL_law_1234 rfl ?_
    refine jl_callW (As := [.ref s.heap.size, .int (xs (n + 1)), .int (xs (n + 2)), .ref (s.heap.size + 87)]) (rest := []) C (wL_shared_ex1 l B D (adb s.heap.size) cA (adb_I _ _) C.2.2.2.2.2.2.2.2.2 (s.heap.size + 87) cO (adb_out s.heap.size) S V (fun _ => 0) o (xs (n + 1)) (xs (n + 2)) h1) wcw_L_shared wd102 wd1332 wd1331 ⟨by decide +kernel, by decide +kernel, (show Option.map (fun d => d.parameters.length) (parseMethodDescriptor yL_shared.desc) = some 4 by decide +kernel)⟩ ⟨rfl, rfl, by decide, by decide⟩ ⟨Nat.le_trans (by omega) hkr.1, Nat.le_trans (by omega) hkr.2⟩ rfl rfl (Nat.le_of_ble_eq_true rfl) dL_law_1235 ?_
    refine jl_istore C [(5, .int (1 : Int32)), (0, .ref b), (1, .ref s.heap.size), (2, .ref (s.heap.size + 63)), (3, .ref (s.heap.size + 87)), (4, .int (nI n))] dL_law_1238 (by decide) rfl ?_
    refine jl_aload_n C 3 rfl dL_law_1240 rfl ?_
    refine jl_arg (k := 1) C 1 5 rfl rfl (by omega) hL (by decide) dL_law_1241 dL_law_1242 dL_law_1244 dL_law_1245 dL_law_1246 ?_
    refine jl_arg (k := 2) C 1 5 rfl rfl (by omega) hL (by decide) dL_law_1247 dL_law_1248 dL_law_1250 dL_law_1251 dL_law_1252 ?_
    refine jl_callR (As := [.int (xs (n + 1)), .int (xs (n + 2))]) (rest := []) C (kX12_shared_0 l B D (adb (s.heap.size + 63)) cR (adb_I _ _) S' V' L' (xs (n + 1)) (xs (n + 2)) r S3 h2) mw_X12_shared wd1921 wd1922 wd1920 rfl ⟨rfl, rfl, by decide, by decide⟩ ⟨Nat.le_trans (by omega) hkr.1, Nat.le_trans (by omega) hkr.2⟩ rfl rfl (Nat.le_of_ble_eq_true rfl) dL_law_1253 ?_
    refine jl_istore C [(6, .int r), (5, .int (1 : Int32)), (0, .ref b), (1, .ref s.heap.size), (2, .ref (s.heap.size + 63)), (3, .ref (s.heap.size + 87)), (4, .int (nI n))] dL_law_1256 (by decide) rfl ?_
    refine jl_aload_n C 4 rfl dL_law_1258 rfl ?_
    refine jl_callR (As := []) (rest := []) C (kX12_thrown_0 l B D (adb (s.heap.size + 63)) cR (adb_I _ _) S3 V' L' (1 : Int32) h3) mw_X12_thrown wd1621 wd1622 wd1620 rfl ⟨rfl, rfl, by decide, by decide⟩ ⟨Nat.le_trans (by omega) hkr.1, Nat.le_trans (by omega) hkr.2⟩ rfl rfl (Nat.le_of_ble_eq_true rfl) dL_law_1259 ?_
    refine jl_iload C 1 rfl dL_law_1262 ?_
    refine jl_eqT (tgt := 1269) C rfl dL_law_1264 (by decide) ?_
    refine jl_iload C 1 rfl dL_law_1269 ?_
    refine jl_if_neT (tgt := 1286) C (by decide) dL_law_1271 (by decide) ?_
    refine jl_goto (tgt := 1702) C dL_law_1286 (by decide) ?_
    refine jl_widen (k2 := kc + 6) (n2 := ks + 36) (by omega) (by omega) ?_
    exact jl_sub [2, 3, 4, 5, 6] rfl (kk _ _ _ _ _ _ hR2)
  · refine jl_aload_n C 1 rfl dL_law_1221 rfl ?_
    refine jl_arg (k := 1) C 0 4 rfl rfl (by omega) hL (by decide) dL_law_1222 dL_law_1223 dL_law_1225 dL_law_1226 dL_law_1227 ?_
    refine jl_arg (k := 2) C 0 4 rfl rfl (by omega) hL (by decide) dL_law_1228 dL_law_1229 dL_law_1231 dL_law_1232 dL_law_1233 ?_
    refine jl_aload_n C 3 rfl dL_law_1234 rfl ?_
    refine jl_callW (As := [.ref s.heap.size, .int (xs (n + 1)), .int (xs (n + 2)), .ref (s.heap.size + 87)]) (rest := []) C (wL_shared_ex0 l B D (adb s.heap.size) cA (adb_I _ _) C.2.2.2.2.2.2.2.2.2 (s.heap.size + 87) cO (adb_out s.heap.size) S V (fun _ => 0) o (xs (n + 1)) (xs (n + 2)) h1) wcw_L_shared wd102 wd1332 wd1331 ⟨by decide +kernel, by decide +kernel, (show Option.map (fun d => d.parameters.length) (parseMethodDescriptor yL_shared.desc) = some 4 by decide +kernel)⟩ ⟨rfl, rfl, by decide, by decide⟩ ⟨Nat.le_trans (by omega) hkr.1, Nat.le_trans (by omega) hkr.2⟩ rfl rfl (Nat.le_of_ble_eq_true rfl) dL_law_1235 ?_
    refine jl_istore C [(5, .int (2 : Int32)), (0, .ref b), (1, .ref s.heap.size), (2, .ref (s.heap.size + 63)), (3, .ref (s.heap.size + 87)), (4, .int (nI n))] dL_law_1238 (by decide) rfl ?_
    refine jl_aload_n C 3 rfl dL_law_1240 rfl ?_
    refine jl_arg (k := 1) C 1 5 rfl rfl (by omega) hL (by decide) dL_law_1241 dL_law_1242 dL_law_1244 dL_law_1245 dL_law_1246 ?_
    refine jl_arg (k := 2) C 1 5 rfl rfl (by omega) hL (by decide) dL_law_1247 dL_law_1248 dL_law_1250 dL_law_1251 dL_law_1252 ?_
    refine jl_callR (As := [.int (xs (n + 1)), .int (xs (n + 2))]) (rest := []) C (kX12_shared_0 l B D (adb (s.heap.size + 63)) cR (adb_I _ _) S' V' L' (xs (n + 1)) (xs (n + 2)) r S3 h2) mw_X12_shared wd1921 wd1922 wd1920 rfl ⟨rfl, rfl, by decide, by decide⟩ ⟨Nat.le_trans (by omega) hkr.1, Nat.le_trans (by omega) hkr.2⟩ rfl rfl (Nat.le_of_ble_eq_true rfl) dL_law_1253 ?_
    refine jl_istore C [(6, .int r), (5, .int (2 : Int32)), (0, .ref b), (1, .ref s.heap.size), (2, .ref (s.heap.size + 63)), (3, .ref (s.heap.size + 87)), (4, .int (nI n))] dL_law_1256 (by decide) rfl ?_
    refine jl_aload_n C 4 rfl dL_law_1258 rfl ?_
    refine jl_callR (As := []) (rest := []) C (kX12_thrown_0 l B D (adb (s.heap.size + 63)) cR (adb_I _ _) S3 V' L' (2 : Int32) h3) mw_X12_thrown wd1621 wd1622 wd1620 rfl ⟨rfl, rfl, by decide, by decide⟩ ⟨Nat.le_trans (by omega) hkr.1, Nat.le_trans (by omega) hkr.2⟩ rfl rfl (Nat.le_of_ble_eq_true rfl) dL_law_1259 ?_
    refine jl_iload C 1 rfl dL_law_1262 ?_
    refine jl_eqT (tgt := 1269) C rfl dL_law_1264 (by decide) ?_
    refine jl_iload C 1 rfl dL_law_1269 ?_
    refine jl_if_neT (tgt := 1286) C (by decide) dL_law_1271 (by decide) ?_
    refine jl_goto (tgt := 1702) C dL_law_1286 (by decide) ?_
    refine jl_widen (k2 := kc + 6) (n2 := ks + 36) (by omega) (by omega) ?_
    exact jl_sub [2, 3, 4, 5, 6] rfl (kk _ _ _ _ _ _ hR2)
def St_offer (Rel : (Nat → Int32) → (Nat → Nat → Int32) → (Nat → Int32) → (Nat → Nat → Int32) → (Nat → Int64) → Prop) : Prop := ∀ (S : Nat → Int32) (V : Nat → Nat → Int32) (S' : Nat → Int32) (V' : Nat → Nat → Int32) (L' : Nat → Int64) (a1 : Int32) (a2 : Int32) (a3 : Int32), Rel S V S' V' L' → ∃ (r : Int32) (S2 : Nat → Int32) (V2 : Nat → Nat → Int32) (S3 : Nat → Int32) (V3 : Nat → Nat → Int32), fX11_offer_0 S V a1 a2 a3 = some (r, S2, V2) ∧ fX12_offer_0 S' V' a1 a2 a3 = some (r, S3, V3) ∧ Rel S2 V2 S3 V3 L'
set_option maxHeartbeats 4000000 in
set_option maxRecDepth 100000 in
theorem lc_offer (C : jCl p l s m args meth c D cA cR cO B b Ln xs) {Rel : (Nat → Int32) → (Nat → Nat → Int32) → (Nat → Int32) → (Nat → Nat → Int32) → (Nat → Int64) → Prop} (hst : St_offer Rel) (hR : Rel S V S' V' L') {n : Nat} (hn : n + 6 ≤ Ln) (hL : Ln ≤ 3072) (hkr : kc + 6 ≤ 601024 ∧ ks + 36 ≤ 7293034) (kk : ∀ S V S' V' L' o, Rel S V S' V' L' → jWl p l e s m args below meth c Q D cA cR cO (kc + 6) (ks + 36) 1702 [(0, .ref b), (1, .ref s.heap.size), (2, .ref (s.heap.size + 63)), (3, .ref (s.heap.size + 87)), (4, .int (nI n))] [] S V S' V' L' o) : jWl p l e s m args below meth c Q D cA cR cO kc ks 1289 [(0, .ref b), (1, .ref s.heap.size), (2, .ref (s.heap.size + 63)), (3, .ref (s.heap.size + 87)), (4, .int (nI n))] [] S V S' V' L' o := by
  obtain ⟨r, S2, V2, S3, V3, h1, h2, hR2⟩ := hst S V S' V' L' (xs (n + 1)) (xs (n + 2)) (xs (n + 3)) hR
  refine jl_aload_n C 1 rfl dL_law_1289 rfl ?_
  refine jl_arg (k := 1) C 0 4 rfl rfl (by omega) hL (by decide) dL_law_1290 dL_law_1291 dL_law_1293 dL_law_1294 dL_law_1295 ?_
  refine jl_arg (k := 2) C 0 4 rfl rfl (by omega) hL (by decide) dL_law_1296 dL_law_1297 dL_law_1299 dL_law_1300 dL_law_1301 ?_
  refine jl_arg (k := 3) C 0 4 rfl rfl (by omega) hL (by decide) dL_law_1302 dL_law_1303 dL_law_1305 dL_law_1306 dL_law_1307 ?_
  refine jl_callC (As := [.int (xs (n + 1)), .int (xs (n + 2)), .int (xs (n + 3))]) (rest := []) C (kX11_offer_0 l B D (adb s.heap.size) cA (adb_I _ _) S V (fun _ => 0) (xs (n + 1)) (xs (n + 2)) (xs (n + 3)) r S2 V2 h1) mw_X11_offer wd656 wd657 wd655 rfl ⟨rfl, rfl, by decide, by decide⟩ ⟨Nat.le_trans (by omega) hkr.1, Nat.le_trans (by omega) hkr.2⟩ rfl rfl (Nat.le_of_ble_eq_true rfl) dL_law_1308 ?_
  refine jl_aload_n C 2 rfl dL_law_1311 rfl ?_
  refine jl_arg (k := 1) C 0 4 rfl rfl (by omega) hL (by decide) dL_law_1312 dL_law_1313 dL_law_1315 dL_law_1316 dL_law_1317 ?_
  refine jl_arg (k := 2) C 0 4 rfl rfl (by omega) hL (by decide) dL_law_1318 dL_law_1319 dL_law_1321 dL_law_1322 dL_law_1323 ?_
  refine jl_arg (k := 3) C 0 4 rfl rfl (by omega) hL (by decide) dL_law_1324 dL_law_1325 dL_law_1327 dL_law_1328 dL_law_1329 ?_
  refine jl_callR (As := [.int (xs (n + 1)), .int (xs (n + 2)), .int (xs (n + 3))]) (rest := [.int r]) C (kX12_offer_0 l B D (adb (s.heap.size + 63)) cR (adb_I _ _) S' V' L' (xs (n + 1)) (xs (n + 2)) (xs (n + 3)) r S3 V3 h2) mw_X12_offer wd1925 wd1926 wd1924 rfl ⟨rfl, rfl, by decide, by decide⟩ ⟨Nat.le_trans (by omega) hkr.1, Nat.le_trans (by omega) hkr.2⟩ rfl rfl (Nat.le_of_ble_eq_true rfl) dL_law_1330 ?_
  refine jl_eqT (tgt := 1702) C rfl dL_law_1333 (by decide) ?_
  refine jl_widen (k2 := kc + 6) (n2 := ks + 36) (by omega) (by omega) ?_
  exact jl_sub [0, 1, 2, 3, 4] rfl (kk _ _ _ _ _ _ hR2)
def St_sublet (Rel : (Nat → Int32) → (Nat → Nat → Int32) → (Nat → Int32) → (Nat → Nat → Int32) → (Nat → Int64) → Prop) : Prop := ∀ (S : Nat → Int32) (V : Nat → Nat → Int32) (S' : Nat → Int32) (V' : Nat → Nat → Int32) (L' : Nat → Int64) (a1 : Int32), Rel S V S' V' L' → (∃ (r : Int32) (S2 : Nat → Int32) (S3 : Nat → Int32), fX11_sublet_0 S V a1 = some (.inl (r, S2)) ∧ fX12_sublet_0 S' V' a1 = some (r, S3) ∧ fX12_thrown_0 S3 = some 0 ∧ Rel S2 V S3 V' L') ∨ (∃ (r : Int32) (S3 : Nat → Int32), fX11_sublet_0 S V a1 = some (.inr 1) ∧ fX12_sublet_0 S' V' a1 = some (r, S3) ∧ fX12_thrown_0 S3 = some 1 ∧ Rel S V S3 V' L')
set_option maxHeartbeats 4000000 in
set_option maxRecDepth 100000 in
theorem lc_sublet (C : jCl p l s m args meth c D cA cR cO B b Ln xs) {Rel : (Nat → Int32) → (Nat → Nat → Int32) → (Nat → Int32) → (Nat → Nat → Int32) → (Nat → Int64) → Prop} (hst : St_sublet Rel) (hR : Rel S V S' V' L') {n : Nat} (hn : n + 6 ≤ Ln) (hL : Ln ≤ 3072) (hkr : kc + 6 ≤ 601024 ∧ ks + 36 ≤ 7293034) (kk : ∀ S V S' V' L' o, Rel S V S' V' L' → jWl p l e s m args below meth c Q D cA cR cO (kc + 6) (ks + 36) 1702 [(0, .ref b), (1, .ref s.heap.size), (2, .ref (s.heap.size + 63)), (3, .ref (s.heap.size + 87)), (4, .int (nI n))] [] S V S' V' L' o) : jWl p l e s m args below meth c Q D cA cR cO kc ks 1338 [(0, .ref b), (1, .ref s.heap.size), (2, .ref (s.heap.size + 63)), (3, .ref (s.heap.size + 87)), (4, .int (nI n))] [] S V S' V' L' o := by
  rcases hst S V S' V' L' (xs (n + 1)) hR with ⟨r, S2, S3, h1, h2, h3, hR2⟩ | ⟨r, S3, h1, h2, h3, hR2⟩
  · refine jl_aload_n C 1 rfl dL_law_1338 rfl ?_
    refine jl_arg (k := 1) C 0 4 rfl rfl (by omega) hL (by decide) dL_law_1339 dL_law_1340 dL_law_1342 dL_law_1343 dL_law_1344 ?_
    refine jl_aload_n C 3 rfl dL_law_1345 rfl ?_
    refine jl_callW (As := [.ref s.heap.size, .int (xs (n + 1)), .ref (s.heap.size + 87)]) (rest := []) C (wL_sublet_ok l B D (adb s.heap.size) cA (adb_I _ _) C.2.2.2.2.2.2.2.2.2 (s.heap.size + 87) cO (adb_out s.heap.size) S V (fun _ => 0) o (xs (n + 1)) r S2 h1) wcw_L_sublet wd102 wd1345 wd1344 ⟨by decide +kernel, by decide +kernel, (show Option.map (fun d => d.parameters.length) (parseMethodDescriptor yL_sublet.desc) = some 3 by decide +kernel)⟩ ⟨rfl, rfl, by decide, by decide⟩ ⟨Nat.le_trans (by omega) hkr.1, Nat.le_trans (by omega) hkr.2⟩ rfl rfl (Nat.le_of_ble_eq_true rfl) dL_law_1346 ?_
    refine jl_istore C [(5, .int (0 : Int32)), (0, .ref b), (1, .ref s.heap.size), (2, .ref (s.heap.size + 63)), (3, .ref (s.heap.size + 87)), (4, .int (nI n))] dL_law_1349 (by decide) rfl ?_
    refine jl_aload_n C 3 rfl dL_law_1351 rfl ?_
    refine jl_arg (k := 1) C 1 5 rfl rfl (by omega) hL (by decide) dL_law_1352 dL_law_1353 dL_law_1355 dL_law_1356 dL_law_1357 ?_
    refine jl_callR (As := [.int (xs (n + 1))]) (rest := []) C (kX12_sublet_0 l B D (adb (s.heap.size + 63)) cR (adb_I _ _) S' V' L' (xs (n + 1)) r S3 h2) mw_X12_sublet wd1929 wd1930 wd1928 rfl ⟨rfl, rfl, by decide, by decide⟩ ⟨Nat.le_trans (by omega) hkr.1, Nat.le_trans (by omega) hkr.2⟩ rfl rfl (Nat.le_of_ble_eq_true rfl) dL_law_1358 ?_
    refine jl_istore C [(6, .int r), (5, .int (0 : Int32)), (0, .ref b), (1, .ref s.heap.size), (2, .ref (s.heap.size + 63)), (3, .ref (s.heap.size + 87)), (4, .int (nI n))] dL_law_1361 (by decide) rfl ?_
    refine jl_aload_n C 4 rfl dL_law_1363 rfl ?_
    refine jl_callR (As := []) (rest := []) C (kX12_thrown_0 l B D (adb (s.heap.size + 63)) cR (adb_I _ _) S3 V' L' (0 : Int32) h3) mw_X12_thrown wd1621 wd1622 wd1620 rfl ⟨rfl, rfl, by decide, by decide⟩ ⟨Nat.le_trans (by omega) hkr.1, Nat.le_trans (by omega) hkr.2⟩ rfl rfl (Nat.le_of_ble_eq_true rfl) dL_law_1364 ?_
    refine jl_iload C 1 rfl dL_law_1367 ?_
    refine jl_eqT (tgt := 1374) C rfl dL_law_1369 (by decide) ?_
    refine jl_iload C 1 rfl dL_law_1374 ?_
    refine jl_if_neF (tgt := 1391) C rfl dL_law_1376 (by decide) ?_
    refine jl_aload_n C 5 rfl dL_law_1379 rfl ?_
    refine jl_iconst C dL_law_1380 ci_0 ?_
    refine jl_lald C dL_law_1381 ?_
    refine jl_iload C 0 rfl dL_law_1382 ?_
    refine jl_i2l C dL_law_1384 ?_
    refine jl_lcmp C dL_law_1385 ?_
    refine jl_if_eqT (tgt := 1391) C (lg_cmp_self _) dL_law_1386 (by decide) ?_
    refine jl_goto (tgt := 1702) C dL_law_1391 (by decide) ?_
    refine jl_widen (k2 := kc + 6) (n2 := ks + 36) (by omega) (by omega) ?_
    exact jl_sub [2, 3, 4, 5, 6] rfl (kk _ _ _ _ _ _ hR2)
  · refine jl_aload_n C 1 rfl dL_law_1338 rfl ?_
    refine jl_arg (k := 1) C 0 4 rfl rfl (by omega) hL (by decide) dL_law_1339 dL_law_1340 dL_law_1342 dL_law_1343 dL_law_1344 ?_
    refine jl_aload_n C 3 rfl dL_law_1345 rfl ?_
    refine jl_callW (As := [.ref s.heap.size, .int (xs (n + 1)), .ref (s.heap.size + 87)]) (rest := []) C (wL_sublet_ex1 l B D (adb s.heap.size) cA (adb_I _ _) C.2.2.2.2.2.2.2.2.2 (s.heap.size + 87) cO (adb_out s.heap.size) S V (fun _ => 0) o (xs (n + 1)) h1) wcw_L_sublet wd102 wd1345 wd1344 ⟨by decide +kernel, by decide +kernel, (show Option.map (fun d => d.parameters.length) (parseMethodDescriptor yL_sublet.desc) = some 3 by decide +kernel)⟩ ⟨rfl, rfl, by decide, by decide⟩ ⟨Nat.le_trans (by omega) hkr.1, Nat.le_trans (by omega) hkr.2⟩ rfl rfl (Nat.le_of_ble_eq_true rfl) dL_law_1346 ?_
    refine jl_istore C [(5, .int (1 : Int32)), (0, .ref b), (1, .ref s.heap.size), (2, .ref (s.heap.size + 63)), (3, .ref (s.heap.size + 87)), (4, .int (nI n))] dL_law_1349 (by decide) rfl ?_
    refine jl_aload_n C 3 rfl dL_law_1351 rfl ?_
    refine jl_arg (k := 1) C 1 5 rfl rfl (by omega) hL (by decide) dL_law_1352 dL_law_1353 dL_law_1355 dL_law_1356 dL_law_1357 ?_
    refine jl_callR (As := [.int (xs (n + 1))]) (rest := []) C (kX12_sublet_0 l B D (adb (s.heap.size + 63)) cR (adb_I _ _) S' V' L' (xs (n + 1)) r S3 h2) mw_X12_sublet wd1929 wd1930 wd1928 rfl ⟨rfl, rfl, by decide, by decide⟩ ⟨Nat.le_trans (by omega) hkr.1, Nat.le_trans (by omega) hkr.2⟩ rfl rfl (Nat.le_of_ble_eq_true rfl) dL_law_1358 ?_
    refine jl_istore C [(6, .int r), (5, .int (1 : Int32)), (0, .ref b), (1, .ref s.heap.size), (2, .ref (s.heap.size + 63)), (3, .ref (s.heap.size + 87)), (4, .int (nI n))] dL_law_1361 (by decide) rfl ?_
    refine jl_aload_n C 4 rfl dL_law_1363 rfl ?_
    refine jl_callR (As := []) (rest := []) C (kX12_thrown_0 l B D (adb (s.heap.size + 63)) cR (adb_I _ _) S3 V' L' (1 : Int32) h3) mw_X12_thrown wd1621 wd1622 wd1620 rfl ⟨rfl, rfl, by decide, by decide⟩ ⟨Nat.le_trans (by omega) hkr.1, Nat.le_trans (by omega) hkr.2⟩ rfl rfl (Nat.le_of_ble_eq_true rfl) dL_law_1364 ?_
    refine jl_iload C 1 rfl dL_law_1367 ?_
    refine jl_eqT (tgt := 1374) C rfl dL_law_1369 (by decide) ?_
    refine jl_iload C 1 rfl dL_law_1374 ?_
    refine jl_if_neT (tgt := 1391) C (by decide) dL_law_1376 (by decide) ?_
    refine jl_goto (tgt := 1702) C dL_law_1391 (by decide) ?_
    refine jl_widen (k2 := kc + 6) (n2 := ks + 36) (by omega) (by omega) ?_
    exact jl_sub [2, 3, 4, 5, 6] rfl (kk _ _ _ _ _ _ hR2)
def St_wedding (Rel : (Nat → Int32) → (Nat → Nat → Int32) → (Nat → Int32) → (Nat → Nat → Int32) → (Nat → Int64) → Prop) : Prop := ∀ (S : Nat → Int32) (V : Nat → Nat → Int32) (S' : Nat → Int32) (V' : Nat → Nat → Int32) (L' : Nat → Int64) (a1 : Int32), Rel S V S' V' L' → (∃ (r : Int32) (S3 : Nat → Int32), fX11_wedding_0 S V a1 = some (.inl r) ∧ fX12_wedding_0 S' V' a1 = some (r, S3) ∧ fX12_thrown_0 S3 = some 0 ∧ Rel S V S3 V' L') ∨ (∃ (r : Int32) (S3 : Nat → Int32), fX11_wedding_0 S V a1 = some (.inr 0) ∧ fX12_wedding_0 S' V' a1 = some (r, S3) ∧ fX12_thrown_0 S3 = some 1 ∧ Rel S V S3 V' L')
set_option maxHeartbeats 4000000 in
set_option maxRecDepth 100000 in
theorem lc_wedding (C : jCl p l s m args meth c D cA cR cO B b Ln xs) {Rel : (Nat → Int32) → (Nat → Nat → Int32) → (Nat → Int32) → (Nat → Nat → Int32) → (Nat → Int64) → Prop} (hst : St_wedding Rel) (hR : Rel S V S' V' L') {n : Nat} (hn : n + 6 ≤ Ln) (hL : Ln ≤ 3072) (hkr : kc + 6 ≤ 601024 ∧ ks + 36 ≤ 7293034) (kk : ∀ S V S' V' L' o, Rel S V S' V' L' → jWl p l e s m args below meth c Q D cA cR cO (kc + 6) (ks + 36) 1702 [(0, .ref b), (1, .ref s.heap.size), (2, .ref (s.heap.size + 63)), (3, .ref (s.heap.size + 87)), (4, .int (nI n))] [] S V S' V' L' o) : jWl p l e s m args below meth c Q D cA cR cO kc ks 1394 [(0, .ref b), (1, .ref s.heap.size), (2, .ref (s.heap.size + 63)), (3, .ref (s.heap.size + 87)), (4, .int (nI n))] [] S V S' V' L' o := by
  rcases hst S V S' V' L' (xs (n + 1)) hR with ⟨r, S3, h1, h2, h3, hR2⟩ | ⟨r, S3, h1, h2, h3, hR2⟩
  · refine jl_aload_n C 1 rfl dL_law_1394 rfl ?_
    refine jl_arg (k := 1) C 0 4 rfl rfl (by omega) hL (by decide) dL_law_1395 dL_law_1396 dL_law_1398 dL_law_1399 dL_law_1400 ?_
    refine jl_aload_n C 3 rfl dL_law_1401 rfl ?_
    refine jl_callW (As := [.ref s.heap.size, .int (xs (n + 1)), .ref (s.heap.size + 87)]) (rest := []) C (wL_wedding_ok l B D (adb s.heap.size) cA (adb_I _ _) C.2.2.2.2.2.2.2.2.2 (s.heap.size + 87) cO (adb_out s.heap.size) S V (fun _ => 0) o (xs (n + 1)) r h1) wcw_L_wedding wd102 wd1365 wd1364 ⟨by decide +kernel, by decide +kernel, (show Option.map (fun d => d.parameters.length) (parseMethodDescriptor yL_wedding.desc) = some 3 by decide +kernel)⟩ ⟨rfl, rfl, by decide, by decide⟩ ⟨Nat.le_trans (by omega) hkr.1, Nat.le_trans (by omega) hkr.2⟩ rfl rfl (Nat.le_of_ble_eq_true rfl) dL_law_1402 ?_
    refine jl_istore C [(5, .int (0 : Int32)), (0, .ref b), (1, .ref s.heap.size), (2, .ref (s.heap.size + 63)), (3, .ref (s.heap.size + 87)), (4, .int (nI n))] dL_law_1405 (by decide) rfl ?_
    refine jl_aload_n C 3 rfl dL_law_1407 rfl ?_
    refine jl_arg (k := 1) C 1 5 rfl rfl (by omega) hL (by decide) dL_law_1408 dL_law_1409 dL_law_1411 dL_law_1412 dL_law_1413 ?_
    refine jl_callR (As := [.int (xs (n + 1))]) (rest := []) C (kX12_wedding_0 l B D (adb (s.heap.size + 63)) cR (adb_I _ _) S' V' L' (xs (n + 1)) r S3 h2) mw_X12_wedding wd1938 wd1939 wd1937 rfl ⟨rfl, rfl, by decide, by decide⟩ ⟨Nat.le_trans (by omega) hkr.1, Nat.le_trans (by omega) hkr.2⟩ rfl rfl (Nat.le_of_ble_eq_true rfl) dL_law_1414 ?_
    refine jl_istore C [(6, .int r), (5, .int (0 : Int32)), (0, .ref b), (1, .ref s.heap.size), (2, .ref (s.heap.size + 63)), (3, .ref (s.heap.size + 87)), (4, .int (nI n))] dL_law_1417 (by decide) rfl ?_
    refine jl_aload_n C 4 rfl dL_law_1419 rfl ?_
    refine jl_callR (As := []) (rest := []) C (kX12_thrown_0 l B D (adb (s.heap.size + 63)) cR (adb_I _ _) S3 V' L' (0 : Int32) h3) mw_X12_thrown wd1621 wd1622 wd1620 rfl ⟨rfl, rfl, by decide, by decide⟩ ⟨Nat.le_trans (by omega) hkr.1, Nat.le_trans (by omega) hkr.2⟩ rfl rfl (Nat.le_of_ble_eq_true rfl) dL_law_1420 ?_
    refine jl_iload C 1 rfl dL_law_1423 ?_
    refine jl_eqT (tgt := 1430) C rfl dL_law_1425 (by decide) ?_
    refine jl_iload C 1 rfl dL_law_1430 ?_
    refine jl_if_neF (tgt := 1447) C rfl dL_law_1432 (by decide) ?_
    refine jl_aload_n C 5 rfl dL_law_1435 rfl ?_
    refine jl_iconst C dL_law_1436 ci_0 ?_
    refine jl_lald C dL_law_1437 ?_
    refine jl_iload C 0 rfl dL_law_1438 ?_
    refine jl_i2l C dL_law_1440 ?_
    refine jl_lcmp C dL_law_1441 ?_
    refine jl_if_eqT (tgt := 1447) C (lg_cmp_self _) dL_law_1442 (by decide) ?_
    refine jl_goto (tgt := 1702) C dL_law_1447 (by decide) ?_
    refine jl_widen (k2 := kc + 6) (n2 := ks + 36) (by omega) (by omega) ?_
    exact jl_sub [2, 3, 4, 5, 6] rfl (kk _ _ _ _ _ _ hR2)
  · refine jl_aload_n C 1 rfl dL_law_1394 rfl ?_
    refine jl_arg (k := 1) C 0 4 rfl rfl (by omega) hL (by decide) dL_law_1395 dL_law_1396 dL_law_1398 dL_law_1399 dL_law_1400 ?_
    refine jl_aload_n C 3 rfl dL_law_1401 rfl ?_
    refine jl_callW (As := [.ref s.heap.size, .int (xs (n + 1)), .ref (s.heap.size + 87)]) (rest := []) C (wL_wedding_ex0 l B D (adb s.heap.size) cA (adb_I _ _) C.2.2.2.2.2.2.2.2.2 (s.heap.size + 87) cO (adb_out s.heap.size) S V (fun _ => 0) o (xs (n + 1)) h1) wcw_L_wedding wd102 wd1365 wd1364 ⟨by decide +kernel, by decide +kernel, (show Option.map (fun d => d.parameters.length) (parseMethodDescriptor yL_wedding.desc) = some 3 by decide +kernel)⟩ ⟨rfl, rfl, by decide, by decide⟩ ⟨Nat.le_trans (by omega) hkr.1, Nat.le_trans (by omega) hkr.2⟩ rfl rfl (Nat.le_of_ble_eq_true rfl) dL_law_1402 ?_
    refine jl_istore C [(5, .int (1 : Int32)), (0, .ref b), (1, .ref s.heap.size), (2, .ref (s.heap.size + 63)), (3, .ref (s.heap.size + 87)), (4, .int (nI n))] dL_law_1405 (by decide) rfl ?_
    refine jl_aload_n C 3 rfl dL_law_1407 rfl ?_
    refine jl_arg (k := 1) C 1 5 rfl rfl (by omega) hL (by decide) dL_law_1408 dL_law_1409 dL_law_1411 dL_law_1412 dL_law_1413 ?_
    refine jl_callR (As := [.int (xs (n + 1))]) (rest := []) C (kX12_wedding_0 l B D (adb (s.heap.size + 63)) cR (adb_I _ _) S' V' L' (xs (n + 1)) r S3 h2) mw_X12_wedding wd1938 wd1939 wd1937 rfl ⟨rfl, rfl, by decide, by decide⟩ ⟨Nat.le_trans (by omega) hkr.1, Nat.le_trans (by omega) hkr.2⟩ rfl rfl (Nat.le_of_ble_eq_true rfl) dL_law_1414 ?_
    refine jl_istore C [(6, .int r), (5, .int (1 : Int32)), (0, .ref b), (1, .ref s.heap.size), (2, .ref (s.heap.size + 63)), (3, .ref (s.heap.size + 87)), (4, .int (nI n))] dL_law_1417 (by decide) rfl ?_
    refine jl_aload_n C 4 rfl dL_law_1419 rfl ?_
    refine jl_callR (As := []) (rest := []) C (kX12_thrown_0 l B D (adb (s.heap.size + 63)) cR (adb_I _ _) S3 V' L' (1 : Int32) h3) mw_X12_thrown wd1621 wd1622 wd1620 rfl ⟨rfl, rfl, by decide, by decide⟩ ⟨Nat.le_trans (by omega) hkr.1, Nat.le_trans (by omega) hkr.2⟩ rfl rfl (Nat.le_of_ble_eq_true rfl) dL_law_1420 ?_
    refine jl_iload C 1 rfl dL_law_1423 ?_
    refine jl_eqT (tgt := 1430) C rfl dL_law_1425 (by decide) ?_
    refine jl_iload C 1 rfl dL_law_1430 ?_
    refine jl_if_neT (tgt := 1447) C (by decide) dL_law_1432 (by decide) ?_
    refine jl_goto (tgt := 1702) C dL_law_1447 (by decide) ?_
    refine jl_widen (k2 := kc + 6) (n2 := ks + 36) (by omega) (by omega) ?_
    exact jl_sub [2, 3, 4, 5, 6] rfl (kk _ _ _ _ _ _ hR2)
def St_birthday (Rel : (Nat → Int32) → (Nat → Nat → Int32) → (Nat → Int32) → (Nat → Nat → Int32) → (Nat → Int64) → Prop) : Prop := ∀ (S : Nat → Int32) (V : Nat → Nat → Int32) (S' : Nat → Int32) (V' : Nat → Nat → Int32) (L' : Nat → Int64) (a1 : Int32), Rel S V S' V' L' → (∃ (r : Int32) (S3 : Nat → Int32), fX11_birthday_0 S V a1 = some (.inl r) ∧ fX12_birthday_0 S' V' a1 = some (r, S3) ∧ fX12_thrown_0 S3 = some 0 ∧ Rel S V S3 V' L') ∨ (∃ (r : Int32) (S3 : Nat → Int32), fX11_birthday_0 S V a1 = some (.inr 0) ∧ fX12_birthday_0 S' V' a1 = some (r, S3) ∧ fX12_thrown_0 S3 = some 1 ∧ Rel S V S3 V' L')
set_option maxHeartbeats 4000000 in
set_option maxRecDepth 100000 in
theorem lc_birthday (C : jCl p l s m args meth c D cA cR cO B b Ln xs) {Rel : (Nat → Int32) → (Nat → Nat → Int32) → (Nat → Int32) → (Nat → Nat → Int32) → (Nat → Int64) → Prop} (hst : St_birthday Rel) (hR : Rel S V S' V' L') {n : Nat} (hn : n + 6 ≤ Ln) (hL : Ln ≤ 3072) (hkr : kc + 6 ≤ 601024 ∧ ks + 36 ≤ 7293034) (kk : ∀ S V S' V' L' o, Rel S V S' V' L' → jWl p l e s m args below meth c Q D cA cR cO (kc + 6) (ks + 36) 1702 [(0, .ref b), (1, .ref s.heap.size), (2, .ref (s.heap.size + 63)), (3, .ref (s.heap.size + 87)), (4, .int (nI n))] [] S V S' V' L' o) : jWl p l e s m args below meth c Q D cA cR cO kc ks 1450 [(0, .ref b), (1, .ref s.heap.size), (2, .ref (s.heap.size + 63)), (3, .ref (s.heap.size + 87)), (4, .int (nI n))] [] S V S' V' L' o := by
  rcases hst S V S' V' L' (xs (n + 1)) hR with ⟨r, S3, h1, h2, h3, hR2⟩ | ⟨r, S3, h1, h2, h3, hR2⟩
  · refine jl_aload_n C 1 rfl dL_law_1450 rfl ?_
    refine jl_arg (k := 1) C 0 4 rfl rfl (by omega) hL (by decide) dL_law_1451 dL_law_1452 dL_law_1454 dL_law_1455 dL_law_1456 ?_
    refine jl_aload_n C 3 rfl dL_law_1457 rfl ?_
    refine jl_callW (As := [.ref s.heap.size, .int (xs (n + 1)), .ref (s.heap.size + 87)]) (rest := []) C (wL_birthday_ok l B D (adb s.heap.size) cA (adb_I _ _) C.2.2.2.2.2.2.2.2.2 (s.heap.size + 87) cO (adb_out s.heap.size) S V (fun _ => 0) o (xs (n + 1)) r h1) wcw_L_birthday wd102 wd1381 wd1380 ⟨by decide +kernel, by decide +kernel, (show Option.map (fun d => d.parameters.length) (parseMethodDescriptor yL_birthday.desc) = some 3 by decide +kernel)⟩ ⟨rfl, rfl, by decide, by decide⟩ ⟨Nat.le_trans (by omega) hkr.1, Nat.le_trans (by omega) hkr.2⟩ rfl rfl (Nat.le_of_ble_eq_true rfl) dL_law_1458 ?_
    refine jl_istore C [(5, .int (0 : Int32)), (0, .ref b), (1, .ref s.heap.size), (2, .ref (s.heap.size + 63)), (3, .ref (s.heap.size + 87)), (4, .int (nI n))] dL_law_1461 (by decide) rfl ?_
    refine jl_aload_n C 3 rfl dL_law_1463 rfl ?_
    refine jl_arg (k := 1) C 1 5 rfl rfl (by omega) hL (by decide) dL_law_1464 dL_law_1465 dL_law_1467 dL_law_1468 dL_law_1469 ?_
    refine jl_callR (As := [.int (xs (n + 1))]) (rest := []) C (kX12_birthday_0 l B D (adb (s.heap.size + 63)) cR (adb_I _ _) S' V' L' (xs (n + 1)) r S3 h2) mw_X12_birthday wd1942 wd1943 wd1941 rfl ⟨rfl, rfl, by decide, by decide⟩ ⟨Nat.le_trans (by omega) hkr.1, Nat.le_trans (by omega) hkr.2⟩ rfl rfl (Nat.le_of_ble_eq_true rfl) dL_law_1470 ?_
    refine jl_istore C [(6, .int r), (5, .int (0 : Int32)), (0, .ref b), (1, .ref s.heap.size), (2, .ref (s.heap.size + 63)), (3, .ref (s.heap.size + 87)), (4, .int (nI n))] dL_law_1473 (by decide) rfl ?_
    refine jl_aload_n C 4 rfl dL_law_1475 rfl ?_
    refine jl_callR (As := []) (rest := []) C (kX12_thrown_0 l B D (adb (s.heap.size + 63)) cR (adb_I _ _) S3 V' L' (0 : Int32) h3) mw_X12_thrown wd1621 wd1622 wd1620 rfl ⟨rfl, rfl, by decide, by decide⟩ ⟨Nat.le_trans (by omega) hkr.1, Nat.le_trans (by omega) hkr.2⟩ rfl rfl (Nat.le_of_ble_eq_true rfl) dL_law_1476 ?_
    refine jl_iload C 1 rfl dL_law_1479 ?_
    refine jl_eqT (tgt := 1486) C rfl dL_law_1481 (by decide) ?_
    refine jl_iload C 1 rfl dL_law_1486 ?_
    refine jl_if_neF (tgt := 1503) C rfl dL_law_1488 (by decide) ?_
    refine jl_aload_n C 5 rfl dL_law_1491 rfl ?_
    refine jl_iconst C dL_law_1492 ci_0 ?_
    refine jl_lald C dL_law_1493 ?_
    refine jl_iload C 0 rfl dL_law_1494 ?_
    refine jl_i2l C dL_law_1496 ?_
    refine jl_lcmp C dL_law_1497 ?_
    refine jl_if_eqT (tgt := 1503) C (lg_cmp_self _) dL_law_1498 (by decide) ?_
    refine jl_goto (tgt := 1702) C dL_law_1503 (by decide) ?_
    refine jl_widen (k2 := kc + 6) (n2 := ks + 36) (by omega) (by omega) ?_
    exact jl_sub [2, 3, 4, 5, 6] rfl (kk _ _ _ _ _ _ hR2)
  · refine jl_aload_n C 1 rfl dL_law_1450 rfl ?_
    refine jl_arg (k := 1) C 0 4 rfl rfl (by omega) hL (by decide) dL_law_1451 dL_law_1452 dL_law_1454 dL_law_1455 dL_law_1456 ?_
    refine jl_aload_n C 3 rfl dL_law_1457 rfl ?_
    refine jl_callW (As := [.ref s.heap.size, .int (xs (n + 1)), .ref (s.heap.size + 87)]) (rest := []) C (wL_birthday_ex0 l B D (adb s.heap.size) cA (adb_I _ _) C.2.2.2.2.2.2.2.2.2 (s.heap.size + 87) cO (adb_out s.heap.size) S V (fun _ => 0) o (xs (n + 1)) h1) wcw_L_birthday wd102 wd1381 wd1380 ⟨by decide +kernel, by decide +kernel, (show Option.map (fun d => d.parameters.length) (parseMethodDescriptor yL_birthday.desc) = some 3 by decide +kernel)⟩ ⟨rfl, rfl, by decide, by decide⟩ ⟨Nat.le_trans (by omega) hkr.1, Nat.le_trans (by omega) hkr.2⟩ rfl rfl (Nat.le_of_ble_eq_true rfl) dL_law_1458 ?_
    refine jl_istore C [(5, .int (1 : Int32)), (0, .ref b), (1, .ref s.heap.size), (2, .ref (s.heap.size + 63)), (3, .ref (s.heap.size + 87)), (4, .int (nI n))] dL_law_1461 (by decide) rfl ?_
    refine jl_aload_n C 3 rfl dL_law_1463 rfl ?_
    refine jl_arg (k := 1) C 1 5 rfl rfl (by omega) hL (by decide) dL_law_1464 dL_law_1465 dL_law_1467 dL_law_1468 dL_law_1469 ?_
    refine jl_callR (As := [.int (xs (n + 1))]) (rest := []) C (kX12_birthday_0 l B D (adb (s.heap.size + 63)) cR (adb_I _ _) S' V' L' (xs (n + 1)) r S3 h2) mw_X12_birthday wd1942 wd1943 wd1941 rfl ⟨rfl, rfl, by decide, by decide⟩ ⟨Nat.le_trans (by omega) hkr.1, Nat.le_trans (by omega) hkr.2⟩ rfl rfl (Nat.le_of_ble_eq_true rfl) dL_law_1470 ?_
    refine jl_istore C [(6, .int r), (5, .int (1 : Int32)), (0, .ref b), (1, .ref s.heap.size), (2, .ref (s.heap.size + 63)), (3, .ref (s.heap.size + 87)), (4, .int (nI n))] dL_law_1473 (by decide) rfl ?_
    refine jl_aload_n C 4 rfl dL_law_1475 rfl ?_
    refine jl_callR (As := []) (rest := []) C (kX12_thrown_0 l B D (adb (s.heap.size + 63)) cR (adb_I _ _) S3 V' L' (1 : Int32) h3) mw_X12_thrown wd1621 wd1622 wd1620 rfl ⟨rfl, rfl, by decide, by decide⟩ ⟨Nat.le_trans (by omega) hkr.1, Nat.le_trans (by omega) hkr.2⟩ rfl rfl (Nat.le_of_ble_eq_true rfl) dL_law_1476 ?_
    refine jl_iload C 1 rfl dL_law_1479 ?_
    refine jl_eqT (tgt := 1486) C rfl dL_law_1481 (by decide) ?_
    refine jl_iload C 1 rfl dL_law_1486 ?_
    refine jl_if_neT (tgt := 1503) C (by decide) dL_law_1488 (by decide) ?_
    refine jl_goto (tgt := 1702) C dL_law_1503 (by decide) ?_
    refine jl_widen (k2 := kc + 6) (n2 := ks + 36) (by omega) (by omega) ?_
    exact jl_sub [2, 3, 4, 5, 6] rfl (kk _ _ _ _ _ _ hR2)
def St_both (Rel : (Nat → Int32) → (Nat → Nat → Int32) → (Nat → Int32) → (Nat → Nat → Int32) → (Nat → Int64) → Prop) : Prop := ∀ (S : Nat → Int32) (V : Nat → Nat → Int32) (S' : Nat → Int32) (V' : Nat → Nat → Int32) (L' : Nat → Int64) (a1 : Int32) (a2 : Int32) (a3 : Int32) (a4 : Int32), Rel S V S' V' L' → (∃ (r : Int32) (S3 : Nat → Int32), fX11_both_0 S V a1 a2 a3 a4 = some (.inl r) ∧ fX12_both_0 S' V' a1 a2 a3 a4 = some (r, S3) ∧ fX12_thrown_0 S3 = some 0 ∧ Rel S V S3 V' L') ∨ (∃ (r : Int32) (S3 : Nat → Int32), fX11_both_0 S V a1 a2 a3 a4 = some (.inr 1) ∧ fX12_both_0 S' V' a1 a2 a3 a4 = some (r, S3) ∧ fX12_thrown_0 S3 = some 1 ∧ Rel S V S3 V' L') ∨ (∃ (r : Int32) (S3 : Nat → Int32), fX11_both_0 S V a1 a2 a3 a4 = some (.inr 0) ∧ fX12_both_0 S' V' a1 a2 a3 a4 = some (r, S3) ∧ fX12_thrown_0 S3 = some 2 ∧ Rel S V S3 V' L')
set_option maxHeartbeats 4000000 in
set_option maxRecDepth 100000 in
theorem lc_both (C : jCl p l s m args meth c D cA cR cO B b Ln xs) {Rel : (Nat → Int32) → (Nat → Nat → Int32) → (Nat → Int32) → (Nat → Nat → Int32) → (Nat → Int64) → Prop} (hst : St_both Rel) (hR : Rel S V S' V' L') {n : Nat} (hn : n + 6 ≤ Ln) (hL : Ln ≤ 3072) (hkr : kc + 6 ≤ 601024 ∧ ks + 36 ≤ 7293034) (kk : ∀ S V S' V' L' o, Rel S V S' V' L' → jWl p l e s m args below meth c Q D cA cR cO (kc + 6) (ks + 36) 1702 [(0, .ref b), (1, .ref s.heap.size), (2, .ref (s.heap.size + 63)), (3, .ref (s.heap.size + 87)), (4, .int (nI n))] [] S V S' V' L' o) : jWl p l e s m args below meth c Q D cA cR cO kc ks 1506 [(0, .ref b), (1, .ref s.heap.size), (2, .ref (s.heap.size + 63)), (3, .ref (s.heap.size + 87)), (4, .int (nI n))] [] S V S' V' L' o := by
  rcases hst S V S' V' L' (xs (n + 1)) (xs (n + 2)) (xs (n + 3)) (xs (n + 4)) hR with ⟨r, S3, h1, h2, h3, hR2⟩ | ⟨r, S3, h1, h2, h3, hR2⟩ | ⟨r, S3, h1, h2, h3, hR2⟩
  · refine jl_aload_n C 1 rfl dL_law_1506 rfl ?_
    refine jl_arg (k := 1) C 0 4 rfl rfl (by omega) hL (by decide) dL_law_1507 dL_law_1508 dL_law_1510 dL_law_1511 dL_law_1512 ?_
    refine jl_arg (k := 2) C 0 4 rfl rfl (by omega) hL (by decide) dL_law_1513 dL_law_1514 dL_law_1516 dL_law_1517 dL_law_1518 ?_
    refine jl_arg (k := 3) C 0 4 rfl rfl (by omega) hL (by decide) dL_law_1519 dL_law_1520 dL_law_1522 dL_law_1523 dL_law_1524 ?_
    refine jl_arg (k := 4) C 0 4 rfl rfl (by omega) hL (by decide) dL_law_1525 dL_law_1526 dL_law_1528 dL_law_1529 dL_law_1530 ?_
    refine jl_aload_n C 3 rfl dL_law_1531 rfl ?_
    refine jl_callW (As := [.ref s.heap.size, .int (xs (n + 1)), .int (xs (n + 2)), .int (xs (n + 3)), .int (xs (n + 4)), .ref (s.heap.size + 87)]) (rest := []) C (wL_both_ok l B D (adb s.heap.size) cA (adb_I _ _) C.2.2.2.2.2.2.2.2.2 (s.heap.size + 87) cO (adb_out s.heap.size) S V (fun _ => 0) o (xs (n + 1)) (xs (n + 2)) (xs (n + 3)) (xs (n + 4)) r h1) wcw_L_both wd102 wd1401 wd1400 ⟨by decide +kernel, by decide +kernel, (show Option.map (fun d => d.parameters.length) (parseMethodDescriptor yL_both.desc) = some 6 by decide +kernel)⟩ ⟨rfl, rfl, by decide, by decide⟩ ⟨Nat.le_trans (by omega) hkr.1, Nat.le_trans (by omega) hkr.2⟩ rfl rfl (Nat.le_of_ble_eq_true rfl) dL_law_1532 ?_
    refine jl_istore C [(5, .int (0 : Int32)), (0, .ref b), (1, .ref s.heap.size), (2, .ref (s.heap.size + 63)), (3, .ref (s.heap.size + 87)), (4, .int (nI n))] dL_law_1535 (by decide) rfl ?_
    refine jl_aload_n C 3 rfl dL_law_1537 rfl ?_
    refine jl_arg (k := 1) C 1 5 rfl rfl (by omega) hL (by decide) dL_law_1538 dL_law_1539 dL_law_1541 dL_law_1542 dL_law_1543 ?_
    refine jl_arg (k := 2) C 1 5 rfl rfl (by omega) hL (by decide) dL_law_1544 dL_law_1545 dL_law_1547 dL_law_1548 dL_law_1549 ?_
    refine jl_arg (k := 3) C 1 5 rfl rfl (by omega) hL (by decide) dL_law_1550 dL_law_1551 dL_law_1553 dL_law_1554 dL_law_1555 ?_
    refine jl_arg (k := 4) C 1 5 rfl rfl (by omega) hL (by decide) dL_law_1556 dL_law_1557 dL_law_1559 dL_law_1560 dL_law_1561 ?_
    refine jl_callR (As := [.int (xs (n + 1)), .int (xs (n + 2)), .int (xs (n + 3)), .int (xs (n + 4))]) (rest := []) C (kX12_both_0 l B D (adb (s.heap.size + 63)) cR (adb_I _ _) S' V' L' (xs (n + 1)) (xs (n + 2)) (xs (n + 3)) (xs (n + 4)) r S3 h2) mw_X12_both wd1946 wd1947 wd1945 rfl ⟨rfl, rfl, by decide, by decide⟩ ⟨Nat.le_trans (by omega) hkr.1, Nat.le_trans (by omega) hkr.2⟩ rfl rfl (Nat.le_of_ble_eq_true rfl) dL_law_1562 ?_
    refine jl_istore C [(6, .int r), (5, .int (0 : Int32)), (0, .ref b), (1, .ref s.heap.size), (2, .ref (s.heap.size + 63)), (3, .ref (s.heap.size + 87)), (4, .int (nI n))] dL_law_1565 (by decide) rfl ?_
    refine jl_aload_n C 4 rfl dL_law_1567 rfl ?_
    refine jl_callR (As := []) (rest := []) C (kX12_thrown_0 l B D (adb (s.heap.size + 63)) cR (adb_I _ _) S3 V' L' (0 : Int32) h3) mw_X12_thrown wd1621 wd1622 wd1620 rfl ⟨rfl, rfl, by decide, by decide⟩ ⟨Nat.le_trans (by omega) hkr.1, Nat.le_trans (by omega) hkr.2⟩ rfl rfl (Nat.le_of_ble_eq_true rfl) dL_law_1568 ?_
    refine jl_iload C 1 rfl dL_law_1571 ?_
    refine jl_eqT (tgt := 1578) C rfl dL_law_1573 (by decide) ?_
    refine jl_iload C 1 rfl dL_law_1578 ?_
    refine jl_if_neF (tgt := 1595) C rfl dL_law_1580 (by decide) ?_
    refine jl_aload_n C 5 rfl dL_law_1583 rfl ?_
    refine jl_iconst C dL_law_1584 ci_0 ?_
    refine jl_lald C dL_law_1585 ?_
    refine jl_iload C 0 rfl dL_law_1586 ?_
    refine jl_i2l C dL_law_1588 ?_
    refine jl_lcmp C dL_law_1589 ?_
    refine jl_if_eqT (tgt := 1595) C (lg_cmp_self _) dL_law_1590 (by decide) ?_
    refine jl_goto (tgt := 1702) C dL_law_1595 (by decide) ?_
    refine jl_widen (k2 := kc + 6) (n2 := ks + 36) (by omega) (by omega) ?_
    exact jl_sub [2, 3, 4, 5, 6] rfl (kk _ _ _ _ _ _ hR2)
  · refine jl_aload_n C 1 rfl dL_law_1506 rfl ?_
    refine jl_arg (k := 1) C 0 4 rfl rfl (by omega) hL (by decide) dL_law_1507 dL_law_1508 dL_law_1510 dL_law_1511 dL_law_1512 ?_
    refine jl_arg (k := 2) C 0 4 rfl rfl (by omega) hL (by decide) dL_law_1513 dL_law_1514 dL_law_1516 dL_law_1517 dL_law_1518 ?_
    refine jl_arg (k := 3) C 0 4 rfl rfl (by omega) hL (by decide) dL_law_1519 dL_law_1520 dL_law_1522 dL_law_1523 dL_law_1524 ?_
    refine jl_arg (k := 4) C 0 4 rfl rfl (by omega) hL (by decide) dL_law_1525 dL_law_1526 dL_law_1528 dL_law_1529 dL_law_1530 ?_
    refine jl_aload_n C 3 rfl dL_law_1531 rfl ?_
    refine jl_callW (As := [.ref s.heap.size, .int (xs (n + 1)), .int (xs (n + 2)), .int (xs (n + 3)), .int (xs (n + 4)), .ref (s.heap.size + 87)]) (rest := []) C (wL_both_ex1 l B D (adb s.heap.size) cA (adb_I _ _) C.2.2.2.2.2.2.2.2.2 (s.heap.size + 87) cO (adb_out s.heap.size) S V (fun _ => 0) o (xs (n + 1)) (xs (n + 2)) (xs (n + 3)) (xs (n + 4)) h1) wcw_L_both wd102 wd1401 wd1400 ⟨by decide +kernel, by decide +kernel, (show Option.map (fun d => d.parameters.length) (parseMethodDescriptor yL_both.desc) = some 6 by decide +kernel)⟩ ⟨rfl, rfl, by decide, by decide⟩ ⟨Nat.le_trans (by omega) hkr.1, Nat.le_trans (by omega) hkr.2⟩ rfl rfl (Nat.le_of_ble_eq_true rfl) dL_law_1532 ?_
    refine jl_istore C [(5, .int (1 : Int32)), (0, .ref b), (1, .ref s.heap.size), (2, .ref (s.heap.size + 63)), (3, .ref (s.heap.size + 87)), (4, .int (nI n))] dL_law_1535 (by decide) rfl ?_
    refine jl_aload_n C 3 rfl dL_law_1537 rfl ?_
    refine jl_arg (k := 1) C 1 5 rfl rfl (by omega) hL (by decide) dL_law_1538 dL_law_1539 dL_law_1541 dL_law_1542 dL_law_1543 ?_
    refine jl_arg (k := 2) C 1 5 rfl rfl (by omega) hL (by decide) dL_law_1544 dL_law_1545 dL_law_1547 dL_law_1548 dL_law_1549 ?_
    refine jl_arg (k := 3) C 1 5 rfl rfl (by omega) hL (by decide) dL_law_1550 dL_law_1551 dL_law_1553 dL_law_1554 dL_law_1555 ?_
    refine jl_arg (k := 4) C 1 5 rfl rfl (by omega) hL (by decide) dL_law_1556 dL_law_1557 dL_law_1559 dL_law_1560 dL_law_1561 ?_
    refine jl_callR (As := [.int (xs (n + 1)), .int (xs (n + 2)), .int (xs (n + 3)), .int (xs (n + 4))]) (rest := []) C (kX12_both_0 l B D (adb (s.heap.size + 63)) cR (adb_I _ _) S' V' L' (xs (n + 1)) (xs (n + 2)) (xs (n + 3)) (xs (n + 4)) r S3 h2) mw_X12_both wd1946 wd1947 wd1945 rfl ⟨rfl, rfl, by decide, by decide⟩ ⟨Nat.le_trans (by omega) hkr.1, Nat.le_trans (by omega) hkr.2⟩ rfl rfl (Nat.le_of_ble_eq_true rfl) dL_law_1562 ?_
    refine jl_istore C [(6, .int r), (5, .int (1 : Int32)), (0, .ref b), (1, .ref s.heap.size), (2, .ref (s.heap.size + 63)), (3, .ref (s.heap.size + 87)), (4, .int (nI n))] dL_law_1565 (by decide) rfl ?_
    refine jl_aload_n C 4 rfl dL_law_1567 rfl ?_
    refine jl_callR (As := []) (rest := []) C (kX12_thrown_0 l B D (adb (s.heap.size + 63)) cR (adb_I _ _) S3 V' L' (1 : Int32) h3) mw_X12_thrown wd1621 wd1622 wd1620 rfl ⟨rfl, rfl, by decide, by decide⟩ ⟨Nat.le_trans (by omega) hkr.1, Nat.le_trans (by omega) hkr.2⟩ rfl rfl (Nat.le_of_ble_eq_true rfl) dL_law_1568 ?_
    refine jl_iload C 1 rfl dL_law_1571 ?_
    refine jl_eqT (tgt := 1578) C rfl dL_law_1573 (by decide) ?_
    refine jl_iload C 1 rfl dL_law_1578 ?_
    refine jl_if_neT (tgt := 1595) C (by decide) dL_law_1580 (by decide) ?_
    refine jl_goto (tgt := 1702) C dL_law_1595 (by decide) ?_
    refine jl_widen (k2 := kc + 6) (n2 := ks + 36) (by omega) (by omega) ?_
    exact jl_sub [2, 3, 4, 5, 6] rfl (kk _ _ _ _ _ _ hR2)
  · refine jl_aload_n C 1 rfl dL_law_1506 rfl ?_
    refine jl_arg (k := 1) C 0 4 rfl rfl (by omega) hL (by decide) dL_law_1507 dL_law_1508 dL_law_1510 dL_law_1511 dL_law_1512 ?_
    refine jl_arg (k := 2) C 0 4 rfl rfl (by omega) hL (by decide) dL_law_1513 dL_law_1514 dL_law_1516 dL_law_1517 dL_law_1518 ?_
    refine jl_arg (k := 3) C 0 4 rfl rfl (by omega) hL (by decide) dL_law_1519 dL_law_1520 dL_law_1522 dL_law_1523 dL_law_1524 ?_
    refine jl_arg (k := 4) C 0 4 rfl rfl (by omega) hL (by decide) dL_law_1525 dL_law_1526 dL_law_1528 dL_law_1529 dL_law_1530 ?_
    refine jl_aload_n C 3 rfl dL_law_1531 rfl ?_
    refine jl_callW (As := [.ref s.heap.size, .int (xs (n + 1)), .int (xs (n + 2)), .int (xs (n + 3)), .int (xs (n + 4)), .ref (s.heap.size + 87)]) (rest := []) C (wL_both_ex0 l B D (adb s.heap.size) cA (adb_I _ _) C.2.2.2.2.2.2.2.2.2 (s.heap.size + 87) cO (adb_out s.heap.size) S V (fun _ => 0) o (xs (n + 1)) (xs (n + 2)) (xs (n + 3)) (xs (n + 4)) h1) wcw_L_both wd102 wd1401 wd1400 ⟨by decide +kernel, by decide +kernel, (show Option.map (fun d => d.parameters.length) (parseMethodDescriptor yL_both.desc) = some 6 by decide +kernel)⟩ ⟨rfl, rfl, by decide, by decide⟩ ⟨Nat.le_trans (by omega) hkr.1, Nat.le_trans (by omega) hkr.2⟩ rfl rfl (Nat.le_of_ble_eq_true rfl) dL_law_1532 ?_
    refine jl_istore C [(5, .int (2 : Int32)), (0, .ref b), (1, .ref s.heap.size), (2, .ref (s.heap.size + 63)), (3, .ref (s.heap.size + 87)), (4, .int (nI n))] dL_law_1535 (by decide) rfl ?_
    refine jl_aload_n C 3 rfl dL_law_1537 rfl ?_
    refine jl_arg (k := 1) C 1 5 rfl rfl (by omega) hL (by decide) dL_law_1538 dL_law_1539 dL_law_1541 dL_law_1542 dL_law_1543 ?_
    refine jl_arg (k := 2) C 1 5 rfl rfl (by omega) hL (by decide) dL_law_1544 dL_law_1545 dL_law_1547 dL_law_1548 dL_law_1549 ?_
    refine jl_arg (k := 3) C 1 5 rfl rfl (by omega) hL (by decide) dL_law_1550 dL_law_1551 dL_law_1553 dL_law_1554 dL_law_1555 ?_
    refine jl_arg (k := 4) C 1 5 rfl rfl (by omega) hL (by decide) dL_law_1556 dL_law_1557 dL_law_1559 dL_law_1560 dL_law_1561 ?_
    refine jl_callR (As := [.int (xs (n + 1)), .int (xs (n + 2)), .int (xs (n + 3)), .int (xs (n + 4))]) (rest := []) C (kX12_both_0 l B D (adb (s.heap.size + 63)) cR (adb_I _ _) S' V' L' (xs (n + 1)) (xs (n + 2)) (xs (n + 3)) (xs (n + 4)) r S3 h2) mw_X12_both wd1946 wd1947 wd1945 rfl ⟨rfl, rfl, by decide, by decide⟩ ⟨Nat.le_trans (by omega) hkr.1, Nat.le_trans (by omega) hkr.2⟩ rfl rfl (Nat.le_of_ble_eq_true rfl) dL_law_1562 ?_
    refine jl_istore C [(6, .int r), (5, .int (2 : Int32)), (0, .ref b), (1, .ref s.heap.size), (2, .ref (s.heap.size + 63)), (3, .ref (s.heap.size + 87)), (4, .int (nI n))] dL_law_1565 (by decide) rfl ?_
    refine jl_aload_n C 4 rfl dL_law_1567 rfl ?_
    refine jl_callR (As := []) (rest := []) C (kX12_thrown_0 l B D (adb (s.heap.size + 63)) cR (adb_I _ _) S3 V' L' (2 : Int32) h3) mw_X12_thrown wd1621 wd1622 wd1620 rfl ⟨rfl, rfl, by decide, by decide⟩ ⟨Nat.le_trans (by omega) hkr.1, Nat.le_trans (by omega) hkr.2⟩ rfl rfl (Nat.le_of_ble_eq_true rfl) dL_law_1568 ?_
    refine jl_iload C 1 rfl dL_law_1571 ?_
    refine jl_eqT (tgt := 1578) C rfl dL_law_1573 (by decide) ?_
    refine jl_iload C 1 rfl dL_law_1578 ?_
    refine jl_if_neT (tgt := 1595) C (by decide) dL_law_1580 (by decide) ?_
    refine jl_goto (tgt := 1702) C dL_law_1595 (by decide) ?_
    refine jl_widen (k2 := kc + 6) (n2 := ks + 36) (by omega) (by omega) ?_
    exact jl_sub [2, 3, 4, 5, 6] rfl (kk _ _ _ _ _ _ hR2)
def St_wind (Rel : (Nat → Int32) → (Nat → Nat → Int32) → (Nat → Int32) → (Nat → Nat → Int32) → (Nat → Int64) → Prop) : Prop := ∀ (S : Nat → Int32) (V : Nat → Nat → Int32) (S' : Nat → Int32) (V' : Nat → Nat → Int32) (L' : Nat → Int64) (a1 : Int32) (a2 : Int32) (a3 : Int32), Rel S V S' V' L' → (∃ (r : Int32) (S3 : Nat → Int32), fX11_wind_0 S V a1 a2 a3 = some (.inl r) ∧ fX12_wind_0 S' V' a1 a2 a3 = some (r, S3) ∧ fX12_thrown_0 S3 = some 0 ∧ Rel S V S3 V' L') ∨ (∃ (r : Int32) (S3 : Nat → Int32), fX11_wind_0 S V a1 a2 a3 = some (.inr 0) ∧ fX12_wind_0 S' V' a1 a2 a3 = some (r, S3) ∧ fX12_thrown_0 S3 = some 1 ∧ Rel S V S3 V' L')
set_option maxHeartbeats 4000000 in
set_option maxRecDepth 100000 in
theorem lc_wind (C : jCl p l s m args meth c D cA cR cO B b Ln xs) {Rel : (Nat → Int32) → (Nat → Nat → Int32) → (Nat → Int32) → (Nat → Nat → Int32) → (Nat → Int64) → Prop} (hst : St_wind Rel) (hR : Rel S V S' V' L') {n : Nat} (hn : n + 6 ≤ Ln) (hL : Ln ≤ 3072) (hkr : kc + 6 ≤ 601024 ∧ ks + 36 ≤ 7293034) (kk : ∀ S V S' V' L' o, Rel S V S' V' L' → jWl p l e s m args below meth c Q D cA cR cO (kc + 6) (ks + 36) 1702 [(0, .ref b), (1, .ref s.heap.size), (2, .ref (s.heap.size + 63)), (3, .ref (s.heap.size + 87)), (4, .int (nI n))] [] S V S' V' L' o) : jWl p l e s m args below meth c Q D cA cR cO kc ks 1598 [(0, .ref b), (1, .ref s.heap.size), (2, .ref (s.heap.size + 63)), (3, .ref (s.heap.size + 87)), (4, .int (nI n))] [] S V S' V' L' o := by
  rcases hst S V S' V' L' (xs (n + 1)) (xs (n + 2)) (xs (n + 3)) hR with ⟨r, S3, h1, h2, h3, hR2⟩ | ⟨r, S3, h1, h2, h3, hR2⟩
  · refine jl_aload_n C 1 rfl dL_law_1598 rfl ?_
    refine jl_arg (k := 1) C 0 4 rfl rfl (by omega) hL (by decide) dL_law_1599 dL_law_1600 dL_law_1602 dL_law_1603 dL_law_1604 ?_
    refine jl_arg (k := 2) C 0 4 rfl rfl (by omega) hL (by decide) dL_law_1605 dL_law_1606 dL_law_1608 dL_law_1609 dL_law_1610 ?_
    refine jl_arg (k := 3) C 0 4 rfl rfl (by omega) hL (by decide) dL_law_1611 dL_law_1612 dL_law_1614 dL_law_1615 dL_law_1616 ?_
    refine jl_aload_n C 3 rfl dL_law_1617 rfl ?_
    refine jl_callW (As := [.ref s.heap.size, .int (xs (n + 1)), .int (xs (n + 2)), .int (xs (n + 3)), .ref (s.heap.size + 87)]) (rest := []) C (wL_wind_ok l B D (adb s.heap.size) cA (adb_I _ _) C.2.2.2.2.2.2.2.2.2 (s.heap.size + 87) cO (adb_out s.heap.size) S V (fun _ => 0) o (xs (n + 1)) (xs (n + 2)) (xs (n + 3)) r h1) wcw_L_wind wd102 wd1420 wd1419 ⟨by decide +kernel, by decide +kernel, (show Option.map (fun d => d.parameters.length) (parseMethodDescriptor yL_wind.desc) = some 5 by decide +kernel)⟩ ⟨rfl, rfl, by decide, by decide⟩ ⟨Nat.le_trans (by omega) hkr.1, Nat.le_trans (by omega) hkr.2⟩ rfl rfl (Nat.le_of_ble_eq_true rfl) dL_law_1618 ?_
    refine jl_istore C [(5, .int (0 : Int32)), (0, .ref b), (1, .ref s.heap.size), (2, .ref (s.heap.size + 63)), (3, .ref (s.heap.size + 87)), (4, .int (nI n))] dL_law_1621 (by decide) rfl ?_
    refine jl_aload_n C 3 rfl dL_law_1623 rfl ?_
    refine jl_arg (k := 1) C 1 5 rfl rfl (by omega) hL (by decide) dL_law_1624 dL_law_1625 dL_law_1627 dL_law_1628 dL_law_1629 ?_
    refine jl_arg (k := 2) C 1 5 rfl rfl (by omega) hL (by decide) dL_law_1630 dL_law_1631 dL_law_1633 dL_law_1634 dL_law_1635 ?_
    refine jl_arg (k := 3) C 1 5 rfl rfl (by omega) hL (by decide) dL_law_1636 dL_law_1637 dL_law_1639 dL_law_1640 dL_law_1641 ?_
    refine jl_callR (As := [.int (xs (n + 1)), .int (xs (n + 2)), .int (xs (n + 3))]) (rest := []) C (kX12_wind_0 l B D (adb (s.heap.size + 63)) cR (adb_I _ _) S' V' L' (xs (n + 1)) (xs (n + 2)) (xs (n + 3)) r S3 h2) mw_X12_wind wd1950 wd1951 wd1949 rfl ⟨rfl, rfl, by decide, by decide⟩ ⟨Nat.le_trans (by omega) hkr.1, Nat.le_trans (by omega) hkr.2⟩ rfl rfl (Nat.le_of_ble_eq_true rfl) dL_law_1642 ?_
    refine jl_istore C [(6, .int r), (5, .int (0 : Int32)), (0, .ref b), (1, .ref s.heap.size), (2, .ref (s.heap.size + 63)), (3, .ref (s.heap.size + 87)), (4, .int (nI n))] dL_law_1645 (by decide) rfl ?_
    refine jl_aload_n C 4 rfl dL_law_1647 rfl ?_
    refine jl_callR (As := []) (rest := []) C (kX12_thrown_0 l B D (adb (s.heap.size + 63)) cR (adb_I _ _) S3 V' L' (0 : Int32) h3) mw_X12_thrown wd1621 wd1622 wd1620 rfl ⟨rfl, rfl, by decide, by decide⟩ ⟨Nat.le_trans (by omega) hkr.1, Nat.le_trans (by omega) hkr.2⟩ rfl rfl (Nat.le_of_ble_eq_true rfl) dL_law_1648 ?_
    refine jl_iload C 1 rfl dL_law_1651 ?_
    refine jl_eqT (tgt := 1658) C rfl dL_law_1653 (by decide) ?_
    refine jl_iload C 1 rfl dL_law_1658 ?_
    refine jl_if_neF (tgt := 1675) C rfl dL_law_1660 (by decide) ?_
    refine jl_aload_n C 5 rfl dL_law_1663 rfl ?_
    refine jl_iconst C dL_law_1664 ci_0 ?_
    refine jl_lald C dL_law_1665 ?_
    refine jl_iload C 0 rfl dL_law_1666 ?_
    refine jl_i2l C dL_law_1668 ?_
    refine jl_lcmp C dL_law_1669 ?_
    refine jl_if_eqT (tgt := 1675) C (lg_cmp_self _) dL_law_1670 (by decide) ?_
    refine jl_goto (tgt := 1702) C dL_law_1675 (by decide) ?_
    refine jl_widen (k2 := kc + 6) (n2 := ks + 36) (by omega) (by omega) ?_
    exact jl_sub [2, 3, 4, 5, 6] rfl (kk _ _ _ _ _ _ hR2)
  · refine jl_aload_n C 1 rfl dL_law_1598 rfl ?_
    refine jl_arg (k := 1) C 0 4 rfl rfl (by omega) hL (by decide) dL_law_1599 dL_law_1600 dL_law_1602 dL_law_1603 dL_law_1604 ?_
    refine jl_arg (k := 2) C 0 4 rfl rfl (by omega) hL (by decide) dL_law_1605 dL_law_1606 dL_law_1608 dL_law_1609 dL_law_1610 ?_
    refine jl_arg (k := 3) C 0 4 rfl rfl (by omega) hL (by decide) dL_law_1611 dL_law_1612 dL_law_1614 dL_law_1615 dL_law_1616 ?_
    refine jl_aload_n C 3 rfl dL_law_1617 rfl ?_
    refine jl_callW (As := [.ref s.heap.size, .int (xs (n + 1)), .int (xs (n + 2)), .int (xs (n + 3)), .ref (s.heap.size + 87)]) (rest := []) C (wL_wind_ex0 l B D (adb s.heap.size) cA (adb_I _ _) C.2.2.2.2.2.2.2.2.2 (s.heap.size + 87) cO (adb_out s.heap.size) S V (fun _ => 0) o (xs (n + 1)) (xs (n + 2)) (xs (n + 3)) h1) wcw_L_wind wd102 wd1420 wd1419 ⟨by decide +kernel, by decide +kernel, (show Option.map (fun d => d.parameters.length) (parseMethodDescriptor yL_wind.desc) = some 5 by decide +kernel)⟩ ⟨rfl, rfl, by decide, by decide⟩ ⟨Nat.le_trans (by omega) hkr.1, Nat.le_trans (by omega) hkr.2⟩ rfl rfl (Nat.le_of_ble_eq_true rfl) dL_law_1618 ?_
    refine jl_istore C [(5, .int (1 : Int32)), (0, .ref b), (1, .ref s.heap.size), (2, .ref (s.heap.size + 63)), (3, .ref (s.heap.size + 87)), (4, .int (nI n))] dL_law_1621 (by decide) rfl ?_
    refine jl_aload_n C 3 rfl dL_law_1623 rfl ?_
    refine jl_arg (k := 1) C 1 5 rfl rfl (by omega) hL (by decide) dL_law_1624 dL_law_1625 dL_law_1627 dL_law_1628 dL_law_1629 ?_
    refine jl_arg (k := 2) C 1 5 rfl rfl (by omega) hL (by decide) dL_law_1630 dL_law_1631 dL_law_1633 dL_law_1634 dL_law_1635 ?_
    refine jl_arg (k := 3) C 1 5 rfl rfl (by omega) hL (by decide) dL_law_1636 dL_law_1637 dL_law_1639 dL_law_1640 dL_law_1641 ?_
    refine jl_callR (As := [.int (xs (n + 1)), .int (xs (n + 2)), .int (xs (n + 3))]) (rest := []) C (kX12_wind_0 l B D (adb (s.heap.size + 63)) cR (adb_I _ _) S' V' L' (xs (n + 1)) (xs (n + 2)) (xs (n + 3)) r S3 h2) mw_X12_wind wd1950 wd1951 wd1949 rfl ⟨rfl, rfl, by decide, by decide⟩ ⟨Nat.le_trans (by omega) hkr.1, Nat.le_trans (by omega) hkr.2⟩ rfl rfl (Nat.le_of_ble_eq_true rfl) dL_law_1642 ?_
    refine jl_istore C [(6, .int r), (5, .int (1 : Int32)), (0, .ref b), (1, .ref s.heap.size), (2, .ref (s.heap.size + 63)), (3, .ref (s.heap.size + 87)), (4, .int (nI n))] dL_law_1645 (by decide) rfl ?_
    refine jl_aload_n C 4 rfl dL_law_1647 rfl ?_
    refine jl_callR (As := []) (rest := []) C (kX12_thrown_0 l B D (adb (s.heap.size + 63)) cR (adb_I _ _) S3 V' L' (1 : Int32) h3) mw_X12_thrown wd1621 wd1622 wd1620 rfl ⟨rfl, rfl, by decide, by decide⟩ ⟨Nat.le_trans (by omega) hkr.1, Nat.le_trans (by omega) hkr.2⟩ rfl rfl (Nat.le_of_ble_eq_true rfl) dL_law_1648 ?_
    refine jl_iload C 1 rfl dL_law_1651 ?_
    refine jl_eqT (tgt := 1658) C rfl dL_law_1653 (by decide) ?_
    refine jl_iload C 1 rfl dL_law_1658 ?_
    refine jl_if_neT (tgt := 1675) C (by decide) dL_law_1660 (by decide) ?_
    refine jl_goto (tgt := 1702) C dL_law_1675 (by decide) ?_
    refine jl_widen (k2 := kc + 6) (n2 := ks + 36) (by omega) (by omega) ?_
    exact jl_sub [2, 3, 4, 5, 6] rfl (kk _ _ _ _ _ _ hR2)
def St_image (Rel : (Nat → Int32) → (Nat → Nat → Int32) → (Nat → Int32) → (Nat → Nat → Int32) → (Nat → Int64) → Prop) : Prop := ∀ (S : Nat → Int32) (V : Nat → Nat → Int32) (S' : Nat → Int32) (V' : Nat → Nat → Int32) (L' : Nat → Int64), Rel S V S' V' L' → ∃ (S2 : Nat → Int32) (V2 : Nat → Nat → Int32) (S3 : Nat → Int32) (V3 : Nat → Nat → Int32), fX11_image_0 S V = some (S2, V2) ∧ fX12_image_0 S' V' = some (S3, V3) ∧ Rel S2 V2 S3 V3 L'
set_option maxHeartbeats 4000000 in
set_option maxRecDepth 100000 in
theorem lc_image (C : jCl p l s m args meth c D cA cR cO B b Ln xs) {Rel : (Nat → Int32) → (Nat → Nat → Int32) → (Nat → Int32) → (Nat → Nat → Int32) → (Nat → Int64) → Prop} (hst : St_image Rel) (hR : Rel S V S' V' L') {n : Nat} (hn : n + 6 ≤ Ln) (hL : Ln ≤ 3072) (hkr : kc + 6 ≤ 601024 ∧ ks + 36 ≤ 7293034) (kk : ∀ S V S' V' L' o, Rel S V S' V' L' → jWl p l e s m args below meth c Q D cA cR cO (kc + 6) (ks + 36) 1702 [(0, .ref b), (1, .ref s.heap.size), (2, .ref (s.heap.size + 63)), (3, .ref (s.heap.size + 87)), (4, .int (nI n))] [] S V S' V' L' o) : jWl p l e s m args below meth c Q D cA cR cO kc ks 1678 [(0, .ref b), (1, .ref s.heap.size), (2, .ref (s.heap.size + 63)), (3, .ref (s.heap.size + 87)), (4, .int (nI n))] [] S V S' V' L' o := by
  obtain ⟨S2, V2, S3, V3, h1, h2, hR2⟩ := hst S V S' V' L' hR
  refine jl_aload_n C 1 rfl dL_law_1678 rfl ?_
  refine jl_callC (As := []) (rest := []) C (kX11_image_0 l B D (adb s.heap.size) cA (adb_I _ _) S V (fun _ => 0) S2 V2 h1) mw_X11_image wd665 wd666 wd664 rfl ⟨rfl, rfl, by decide, by decide⟩ ⟨Nat.le_trans (by omega) hkr.1, Nat.le_trans (by omega) hkr.2⟩ rfl rfl (Nat.le_of_ble_eq_true rfl) dL_law_1679 ?_
  refine jl_aload_n C 2 rfl dL_law_1682 rfl ?_
  refine jl_callR (As := []) (rest := []) C (kX12_image_0 l B D (adb (s.heap.size + 63)) cR (adb_I _ _) S' V' L' S3 V3 h2) mw_X12_image wd1955 wd1956 wd1954 rfl ⟨rfl, rfl, by decide, by decide⟩ ⟨Nat.le_trans (by omega) hkr.1, Nat.le_trans (by omega) hkr.2⟩ rfl rfl (Nat.le_of_ble_eq_true rfl) dL_law_1683 ?_
  refine jl_goto (tgt := 1702) C dL_law_1686 (by decide) ?_
  refine jl_widen (k2 := kc + 6) (n2 := ks + 36) (by omega) (by omega) ?_
  exact jl_sub [0, 1, 2, 3, 4] rfl (kk _ _ _ _ _ _ hR2)
def St_restore (Rel : (Nat → Int32) → (Nat → Nat → Int32) → (Nat → Int32) → (Nat → Nat → Int32) → (Nat → Int64) → Prop) : Prop := ∀ (S : Nat → Int32) (V : Nat → Nat → Int32) (S' : Nat → Int32) (V' : Nat → Nat → Int32) (L' : Nat → Int64), Rel S V S' V' L' → ∃ (r : Int32) (S2 : Nat → Int32) (V2 : Nat → Nat → Int32) (S3 : Nat → Int32) (V3 : Nat → Nat → Int32), fX11_restore_0 S V = some (r, S2, V2) ∧ fX12_restore_0 S' V' = some (r, S3, V3) ∧ Rel S2 V2 S3 V3 L'
set_option maxHeartbeats 4000000 in
set_option maxRecDepth 100000 in
theorem lc_restore (C : jCl p l s m args meth c D cA cR cO B b Ln xs) {Rel : (Nat → Int32) → (Nat → Nat → Int32) → (Nat → Int32) → (Nat → Nat → Int32) → (Nat → Int64) → Prop} (hst : St_restore Rel) (hR : Rel S V S' V' L') {n : Nat} (hn : n + 6 ≤ Ln) (hL : Ln ≤ 3072) (hkr : kc + 6 ≤ 601024 ∧ ks + 36 ≤ 7293034) (kk : ∀ S V S' V' L' o, Rel S V S' V' L' → jWl p l e s m args below meth c Q D cA cR cO (kc + 6) (ks + 36) 1702 [(0, .ref b), (1, .ref s.heap.size), (2, .ref (s.heap.size + 63)), (3, .ref (s.heap.size + 87)), (4, .int (nI n))] [] S V S' V' L' o) : jWl p l e s m args below meth c Q D cA cR cO kc ks 1689 [(0, .ref b), (1, .ref s.heap.size), (2, .ref (s.heap.size + 63)), (3, .ref (s.heap.size + 87)), (4, .int (nI n))] [] S V S' V' L' o := by
  obtain ⟨r, S2, V2, S3, V3, h1, h2, hR2⟩ := hst S V S' V' L' hR
  refine jl_aload_n C 1 rfl dL_law_1689 rfl ?_
  refine jl_callC (As := []) (rest := []) C (kX11_restore_0 l B D (adb s.heap.size) cA (adb_I _ _) S V (fun _ => 0) r S2 V2 h1) mw_X11_restore wd681 wd682 wd680 rfl ⟨rfl, rfl, by decide, by decide⟩ ⟨Nat.le_trans (by omega) hkr.1, Nat.le_trans (by omega) hkr.2⟩ rfl rfl (Nat.le_of_ble_eq_true rfl) dL_law_1690 ?_
  refine jl_aload_n C 2 rfl dL_law_1693 rfl ?_
  refine jl_callR (As := []) (rest := [.int r]) C (kX12_restore_0 l B D (adb (s.heap.size + 63)) cR (adb_I _ _) S' V' L' r S3 V3 h2) mw_X12_restore wd1959 wd1960 wd1958 rfl ⟨rfl, rfl, by decide, by decide⟩ ⟨Nat.le_trans (by omega) hkr.1, Nat.le_trans (by omega) hkr.2⟩ rfl rfl (Nat.le_of_ble_eq_true rfl) dL_law_1694 ?_
  refine jl_eqT (tgt := 1702) C rfl dL_law_1697 (by decide) ?_
  refine jl_widen (k2 := kc + 6) (n2 := ks + 36) (by omega) (by omega) ?_
  exact jl_sub [0, 1, 2, 3, 4] rfl (kk _ _ _ _ _ _ hR2)
end LC
