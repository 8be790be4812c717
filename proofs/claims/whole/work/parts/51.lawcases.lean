theorem tw_lng : Cond.constantLong RL 49 4294967295 ∈ zk_tbl := zk_in 1432 (by decide +kernel) rfl
theorem tw_529 : (Jvm.Cond.methodLink "RoadPlugsLaw" (13 : Nat) ({ cls := "RoadPlugs", name := "site", desc := "(II)I" } : Jvm.MethodName)) ∈ zk_tbl := zk_in 529 (by decide +kernel) rfl
theorem tw_530 : (Jvm.Cond.instanceMethod ({ cls := "RoadPlugs", name := "site", desc := "(II)I" } : Jvm.MethodName)) ∈ zk_tbl := zk_in 530 (by decide +kernel) rfl
theorem tw_531 : (Jvm.Cond.selects "RoadPlugs" ({ cls := "RoadPlugs", name := "site", desc := "(II)I" } : Jvm.MethodName) ({ cls := "RoadPlugs", name := "site", desc := "(II)I" } : Jvm.MethodName)) ∈ zk_tbl := zk_in 531 (by decide +kernel) rfl
theorem tw_1118 : (Jvm.Cond.methodLink "RoadPlugsLaw" (17 : Nat) ({ cls := "RoadPlugsModel", name := "site", desc := "(II)I" } : Jvm.MethodName)) ∈ zk_tbl := zk_in 1118 (by decide +kernel) rfl
theorem tw_1119 : (Jvm.Cond.instanceMethod ({ cls := "RoadPlugsModel", name := "site", desc := "(II)I" } : Jvm.MethodName)) ∈ zk_tbl := zk_in 1119 (by decide +kernel) rfl
theorem tw_1120 : (Jvm.Cond.selects "RoadPlugsModel" ({ cls := "RoadPlugsModel", name := "site", desc := "(II)I" } : Jvm.MethodName) ({ cls := "RoadPlugsModel", name := "site", desc := "(II)I" } : Jvm.MethodName)) ∈ zk_tbl := zk_in 1120 (by decide +kernel) rfl
theorem zl_case0 {κ : zk_K} {ω : zk_O} {L i : Nat} {xs : Nat → Int32} {h h1 h2 : zk_H} {r : Int32} (g : zk_ok M_law κ ω) (hs : zl_Scr κ ω L xs) (hi : i + 6 ≤ L) (hL : L ≤ 3072) (e1 : f_X11_site SHP [.ref 0, .int (xs (i + 1)), .int (xs (i + 2))] h = some (.int r, h1)) (e2 : f_X12_site SHP [.ref 178, .int (xs (i + 1)), .int (xs (i + 2))] h1 = some (.int r, h2)) (k : zk_At κ ω 1188 (zl_env i) [] SHP h2) : zk_At κ ω 160 (zl_env i) [] SHP h := by
  obtain ⟨z, z0⟩ := zi_s0
  obtain ⟨z2, z1⟩ := zi_s178
  refine zk_aload_n (i := 1) (x := 0) g dL_law_160 rfl ?_
  refine zl_arg (c := 1) g hs hi hL (by decide) dL_law_161 dL_law_162 dL_law_163 dL_law_164 dL_law_165 ?_
  refine zl_arg (c := 2) g hs hi hL (by decide) dL_law_166 dL_law_167 dL_law_168 dL_law_169 dL_law_170 ?_
  refine (zk_invV (T2 := M_X11_site) (av := [.int (xs (i + 1)), .int (xs (i + 2))]) (stk := []) (ret := some .int) g dL_law_171 (m_X11_site SHP) ⟨⟨tw_529, tw_530, tw_531⟩, lb_X11_site⟩ ⟨by decide, by decide⟩ (Nat.le_of_ble_eq_true rfl) z0 rfl e1 ?_ : zk_At κ ω 171 (zl_env i) (([.int (xs (i + 1)), .int (xs (i + 2))] : List Value).reverse ++ .ref 0 :: []) SHP h)
  refine zk_aload_n (i := 2) (x := 178) g dL_law_174 rfl ?_
  refine zl_arg (c := 1) g hs hi hL (by decide) dL_law_175 dL_law_176 dL_law_177 dL_law_178 dL_law_179 ?_
  refine zl_arg (c := 2) g hs hi hL (by decide) dL_law_180 dL_law_181 dL_law_182 dL_law_183 dL_law_184 ?_
  refine (zk_invV (T2 := M_X12_site) (av := [.int (xs (i + 1)), .int (xs (i + 2))]) (stk := [.int r]) (ret := some .int) g dL_law_185 (m_X12_site SHP) ⟨⟨tw_1118, tw_1119, tw_1120⟩, lb_X12_site⟩ ⟨by decide, by decide⟩ (Nat.le_of_ble_eq_true rfl) z1 rfl e2 ?_ : zk_At κ ω 185 (zl_env i) (([.int (xs (i + 1)), .int (xs (i + 2))] : List Value).reverse ++ .ref 178 :: [.int r]) SHP h1)
  exact zk_j2eq (t := 1188) g dL_law_188 (by decide) (fun _ => k) (fun z => absurd rfl z)
theorem tw_536 : (Jvm.Cond.methodLink "RoadPlugsLaw" (18 : Nat) ({ cls := "RoadPlugs", name := "plug", desc := "(III)I" } : Jvm.MethodName)) ∈ zk_tbl := zk_in 536 (by decide +kernel) rfl
theorem tw_537 : (Jvm.Cond.instanceMethod ({ cls := "RoadPlugs", name := "plug", desc := "(III)I" } : Jvm.MethodName)) ∈ zk_tbl := zk_in 537 (by decide +kernel) rfl
theorem tw_538 : (Jvm.Cond.selects "RoadPlugs" ({ cls := "RoadPlugs", name := "plug", desc := "(III)I" } : Jvm.MethodName) ({ cls := "RoadPlugs", name := "plug", desc := "(III)I" } : Jvm.MethodName)) ∈ zk_tbl := zk_in 538 (by decide +kernel) rfl
theorem tw_1125 : (Jvm.Cond.methodLink "RoadPlugsLaw" (22 : Nat) ({ cls := "RoadPlugsModel", name := "plug", desc := "(III)I" } : Jvm.MethodName)) ∈ zk_tbl := zk_in 1125 (by decide +kernel) rfl
theorem tw_1126 : (Jvm.Cond.instanceMethod ({ cls := "RoadPlugsModel", name := "plug", desc := "(III)I" } : Jvm.MethodName)) ∈ zk_tbl := zk_in 1126 (by decide +kernel) rfl
theorem tw_1127 : (Jvm.Cond.selects "RoadPlugsModel" ({ cls := "RoadPlugsModel", name := "plug", desc := "(III)I" } : Jvm.MethodName) ({ cls := "RoadPlugsModel", name := "plug", desc := "(III)I" } : Jvm.MethodName)) ∈ zk_tbl := zk_in 1127 (by decide +kernel) rfl
theorem zl_case1 {κ : zk_K} {ω : zk_O} {L i : Nat} {xs : Nat → Int32} {h h1 h2 : zk_H} {r : Int32} (g : zk_ok M_law κ ω) (hs : zl_Scr κ ω L xs) (hi : i + 6 ≤ L) (hL : L ≤ 3072) (e1 : f_X11_plug SHP [.ref 0, .int (xs (i + 1)), .int (xs (i + 2)), .int (xs (i + 3))] h = some (.int r, h1)) (e2 : f_X12_plug SHP [.ref 178, .int (xs (i + 1)), .int (xs (i + 2)), .int (xs (i + 3))] h1 = some (.int r, h2)) (k : zk_At κ ω 1188 (zl_env i) [] SHP h2) : zk_At κ ω 193 (zl_env i) [] SHP h := by
  obtain ⟨z, z0⟩ := zi_s0
  obtain ⟨z2, z1⟩ := zi_s178
  refine zk_aload_n (i := 1) (x := 0) g dL_law_193 rfl ?_
  refine zl_arg (c := 1) g hs hi hL (by decide) dL_law_194 dL_law_195 dL_law_196 dL_law_197 dL_law_198 ?_
  refine zl_arg (c := 2) g hs hi hL (by decide) dL_law_199 dL_law_200 dL_law_201 dL_law_202 dL_law_203 ?_
  refine zl_arg (c := 3) g hs hi hL (by decide) dL_law_204 dL_law_205 dL_law_206 dL_law_207 dL_law_208 ?_
  refine (zk_invV (T2 := M_X11_plug) (av := [.int (xs (i + 1)), .int (xs (i + 2)), .int (xs (i + 3))]) (stk := []) (ret := some .int) g dL_law_209 (m_X11_plug SHP) ⟨⟨tw_536, tw_537, tw_538⟩, lb_X11_plug⟩ ⟨by decide, by decide⟩ (Nat.le_of_ble_eq_true rfl) z0 rfl e1 ?_ : zk_At κ ω 209 (zl_env i) (([.int (xs (i + 1)), .int (xs (i + 2)), .int (xs (i + 3))] : List Value).reverse ++ .ref 0 :: []) SHP h)
  refine zk_aload_n (i := 2) (x := 178) g dL_law_212 rfl ?_
  refine zl_arg (c := 1) g hs hi hL (by decide) dL_law_213 dL_law_214 dL_law_215 dL_law_216 dL_law_217 ?_
  refine zl_arg (c := 2) g hs hi hL (by decide) dL_law_218 dL_law_219 dL_law_220 dL_law_221 dL_law_222 ?_
  refine zl_arg (c := 3) g hs hi hL (by decide) dL_law_223 dL_law_224 dL_law_225 dL_law_226 dL_law_227 ?_
  refine (zk_invV (T2 := M_X12_plug) (av := [.int (xs (i + 1)), .int (xs (i + 2)), .int (xs (i + 3))]) (stk := [.int r]) (ret := some .int) g dL_law_228 (m_X12_plug SHP) ⟨⟨tw_1125, tw_1126, tw_1127⟩, lb_X12_plug⟩ ⟨by decide, by decide⟩ (Nat.le_of_ble_eq_true rfl) z1 rfl e2 ?_ : zk_At κ ω 228 (zl_env i) (([.int (xs (i + 1)), .int (xs (i + 2)), .int (xs (i + 3))] : List Value).reverse ++ .ref 178 :: [.int r]) SHP h1)
  exact zk_j2eq (t := 1188) g dL_law_231 (by decide) (fun _ => k) (fun z => absurd rfl z)
theorem tw_548 : (Jvm.Cond.methodLink "RoadPlugsLaw" (23 : Nat) ({ cls := "RoadPlugs", name := "car", desc := "(IIIII)I" } : Jvm.MethodName)) ∈ zk_tbl := zk_in 548 (by decide +kernel) rfl
theorem tw_549 : (Jvm.Cond.instanceMethod ({ cls := "RoadPlugs", name := "car", desc := "(IIIII)I" } : Jvm.MethodName)) ∈ zk_tbl := zk_in 549 (by decide +kernel) rfl
theorem tw_550 : (Jvm.Cond.selects "RoadPlugs" ({ cls := "RoadPlugs", name := "car", desc := "(IIIII)I" } : Jvm.MethodName) ({ cls := "RoadPlugs", name := "car", desc := "(IIIII)I" } : Jvm.MethodName)) ∈ zk_tbl := zk_in 550 (by decide +kernel) rfl
theorem tw_1133 : (Jvm.Cond.methodLink "RoadPlugsLaw" (27 : Nat) ({ cls := "RoadPlugsModel", name := "car", desc := "(IIIII)I" } : Jvm.MethodName)) ∈ zk_tbl := zk_in 1133 (by decide +kernel) rfl
theorem tw_1134 : (Jvm.Cond.instanceMethod ({ cls := "RoadPlugsModel", name := "car", desc := "(IIIII)I" } : Jvm.MethodName)) ∈ zk_tbl := zk_in 1134 (by decide +kernel) rfl
theorem tw_1135 : (Jvm.Cond.selects "RoadPlugsModel" ({ cls := "RoadPlugsModel", name := "car", desc := "(IIIII)I" } : Jvm.MethodName) ({ cls := "RoadPlugsModel", name := "car", desc := "(IIIII)I" } : Jvm.MethodName)) ∈ zk_tbl := zk_in 1135 (by decide +kernel) rfl
theorem zl_case2 {κ : zk_K} {ω : zk_O} {L i : Nat} {xs : Nat → Int32} {h h1 h2 : zk_H} {r : Int32} (g : zk_ok M_law κ ω) (hs : zl_Scr κ ω L xs) (hi : i + 6 ≤ L) (hL : L ≤ 3072) (e1 : f_X11_car SHP [.ref 0, .int (xs (i + 1)), .int (xs (i + 2)), .int (xs (i + 3)), .int (xs (i + 4)), .int (xs (i + 5))] h = some (.int r, h1)) (e2 : f_X12_car SHP [.ref 178, .int (xs (i + 1)), .int (xs (i + 2)), .int (xs (i + 3)), .int (xs (i + 4)), .int (xs (i + 5))] h1 = some (.int r, h2)) (k : zk_At κ ω 1188 (zl_env i) [] SHP h2) : zk_At κ ω 236 (zl_env i) [] SHP h := by
  obtain ⟨z, z0⟩ := zi_s0
  obtain ⟨z2, z1⟩ := zi_s178
  refine zk_aload_n (i := 1) (x := 0) g dL_law_236 rfl ?_
  refine zl_arg (c := 1) g hs hi hL (by decide) dL_law_237 dL_law_238 dL_law_239 dL_law_240 dL_law_241 ?_
  refine zl_arg (c := 2) g hs hi hL (by decide) dL_law_242 dL_law_243 dL_law_244 dL_law_245 dL_law_246 ?_
  refine zl_arg (c := 3) g hs hi hL (by decide) dL_law_247 dL_law_248 dL_law_249 dL_law_250 dL_law_251 ?_
  refine zl_arg (c := 4) g hs hi hL (by decide) dL_law_252 dL_law_253 dL_law_254 dL_law_255 dL_law_256 ?_
  refine zl_arg (c := 5) g hs hi hL (by decide) dL_law_257 dL_law_258 dL_law_259 dL_law_260 dL_law_261 ?_
  refine (zk_invV (T2 := M_X11_car) (av := [.int (xs (i + 1)), .int (xs (i + 2)), .int (xs (i + 3)), .int (xs (i + 4)), .int (xs (i + 5))]) (stk := []) (ret := some .int) g dL_law_262 (m_X11_car SHP) ⟨⟨tw_548, tw_549, tw_550⟩, lb_X11_car⟩ ⟨by decide, by decide⟩ (Nat.le_of_ble_eq_true rfl) z0 rfl e1 ?_ : zk_At κ ω 262 (zl_env i) (([.int (xs (i + 1)), .int (xs (i + 2)), .int (xs (i + 3)), .int (xs (i + 4)), .int (xs (i + 5))] : List Value).reverse ++ .ref 0 :: []) SHP h)
  refine zk_aload_n (i := 2) (x := 178) g dL_law_265 rfl ?_
  refine zl_arg (c := 1) g hs hi hL (by decide) dL_law_266 dL_law_267 dL_law_268 dL_law_269 dL_law_270 ?_
  refine zl_arg (c := 2) g hs hi hL (by decide) dL_law_271 dL_law_272 dL_law_273 dL_law_274 dL_law_275 ?_
  refine zl_arg (c := 3) g hs hi hL (by decide) dL_law_276 dL_law_277 dL_law_278 dL_law_279 dL_law_280 ?_
  refine zl_arg (c := 4) g hs hi hL (by decide) dL_law_281 dL_law_282 dL_law_283 dL_law_284 dL_law_285 ?_
  refine zl_arg (c := 5) g hs hi hL (by decide) dL_law_286 dL_law_287 dL_law_288 dL_law_289 dL_law_290 ?_
  refine (zk_invV (T2 := M_X12_car) (av := [.int (xs (i + 1)), .int (xs (i + 2)), .int (xs (i + 3)), .int (xs (i + 4)), .int (xs (i + 5))]) (stk := [.int r]) (ret := some .int) g dL_law_291 (m_X12_car SHP) ⟨⟨tw_1133, tw_1134, tw_1135⟩, lb_X12_car⟩ ⟨by decide, by decide⟩ (Nat.le_of_ble_eq_true rfl) z1 rfl e2 ?_ : zk_At κ ω 291 (zl_env i) (([.int (xs (i + 1)), .int (xs (i + 2)), .int (xs (i + 3)), .int (xs (i + 4)), .int (xs (i + 5))] : List Value).reverse ++ .ref 178 :: [.int r]) SHP h1)
  exact zk_j2eq (t := 1188) g dL_law_294 (by decide) (fun _ => k) (fun z => absurd rfl z)
theorem tw_552 : (Jvm.Cond.methodLink "RoadPlugsLaw" (28 : Nat) ({ cls := "RoadPlugs", name := "set", desc := "(II)I" } : Jvm.MethodName)) ∈ zk_tbl := zk_in 552 (by decide +kernel) rfl
theorem tw_553 : (Jvm.Cond.instanceMethod ({ cls := "RoadPlugs", name := "set", desc := "(II)I" } : Jvm.MethodName)) ∈ zk_tbl := zk_in 553 (by decide +kernel) rfl
theorem tw_554 : (Jvm.Cond.selects "RoadPlugs" ({ cls := "RoadPlugs", name := "set", desc := "(II)I" } : Jvm.MethodName) ({ cls := "RoadPlugs", name := "set", desc := "(II)I" } : Jvm.MethodName)) ∈ zk_tbl := zk_in 554 (by decide +kernel) rfl
theorem tw_1137 : (Jvm.Cond.methodLink "RoadPlugsLaw" (31 : Nat) ({ cls := "RoadPlugsModel", name := "set", desc := "(II)I" } : Jvm.MethodName)) ∈ zk_tbl := zk_in 1137 (by decide +kernel) rfl
theorem tw_1138 : (Jvm.Cond.instanceMethod ({ cls := "RoadPlugsModel", name := "set", desc := "(II)I" } : Jvm.MethodName)) ∈ zk_tbl := zk_in 1138 (by decide +kernel) rfl
theorem tw_1139 : (Jvm.Cond.selects "RoadPlugsModel" ({ cls := "RoadPlugsModel", name := "set", desc := "(II)I" } : Jvm.MethodName) ({ cls := "RoadPlugsModel", name := "set", desc := "(II)I" } : Jvm.MethodName)) ∈ zk_tbl := zk_in 1139 (by decide +kernel) rfl
theorem zl_case3 {κ : zk_K} {ω : zk_O} {L i : Nat} {xs : Nat → Int32} {h h1 h2 : zk_H} {r : Int32} (g : zk_ok M_law κ ω) (hs : zl_Scr κ ω L xs) (hi : i + 6 ≤ L) (hL : L ≤ 3072) (e1 : f_X11_set SHP [.ref 0, .int (xs (i + 1)), .int (xs (i + 2))] h = some (.int r, h1)) (e2 : f_X12_set SHP [.ref 178, .int (xs (i + 1)), .int (xs (i + 2))] h1 = some (.int r, h2)) (k : zk_At κ ω 1188 (zl_env i) [] SHP h2) : zk_At κ ω 299 (zl_env i) [] SHP h := by
  obtain ⟨z, z0⟩ := zi_s0
  obtain ⟨z2, z1⟩ := zi_s178
  refine zk_aload_n (i := 1) (x := 0) g dL_law_299 rfl ?_
  refine zl_arg (c := 1) g hs hi hL (by decide) dL_law_300 dL_law_301 dL_law_302 dL_law_303 dL_law_304 ?_
  refine zl_arg (c := 2) g hs hi hL (by decide) dL_law_305 dL_law_306 dL_law_307 dL_law_308 dL_law_309 ?_
  refine (zk_invV (T2 := M_X11_set) (av := [.int (xs (i + 1)), .int (xs (i + 2))]) (stk := []) (ret := some .int) g dL_law_310 (m_X11_set SHP) ⟨⟨tw_552, tw_553, tw_554⟩, lb_X11_set⟩ ⟨by decide, by decide⟩ (Nat.le_of_ble_eq_true rfl) z0 rfl e1 ?_ : zk_At κ ω 310 (zl_env i) (([.int (xs (i + 1)), .int (xs (i + 2))] : List Value).reverse ++ .ref 0 :: []) SHP h)
  refine zk_aload_n (i := 2) (x := 178) g dL_law_313 rfl ?_
  refine zl_arg (c := 1) g hs hi hL (by decide) dL_law_314 dL_law_315 dL_law_316 dL_law_317 dL_law_318 ?_
  refine zl_arg (c := 2) g hs hi hL (by decide) dL_law_319 dL_law_320 dL_law_321 dL_law_322 dL_law_323 ?_
  refine (zk_invV (T2 := M_X12_set) (av := [.int (xs (i + 1)), .int (xs (i + 2))]) (stk := [.int r]) (ret := some .int) g dL_law_324 (m_X12_set SHP) ⟨⟨tw_1137, tw_1138, tw_1139⟩, lb_X12_set⟩ ⟨by decide, by decide⟩ (Nat.le_of_ble_eq_true rfl) z1 rfl e2 ?_ : zk_At κ ω 324 (zl_env i) (([.int (xs (i + 1)), .int (xs (i + 2))] : List Value).reverse ++ .ref 178 :: [.int r]) SHP h1)
  exact zk_j2eq (t := 1188) g dL_law_327 (by decide) (fun _ => k) (fun z => absurd rfl z)
theorem tw_556 : (Jvm.Cond.methodLink "RoadPlugsLaw" (32 : Nat) ({ cls := "RoadPlugs", name := "drive", desc := "(III)I" } : Jvm.MethodName)) ∈ zk_tbl := zk_in 556 (by decide +kernel) rfl
theorem tw_557 : (Jvm.Cond.instanceMethod ({ cls := "RoadPlugs", name := "drive", desc := "(III)I" } : Jvm.MethodName)) ∈ zk_tbl := zk_in 557 (by decide +kernel) rfl
theorem tw_558 : (Jvm.Cond.selects "RoadPlugs" ({ cls := "RoadPlugs", name := "drive", desc := "(III)I" } : Jvm.MethodName) ({ cls := "RoadPlugs", name := "drive", desc := "(III)I" } : Jvm.MethodName)) ∈ zk_tbl := zk_in 558 (by decide +kernel) rfl
theorem tw_1141 : (Jvm.Cond.methodLink "RoadPlugsLaw" (35 : Nat) ({ cls := "RoadPlugsModel", name := "drive", desc := "(III)I" } : Jvm.MethodName)) ∈ zk_tbl := zk_in 1141 (by decide +kernel) rfl
theorem tw_1142 : (Jvm.Cond.instanceMethod ({ cls := "RoadPlugsModel", name := "drive", desc := "(III)I" } : Jvm.MethodName)) ∈ zk_tbl := zk_in 1142 (by decide +kernel) rfl
theorem tw_1143 : (Jvm.Cond.selects "RoadPlugsModel" ({ cls := "RoadPlugsModel", name := "drive", desc := "(III)I" } : Jvm.MethodName) ({ cls := "RoadPlugsModel", name := "drive", desc := "(III)I" } : Jvm.MethodName)) ∈ zk_tbl := zk_in 1143 (by decide +kernel) rfl
theorem zl_case4 {κ : zk_K} {ω : zk_O} {L i : Nat} {xs : Nat → Int32} {h h1 h2 : zk_H} {r : Int32} (g : zk_ok M_law κ ω) (hs : zl_Scr κ ω L xs) (hi : i + 6 ≤ L) (hL : L ≤ 3072) (e1 : f_X11_drive SHP [.ref 0, .int (xs (i + 1)), .int (xs (i + 2)), .int (xs (i + 3))] h = some (.int r, h1)) (e2 : f_X12_drive SHP [.ref 178, .int (xs (i + 1)), .int (xs (i + 2)), .int (xs (i + 3))] h1 = some (.int r, h2)) (k : zk_At κ ω 1188 (zl_env i) [] SHP h2) : zk_At κ ω 332 (zl_env i) [] SHP h := by
  obtain ⟨z, z0⟩ := zi_s0
  obtain ⟨z2, z1⟩ := zi_s178
  refine zk_aload_n (i := 1) (x := 0) g dL_law_332 rfl ?_
  refine zl_arg (c := 1) g hs hi hL (by decide) dL_law_333 dL_law_334 dL_law_335 dL_law_336 dL_law_337 ?_
  refine zl_arg (c := 2) g hs hi hL (by decide) dL_law_338 dL_law_339 dL_law_340 dL_law_341 dL_law_342 ?_
  refine zl_arg (c := 3) g hs hi hL (by decide) dL_law_343 dL_law_344 dL_law_345 dL_law_346 dL_law_347 ?_
  refine (zk_invV (T2 := M_X11_drive) (av := [.int (xs (i + 1)), .int (xs (i + 2)), .int (xs (i + 3))]) (stk := []) (ret := some .int) g dL_law_348 (m_X11_drive SHP) ⟨⟨tw_556, tw_557, tw_558⟩, lb_X11_drive⟩ ⟨by decide, by decide⟩ (Nat.le_of_ble_eq_true rfl) z0 rfl e1 ?_ : zk_At κ ω 348 (zl_env i) (([.int (xs (i + 1)), .int (xs (i + 2)), .int (xs (i + 3))] : List Value).reverse ++ .ref 0 :: []) SHP h)
  refine zk_aload_n (i := 2) (x := 178) g dL_law_351 rfl ?_
  refine zl_arg (c := 1) g hs hi hL (by decide) dL_law_352 dL_law_353 dL_law_354 dL_law_355 dL_law_356 ?_
  refine zl_arg (c := 2) g hs hi hL (by decide) dL_law_357 dL_law_358 dL_law_359 dL_law_360 dL_law_361 ?_
  refine zl_arg (c := 3) g hs hi hL (by decide) dL_law_362 dL_law_363 dL_law_364 dL_law_365 dL_law_366 ?_
  refine (zk_invV (T2 := M_X12_drive) (av := [.int (xs (i + 1)), .int (xs (i + 2)), .int (xs (i + 3))]) (stk := [.int r]) (ret := some .int) g dL_law_367 (m_X12_drive SHP) ⟨⟨tw_1141, tw_1142, tw_1143⟩, lb_X12_drive⟩ ⟨by decide, by decide⟩ (Nat.le_of_ble_eq_true rfl) z1 rfl e2 ?_ : zk_At κ ω 367 (zl_env i) (([.int (xs (i + 1)), .int (xs (i + 2)), .int (xs (i + 3))] : List Value).reverse ++ .ref 178 :: [.int r]) SHP h1)
  exact zk_j2eq (t := 1188) g dL_law_370 (by decide) (fun _ => k) (fun z => absurd rfl z)
theorem tw_574 : (Jvm.Cond.methodLink "RoadPlugsLaw" (36 : Nat) ({ cls := "RoadPlugs", name := "gain", desc := "(III)I" } : Jvm.MethodName)) ∈ zk_tbl := zk_in 574 (by decide +kernel) rfl
theorem tw_575 : (Jvm.Cond.instanceMethod ({ cls := "RoadPlugs", name := "gain", desc := "(III)I" } : Jvm.MethodName)) ∈ zk_tbl := zk_in 575 (by decide +kernel) rfl
theorem tw_576 : (Jvm.Cond.selects "RoadPlugs" ({ cls := "RoadPlugs", name := "gain", desc := "(III)I" } : Jvm.MethodName) ({ cls := "RoadPlugs", name := "gain", desc := "(III)I" } : Jvm.MethodName)) ∈ zk_tbl := zk_in 576 (by decide +kernel) rfl
theorem tw_1160 : (Jvm.Cond.methodLink "RoadPlugsLaw" (39 : Nat) ({ cls := "RoadPlugsModel", name := "gain", desc := "(III)I" } : Jvm.MethodName)) ∈ zk_tbl := zk_in 1160 (by decide +kernel) rfl
theorem tw_1161 : (Jvm.Cond.instanceMethod ({ cls := "RoadPlugsModel", name := "gain", desc := "(III)I" } : Jvm.MethodName)) ∈ zk_tbl := zk_in 1161 (by decide +kernel) rfl
theorem tw_1162 : (Jvm.Cond.selects "RoadPlugsModel" ({ cls := "RoadPlugsModel", name := "gain", desc := "(III)I" } : Jvm.MethodName) ({ cls := "RoadPlugsModel", name := "gain", desc := "(III)I" } : Jvm.MethodName)) ∈ zk_tbl := zk_in 1162 (by decide +kernel) rfl
theorem zl_case5 {κ : zk_K} {ω : zk_O} {L i : Nat} {xs : Nat → Int32} {h h1 h2 : zk_H} {r : Int32} (g : zk_ok M_law κ ω) (hs : zl_Scr κ ω L xs) (hi : i + 6 ≤ L) (hL : L ≤ 3072) (e1 : f_X11_gain SHP [.ref 0, .int (xs (i + 1)), .int (xs (i + 2)), .int (xs (i + 3))] h = some (.int r, h1)) (e2 : f_X12_gain SHP [.ref 178, .int (xs (i + 1)), .int (xs (i + 2)), .int (xs (i + 3))] h1 = some (.int r, h2)) (k : zk_At κ ω 1188 (zl_env i) [] SHP h2) : zk_At κ ω 375 (zl_env i) [] SHP h := by
  obtain ⟨z, z0⟩ := zi_s0
  obtain ⟨z2, z1⟩ := zi_s178
  refine zk_aload_n (i := 1) (x := 0) g dL_law_375 rfl ?_
  refine zl_arg (c := 1) g hs hi hL (by decide) dL_law_376 dL_law_377 dL_law_378 dL_law_379 dL_law_380 ?_
  refine zl_arg (c := 2) g hs hi hL (by decide) dL_law_381 dL_law_382 dL_law_383 dL_law_384 dL_law_385 ?_
  refine zl_arg (c := 3) g hs hi hL (by decide) dL_law_386 dL_law_387 dL_law_388 dL_law_389 dL_law_390 ?_
  refine (zk_invV (T2 := M_X11_gain) (av := [.int (xs (i + 1)), .int (xs (i + 2)), .int (xs (i + 3))]) (stk := []) (ret := some .int) g dL_law_391 (m_X11_gain SHP) ⟨⟨tw_574, tw_575, tw_576⟩, lb_X11_gain⟩ ⟨by decide, by decide⟩ (Nat.le_of_ble_eq_true rfl) z0 rfl e1 ?_ : zk_At κ ω 391 (zl_env i) (([.int (xs (i + 1)), .int (xs (i + 2)), .int (xs (i + 3))] : List Value).reverse ++ .ref 0 :: []) SHP h)
  refine zk_aload_n (i := 2) (x := 178) g dL_law_394 rfl ?_
  refine zl_arg (c := 1) g hs hi hL (by decide) dL_law_395 dL_law_396 dL_law_397 dL_law_398 dL_law_399 ?_
  refine zl_arg (c := 2) g hs hi hL (by decide) dL_law_400 dL_law_401 dL_law_402 dL_law_403 dL_law_404 ?_
  refine zl_arg (c := 3) g hs hi hL (by decide) dL_law_405 dL_law_406 dL_law_407 dL_law_408 dL_law_409 ?_
  refine (zk_invV (T2 := M_X12_gain) (av := [.int (xs (i + 1)), .int (xs (i + 2)), .int (xs (i + 3))]) (stk := [.int r]) (ret := some .int) g dL_law_410 (m_X12_gain SHP) ⟨⟨tw_1160, tw_1161, tw_1162⟩, lb_X12_gain⟩ ⟨by decide, by decide⟩ (Nat.le_of_ble_eq_true rfl) z1 rfl e2 ?_ : zk_At κ ω 410 (zl_env i) (([.int (xs (i + 1)), .int (xs (i + 2)), .int (xs (i + 3))] : List Value).reverse ++ .ref 178 :: [.int r]) SHP h1)
  exact zk_j2eq (t := 1188) g dL_law_413 (by decide) (fun _ => k) (fun z => absurd rfl z)
theorem tw_592 : (Jvm.Cond.methodLink "RoadPlugsLaw" (40 : Nat) ({ cls := "RoadPlugs", name := "of", desc := "(II)I" } : Jvm.MethodName)) ∈ zk_tbl := zk_in 592 (by decide +kernel) rfl
theorem tw_593 : (Jvm.Cond.instanceMethod ({ cls := "RoadPlugs", name := "of", desc := "(II)I" } : Jvm.MethodName)) ∈ zk_tbl := zk_in 593 (by decide +kernel) rfl
theorem tw_594 : (Jvm.Cond.selects "RoadPlugs" ({ cls := "RoadPlugs", name := "of", desc := "(II)I" } : Jvm.MethodName) ({ cls := "RoadPlugs", name := "of", desc := "(II)I" } : Jvm.MethodName)) ∈ zk_tbl := zk_in 594 (by decide +kernel) rfl
theorem tw_1172 : (Jvm.Cond.methodLink "RoadPlugsLaw" (43 : Nat) ({ cls := "RoadPlugsModel", name := "of", desc := "(II)I" } : Jvm.MethodName)) ∈ zk_tbl := zk_in 1172 (by decide +kernel) rfl
theorem tw_1173 : (Jvm.Cond.instanceMethod ({ cls := "RoadPlugsModel", name := "of", desc := "(II)I" } : Jvm.MethodName)) ∈ zk_tbl := zk_in 1173 (by decide +kernel) rfl
theorem tw_1174 : (Jvm.Cond.selects "RoadPlugsModel" ({ cls := "RoadPlugsModel", name := "of", desc := "(II)I" } : Jvm.MethodName) ({ cls := "RoadPlugsModel", name := "of", desc := "(II)I" } : Jvm.MethodName)) ∈ zk_tbl := zk_in 1174 (by decide +kernel) rfl
theorem zl_case6 {κ : zk_K} {ω : zk_O} {L i : Nat} {xs : Nat → Int32} {h h1 h2 : zk_H} {r : Int32} (g : zk_ok M_law κ ω) (hs : zl_Scr κ ω L xs) (hi : i + 6 ≤ L) (hL : L ≤ 3072) (e1 : f_X11_of SHP [.ref 0, .int (xs (i + 1)), .int (xs (i + 2))] h = some (.int r, h1)) (e2 : f_X12_of SHP [.ref 178, .int (xs (i + 1)), .int (xs (i + 2))] h1 = some (.int r, h2)) (k : zk_At κ ω 1188 (zl_env i) [] SHP h2) : zk_At κ ω 418 (zl_env i) [] SHP h := by
  obtain ⟨z, z0⟩ := zi_s0
  obtain ⟨z2, z1⟩ := zi_s178
  refine zk_aload_n (i := 1) (x := 0) g dL_law_418 rfl ?_
  refine zl_arg (c := 1) g hs hi hL (by decide) dL_law_419 dL_law_420 dL_law_421 dL_law_422 dL_law_423 ?_
  refine zl_arg (c := 2) g hs hi hL (by decide) dL_law_424 dL_law_425 dL_law_426 dL_law_427 dL_law_428 ?_
  refine (zk_invV (T2 := M_X11_of) (av := [.int (xs (i + 1)), .int (xs (i + 2))]) (stk := []) (ret := some .int) g dL_law_429 (m_X11_of SHP) ⟨⟨tw_592, tw_593, tw_594⟩, lb_X11_of⟩ ⟨by decide, by decide⟩ (Nat.le_of_ble_eq_true rfl) z0 rfl e1 ?_ : zk_At κ ω 429 (zl_env i) (([.int (xs (i + 1)), .int (xs (i + 2))] : List Value).reverse ++ .ref 0 :: []) SHP h)
  refine zk_aload_n (i := 2) (x := 178) g dL_law_432 rfl ?_
  refine zl_arg (c := 1) g hs hi hL (by decide) dL_law_433 dL_law_434 dL_law_435 dL_law_436 dL_law_437 ?_
  refine zl_arg (c := 2) g hs hi hL (by decide) dL_law_438 dL_law_439 dL_law_440 dL_law_441 dL_law_442 ?_
  refine (zk_invV (T2 := M_X12_of) (av := [.int (xs (i + 1)), .int (xs (i + 2))]) (stk := [.int r]) (ret := some .int) g dL_law_443 (m_X12_of SHP) ⟨⟨tw_1172, tw_1173, tw_1174⟩, lb_X12_of⟩ ⟨by decide, by decide⟩ (Nat.le_of_ble_eq_true rfl) z1 rfl e2 ?_ : zk_At κ ω 443 (zl_env i) (([.int (xs (i + 1)), .int (xs (i + 2))] : List Value).reverse ++ .ref 178 :: [.int r]) SHP h1)
  exact zk_j2eq (t := 1188) g dL_law_446 (by decide) (fun _ => k) (fun z => absurd rfl z)
theorem tw_604 : (Jvm.Cond.methodLink "RoadPlugsLaw" (44 : Nat) ({ cls := "RoadPlugs", name := "trip", desc := "(IIII)I" } : Jvm.MethodName)) ∈ zk_tbl := zk_in 604 (by decide +kernel) rfl
theorem tw_605 : (Jvm.Cond.instanceMethod ({ cls := "RoadPlugs", name := "trip", desc := "(IIII)I" } : Jvm.MethodName)) ∈ zk_tbl := zk_in 605 (by decide +kernel) rfl
theorem tw_606 : (Jvm.Cond.selects "RoadPlugs" ({ cls := "RoadPlugs", name := "trip", desc := "(IIII)I" } : Jvm.MethodName) ({ cls := "RoadPlugs", name := "trip", desc := "(IIII)I" } : Jvm.MethodName)) ∈ zk_tbl := zk_in 606 (by decide +kernel) rfl
theorem tw_1208 : (Jvm.Cond.methodLink "RoadPlugsLaw" (48 : Nat) ({ cls := "RoadPlugsModel", name := "trip", desc := "(IIII)I" } : Jvm.MethodName)) ∈ zk_tbl := zk_in 1208 (by decide +kernel) rfl
theorem tw_1209 : (Jvm.Cond.instanceMethod ({ cls := "RoadPlugsModel", name := "trip", desc := "(IIII)I" } : Jvm.MethodName)) ∈ zk_tbl := zk_in 1209 (by decide +kernel) rfl
theorem tw_1210 : (Jvm.Cond.selects "RoadPlugsModel" ({ cls := "RoadPlugsModel", name := "trip", desc := "(IIII)I" } : Jvm.MethodName) ({ cls := "RoadPlugsModel", name := "trip", desc := "(IIII)I" } : Jvm.MethodName)) ∈ zk_tbl := zk_in 1210 (by decide +kernel) rfl
theorem zl_case7 {κ : zk_K} {ω : zk_O} {L i : Nat} {xs : Nat → Int32} {h h1 h2 : zk_H} {r : Int32} (g : zk_ok M_law κ ω) (hs : zl_Scr κ ω L xs) (hi : i + 6 ≤ L) (hL : L ≤ 3072) (e1 : f_X11_trip SHP [.ref 0, .int (xs (i + 1)), .int (xs (i + 2)), .int (xs (i + 3)), .int (xs (i + 4))] h = some (.int r, h1)) (e2 : f_X12_trip SHP [.ref 178, .int (xs (i + 1)), .int (xs (i + 2)), .int (xs (i + 3)), .int (xs (i + 4))] h1 = some (.int r, h2)) (k : zk_At κ ω 1188 (zl_env i) [] SHP h2) : zk_At κ ω 451 (zl_env i) [] SHP h := by
  obtain ⟨z, z0⟩ := zi_s0
  obtain ⟨z2, z1⟩ := zi_s178
  refine zk_aload_n (i := 1) (x := 0) g dL_law_451 rfl ?_
  refine zl_arg (c := 1) g hs hi hL (by decide) dL_law_452 dL_law_453 dL_law_454 dL_law_455 dL_law_456 ?_
  refine zl_arg (c := 2) g hs hi hL (by decide) dL_law_457 dL_law_458 dL_law_459 dL_law_460 dL_law_461 ?_
  refine zl_arg (c := 3) g hs hi hL (by decide) dL_law_462 dL_law_463 dL_law_464 dL_law_465 dL_law_466 ?_
  refine zl_arg (c := 4) g hs hi hL (by decide) dL_law_467 dL_law_468 dL_law_469 dL_law_470 dL_law_471 ?_
  refine (zk_invV (T2 := M_X11_trip) (av := [.int (xs (i + 1)), .int (xs (i + 2)), .int (xs (i + 3)), .int (xs (i + 4))]) (stk := []) (ret := some .int) g dL_law_472 (m_X11_trip SHP) ⟨⟨tw_604, tw_605, tw_606⟩, lb_X11_trip⟩ ⟨by decide, by decide⟩ (Nat.le_of_ble_eq_true rfl) z0 rfl e1 ?_ : zk_At κ ω 472 (zl_env i) (([.int (xs (i + 1)), .int (xs (i + 2)), .int (xs (i + 3)), .int (xs (i + 4))] : List Value).reverse ++ .ref 0 :: []) SHP h)
  refine zk_aload_n (i := 2) (x := 178) g dL_law_475 rfl ?_
  refine zl_arg (c := 1) g hs hi hL (by decide) dL_law_476 dL_law_477 dL_law_478 dL_law_479 dL_law_480 ?_
  refine zl_arg (c := 2) g hs hi hL (by decide) dL_law_481 dL_law_482 dL_law_483 dL_law_484 dL_law_485 ?_
  refine zl_arg (c := 3) g hs hi hL (by decide) dL_law_486 dL_law_487 dL_law_488 dL_law_489 dL_law_490 ?_
  refine zl_arg (c := 4) g hs hi hL (by decide) dL_law_491 dL_law_492 dL_law_493 dL_law_494 dL_law_495 ?_
  refine (zk_invV (T2 := M_X12_trip) (av := [.int (xs (i + 1)), .int (xs (i + 2)), .int (xs (i + 3)), .int (xs (i + 4))]) (stk := [.int r]) (ret := some .int) g dL_law_496 (m_X12_trip SHP) ⟨⟨tw_1208, tw_1209, tw_1210⟩, lb_X12_trip⟩ ⟨by decide, by decide⟩ (Nat.le_of_ble_eq_true rfl) z1 rfl e2 ?_ : zk_At κ ω 496 (zl_env i) (([.int (xs (i + 1)), .int (xs (i + 2)), .int (xs (i + 3)), .int (xs (i + 4))] : List Value).reverse ++ .ref 178 :: [.int r]) SHP h1)
  exact zk_j2eq (t := 1188) g dL_law_499 (by decide) (fun _ => k) (fun z => absurd rfl z)
theorem tw_655 : (Jvm.Cond.methodLink "RoadPlugsLaw" (51 : Nat) ({ cls := "RoadPlugs", name := "feed", desc := "(JI)I" } : Jvm.MethodName)) ∈ zk_tbl := zk_in 655 (by decide +kernel) rfl
theorem tw_656 : (Jvm.Cond.instanceMethod ({ cls := "RoadPlugs", name := "feed", desc := "(JI)I" } : Jvm.MethodName)) ∈ zk_tbl := zk_in 656 (by decide +kernel) rfl
theorem tw_657 : (Jvm.Cond.selects "RoadPlugs" ({ cls := "RoadPlugs", name := "feed", desc := "(JI)I" } : Jvm.MethodName) ({ cls := "RoadPlugs", name := "feed", desc := "(JI)I" } : Jvm.MethodName)) ∈ zk_tbl := zk_in 657 (by decide +kernel) rfl
theorem tw_1233 : (Jvm.Cond.methodLink "RoadPlugsLaw" (55 : Nat) ({ cls := "RoadPlugsModel", name := "feed", desc := "(JI)I" } : Jvm.MethodName)) ∈ zk_tbl := zk_in 1233 (by decide +kernel) rfl
theorem tw_1234 : (Jvm.Cond.instanceMethod ({ cls := "RoadPlugsModel", name := "feed", desc := "(JI)I" } : Jvm.MethodName)) ∈ zk_tbl := zk_in 1234 (by decide +kernel) rfl
theorem tw_1235 : (Jvm.Cond.selects "RoadPlugsModel" ({ cls := "RoadPlugsModel", name := "feed", desc := "(JI)I" } : Jvm.MethodName) ({ cls := "RoadPlugsModel", name := "feed", desc := "(JI)I" } : Jvm.MethodName)) ∈ zk_tbl := zk_in 1235 (by decide +kernel) rfl
theorem zl_case8 {κ : zk_K} {ω : zk_O} {L i : Nat} {xs : Nat → Int32} {h h1 h2 : zk_H} {r : Int32} (g : zk_ok M_law κ ω) (hs : zl_Scr κ ω L xs) (hi : i + 6 ≤ L) (hL : L ≤ 3072) (e1 : f_X11_feed SHP [.ref 0, .long (zl_lg (xs (i + 1)) (xs (i + 2))), .int (xs (i + 3))] h = some (.int r, h1)) (e2 : f_X12_feed SHP [.ref 178, .long (zl_lg (xs (i + 1)) (xs (i + 2))), .int (xs (i + 3))] h1 = some (.int r, h2)) (k : zk_At κ ω 1188 (zl_env i) [] SHP h2) : zk_At κ ω 504 (zl_env i) [] SHP h := by
  obtain ⟨z, z0⟩ := zi_s0
  obtain ⟨z2, z1⟩ := zi_s178
  refine zk_aload_n (i := 1) (x := 0) g dL_law_504 rfl ?_
  refine zl_lon g hs hi hL tw_lng dL_law_505 dL_law_506 dL_law_507 dL_law_508 dL_law_509 dL_law_510 dL_law_511 dL_law_513 dL_law_514 dL_law_515 dL_law_516 dL_law_517 dL_law_518 dL_law_519 dL_law_520 dL_law_523 dL_law_524 ?_
  refine zl_arg (c := 3) g hs hi hL (by decide) dL_law_525 dL_law_526 dL_law_527 dL_law_528 dL_law_529 ?_
  refine (zk_invV (T2 := M_X11_feed) (av := [.long (zl_lg (xs (i + 1)) (xs (i + 2))), .int (xs (i + 3))]) (stk := []) (ret := some .int) g dL_law_530 (m_X11_feed SHP) ⟨⟨tw_655, tw_656, tw_657⟩, lb_X11_feed⟩ ⟨by decide, by decide⟩ (Nat.le_of_ble_eq_true rfl) z0 rfl e1 ?_ : zk_At κ ω 530 (zl_env i) (([.long (zl_lg (xs (i + 1)) (xs (i + 2))), .int (xs (i + 3))] : List Value).reverse ++ .ref 0 :: []) SHP h)
  refine zk_aload_n (i := 2) (x := 178) g dL_law_533 rfl ?_
  refine zl_lon g hs hi hL tw_lng dL_law_534 dL_law_535 dL_law_536 dL_law_537 dL_law_538 dL_law_539 dL_law_540 dL_law_542 dL_law_543 dL_law_544 dL_law_545 dL_law_546 dL_law_547 dL_law_548 dL_law_549 dL_law_552 dL_law_553 ?_
  refine zl_arg (c := 3) g hs hi hL (by decide) dL_law_554 dL_law_555 dL_law_556 dL_law_557 dL_law_558 ?_
  refine (zk_invV (T2 := M_X12_feed) (av := [.long (zl_lg (xs (i + 1)) (xs (i + 2))), .int (xs (i + 3))]) (stk := [.int r]) (ret := some .int) g dL_law_559 (m_X12_feed SHP) ⟨⟨tw_1233, tw_1234, tw_1235⟩, lb_X12_feed⟩ ⟨by decide, by decide⟩ (Nat.le_of_ble_eq_true rfl) z1 rfl e2 ?_ : zk_At κ ω 559 (zl_env i) (([.long (zl_lg (xs (i + 1)) (xs (i + 2))), .int (xs (i + 3))] : List Value).reverse ++ .ref 178 :: [.int r]) SHP h1)
  exact zk_j2eq (t := 1188) g dL_law_562 (by decide) (fun _ => k) (fun z => absurd rfl z)
theorem tw_664 : (Jvm.Cond.methodLink "RoadPlugsLaw" (56 : Nat) ({ cls := "RoadPlugs", name := "read", desc := "(I)I" } : Jvm.MethodName)) ∈ zk_tbl := zk_in 664 (by decide +kernel) rfl
theorem tw_665 : (Jvm.Cond.instanceMethod ({ cls := "RoadPlugs", name := "read", desc := "(I)I" } : Jvm.MethodName)) ∈ zk_tbl := zk_in 665 (by decide +kernel) rfl
theorem tw_666 : (Jvm.Cond.selects "RoadPlugs" ({ cls := "RoadPlugs", name := "read", desc := "(I)I" } : Jvm.MethodName) ({ cls := "RoadPlugs", name := "read", desc := "(I)I" } : Jvm.MethodName)) ∈ zk_tbl := zk_in 666 (by decide +kernel) rfl
theorem tw_1238 : (Jvm.Cond.methodLink "RoadPlugsLaw" (60 : Nat) ({ cls := "RoadPlugsModel", name := "read", desc := "(I)I" } : Jvm.MethodName)) ∈ zk_tbl := zk_in 1238 (by decide +kernel) rfl
theorem tw_1239 : (Jvm.Cond.instanceMethod ({ cls := "RoadPlugsModel", name := "read", desc := "(I)I" } : Jvm.MethodName)) ∈ zk_tbl := zk_in 1239 (by decide +kernel) rfl
theorem tw_1240 : (Jvm.Cond.selects "RoadPlugsModel" ({ cls := "RoadPlugsModel", name := "read", desc := "(I)I" } : Jvm.MethodName) ({ cls := "RoadPlugsModel", name := "read", desc := "(I)I" } : Jvm.MethodName)) ∈ zk_tbl := zk_in 1240 (by decide +kernel) rfl
theorem zl_case9 {κ : zk_K} {ω : zk_O} {L i : Nat} {xs : Nat → Int32} {h h1 h2 : zk_H} {r : Int32} (g : zk_ok M_law κ ω) (hs : zl_Scr κ ω L xs) (hi : i + 6 ≤ L) (hL : L ≤ 3072) (e1 : f_X11_read SHP [.ref 0, .int (xs (i + 1))] h = some (.int r, h1)) (e2 : f_X12_read SHP [.ref 178, .int (xs (i + 1))] h1 = some (.int r, h2)) (k : zk_At κ ω 1188 (zl_env i) [] SHP h2) : zk_At κ ω 567 (zl_env i) [] SHP h := by
  obtain ⟨z, z0⟩ := zi_s0
  obtain ⟨z2, z1⟩ := zi_s178
  refine zk_aload_n (i := 1) (x := 0) g dL_law_567 rfl ?_
  refine zl_arg (c := 1) g hs hi hL (by decide) dL_law_568 dL_law_569 dL_law_570 dL_law_571 dL_law_572 ?_
  refine (zk_invV (T2 := M_X11_read) (av := [.int (xs (i + 1))]) (stk := []) (ret := some .int) g dL_law_573 (m_X11_read SHP) ⟨⟨tw_664, tw_665, tw_666⟩, lb_X11_read⟩ ⟨by decide, by decide⟩ (Nat.le_of_ble_eq_true rfl) z0 rfl e1 ?_ : zk_At κ ω 573 (zl_env i) (([.int (xs (i + 1))] : List Value).reverse ++ .ref 0 :: []) SHP h)
  refine zk_aload_n (i := 2) (x := 178) g dL_law_576 rfl ?_
  refine zl_arg (c := 1) g hs hi hL (by decide) dL_law_577 dL_law_578 dL_law_579 dL_law_580 dL_law_581 ?_
  refine (zk_invV (T2 := M_X12_read) (av := [.int (xs (i + 1))]) (stk := [.int r]) (ret := some .int) g dL_law_582 (m_X12_read SHP) ⟨⟨tw_1238, tw_1239, tw_1240⟩, lb_X12_read⟩ ⟨by decide, by decide⟩ (Nat.le_of_ble_eq_true rfl) z1 rfl e2 ?_ : zk_At κ ω 582 (zl_env i) (([.int (xs (i + 1))] : List Value).reverse ++ .ref 178 :: [.int r]) SHP h1)
  exact zk_j2eq (t := 1188) g dL_law_585 (by decide) (fun _ => k) (fun z => absurd rfl z)
theorem tw_762 : (Jvm.Cond.methodLink "RoadPlugsLaw" (61 : Nat) ({ cls := "RoadPlugs", name := "siteOf", desc := "(II)I" } : Jvm.MethodName)) ∈ zk_tbl := zk_in 762 (by decide +kernel) rfl
theorem tw_763 : (Jvm.Cond.instanceMethod ({ cls := "RoadPlugs", name := "siteOf", desc := "(II)I" } : Jvm.MethodName)) ∈ zk_tbl := zk_in 763 (by decide +kernel) rfl
theorem tw_764 : (Jvm.Cond.selects "RoadPlugs" ({ cls := "RoadPlugs", name := "siteOf", desc := "(II)I" } : Jvm.MethodName) ({ cls := "RoadPlugs", name := "siteOf", desc := "(II)I" } : Jvm.MethodName)) ∈ zk_tbl := zk_in 764 (by decide +kernel) rfl
theorem tw_1281 : (Jvm.Cond.methodLink "RoadPlugsLaw" (64 : Nat) ({ cls := "RoadPlugsModel", name := "siteOf", desc := "(II)I" } : Jvm.MethodName)) ∈ zk_tbl := zk_in 1281 (by decide +kernel) rfl
theorem tw_1282 : (Jvm.Cond.instanceMethod ({ cls := "RoadPlugsModel", name := "siteOf", desc := "(II)I" } : Jvm.MethodName)) ∈ zk_tbl := zk_in 1282 (by decide +kernel) rfl
theorem tw_1283 : (Jvm.Cond.selects "RoadPlugsModel" ({ cls := "RoadPlugsModel", name := "siteOf", desc := "(II)I" } : Jvm.MethodName) ({ cls := "RoadPlugsModel", name := "siteOf", desc := "(II)I" } : Jvm.MethodName)) ∈ zk_tbl := zk_in 1283 (by decide +kernel) rfl
theorem zl_case10 {κ : zk_K} {ω : zk_O} {L i : Nat} {xs : Nat → Int32} {h h1 h2 : zk_H} {r : Int32} (g : zk_ok M_law κ ω) (hs : zl_Scr κ ω L xs) (hi : i + 6 ≤ L) (hL : L ≤ 3072) (e1 : f_X11_siteOf SHP [.ref 0, .int (xs (i + 1)), .int (xs (i + 2))] h = some (.int r, h1)) (e2 : f_X12_siteOf SHP [.ref 178, .int (xs (i + 1)), .int (xs (i + 2))] h1 = some (.int r, h2)) (k : zk_At κ ω 1188 (zl_env i) [] SHP h2) : zk_At κ ω 590 (zl_env i) [] SHP h := by
  obtain ⟨z, z0⟩ := zi_s0
  obtain ⟨z2, z1⟩ := zi_s178
  refine zk_aload_n (i := 1) (x := 0) g dL_law_590 rfl ?_
  refine zl_arg (c := 1) g hs hi hL (by decide) dL_law_591 dL_law_592 dL_law_593 dL_law_594 dL_law_595 ?_
  refine zl_arg (c := 2) g hs hi hL (by decide) dL_law_596 dL_law_597 dL_law_598 dL_law_599 dL_law_600 ?_
  refine (zk_invV (T2 := M_X11_siteOf) (av := [.int (xs (i + 1)), .int (xs (i + 2))]) (stk := []) (ret := some .int) g dL_law_601 (m_X11_siteOf SHP) ⟨⟨tw_762, tw_763, tw_764⟩, lb_X11_siteOf⟩ ⟨by decide, by decide⟩ (Nat.le_of_ble_eq_true rfl) z0 rfl e1 ?_ : zk_At κ ω 601 (zl_env i) (([.int (xs (i + 1)), .int (xs (i + 2))] : List Value).reverse ++ .ref 0 :: []) SHP h)
  refine zk_aload_n (i := 2) (x := 178) g dL_law_604 rfl ?_
  refine zl_arg (c := 1) g hs hi hL (by decide) dL_law_605 dL_law_606 dL_law_607 dL_law_608 dL_law_609 ?_
  refine zl_arg (c := 2) g hs hi hL (by decide) dL_law_610 dL_law_611 dL_law_612 dL_law_613 dL_law_614 ?_
  refine (zk_invV (T2 := M_X12_siteOf) (av := [.int (xs (i + 1)), .int (xs (i + 2))]) (stk := [.int r]) (ret := some .int) g dL_law_615 (m_X12_siteOf SHP) ⟨⟨tw_1281, tw_1282, tw_1283⟩, lb_X12_siteOf⟩ ⟨by decide, by decide⟩ (Nat.le_of_ble_eq_true rfl) z1 rfl e2 ?_ : zk_At κ ω 615 (zl_env i) (([.int (xs (i + 1)), .int (xs (i + 2))] : List Value).reverse ++ .ref 178 :: [.int r]) SHP h1)
  exact zk_j2eq (t := 1188) g dL_law_618 (by decide) (fun _ => k) (fun z => absurd rfl z)
theorem tw_766 : (Jvm.Cond.methodLink "RoadPlugsLaw" (65 : Nat) ({ cls := "RoadPlugs", name := "come", desc := "(IIII)I" } : Jvm.MethodName)) ∈ zk_tbl := zk_in 766 (by decide +kernel) rfl
theorem tw_767 : (Jvm.Cond.instanceMethod ({ cls := "RoadPlugs", name := "come", desc := "(IIII)I" } : Jvm.MethodName)) ∈ zk_tbl := zk_in 767 (by decide +kernel) rfl
theorem tw_768 : (Jvm.Cond.selects "RoadPlugs" ({ cls := "RoadPlugs", name := "come", desc := "(IIII)I" } : Jvm.MethodName) ({ cls := "RoadPlugs", name := "come", desc := "(IIII)I" } : Jvm.MethodName)) ∈ zk_tbl := zk_in 768 (by decide +kernel) rfl
theorem tw_1285 : (Jvm.Cond.methodLink "RoadPlugsLaw" (68 : Nat) ({ cls := "RoadPlugsModel", name := "come", desc := "(IIII)I" } : Jvm.MethodName)) ∈ zk_tbl := zk_in 1285 (by decide +kernel) rfl
theorem tw_1286 : (Jvm.Cond.instanceMethod ({ cls := "RoadPlugsModel", name := "come", desc := "(IIII)I" } : Jvm.MethodName)) ∈ zk_tbl := zk_in 1286 (by decide +kernel) rfl
theorem tw_1287 : (Jvm.Cond.selects "RoadPlugsModel" ({ cls := "RoadPlugsModel", name := "come", desc := "(IIII)I" } : Jvm.MethodName) ({ cls := "RoadPlugsModel", name := "come", desc := "(IIII)I" } : Jvm.MethodName)) ∈ zk_tbl := zk_in 1287 (by decide +kernel) rfl
theorem zl_case11 {κ : zk_K} {ω : zk_O} {L i : Nat} {xs : Nat → Int32} {h h1 h2 : zk_H} {r : Int32} (g : zk_ok M_law κ ω) (hs : zl_Scr κ ω L xs) (hi : i + 6 ≤ L) (hL : L ≤ 3072) (e1 : f_X11_come SHP [.ref 0, .int (xs (i + 1)), .int (xs (i + 2)), .int (xs (i + 3)), .int (xs (i + 4))] h = some (.int r, h1)) (e2 : f_X12_come SHP [.ref 178, .int (xs (i + 1)), .int (xs (i + 2)), .int (xs (i + 3)), .int (xs (i + 4))] h1 = some (.int r, h2)) (k : zk_At κ ω 1188 (zl_env i) [] SHP h2) : zk_At κ ω 623 (zl_env i) [] SHP h := by
  obtain ⟨z, z0⟩ := zi_s0
  obtain ⟨z2, z1⟩ := zi_s178
  refine zk_aload_n (i := 1) (x := 0) g dL_law_623 rfl ?_
  refine zl_arg (c := 1) g hs hi hL (by decide) dL_law_624 dL_law_625 dL_law_626 dL_law_627 dL_law_628 ?_
  refine zl_arg (c := 2) g hs hi hL (by decide) dL_law_629 dL_law_630 dL_law_631 dL_law_632 dL_law_633 ?_
  refine zl_arg (c := 3) g hs hi hL (by decide) dL_law_634 dL_law_635 dL_law_636 dL_law_637 dL_law_638 ?_
  refine zl_arg (c := 4) g hs hi hL (by decide) dL_law_639 dL_law_640 dL_law_641 dL_law_642 dL_law_643 ?_
  refine (zk_invV (T2 := M_X11_come) (av := [.int (xs (i + 1)), .int (xs (i + 2)), .int (xs (i + 3)), .int (xs (i + 4))]) (stk := []) (ret := some .int) g dL_law_644 (m_X11_come SHP) ⟨⟨tw_766, tw_767, tw_768⟩, lb_X11_come⟩ ⟨by decide, by decide⟩ (Nat.le_of_ble_eq_true rfl) z0 rfl e1 ?_ : zk_At κ ω 644 (zl_env i) (([.int (xs (i + 1)), .int (xs (i + 2)), .int (xs (i + 3)), .int (xs (i + 4))] : List Value).reverse ++ .ref 0 :: []) SHP h)
  refine zk_aload_n (i := 2) (x := 178) g dL_law_647 rfl ?_
  refine zl_arg (c := 1) g hs hi hL (by decide) dL_law_648 dL_law_649 dL_law_650 dL_law_651 dL_law_652 ?_
  refine zl_arg (c := 2) g hs hi hL (by decide) dL_law_653 dL_law_654 dL_law_655 dL_law_656 dL_law_657 ?_
  refine zl_arg (c := 3) g hs hi hL (by decide) dL_law_658 dL_law_659 dL_law_660 dL_law_661 dL_law_662 ?_
  refine zl_arg (c := 4) g hs hi hL (by decide) dL_law_663 dL_law_664 dL_law_665 dL_law_666 dL_law_667 ?_
  refine (zk_invV (T2 := M_X12_come) (av := [.int (xs (i + 1)), .int (xs (i + 2)), .int (xs (i + 3)), .int (xs (i + 4))]) (stk := [.int r]) (ret := some .int) g dL_law_668 (m_X12_come SHP) ⟨⟨tw_1285, tw_1286, tw_1287⟩, lb_X12_come⟩ ⟨by decide, by decide⟩ (Nat.le_of_ble_eq_true rfl) z1 rfl e2 ?_ : zk_At κ ω 668 (zl_env i) (([.int (xs (i + 1)), .int (xs (i + 2)), .int (xs (i + 3)), .int (xs (i + 4))] : List Value).reverse ++ .ref 178 :: [.int r]) SHP h1)
  exact zk_j2eq (t := 1188) g dL_law_671 (by decide) (fun _ => k) (fun z => absurd rfl z)
theorem tw_774 : (Jvm.Cond.methodLink "RoadPlugsLaw" (69 : Nat) ({ cls := "RoadPlugs", name := "leave", desc := "(I)I" } : Jvm.MethodName)) ∈ zk_tbl := zk_in 774 (by decide +kernel) rfl
theorem tw_775 : (Jvm.Cond.instanceMethod ({ cls := "RoadPlugs", name := "leave", desc := "(I)I" } : Jvm.MethodName)) ∈ zk_tbl := zk_in 775 (by decide +kernel) rfl
theorem tw_776 : (Jvm.Cond.selects "RoadPlugs" ({ cls := "RoadPlugs", name := "leave", desc := "(I)I" } : Jvm.MethodName) ({ cls := "RoadPlugs", name := "leave", desc := "(I)I" } : Jvm.MethodName)) ∈ zk_tbl := zk_in 776 (by decide +kernel) rfl
theorem tw_1297 : (Jvm.Cond.methodLink "RoadPlugsLaw" (72 : Nat) ({ cls := "RoadPlugsModel", name := "leave", desc := "(I)I" } : Jvm.MethodName)) ∈ zk_tbl := zk_in 1297 (by decide +kernel) rfl
theorem tw_1298 : (Jvm.Cond.instanceMethod ({ cls := "RoadPlugsModel", name := "leave", desc := "(I)I" } : Jvm.MethodName)) ∈ zk_tbl := zk_in 1298 (by decide +kernel) rfl
theorem tw_1299 : (Jvm.Cond.selects "RoadPlugsModel" ({ cls := "RoadPlugsModel", name := "leave", desc := "(I)I" } : Jvm.MethodName) ({ cls := "RoadPlugsModel", name := "leave", desc := "(I)I" } : Jvm.MethodName)) ∈ zk_tbl := zk_in 1299 (by decide +kernel) rfl
theorem zl_case12 {κ : zk_K} {ω : zk_O} {L i : Nat} {xs : Nat → Int32} {h h1 h2 : zk_H} {r : Int32} (g : zk_ok M_law κ ω) (hs : zl_Scr κ ω L xs) (hi : i + 6 ≤ L) (hL : L ≤ 3072) (e1 : f_X11_leave SHP [.ref 0, .int (xs (i + 1))] h = some (.int r, h1)) (e2 : f_X12_leave SHP [.ref 178, .int (xs (i + 1))] h1 = some (.int r, h2)) (k : zk_At κ ω 1188 (zl_env i) [] SHP h2) : zk_At κ ω 676 (zl_env i) [] SHP h := by
  obtain ⟨z, z0⟩ := zi_s0
  obtain ⟨z2, z1⟩ := zi_s178
  refine zk_aload_n (i := 1) (x := 0) g dL_law_676 rfl ?_
  refine zl_arg (c := 1) g hs hi hL (by decide) dL_law_677 dL_law_678 dL_law_679 dL_law_680 dL_law_681 ?_
  refine (zk_invV (T2 := M_X11_leave) (av := [.int (xs (i + 1))]) (stk := []) (ret := some .int) g dL_law_682 (m_X11_leave SHP) ⟨⟨tw_774, tw_775, tw_776⟩, lb_X11_leave⟩ ⟨by decide, by decide⟩ (Nat.le_of_ble_eq_true rfl) z0 rfl e1 ?_ : zk_At κ ω 682 (zl_env i) (([.int (xs (i + 1))] : List Value).reverse ++ .ref 0 :: []) SHP h)
  refine zk_aload_n (i := 2) (x := 178) g dL_law_685 rfl ?_
  refine zl_arg (c := 1) g hs hi hL (by decide) dL_law_686 dL_law_687 dL_law_688 dL_law_689 dL_law_690 ?_
  refine (zk_invV (T2 := M_X12_leave) (av := [.int (xs (i + 1))]) (stk := [.int r]) (ret := some .int) g dL_law_691 (m_X12_leave SHP) ⟨⟨tw_1297, tw_1298, tw_1299⟩, lb_X12_leave⟩ ⟨by decide, by decide⟩ (Nat.le_of_ble_eq_true rfl) z1 rfl e2 ?_ : zk_At κ ω 691 (zl_env i) (([.int (xs (i + 1))] : List Value).reverse ++ .ref 178 :: [.int r]) SHP h1)
  exact zk_j2eq (t := 1188) g dL_law_694 (by decide) (fun _ => k) (fun z => absurd rfl z)
theorem tw_786 : (Jvm.Cond.methodLink "RoadPlugsLaw" (73 : Nat) ({ cls := "RoadPlugs", name := "go", desc := "(II)I" } : Jvm.MethodName)) ∈ zk_tbl := zk_in 786 (by decide +kernel) rfl
theorem tw_787 : (Jvm.Cond.instanceMethod ({ cls := "RoadPlugs", name := "go", desc := "(II)I" } : Jvm.MethodName)) ∈ zk_tbl := zk_in 787 (by decide +kernel) rfl
theorem tw_788 : (Jvm.Cond.selects "RoadPlugs" ({ cls := "RoadPlugs", name := "go", desc := "(II)I" } : Jvm.MethodName) ({ cls := "RoadPlugs", name := "go", desc := "(II)I" } : Jvm.MethodName)) ∈ zk_tbl := zk_in 788 (by decide +kernel) rfl
theorem tw_1309 : (Jvm.Cond.methodLink "RoadPlugsLaw" (76 : Nat) ({ cls := "RoadPlugsModel", name := "go", desc := "(II)I" } : Jvm.MethodName)) ∈ zk_tbl := zk_in 1309 (by decide +kernel) rfl
theorem tw_1310 : (Jvm.Cond.instanceMethod ({ cls := "RoadPlugsModel", name := "go", desc := "(II)I" } : Jvm.MethodName)) ∈ zk_tbl := zk_in 1310 (by decide +kernel) rfl
theorem tw_1311 : (Jvm.Cond.selects "RoadPlugsModel" ({ cls := "RoadPlugsModel", name := "go", desc := "(II)I" } : Jvm.MethodName) ({ cls := "RoadPlugsModel", name := "go", desc := "(II)I" } : Jvm.MethodName)) ∈ zk_tbl := zk_in 1311 (by decide +kernel) rfl
theorem zl_case13 {κ : zk_K} {ω : zk_O} {L i : Nat} {xs : Nat → Int32} {h h1 h2 : zk_H} {r : Int32} (g : zk_ok M_law κ ω) (hs : zl_Scr κ ω L xs) (hi : i + 6 ≤ L) (hL : L ≤ 3072) (e1 : f_X11_go SHP [.ref 0, .int (xs (i + 1)), .int (xs (i + 2))] h = some (.int r, h1)) (e2 : f_X12_go SHP [.ref 178, .int (xs (i + 1)), .int (xs (i + 2))] h1 = some (.int r, h2)) (k : zk_At κ ω 1188 (zl_env i) [] SHP h2) : zk_At κ ω 699 (zl_env i) [] SHP h := by
  obtain ⟨z, z0⟩ := zi_s0
  obtain ⟨z2, z1⟩ := zi_s178
  refine zk_aload_n (i := 1) (x := 0) g dL_law_699 rfl ?_
  refine zl_arg (c := 1) g hs hi hL (by decide) dL_law_700 dL_law_701 dL_law_702 dL_law_703 dL_law_704 ?_
  refine zl_arg (c := 2) g hs hi hL (by decide) dL_law_705 dL_law_706 dL_law_707 dL_law_708 dL_law_709 ?_
  refine (zk_invV (T2 := M_X11_go) (av := [.int (xs (i + 1)), .int (xs (i + 2))]) (stk := []) (ret := some .int) g dL_law_710 (m_X11_go SHP) ⟨⟨tw_786, tw_787, tw_788⟩, lb_X11_go⟩ ⟨by decide, by decide⟩ (Nat.le_of_ble_eq_true rfl) z0 rfl e1 ?_ : zk_At κ ω 710 (zl_env i) (([.int (xs (i + 1)), .int (xs (i + 2))] : List Value).reverse ++ .ref 0 :: []) SHP h)
  refine zk_aload_n (i := 2) (x := 178) g dL_law_713 rfl ?_
  refine zl_arg (c := 1) g hs hi hL (by decide) dL_law_714 dL_law_715 dL_law_716 dL_law_717 dL_law_718 ?_
  refine zl_arg (c := 2) g hs hi hL (by decide) dL_law_719 dL_law_720 dL_law_721 dL_law_722 dL_law_723 ?_
  refine (zk_invV (T2 := M_X12_go) (av := [.int (xs (i + 1)), .int (xs (i + 2))]) (stk := [.int r]) (ret := some .int) g dL_law_724 (m_X12_go SHP) ⟨⟨tw_1309, tw_1310, tw_1311⟩, lb_X12_go⟩ ⟨by decide, by decide⟩ (Nat.le_of_ble_eq_true rfl) z1 rfl e2 ?_ : zk_At κ ω 724 (zl_env i) (([.int (xs (i + 1)), .int (xs (i + 2))] : List Value).reverse ++ .ref 178 :: [.int r]) SHP h1)
  exact zk_j2eq (t := 1188) g dL_law_727 (by decide) (fun _ => k) (fun z => absurd rfl z)
theorem tw_790 : (Jvm.Cond.methodLink "RoadPlugsLaw" (77 : Nat) ({ cls := "RoadPlugs", name := "fail", desc := "(IZ)I" } : Jvm.MethodName)) ∈ zk_tbl := zk_in 790 (by decide +kernel) rfl
theorem tw_791 : (Jvm.Cond.instanceMethod ({ cls := "RoadPlugs", name := "fail", desc := "(IZ)I" } : Jvm.MethodName)) ∈ zk_tbl := zk_in 791 (by decide +kernel) rfl
theorem tw_792 : (Jvm.Cond.selects "RoadPlugs" ({ cls := "RoadPlugs", name := "fail", desc := "(IZ)I" } : Jvm.MethodName) ({ cls := "RoadPlugs", name := "fail", desc := "(IZ)I" } : Jvm.MethodName)) ∈ zk_tbl := zk_in 792 (by decide +kernel) rfl
theorem tw_1317 : (Jvm.Cond.methodLink "RoadPlugsLaw" (81 : Nat) ({ cls := "RoadPlugsModel", name := "fail", desc := "(IZ)I" } : Jvm.MethodName)) ∈ zk_tbl := zk_in 1317 (by decide +kernel) rfl
theorem tw_1318 : (Jvm.Cond.instanceMethod ({ cls := "RoadPlugsModel", name := "fail", desc := "(IZ)I" } : Jvm.MethodName)) ∈ zk_tbl := zk_in 1318 (by decide +kernel) rfl
theorem tw_1319 : (Jvm.Cond.selects "RoadPlugsModel" ({ cls := "RoadPlugsModel", name := "fail", desc := "(IZ)I" } : Jvm.MethodName) ({ cls := "RoadPlugsModel", name := "fail", desc := "(IZ)I" } : Jvm.MethodName)) ∈ zk_tbl := zk_in 1319 (by decide +kernel) rfl
theorem zl_case14 {κ : zk_K} {ω : zk_O} {L i : Nat} {xs : Nat → Int32} {h h1 h2 : zk_H} {r : Int32} (g : zk_ok M_law κ ω) (hs : zl_Scr κ ω L xs) (hi : i + 6 ≤ L) (hL : L ≤ 3072) (e1 : f_X11_fail SHP [.ref 0, .int (xs (i + 1)), .int (zl_b (xs (i + 2)))] h = some (.int r, h1)) (e2 : f_X12_fail SHP [.ref 178, .int (xs (i + 1)), .int (zl_b (xs (i + 2)))] h1 = some (.int r, h2)) (k : zk_At κ ω 1188 (zl_env i) [] SHP h2) : zk_At κ ω 732 (zl_env i) [] SHP h := by
  obtain ⟨z, z0⟩ := zi_s0
  obtain ⟨z2, z1⟩ := zi_s178
  refine zk_aload_n (i := 1) (x := 0) g dL_law_732 rfl ?_
  refine zl_arg (c := 1) g hs hi hL (by decide) dL_law_733 dL_law_734 dL_law_735 dL_law_736 dL_law_737 ?_
  refine zl_boo (c := 2) g hs hi hL (by decide) dL_law_738 dL_law_739 dL_law_740 dL_law_741 dL_law_742 dL_law_743 dL_law_746 dL_law_747 dL_law_750 ?_
  refine (zk_invV (T2 := M_X11_fail) (av := [.int (xs (i + 1)), .int (zl_b (xs (i + 2)))]) (stk := []) (ret := some .int) g dL_law_751 (m_X11_fail SHP) ⟨⟨tw_790, tw_791, tw_792⟩, lb_X11_fail⟩ ⟨by decide, by decide⟩ (Nat.le_of_ble_eq_true rfl) z0 rfl e1 ?_ : zk_At κ ω 751 (zl_env i) (([.int (xs (i + 1)), .int (zl_b (xs (i + 2)))] : List Value).reverse ++ .ref 0 :: []) SHP h)
  refine zk_aload_n (i := 2) (x := 178) g dL_law_754 rfl ?_
  refine zl_arg (c := 1) g hs hi hL (by decide) dL_law_755 dL_law_756 dL_law_757 dL_law_758 dL_law_759 ?_
  refine zl_boo (c := 2) g hs hi hL (by decide) dL_law_760 dL_law_761 dL_law_762 dL_law_763 dL_law_764 dL_law_765 dL_law_768 dL_law_769 dL_law_772 ?_
  refine (zk_invV (T2 := M_X12_fail) (av := [.int (xs (i + 1)), .int (zl_b (xs (i + 2)))]) (stk := [.int r]) (ret := some .int) g dL_law_773 (m_X12_fail SHP) ⟨⟨tw_1317, tw_1318, tw_1319⟩, lb_X12_fail⟩ ⟨by decide, by decide⟩ (Nat.le_of_ble_eq_true rfl) z1 rfl e2 ?_ : zk_At κ ω 773 (zl_env i) (([.int (xs (i + 1)), .int (zl_b (xs (i + 2)))] : List Value).reverse ++ .ref 178 :: [.int r]) SHP h1)
  exact zk_j2eq (t := 1188) g dL_law_776 (by decide) (fun _ => k) (fun z => absurd rfl z)
theorem tw_794 : (Jvm.Cond.methodLink "RoadPlugsLaw" (82 : Nat) ({ cls := "RoadPlugs", name := "ticks", desc := "(I)I" } : Jvm.MethodName)) ∈ zk_tbl := zk_in 794 (by decide +kernel) rfl
theorem tw_795 : (Jvm.Cond.instanceMethod ({ cls := "RoadPlugs", name := "ticks", desc := "(I)I" } : Jvm.MethodName)) ∈ zk_tbl := zk_in 795 (by decide +kernel) rfl
theorem tw_796 : (Jvm.Cond.selects "RoadPlugs" ({ cls := "RoadPlugs", name := "ticks", desc := "(I)I" } : Jvm.MethodName) ({ cls := "RoadPlugs", name := "ticks", desc := "(I)I" } : Jvm.MethodName)) ∈ zk_tbl := zk_in 796 (by decide +kernel) rfl
theorem tw_1321 : (Jvm.Cond.methodLink "RoadPlugsLaw" (85 : Nat) ({ cls := "RoadPlugsModel", name := "ticks", desc := "(I)I" } : Jvm.MethodName)) ∈ zk_tbl := zk_in 1321 (by decide +kernel) rfl
theorem tw_1322 : (Jvm.Cond.instanceMethod ({ cls := "RoadPlugsModel", name := "ticks", desc := "(I)I" } : Jvm.MethodName)) ∈ zk_tbl := zk_in 1322 (by decide +kernel) rfl
theorem tw_1323 : (Jvm.Cond.selects "RoadPlugsModel" ({ cls := "RoadPlugsModel", name := "ticks", desc := "(I)I" } : Jvm.MethodName) ({ cls := "RoadPlugsModel", name := "ticks", desc := "(I)I" } : Jvm.MethodName)) ∈ zk_tbl := zk_in 1323 (by decide +kernel) rfl
theorem zl_case15 {κ : zk_K} {ω : zk_O} {L i : Nat} {xs : Nat → Int32} {h h1 h2 : zk_H} {r : Int32} (g : zk_ok M_law κ ω) (hs : zl_Scr κ ω L xs) (hi : i + 6 ≤ L) (hL : L ≤ 3072) (e1 : f_X11_ticks SHP [.ref 0, .int (xs (i + 1))] h = some (.int r, h1)) (e2 : f_X12_ticks SHP [.ref 178, .int (xs (i + 1))] h1 = some (.int r, h2)) (k : zk_At κ ω 1188 (zl_env i) [] SHP h2) : zk_At κ ω 781 (zl_env i) [] SHP h := by
  obtain ⟨z, z0⟩ := zi_s0
  obtain ⟨z2, z1⟩ := zi_s178
  refine zk_aload_n (i := 1) (x := 0) g dL_law_781 rfl ?_
  refine zl_arg (c := 1) g hs hi hL (by decide) dL_law_782 dL_law_783 dL_law_784 dL_law_785 dL_law_786 ?_
  refine (zk_invV (T2 := M_X11_ticks) (av := [.int (xs (i + 1))]) (stk := []) (ret := some .int) g dL_law_787 (m_X11_ticks SHP) ⟨⟨tw_794, tw_795, tw_796⟩, lb_X11_ticks⟩ ⟨by decide, by decide⟩ (Nat.le_of_ble_eq_true rfl) z0 rfl e1 ?_ : zk_At κ ω 787 (zl_env i) (([.int (xs (i + 1))] : List Value).reverse ++ .ref 0 :: []) SHP h)
  refine zk_aload_n (i := 2) (x := 178) g dL_law_790 rfl ?_
  refine zl_arg (c := 1) g hs hi hL (by decide) dL_law_791 dL_law_792 dL_law_793 dL_law_794 dL_law_795 ?_
  refine (zk_invV (T2 := M_X12_ticks) (av := [.int (xs (i + 1))]) (stk := [.int r]) (ret := some .int) g dL_law_796 (m_X12_ticks SHP) ⟨⟨tw_1321, tw_1322, tw_1323⟩, lb_X12_ticks⟩ ⟨by decide, by decide⟩ (Nat.le_of_ble_eq_true rfl) z1 rfl e2 ?_ : zk_At κ ω 796 (zl_env i) (([.int (xs (i + 1))] : List Value).reverse ++ .ref 178 :: [.int r]) SHP h1)
  exact zk_j2eq (t := 1188) g dL_law_799 (by decide) (fun _ => k) (fun z => absurd rfl z)
theorem tw_864 : (Jvm.Cond.methodLink "RoadPlugsLaw" (86 : Nat) ({ cls := "RoadPlugs", name := "plugOf", desc := "(II)I" } : Jvm.MethodName)) ∈ zk_tbl := zk_in 864 (by decide +kernel) rfl
theorem tw_865 : (Jvm.Cond.instanceMethod ({ cls := "RoadPlugs", name := "plugOf", desc := "(II)I" } : Jvm.MethodName)) ∈ zk_tbl := zk_in 865 (by decide +kernel) rfl
theorem tw_866 : (Jvm.Cond.selects "RoadPlugs" ({ cls := "RoadPlugs", name := "plugOf", desc := "(II)I" } : Jvm.MethodName) ({ cls := "RoadPlugs", name := "plugOf", desc := "(II)I" } : Jvm.MethodName)) ∈ zk_tbl := zk_in 866 (by decide +kernel) rfl
theorem tw_1365 : (Jvm.Cond.methodLink "RoadPlugsLaw" (89 : Nat) ({ cls := "RoadPlugsModel", name := "plugOf", desc := "(II)I" } : Jvm.MethodName)) ∈ zk_tbl := zk_in 1365 (by decide +kernel) rfl
theorem tw_1366 : (Jvm.Cond.instanceMethod ({ cls := "RoadPlugsModel", name := "plugOf", desc := "(II)I" } : Jvm.MethodName)) ∈ zk_tbl := zk_in 1366 (by decide +kernel) rfl
theorem tw_1367 : (Jvm.Cond.selects "RoadPlugsModel" ({ cls := "RoadPlugsModel", name := "plugOf", desc := "(II)I" } : Jvm.MethodName) ({ cls := "RoadPlugsModel", name := "plugOf", desc := "(II)I" } : Jvm.MethodName)) ∈ zk_tbl := zk_in 1367 (by decide +kernel) rfl
theorem zl_case16 {κ : zk_K} {ω : zk_O} {L i : Nat} {xs : Nat → Int32} {h h1 h2 : zk_H} {r : Int32} (g : zk_ok M_law κ ω) (hs : zl_Scr κ ω L xs) (hi : i + 6 ≤ L) (hL : L ≤ 3072) (e1 : f_X11_plugOf SHP [.ref 0, .int (xs (i + 1)), .int (xs (i + 2))] h = some (.int r, h1)) (e2 : f_X12_plugOf SHP [.ref 178, .int (xs (i + 1)), .int (xs (i + 2))] h1 = some (.int r, h2)) (k : zk_At κ ω 1188 (zl_env i) [] SHP h2) : zk_At κ ω 804 (zl_env i) [] SHP h := by
  obtain ⟨z, z0⟩ := zi_s0
  obtain ⟨z2, z1⟩ := zi_s178
  refine zk_aload_n (i := 1) (x := 0) g dL_law_804 rfl ?_
  refine zl_arg (c := 1) g hs hi hL (by decide) dL_law_805 dL_law_806 dL_law_807 dL_law_808 dL_law_809 ?_
  refine zl_arg (c := 2) g hs hi hL (by decide) dL_law_810 dL_law_811 dL_law_812 dL_law_813 dL_law_814 ?_
  refine (zk_invV (T2 := M_X11_plugOf) (av := [.int (xs (i + 1)), .int (xs (i + 2))]) (stk := []) (ret := some .int) g dL_law_815 (m_X11_plugOf SHP) ⟨⟨tw_864, tw_865, tw_866⟩, lb_X11_plugOf⟩ ⟨by decide, by decide⟩ (Nat.le_of_ble_eq_true rfl) z0 rfl e1 ?_ : zk_At κ ω 815 (zl_env i) (([.int (xs (i + 1)), .int (xs (i + 2))] : List Value).reverse ++ .ref 0 :: []) SHP h)
  refine zk_aload_n (i := 2) (x := 178) g dL_law_818 rfl ?_
  refine zl_arg (c := 1) g hs hi hL (by decide) dL_law_819 dL_law_820 dL_law_821 dL_law_822 dL_law_823 ?_
  refine zl_arg (c := 2) g hs hi hL (by decide) dL_law_824 dL_law_825 dL_law_826 dL_law_827 dL_law_828 ?_
  refine (zk_invV (T2 := M_X12_plugOf) (av := [.int (xs (i + 1)), .int (xs (i + 2))]) (stk := [.int r]) (ret := some .int) g dL_law_829 (m_X12_plugOf SHP) ⟨⟨tw_1365, tw_1366, tw_1367⟩, lb_X12_plugOf⟩ ⟨by decide, by decide⟩ (Nat.le_of_ble_eq_true rfl) z1 rfl e2 ?_ : zk_At κ ω 829 (zl_env i) (([.int (xs (i + 1)), .int (xs (i + 2))] : List Value).reverse ++ .ref 178 :: [.int r]) SHP h1)
  exact zk_j2eq (t := 1188) g dL_law_832 (by decide) (fun _ => k) (fun z => absurd rfl z)
theorem tw_873 : (Jvm.Cond.methodLink "RoadPlugsLaw" (90 : Nat) ({ cls := "RoadPlugs", name := "says", desc := "(IZ)I" } : Jvm.MethodName)) ∈ zk_tbl := zk_in 873 (by decide +kernel) rfl
theorem tw_874 : (Jvm.Cond.instanceMethod ({ cls := "RoadPlugs", name := "says", desc := "(IZ)I" } : Jvm.MethodName)) ∈ zk_tbl := zk_in 874 (by decide +kernel) rfl
theorem tw_875 : (Jvm.Cond.selects "RoadPlugs" ({ cls := "RoadPlugs", name := "says", desc := "(IZ)I" } : Jvm.MethodName) ({ cls := "RoadPlugs", name := "says", desc := "(IZ)I" } : Jvm.MethodName)) ∈ zk_tbl := zk_in 875 (by decide +kernel) rfl
theorem tw_1180 : (Jvm.Cond.methodLink "RoadPlugsLaw" (93 : Nat) ({ cls := "RoadPlugsModel", name := "says", desc := "(IZ)I" } : Jvm.MethodName)) ∈ zk_tbl := zk_in 1180 (by decide +kernel) rfl
theorem tw_1181 : (Jvm.Cond.instanceMethod ({ cls := "RoadPlugsModel", name := "says", desc := "(IZ)I" } : Jvm.MethodName)) ∈ zk_tbl := zk_in 1181 (by decide +kernel) rfl
theorem tw_1182 : (Jvm.Cond.selects "RoadPlugsModel" ({ cls := "RoadPlugsModel", name := "says", desc := "(IZ)I" } : Jvm.MethodName) ({ cls := "RoadPlugsModel", name := "says", desc := "(IZ)I" } : Jvm.MethodName)) ∈ zk_tbl := zk_in 1182 (by decide +kernel) rfl
theorem zl_case17 {κ : zk_K} {ω : zk_O} {L i : Nat} {xs : Nat → Int32} {h h1 h2 : zk_H} {r : Int32} (g : zk_ok M_law κ ω) (hs : zl_Scr κ ω L xs) (hi : i + 6 ≤ L) (hL : L ≤ 3072) (e1 : f_X11_says SHP [.ref 0, .int (xs (i + 1)), .int (zl_b (xs (i + 2)))] h = some (.int r, h1)) (e2 : f_X12_says SHP [.ref 178, .int (xs (i + 1)), .int (zl_b (xs (i + 2)))] h1 = some (.int r, h2)) (k : zk_At κ ω 1188 (zl_env i) [] SHP h2) : zk_At κ ω 837 (zl_env i) [] SHP h := by
  obtain ⟨z, z0⟩ := zi_s0
  obtain ⟨z2, z1⟩ := zi_s178
  refine zk_aload_n (i := 1) (x := 0) g dL_law_837 rfl ?_
  refine zl_arg (c := 1) g hs hi hL (by decide) dL_law_838 dL_law_839 dL_law_840 dL_law_841 dL_law_842 ?_
  refine zl_boo (c := 2) g hs hi hL (by decide) dL_law_843 dL_law_844 dL_law_845 dL_law_846 dL_law_847 dL_law_848 dL_law_851 dL_law_852 dL_law_855 ?_
  refine (zk_invV (T2 := M_X11_says) (av := [.int (xs (i + 1)), .int (zl_b (xs (i + 2)))]) (stk := []) (ret := some .int) g dL_law_856 (m_X11_says SHP) ⟨⟨tw_873, tw_874, tw_875⟩, lb_X11_says⟩ ⟨by decide, by decide⟩ (Nat.le_of_ble_eq_true rfl) z0 rfl e1 ?_ : zk_At κ ω 856 (zl_env i) (([.int (xs (i + 1)), .int (zl_b (xs (i + 2)))] : List Value).reverse ++ .ref 0 :: []) SHP h)
  refine zk_aload_n (i := 2) (x := 178) g dL_law_859 rfl ?_
  refine zl_arg (c := 1) g hs hi hL (by decide) dL_law_860 dL_law_861 dL_law_862 dL_law_863 dL_law_864 ?_
  refine zl_boo (c := 2) g hs hi hL (by decide) dL_law_865 dL_law_866 dL_law_867 dL_law_868 dL_law_869 dL_law_870 dL_law_873 dL_law_874 dL_law_877 ?_
  refine (zk_invV (T2 := M_X12_says) (av := [.int (xs (i + 1)), .int (zl_b (xs (i + 2)))]) (stk := [.int r]) (ret := some .int) g dL_law_878 (m_X12_says SHP) ⟨⟨tw_1180, tw_1181, tw_1182⟩, lb_X12_says⟩ ⟨by decide, by decide⟩ (Nat.le_of_ble_eq_true rfl) z1 rfl e2 ?_ : zk_At κ ω 878 (zl_env i) (([.int (xs (i + 1)), .int (zl_b (xs (i + 2)))] : List Value).reverse ++ .ref 178 :: [.int r]) SHP h1)
  exact zk_j2eq (t := 1188) g dL_law_881 (by decide) (fun _ => k) (fun z => absurd rfl z)
theorem tw_877 : (Jvm.Cond.methodLink "RoadPlugsLaw" (94 : Nat) ({ cls := "RoadPlugs", name := "tried", desc := "(IIZ)I" } : Jvm.MethodName)) ∈ zk_tbl := zk_in 877 (by decide +kernel) rfl
theorem tw_878 : (Jvm.Cond.instanceMethod ({ cls := "RoadPlugs", name := "tried", desc := "(IIZ)I" } : Jvm.MethodName)) ∈ zk_tbl := zk_in 878 (by decide +kernel) rfl
theorem tw_879 : (Jvm.Cond.selects "RoadPlugs" ({ cls := "RoadPlugs", name := "tried", desc := "(IIZ)I" } : Jvm.MethodName) ({ cls := "RoadPlugs", name := "tried", desc := "(IIZ)I" } : Jvm.MethodName)) ∈ zk_tbl := zk_in 879 (by decide +kernel) rfl
theorem tw_1184 : (Jvm.Cond.methodLink "RoadPlugsLaw" (98 : Nat) ({ cls := "RoadPlugsModel", name := "tried", desc := "(IIZ)I" } : Jvm.MethodName)) ∈ zk_tbl := zk_in 1184 (by decide +kernel) rfl
theorem tw_1185 : (Jvm.Cond.instanceMethod ({ cls := "RoadPlugsModel", name := "tried", desc := "(IIZ)I" } : Jvm.MethodName)) ∈ zk_tbl := zk_in 1185 (by decide +kernel) rfl
theorem tw_1186 : (Jvm.Cond.selects "RoadPlugsModel" ({ cls := "RoadPlugsModel", name := "tried", desc := "(IIZ)I" } : Jvm.MethodName) ({ cls := "RoadPlugsModel", name := "tried", desc := "(IIZ)I" } : Jvm.MethodName)) ∈ zk_tbl := zk_in 1186 (by decide +kernel) rfl
theorem zl_case18 {κ : zk_K} {ω : zk_O} {L i : Nat} {xs : Nat → Int32} {h h1 h2 : zk_H} {r : Int32} (g : zk_ok M_law κ ω) (hs : zl_Scr κ ω L xs) (hi : i + 6 ≤ L) (hL : L ≤ 3072) (e1 : f_X11_tried SHP [.ref 0, .int (xs (i + 1)), .int (xs (i + 2)), .int (zl_b (xs (i + 3)))] h = some (.int r, h1)) (e2 : f_X12_tried SHP [.ref 178, .int (xs (i + 1)), .int (xs (i + 2)), .int (zl_b (xs (i + 3)))] h1 = some (.int r, h2)) (k : zk_At κ ω 1188 (zl_env i) [] SHP h2) : zk_At κ ω 886 (zl_env i) [] SHP h := by
  obtain ⟨z, z0⟩ := zi_s0
  obtain ⟨z2, z1⟩ := zi_s178
  refine zk_aload_n (i := 1) (x := 0) g dL_law_886 rfl ?_
  refine zl_arg (c := 1) g hs hi hL (by decide) dL_law_887 dL_law_888 dL_law_889 dL_law_890 dL_law_891 ?_
  refine zl_arg (c := 2) g hs hi hL (by decide) dL_law_892 dL_law_893 dL_law_894 dL_law_895 dL_law_896 ?_
  refine zl_boo (c := 3) g hs hi hL (by decide) dL_law_897 dL_law_898 dL_law_899 dL_law_900 dL_law_901 dL_law_902 dL_law_905 dL_law_906 dL_law_909 ?_
  refine (zk_invV (T2 := M_X11_tried) (av := [.int (xs (i + 1)), .int (xs (i + 2)), .int (zl_b (xs (i + 3)))]) (stk := []) (ret := some .int) g dL_law_910 (m_X11_tried SHP) ⟨⟨tw_877, tw_878, tw_879⟩, lb_X11_tried⟩ ⟨by decide, by decide⟩ (Nat.le_of_ble_eq_true rfl) z0 rfl e1 ?_ : zk_At κ ω 910 (zl_env i) (([.int (xs (i + 1)), .int (xs (i + 2)), .int (zl_b (xs (i + 3)))] : List Value).reverse ++ .ref 0 :: []) SHP h)
  refine zk_aload_n (i := 2) (x := 178) g dL_law_913 rfl ?_
  refine zl_arg (c := 1) g hs hi hL (by decide) dL_law_914 dL_law_915 dL_law_916 dL_law_917 dL_law_918 ?_
  refine zl_arg (c := 2) g hs hi hL (by decide) dL_law_919 dL_law_920 dL_law_921 dL_law_922 dL_law_923 ?_
  refine zl_boo (c := 3) g hs hi hL (by decide) dL_law_924 dL_law_925 dL_law_926 dL_law_927 dL_law_928 dL_law_929 dL_law_932 dL_law_933 dL_law_936 ?_
  refine (zk_invV (T2 := M_X12_tried) (av := [.int (xs (i + 1)), .int (xs (i + 2)), .int (zl_b (xs (i + 3)))]) (stk := [.int r]) (ret := some .int) g dL_law_937 (m_X12_tried SHP) ⟨⟨tw_1184, tw_1185, tw_1186⟩, lb_X12_tried⟩ ⟨by decide, by decide⟩ (Nat.le_of_ble_eq_true rfl) z1 rfl e2 ?_ : zk_At κ ω 937 (zl_env i) (([.int (xs (i + 1)), .int (xs (i + 2)), .int (zl_b (xs (i + 3)))] : List Value).reverse ++ .ref 178 :: [.int r]) SHP h1)
  exact zk_j2eq (t := 1188) g dL_law_940 (by decide) (fun _ => k) (fun z => absurd rfl z)
theorem tw_882 : (Jvm.Cond.methodLink "RoadPlugsLaw" (99 : Nat) ({ cls := "RoadPlugs", name := "tryOf", desc := "(II)I" } : Jvm.MethodName)) ∈ zk_tbl := zk_in 882 (by decide +kernel) rfl
theorem tw_883 : (Jvm.Cond.instanceMethod ({ cls := "RoadPlugs", name := "tryOf", desc := "(II)I" } : Jvm.MethodName)) ∈ zk_tbl := zk_in 883 (by decide +kernel) rfl
theorem tw_884 : (Jvm.Cond.selects "RoadPlugs" ({ cls := "RoadPlugs", name := "tryOf", desc := "(II)I" } : Jvm.MethodName) ({ cls := "RoadPlugs", name := "tryOf", desc := "(II)I" } : Jvm.MethodName)) ∈ zk_tbl := zk_in 884 (by decide +kernel) rfl
theorem tw_1192 : (Jvm.Cond.methodLink "RoadPlugsLaw" (102 : Nat) ({ cls := "RoadPlugsModel", name := "tryOf", desc := "(II)I" } : Jvm.MethodName)) ∈ zk_tbl := zk_in 1192 (by decide +kernel) rfl
theorem tw_1193 : (Jvm.Cond.instanceMethod ({ cls := "RoadPlugsModel", name := "tryOf", desc := "(II)I" } : Jvm.MethodName)) ∈ zk_tbl := zk_in 1193 (by decide +kernel) rfl
theorem tw_1194 : (Jvm.Cond.selects "RoadPlugsModel" ({ cls := "RoadPlugsModel", name := "tryOf", desc := "(II)I" } : Jvm.MethodName) ({ cls := "RoadPlugsModel", name := "tryOf", desc := "(II)I" } : Jvm.MethodName)) ∈ zk_tbl := zk_in 1194 (by decide +kernel) rfl
theorem zl_case19 {κ : zk_K} {ω : zk_O} {L i : Nat} {xs : Nat → Int32} {h h1 h2 : zk_H} {r : Int32} (g : zk_ok M_law κ ω) (hs : zl_Scr κ ω L xs) (hi : i + 6 ≤ L) (hL : L ≤ 3072) (e1 : f_X11_tryOf SHP [.ref 0, .int (xs (i + 1)), .int (xs (i + 2))] h = some (.int r, h1)) (e2 : f_X12_tryOf SHP [.ref 178, .int (xs (i + 1)), .int (xs (i + 2))] h1 = some (.int r, h2)) (k : zk_At κ ω 1188 (zl_env i) [] SHP h2) : zk_At κ ω 945 (zl_env i) [] SHP h := by
  obtain ⟨z, z0⟩ := zi_s0
  obtain ⟨z2, z1⟩ := zi_s178
  refine zk_aload_n (i := 1) (x := 0) g dL_law_945 rfl ?_
  refine zl_arg (c := 1) g hs hi hL (by decide) dL_law_946 dL_law_947 dL_law_948 dL_law_949 dL_law_950 ?_
  refine zl_arg (c := 2) g hs hi hL (by decide) dL_law_951 dL_law_952 dL_law_953 dL_law_954 dL_law_955 ?_
  refine (zk_invV (T2 := M_X11_tryOf) (av := [.int (xs (i + 1)), .int (xs (i + 2))]) (stk := []) (ret := some .int) g dL_law_956 (m_X11_tryOf SHP) ⟨⟨tw_882, tw_883, tw_884⟩, lb_X11_tryOf⟩ ⟨by decide, by decide⟩ (Nat.le_of_ble_eq_true rfl) z0 rfl e1 ?_ : zk_At κ ω 956 (zl_env i) (([.int (xs (i + 1)), .int (xs (i + 2))] : List Value).reverse ++ .ref 0 :: []) SHP h)
  refine zk_aload_n (i := 2) (x := 178) g dL_law_959 rfl ?_
  refine zl_arg (c := 1) g hs hi hL (by decide) dL_law_960 dL_law_961 dL_law_962 dL_law_963 dL_law_964 ?_
  refine zl_arg (c := 2) g hs hi hL (by decide) dL_law_965 dL_law_966 dL_law_967 dL_law_968 dL_law_969 ?_
  refine (zk_invV (T2 := M_X12_tryOf) (av := [.int (xs (i + 1)), .int (xs (i + 2))]) (stk := [.int r]) (ret := some .int) g dL_law_970 (m_X12_tryOf SHP) ⟨⟨tw_1192, tw_1193, tw_1194⟩, lb_X12_tryOf⟩ ⟨by decide, by decide⟩ (Nat.le_of_ble_eq_true rfl) z1 rfl e2 ?_ : zk_At κ ω 970 (zl_env i) (([.int (xs (i + 1)), .int (xs (i + 2))] : List Value).reverse ++ .ref 178 :: [.int r]) SHP h1)
  exact zk_j2eq (t := 1188) g dL_law_973 (by decide) (fun _ => k) (fun z => absurd rfl z)
theorem tw_887 : (Jvm.Cond.methodLink "RoadPlugsLaw" (103 : Nat) ({ cls := "RoadPlugs", name := "lies", desc := "()I" } : Jvm.MethodName)) ∈ zk_tbl := zk_in 887 (by decide +kernel) rfl
theorem tw_888 : (Jvm.Cond.instanceMethod ({ cls := "RoadPlugs", name := "lies", desc := "()I" } : Jvm.MethodName)) ∈ zk_tbl := zk_in 888 (by decide +kernel) rfl
theorem tw_889 : (Jvm.Cond.selects "RoadPlugs" ({ cls := "RoadPlugs", name := "lies", desc := "()I" } : Jvm.MethodName) ({ cls := "RoadPlugs", name := "lies", desc := "()I" } : Jvm.MethodName)) ∈ zk_tbl := zk_in 889 (by decide +kernel) rfl
theorem tw_1196 : (Jvm.Cond.methodLink "RoadPlugsLaw" (107 : Nat) ({ cls := "RoadPlugsModel", name := "lies", desc := "()I" } : Jvm.MethodName)) ∈ zk_tbl := zk_in 1196 (by decide +kernel) rfl
theorem tw_1197 : (Jvm.Cond.instanceMethod ({ cls := "RoadPlugsModel", name := "lies", desc := "()I" } : Jvm.MethodName)) ∈ zk_tbl := zk_in 1197 (by decide +kernel) rfl
theorem tw_1198 : (Jvm.Cond.selects "RoadPlugsModel" ({ cls := "RoadPlugsModel", name := "lies", desc := "()I" } : Jvm.MethodName) ({ cls := "RoadPlugsModel", name := "lies", desc := "()I" } : Jvm.MethodName)) ∈ zk_tbl := zk_in 1198 (by decide +kernel) rfl
theorem zl_case20 {κ : zk_K} {ω : zk_O} {L i : Nat} {xs : Nat → Int32} {h h1 h2 : zk_H} {r : Int32} (g : zk_ok M_law κ ω) (hs : zl_Scr κ ω L xs) (hi : i + 6 ≤ L) (hL : L ≤ 3072) (e1 : f_X11_lies SHP [.ref 0] h = some (.int r, h1)) (e2 : f_X12_lies SHP [.ref 178] h1 = some (.int r, h2)) (k : zk_At κ ω 1188 (zl_env i) [] SHP h2) : zk_At κ ω 978 (zl_env i) [] SHP h := by
  obtain ⟨z, z0⟩ := zi_s0
  obtain ⟨z2, z1⟩ := zi_s178
  refine zk_aload_n (i := 1) (x := 0) g dL_law_978 rfl ?_
  refine (zk_invV (T2 := M_X11_lies) (av := []) (stk := []) (ret := some .int) g dL_law_979 (m_X11_lies SHP) ⟨⟨tw_887, tw_888, tw_889⟩, lb_X11_lies⟩ ⟨by decide, by decide⟩ (Nat.le_of_ble_eq_true rfl) z0 rfl e1 ?_ : zk_At κ ω 979 (zl_env i) (([] : List Value).reverse ++ .ref 0 :: []) SHP h)
  refine zk_aload_n (i := 2) (x := 178) g dL_law_982 rfl ?_
  refine (zk_invV (T2 := M_X12_lies) (av := []) (stk := [.int r]) (ret := some .int) g dL_law_983 (m_X12_lies SHP) ⟨⟨tw_1196, tw_1197, tw_1198⟩, lb_X12_lies⟩ ⟨by decide, by decide⟩ (Nat.le_of_ble_eq_true rfl) z1 rfl e2 ?_ : zk_At κ ω 983 (zl_env i) (([] : List Value).reverse ++ .ref 178 :: [.int r]) SHP h1)
  exact zk_j2eq (t := 1188) g dL_law_986 (by decide) (fun _ => k) (fun z => absurd rfl z)
theorem tw_895 : (Jvm.Cond.methodLink "RoadPlugsLaw" (108 : Nat) ({ cls := "RoadPlugs", name := "advice", desc := "(III)I" } : Jvm.MethodName)) ∈ zk_tbl := zk_in 895 (by decide +kernel) rfl
theorem tw_896 : (Jvm.Cond.instanceMethod ({ cls := "RoadPlugs", name := "advice", desc := "(III)I" } : Jvm.MethodName)) ∈ zk_tbl := zk_in 896 (by decide +kernel) rfl
theorem tw_897 : (Jvm.Cond.selects "RoadPlugs" ({ cls := "RoadPlugs", name := "advice", desc := "(III)I" } : Jvm.MethodName) ({ cls := "RoadPlugs", name := "advice", desc := "(III)I" } : Jvm.MethodName)) ∈ zk_tbl := zk_in 897 (by decide +kernel) rfl
theorem tw_1369 : (Jvm.Cond.methodLink "RoadPlugsLaw" (111 : Nat) ({ cls := "RoadPlugsModel", name := "advice", desc := "(III)I" } : Jvm.MethodName)) ∈ zk_tbl := zk_in 1369 (by decide +kernel) rfl
theorem tw_1370 : (Jvm.Cond.instanceMethod ({ cls := "RoadPlugsModel", name := "advice", desc := "(III)I" } : Jvm.MethodName)) ∈ zk_tbl := zk_in 1370 (by decide +kernel) rfl
theorem tw_1371 : (Jvm.Cond.selects "RoadPlugsModel" ({ cls := "RoadPlugsModel", name := "advice", desc := "(III)I" } : Jvm.MethodName) ({ cls := "RoadPlugsModel", name := "advice", desc := "(III)I" } : Jvm.MethodName)) ∈ zk_tbl := zk_in 1371 (by decide +kernel) rfl
theorem zl_case21 {κ : zk_K} {ω : zk_O} {L i : Nat} {xs : Nat → Int32} {h h1 h2 : zk_H} {r : Int32} (g : zk_ok M_law κ ω) (hs : zl_Scr κ ω L xs) (hi : i + 6 ≤ L) (hL : L ≤ 3072) (e1 : f_X11_advice SHP [.ref 0, .int (xs (i + 1)), .int (xs (i + 2)), .int (xs (i + 3))] h = some (.int r, h1)) (e2 : f_X12_advice SHP [.ref 178, .int (xs (i + 1)), .int (xs (i + 2)), .int (xs (i + 3))] h1 = some (.int r, h2)) (k : zk_At κ ω 1188 (zl_env i) [] SHP h2) : zk_At κ ω 991 (zl_env i) [] SHP h := by
  obtain ⟨z, z0⟩ := zi_s0
  obtain ⟨z2, z1⟩ := zi_s178
  refine zk_aload_n (i := 1) (x := 0) g dL_law_991 rfl ?_
  refine zl_arg (c := 1) g hs hi hL (by decide) dL_law_992 dL_law_993 dL_law_994 dL_law_995 dL_law_996 ?_
  refine zl_arg (c := 2) g hs hi hL (by decide) dL_law_997 dL_law_998 dL_law_999 dL_law_1000 dL_law_1001 ?_
  refine zl_arg (c := 3) g hs hi hL (by decide) dL_law_1002 dL_law_1003 dL_law_1004 dL_law_1005 dL_law_1006 ?_
  refine (zk_invV (T2 := M_X11_advice) (av := [.int (xs (i + 1)), .int (xs (i + 2)), .int (xs (i + 3))]) (stk := []) (ret := some .int) g dL_law_1007 (m_X11_advice SHP) ⟨⟨tw_895, tw_896, tw_897⟩, lb_X11_advice⟩ ⟨by decide, by decide⟩ (Nat.le_of_ble_eq_true rfl) z0 rfl e1 ?_ : zk_At κ ω 1007 (zl_env i) (([.int (xs (i + 1)), .int (xs (i + 2)), .int (xs (i + 3))] : List Value).reverse ++ .ref 0 :: []) SHP h)
  refine zk_aload_n (i := 2) (x := 178) g dL_law_1010 rfl ?_
  refine zl_arg (c := 1) g hs hi hL (by decide) dL_law_1011 dL_law_1012 dL_law_1013 dL_law_1014 dL_law_1015 ?_
  refine zl_arg (c := 2) g hs hi hL (by decide) dL_law_1016 dL_law_1017 dL_law_1018 dL_law_1019 dL_law_1020 ?_
  refine zl_arg (c := 3) g hs hi hL (by decide) dL_law_1021 dL_law_1022 dL_law_1023 dL_law_1024 dL_law_1025 ?_
  refine (zk_invV (T2 := M_X12_advice) (av := [.int (xs (i + 1)), .int (xs (i + 2)), .int (xs (i + 3))]) (stk := [.int r]) (ret := some .int) g dL_law_1026 (m_X12_advice SHP) ⟨⟨tw_1369, tw_1370, tw_1371⟩, lb_X12_advice⟩ ⟨by decide, by decide⟩ (Nat.le_of_ble_eq_true rfl) z1 rfl e2 ?_ : zk_At κ ω 1026 (zl_env i) (([.int (xs (i + 1)), .int (xs (i + 2)), .int (xs (i + 3))] : List Value).reverse ++ .ref 178 :: [.int r]) SHP h1)
  exact zk_j2eq (t := 1188) g dL_law_1029 (by decide) (fun _ => k) (fun z => absurd rfl z)
theorem tw_918 : (Jvm.Cond.methodLink "RoadPlugsLaw" (112 : Nat) ({ cls := "RoadPlugs", name := "line", desc := "(ZIII)I" } : Jvm.MethodName)) ∈ zk_tbl := zk_in 918 (by decide +kernel) rfl
theorem tw_919 : (Jvm.Cond.instanceMethod ({ cls := "RoadPlugs", name := "line", desc := "(ZIII)I" } : Jvm.MethodName)) ∈ zk_tbl := zk_in 919 (by decide +kernel) rfl
theorem tw_920 : (Jvm.Cond.selects "RoadPlugs" ({ cls := "RoadPlugs", name := "line", desc := "(ZIII)I" } : Jvm.MethodName) ({ cls := "RoadPlugs", name := "line", desc := "(ZIII)I" } : Jvm.MethodName)) ∈ zk_tbl := zk_in 920 (by decide +kernel) rfl
theorem tw_1381 : (Jvm.Cond.methodLink "RoadPlugsLaw" (116 : Nat) ({ cls := "RoadPlugsModel", name := "line", desc := "(ZIII)I" } : Jvm.MethodName)) ∈ zk_tbl := zk_in 1381 (by decide +kernel) rfl
theorem tw_1382 : (Jvm.Cond.instanceMethod ({ cls := "RoadPlugsModel", name := "line", desc := "(ZIII)I" } : Jvm.MethodName)) ∈ zk_tbl := zk_in 1382 (by decide +kernel) rfl
theorem tw_1383 : (Jvm.Cond.selects "RoadPlugsModel" ({ cls := "RoadPlugsModel", name := "line", desc := "(ZIII)I" } : Jvm.MethodName) ({ cls := "RoadPlugsModel", name := "line", desc := "(ZIII)I" } : Jvm.MethodName)) ∈ zk_tbl := zk_in 1383 (by decide +kernel) rfl
theorem zl_case22 {κ : zk_K} {ω : zk_O} {L i : Nat} {xs : Nat → Int32} {h h1 h2 : zk_H} {r : Int32} (g : zk_ok M_law κ ω) (hs : zl_Scr κ ω L xs) (hi : i + 6 ≤ L) (hL : L ≤ 3072) (e1 : f_X11_line SHP [.ref 0, .int (zl_b (xs (i + 1))), .int (xs (i + 2)), .int (xs (i + 3)), .int (xs (i + 4))] h = some (.int r, h1)) (e2 : f_X12_line SHP [.ref 178, .int (zl_b (xs (i + 1))), .int (xs (i + 2)), .int (xs (i + 3)), .int (xs (i + 4))] h1 = some (.int r, h2)) (k : zk_At κ ω 1188 (zl_env i) [] SHP h2) : zk_At κ ω 1034 (zl_env i) [] SHP h := by
  obtain ⟨z, z0⟩ := zi_s0
  obtain ⟨z2, z1⟩ := zi_s178
  refine zk_aload_n (i := 1) (x := 0) g dL_law_1034 rfl ?_
  refine zl_boo (c := 1) g hs hi hL (by decide) dL_law_1035 dL_law_1036 dL_law_1037 dL_law_1038 dL_law_1039 dL_law_1040 dL_law_1043 dL_law_1044 dL_law_1047 ?_
  refine zl_arg (c := 2) g hs hi hL (by decide) dL_law_1048 dL_law_1049 dL_law_1050 dL_law_1051 dL_law_1052 ?_
  refine zl_arg (c := 3) g hs hi hL (by decide) dL_law_1053 dL_law_1054 dL_law_1055 dL_law_1056 dL_law_1057 ?_
  refine zl_arg (c := 4) g hs hi hL (by decide) dL_law_1058 dL_law_1059 dL_law_1060 dL_law_1061 dL_law_1062 ?_
  refine (zk_invV (T2 := M_X11_line) (av := [.int (zl_b (xs (i + 1))), .int (xs (i + 2)), .int (xs (i + 3)), .int (xs (i + 4))]) (stk := []) (ret := some .int) g dL_law_1063 (m_X11_line SHP) ⟨⟨tw_918, tw_919, tw_920⟩, lb_X11_line⟩ ⟨by decide, by decide⟩ (Nat.le_of_ble_eq_true rfl) z0 rfl e1 ?_ : zk_At κ ω 1063 (zl_env i) (([.int (zl_b (xs (i + 1))), .int (xs (i + 2)), .int (xs (i + 3)), .int (xs (i + 4))] : List Value).reverse ++ .ref 0 :: []) SHP h)
  refine zk_aload_n (i := 2) (x := 178) g dL_law_1066 rfl ?_
  refine zl_boo (c := 1) g hs hi hL (by decide) dL_law_1067 dL_law_1068 dL_law_1069 dL_law_1070 dL_law_1071 dL_law_1072 dL_law_1075 dL_law_1076 dL_law_1079 ?_
  refine zl_arg (c := 2) g hs hi hL (by decide) dL_law_1080 dL_law_1081 dL_law_1082 dL_law_1083 dL_law_1084 ?_
  refine zl_arg (c := 3) g hs hi hL (by decide) dL_law_1085 dL_law_1086 dL_law_1087 dL_law_1088 dL_law_1089 ?_
  refine zl_arg (c := 4) g hs hi hL (by decide) dL_law_1090 dL_law_1091 dL_law_1092 dL_law_1093 dL_law_1094 ?_
  refine (zk_invV (T2 := M_X12_line) (av := [.int (zl_b (xs (i + 1))), .int (xs (i + 2)), .int (xs (i + 3)), .int (xs (i + 4))]) (stk := [.int r]) (ret := some .int) g dL_law_1095 (m_X12_line SHP) ⟨⟨tw_1381, tw_1382, tw_1383⟩, lb_X12_line⟩ ⟨by decide, by decide⟩ (Nat.le_of_ble_eq_true rfl) z1 rfl e2 ?_ : zk_At κ ω 1095 (zl_env i) (([.int (zl_b (xs (i + 1))), .int (xs (i + 2)), .int (xs (i + 3)), .int (xs (i + 4))] : List Value).reverse ++ .ref 178 :: [.int r]) SHP h1)
  exact zk_j2eq (t := 1188) g dL_law_1098 (by decide) (fun _ => k) (fun z => absurd rfl z)
theorem tw_926 : (Jvm.Cond.methodLink "RoadPlugsLaw" (117 : Nat) ({ cls := "RoadPlugs", name := "joined", desc := "(I)I" } : Jvm.MethodName)) ∈ zk_tbl := zk_in 926 (by decide +kernel) rfl
theorem tw_927 : (Jvm.Cond.instanceMethod ({ cls := "RoadPlugs", name := "joined", desc := "(I)I" } : Jvm.MethodName)) ∈ zk_tbl := zk_in 927 (by decide +kernel) rfl
theorem tw_928 : (Jvm.Cond.selects "RoadPlugs" ({ cls := "RoadPlugs", name := "joined", desc := "(I)I" } : Jvm.MethodName) ({ cls := "RoadPlugs", name := "joined", desc := "(I)I" } : Jvm.MethodName)) ∈ zk_tbl := zk_in 928 (by decide +kernel) rfl
theorem tw_1385 : (Jvm.Cond.methodLink "RoadPlugsLaw" (120 : Nat) ({ cls := "RoadPlugsModel", name := "joined", desc := "(I)I" } : Jvm.MethodName)) ∈ zk_tbl := zk_in 1385 (by decide +kernel) rfl
theorem tw_1386 : (Jvm.Cond.instanceMethod ({ cls := "RoadPlugsModel", name := "joined", desc := "(I)I" } : Jvm.MethodName)) ∈ zk_tbl := zk_in 1386 (by decide +kernel) rfl
theorem tw_1387 : (Jvm.Cond.selects "RoadPlugsModel" ({ cls := "RoadPlugsModel", name := "joined", desc := "(I)I" } : Jvm.MethodName) ({ cls := "RoadPlugsModel", name := "joined", desc := "(I)I" } : Jvm.MethodName)) ∈ zk_tbl := zk_in 1387 (by decide +kernel) rfl
theorem zl_case23 {κ : zk_K} {ω : zk_O} {L i : Nat} {xs : Nat → Int32} {h h1 h2 : zk_H} {r : Int32} (g : zk_ok M_law κ ω) (hs : zl_Scr κ ω L xs) (hi : i + 6 ≤ L) (hL : L ≤ 3072) (e1 : f_X11_joined SHP [.ref 0, .int (xs (i + 1))] h = some (.int r, h1)) (e2 : f_X12_joined SHP [.ref 178, .int (xs (i + 1))] h1 = some (.int r, h2)) (k : zk_At κ ω 1188 (zl_env i) [] SHP h2) : zk_At κ ω 1103 (zl_env i) [] SHP h := by
  obtain ⟨z, z0⟩ := zi_s0
  obtain ⟨z2, z1⟩ := zi_s178
  refine zk_aload_n (i := 1) (x := 0) g dL_law_1103 rfl ?_
  refine zl_arg (c := 1) g hs hi hL (by decide) dL_law_1104 dL_law_1105 dL_law_1106 dL_law_1107 dL_law_1108 ?_
  refine (zk_invV (T2 := M_X11_joined) (av := [.int (xs (i + 1))]) (stk := []) (ret := some .int) g dL_law_1109 (m_X11_joined SHP) ⟨⟨tw_926, tw_927, tw_928⟩, lb_X11_joined⟩ ⟨by decide, by decide⟩ (Nat.le_of_ble_eq_true rfl) z0 rfl e1 ?_ : zk_At κ ω 1109 (zl_env i) (([.int (xs (i + 1))] : List Value).reverse ++ .ref 0 :: []) SHP h)
  refine zk_aload_n (i := 2) (x := 178) g dL_law_1112 rfl ?_
  refine zl_arg (c := 1) g hs hi hL (by decide) dL_law_1113 dL_law_1114 dL_law_1115 dL_law_1116 dL_law_1117 ?_
  refine (zk_invV (T2 := M_X12_joined) (av := [.int (xs (i + 1))]) (stk := [.int r]) (ret := some .int) g dL_law_1118 (m_X12_joined SHP) ⟨⟨tw_1385, tw_1386, tw_1387⟩, lb_X12_joined⟩ ⟨by decide, by decide⟩ (Nat.le_of_ble_eq_true rfl) z1 rfl e2 ?_ : zk_At κ ω 1118 (zl_env i) (([.int (xs (i + 1))] : List Value).reverse ++ .ref 178 :: [.int r]) SHP h1)
  exact zk_j2eq (t := 1188) g dL_law_1121 (by decide) (fun _ => k) (fun z => absurd rfl z)
theorem tw_954 : (Jvm.Cond.methodLink "RoadPlugsLaw" (121 : Nat) ({ cls := "RoadPlugs", name := "clear", desc := "()I" } : Jvm.MethodName)) ∈ zk_tbl := zk_in 954 (by decide +kernel) rfl
theorem tw_955 : (Jvm.Cond.instanceMethod ({ cls := "RoadPlugs", name := "clear", desc := "()I" } : Jvm.MethodName)) ∈ zk_tbl := zk_in 955 (by decide +kernel) rfl
theorem tw_956 : (Jvm.Cond.selects "RoadPlugs" ({ cls := "RoadPlugs", name := "clear", desc := "()I" } : Jvm.MethodName) ({ cls := "RoadPlugs", name := "clear", desc := "()I" } : Jvm.MethodName)) ∈ zk_tbl := zk_in 956 (by decide +kernel) rfl
theorem tw_1408 : (Jvm.Cond.methodLink "RoadPlugsLaw" (124 : Nat) ({ cls := "RoadPlugsModel", name := "clear", desc := "()I" } : Jvm.MethodName)) ∈ zk_tbl := zk_in 1408 (by decide +kernel) rfl
theorem tw_1409 : (Jvm.Cond.instanceMethod ({ cls := "RoadPlugsModel", name := "clear", desc := "()I" } : Jvm.MethodName)) ∈ zk_tbl := zk_in 1409 (by decide +kernel) rfl
theorem tw_1410 : (Jvm.Cond.selects "RoadPlugsModel" ({ cls := "RoadPlugsModel", name := "clear", desc := "()I" } : Jvm.MethodName) ({ cls := "RoadPlugsModel", name := "clear", desc := "()I" } : Jvm.MethodName)) ∈ zk_tbl := zk_in 1410 (by decide +kernel) rfl
theorem zl_case24 {κ : zk_K} {ω : zk_O} {L i : Nat} {xs : Nat → Int32} {h h1 h2 : zk_H} {r : Int32} (g : zk_ok M_law κ ω) (hs : zl_Scr κ ω L xs) (hi : i + 6 ≤ L) (hL : L ≤ 3072) (e1 : f_X11_clear SHP [.ref 0] h = some (.int r, h1)) (e2 : f_X12_clear SHP [.ref 178] h1 = some (.int r, h2)) (k : zk_At κ ω 1188 (zl_env i) [] SHP h2) : zk_At κ ω 1126 (zl_env i) [] SHP h := by
  obtain ⟨z, z0⟩ := zi_s0
  obtain ⟨z2, z1⟩ := zi_s178
  refine zk_aload_n (i := 1) (x := 0) g dL_law_1126 rfl ?_
  refine (zk_invV (T2 := M_X11_clear) (av := []) (stk := []) (ret := some .int) g dL_law_1127 (m_X11_clear SHP) ⟨⟨tw_954, tw_955, tw_956⟩, lb_X11_clear⟩ ⟨by decide, by decide⟩ (Nat.le_of_ble_eq_true rfl) z0 rfl e1 ?_ : zk_At κ ω 1127 (zl_env i) (([] : List Value).reverse ++ .ref 0 :: []) SHP h)
  refine zk_aload_n (i := 2) (x := 178) g dL_law_1130 rfl ?_
  refine (zk_invV (T2 := M_X12_clear) (av := []) (stk := [.int r]) (ret := some .int) g dL_law_1131 (m_X12_clear SHP) ⟨⟨tw_1408, tw_1409, tw_1410⟩, lb_X12_clear⟩ ⟨by decide, by decide⟩ (Nat.le_of_ble_eq_true rfl) z1 rfl e2 ?_ : zk_At κ ω 1131 (zl_env i) (([] : List Value).reverse ++ .ref 178 :: [.int r]) SHP h1)
  exact zk_j2eq (t := 1188) g dL_law_1134 (by decide) (fun _ => k) (fun z => absurd rfl z)
theorem tw_958 : (Jvm.Cond.methodLink "RoadPlugsLaw" (125 : Nat) ({ cls := "RoadPlugs", name := "many", desc := "(I)I" } : Jvm.MethodName)) ∈ zk_tbl := zk_in 958 (by decide +kernel) rfl
theorem tw_959 : (Jvm.Cond.instanceMethod ({ cls := "RoadPlugs", name := "many", desc := "(I)I" } : Jvm.MethodName)) ∈ zk_tbl := zk_in 959 (by decide +kernel) rfl
theorem tw_960 : (Jvm.Cond.selects "RoadPlugs" ({ cls := "RoadPlugs", name := "many", desc := "(I)I" } : Jvm.MethodName) ({ cls := "RoadPlugs", name := "many", desc := "(I)I" } : Jvm.MethodName)) ∈ zk_tbl := zk_in 960 (by decide +kernel) rfl
theorem tw_1412 : (Jvm.Cond.methodLink "RoadPlugsLaw" (128 : Nat) ({ cls := "RoadPlugsModel", name := "many", desc := "(I)I" } : Jvm.MethodName)) ∈ zk_tbl := zk_in 1412 (by decide +kernel) rfl
theorem tw_1413 : (Jvm.Cond.instanceMethod ({ cls := "RoadPlugsModel", name := "many", desc := "(I)I" } : Jvm.MethodName)) ∈ zk_tbl := zk_in 1413 (by decide +kernel) rfl
theorem tw_1414 : (Jvm.Cond.selects "RoadPlugsModel" ({ cls := "RoadPlugsModel", name := "many", desc := "(I)I" } : Jvm.MethodName) ({ cls := "RoadPlugsModel", name := "many", desc := "(I)I" } : Jvm.MethodName)) ∈ zk_tbl := zk_in 1414 (by decide +kernel) rfl
theorem zl_case25 {κ : zk_K} {ω : zk_O} {L i : Nat} {xs : Nat → Int32} {h h1 h2 : zk_H} {r : Int32} (g : zk_ok M_law κ ω) (hs : zl_Scr κ ω L xs) (hi : i + 6 ≤ L) (hL : L ≤ 3072) (e1 : f_X11_many SHP [.ref 0, .int (xs (i + 1))] h = some (.int r, h1)) (e2 : f_X12_many SHP [.ref 178, .int (xs (i + 1))] h1 = some (.int r, h2)) (k : zk_At κ ω 1188 (zl_env i) [] SHP h2) : zk_At κ ω 1139 (zl_env i) [] SHP h := by
  obtain ⟨z, z0⟩ := zi_s0
  obtain ⟨z2, z1⟩ := zi_s178
  refine zk_aload_n (i := 1) (x := 0) g dL_law_1139 rfl ?_
  refine zl_arg (c := 1) g hs hi hL (by decide) dL_law_1140 dL_law_1141 dL_law_1142 dL_law_1143 dL_law_1144 ?_
  refine (zk_invV (T2 := M_X11_many) (av := [.int (xs (i + 1))]) (stk := []) (ret := some .int) g dL_law_1145 (m_X11_many SHP) ⟨⟨tw_958, tw_959, tw_960⟩, lb_X11_many⟩ ⟨by decide, by decide⟩ (Nat.le_of_ble_eq_true rfl) z0 rfl e1 ?_ : zk_At κ ω 1145 (zl_env i) (([.int (xs (i + 1))] : List Value).reverse ++ .ref 0 :: []) SHP h)
  refine zk_aload_n (i := 2) (x := 178) g dL_law_1148 rfl ?_
  refine zl_arg (c := 1) g hs hi hL (by decide) dL_law_1149 dL_law_1150 dL_law_1151 dL_law_1152 dL_law_1153 ?_
  refine (zk_invV (T2 := M_X12_many) (av := [.int (xs (i + 1))]) (stk := [.int r]) (ret := some .int) g dL_law_1154 (m_X12_many SHP) ⟨⟨tw_1412, tw_1413, tw_1414⟩, lb_X12_many⟩ ⟨by decide, by decide⟩ (Nat.le_of_ble_eq_true rfl) z1 rfl e2 ?_ : zk_At κ ω 1154 (zl_env i) (([.int (xs (i + 1))] : List Value).reverse ++ .ref 178 :: [.int r]) SHP h1)
  exact zk_j2eq (t := 1188) g dL_law_1157 (by decide) (fun _ => k) (fun z => absurd rfl z)
theorem tw_974 : (Jvm.Cond.methodLink "RoadPlugsLaw" (129 : Nat) ({ cls := "RoadPlugs", name := "keep", desc := "()I" } : Jvm.MethodName)) ∈ zk_tbl := zk_in 974 (by decide +kernel) rfl
theorem tw_975 : (Jvm.Cond.instanceMethod ({ cls := "RoadPlugs", name := "keep", desc := "()I" } : Jvm.MethodName)) ∈ zk_tbl := zk_in 975 (by decide +kernel) rfl
theorem tw_976 : (Jvm.Cond.selects "RoadPlugs" ({ cls := "RoadPlugs", name := "keep", desc := "()I" } : Jvm.MethodName) ({ cls := "RoadPlugs", name := "keep", desc := "()I" } : Jvm.MethodName)) ∈ zk_tbl := zk_in 976 (by decide +kernel) rfl
theorem tw_1416 : (Jvm.Cond.methodLink "RoadPlugsLaw" (132 : Nat) ({ cls := "RoadPlugsModel", name := "keep", desc := "()I" } : Jvm.MethodName)) ∈ zk_tbl := zk_in 1416 (by decide +kernel) rfl
theorem tw_1417 : (Jvm.Cond.instanceMethod ({ cls := "RoadPlugsModel", name := "keep", desc := "()I" } : Jvm.MethodName)) ∈ zk_tbl := zk_in 1417 (by decide +kernel) rfl
theorem tw_1418 : (Jvm.Cond.selects "RoadPlugsModel" ({ cls := "RoadPlugsModel", name := "keep", desc := "()I" } : Jvm.MethodName) ({ cls := "RoadPlugsModel", name := "keep", desc := "()I" } : Jvm.MethodName)) ∈ zk_tbl := zk_in 1418 (by decide +kernel) rfl
theorem zl_case26 {κ : zk_K} {ω : zk_O} {L i : Nat} {xs : Nat → Int32} {h h1 h2 : zk_H} {r : Int32} (g : zk_ok M_law κ ω) (hs : zl_Scr κ ω L xs) (hi : i + 6 ≤ L) (hL : L ≤ 3072) (e1 : f_X11_keep SHP [.ref 0] h = some (.int r, h1)) (e2 : f_X12_keep SHP [.ref 178] h1 = some (.int r, h2)) (k : zk_At κ ω 1188 (zl_env i) [] SHP h2) : zk_At κ ω 1162 (zl_env i) [] SHP h := by
  obtain ⟨z, z0⟩ := zi_s0
  obtain ⟨z2, z1⟩ := zi_s178
  refine zk_aload_n (i := 1) (x := 0) g dL_law_1162 rfl ?_
  refine (zk_invV (T2 := M_X11_keep) (av := []) (stk := []) (ret := some .int) g dL_law_1163 (m_X11_keep SHP) ⟨⟨tw_974, tw_975, tw_976⟩, lb_X11_keep⟩ ⟨by decide, by decide⟩ (Nat.le_of_ble_eq_true rfl) z0 rfl e1 ?_ : zk_At κ ω 1163 (zl_env i) (([] : List Value).reverse ++ .ref 0 :: []) SHP h)
  refine zk_aload_n (i := 2) (x := 178) g dL_law_1166 rfl ?_
  refine (zk_invV (T2 := M_X12_keep) (av := []) (stk := [.int r]) (ret := some .int) g dL_law_1167 (m_X12_keep SHP) ⟨⟨tw_1416, tw_1417, tw_1418⟩, lb_X12_keep⟩ ⟨by decide, by decide⟩ (Nat.le_of_ble_eq_true rfl) z1 rfl e2 ?_ : zk_At κ ω 1167 (zl_env i) (([] : List Value).reverse ++ .ref 178 :: [.int r]) SHP h1)
  exact zk_j2eq (t := 1188) g dL_law_1170 (by decide) (fun _ => k) (fun z => absurd rfl z)
theorem tw_1008 : (Jvm.Cond.methodLink "RoadPlugsLaw" (133 : Nat) ({ cls := "RoadPlugs", name := "back", desc := "()I" } : Jvm.MethodName)) ∈ zk_tbl := zk_in 1008 (by decide +kernel) rfl
theorem tw_1009 : (Jvm.Cond.instanceMethod ({ cls := "RoadPlugs", name := "back", desc := "()I" } : Jvm.MethodName)) ∈ zk_tbl := zk_in 1009 (by decide +kernel) rfl
theorem tw_1010 : (Jvm.Cond.selects "RoadPlugs" ({ cls := "RoadPlugs", name := "back", desc := "()I" } : Jvm.MethodName) ({ cls := "RoadPlugs", name := "back", desc := "()I" } : Jvm.MethodName)) ∈ zk_tbl := zk_in 1010 (by decide +kernel) rfl
theorem tw_1428 : (Jvm.Cond.methodLink "RoadPlugsLaw" (136 : Nat) ({ cls := "RoadPlugsModel", name := "back", desc := "()I" } : Jvm.MethodName)) ∈ zk_tbl := zk_in 1428 (by decide +kernel) rfl
theorem tw_1429 : (Jvm.Cond.instanceMethod ({ cls := "RoadPlugsModel", name := "back", desc := "()I" } : Jvm.MethodName)) ∈ zk_tbl := zk_in 1429 (by decide +kernel) rfl
theorem tw_1430 : (Jvm.Cond.selects "RoadPlugsModel" ({ cls := "RoadPlugsModel", name := "back", desc := "()I" } : Jvm.MethodName) ({ cls := "RoadPlugsModel", name := "back", desc := "()I" } : Jvm.MethodName)) ∈ zk_tbl := zk_in 1430 (by decide +kernel) rfl
theorem zl_case27 {κ : zk_K} {ω : zk_O} {L i : Nat} {xs : Nat → Int32} {h h1 h2 : zk_H} {r : Int32} (g : zk_ok M_law κ ω) (hs : zl_Scr κ ω L xs) (hi : i + 6 ≤ L) (hL : L ≤ 3072) (e1 : f_X11_back SHP [.ref 0] h = some (.int r, h1)) (e2 : f_X12_back SHP [.ref 178] h1 = some (.int r, h2)) (k : zk_At κ ω 1188 (zl_env i) [] SHP h2) : zk_At κ ω 1175 (zl_env i) [] SHP h := by
  obtain ⟨z, z0⟩ := zi_s0
  obtain ⟨z2, z1⟩ := zi_s178
  refine zk_aload_n (i := 1) (x := 0) g dL_law_1175 rfl ?_
  refine (zk_invV (T2 := M_X11_back) (av := []) (stk := []) (ret := some .int) g dL_law_1176 (m_X11_back SHP) ⟨⟨tw_1008, tw_1009, tw_1010⟩, lb_X11_back⟩ ⟨by decide, by decide⟩ (Nat.le_of_ble_eq_true rfl) z0 rfl e1 ?_ : zk_At κ ω 1176 (zl_env i) (([] : List Value).reverse ++ .ref 0 :: []) SHP h)
  refine zk_aload_n (i := 2) (x := 178) g dL_law_1179 rfl ?_
  refine (zk_invV (T2 := M_X12_back) (av := []) (stk := [.int r]) (ret := some .int) g dL_law_1180 (m_X12_back SHP) ⟨⟨tw_1428, tw_1429, tw_1430⟩, lb_X12_back⟩ ⟨by decide, by decide⟩ (Nat.le_of_ble_eq_true rfl) z1 rfl e2 ?_ : zk_At κ ω 1180 (zl_env i) (([] : List Value).reverse ++ .ref 178 :: [.int r]) SHP h1)
  exact zk_j2eq (t := 1188) g dL_law_1183 (by decide) (fun _ => k) (fun z => absurd rfl z)
/-- what the second layer owes -/
def zl_L2 (Inv : zk_H → Prop) : Prop := (∀ (a : Int32) (b : Int32), zl_ok2 Inv (f_X11_site SHP) (f_X12_site SHP) [.int a, .int b]) ∧ (∀ (a : Int32) (b : Int32) (c : Int32), zl_ok2 Inv (f_X11_plug SHP) (f_X12_plug SHP) [.int a, .int b, .int c]) ∧ (∀ (a : Int32) (b : Int32) (c : Int32) (d : Int32) (e : Int32), zl_ok2 Inv (f_X11_car SHP) (f_X12_car SHP) [.int a, .int b, .int c, .int d, .int e]) ∧ (∀ (a : Int32) (b : Int32), zl_ok2 Inv (f_X11_set SHP) (f_X12_set SHP) [.int a, .int b]) ∧ (∀ (a : Int32) (b : Int32) (c : Int32), zl_ok2 Inv (f_X11_drive SHP) (f_X12_drive SHP) [.int a, .int b, .int c]) ∧ (∀ (a : Int32) (b : Int32) (c : Int32), zl_ok2 Inv (f_X11_gain SHP) (f_X12_gain SHP) [.int a, .int b, .int c]) ∧ (∀ (a : Int32) (b : Int32), zl_ok2 Inv (f_X11_of SHP) (f_X12_of SHP) [.int a, .int b]) ∧ (∀ (a : Int32) (b : Int32) (c : Int32) (d : Int32), zl_ok2 Inv (f_X11_trip SHP) (f_X12_trip SHP) [.int a, .int b, .int c, .int d]) ∧ (∀ (a : Int64) (b : Int32), zl_ok2 Inv (f_X11_feed SHP) (f_X12_feed SHP) [.long a, .int b]) ∧ (∀ (a : Int32), zl_ok2 Inv (f_X11_read SHP) (f_X12_read SHP) [.int a]) ∧ (∀ (a : Int32) (b : Int32), zl_ok2 Inv (f_X11_siteOf SHP) (f_X12_siteOf SHP) [.int a, .int b]) ∧ (∀ (a : Int32) (b : Int32) (c : Int32) (d : Int32), zl_ok2 Inv (f_X11_come SHP) (f_X12_come SHP) [.int a, .int b, .int c, .int d]) ∧ (∀ (a : Int32), zl_ok2 Inv (f_X11_leave SHP) (f_X12_leave SHP) [.int a]) ∧ (∀ (a : Int32) (b : Int32), zl_ok2 Inv (f_X11_go SHP) (f_X12_go SHP) [.int a, .int b]) ∧ (∀ (a : Int32) (b : Int32), zl_ok2 Inv (f_X11_fail SHP) (f_X12_fail SHP) [.int a, .int (zl_b b)]) ∧ (∀ (a : Int32), zl_ok2 Inv (f_X11_ticks SHP) (f_X12_ticks SHP) [.int a]) ∧ (∀ (a : Int32) (b : Int32), zl_ok2 Inv (f_X11_plugOf SHP) (f_X12_plugOf SHP) [.int a, .int b]) ∧ (∀ (a : Int32) (b : Int32), zl_ok2 Inv (f_X11_says SHP) (f_X12_says SHP) [.int a, .int (zl_b b)]) ∧ (∀ (a : Int32) (b : Int32) (c : Int32), zl_ok2 Inv (f_X11_tried SHP) (f_X12_tried SHP) [.int a, .int b, .int (zl_b c)]) ∧ (∀ (a : Int32) (b : Int32), zl_ok2 Inv (f_X11_tryOf SHP) (f_X12_tryOf SHP) [.int a, .int b]) ∧ (zl_ok2 Inv (f_X11_lies SHP) (f_X12_lies SHP) []) ∧ (∀ (a : Int32) (b : Int32) (c : Int32), zl_ok2 Inv (f_X11_advice SHP) (f_X12_advice SHP) [.int a, .int b, .int c]) ∧ (∀ (a : Int32) (b : Int32) (c : Int32) (d : Int32), zl_ok2 Inv (f_X11_line SHP) (f_X12_line SHP) [.int (zl_b a), .int b, .int c, .int d]) ∧ (∀ (a : Int32), zl_ok2 Inv (f_X11_joined SHP) (f_X12_joined SHP) [.int a]) ∧ (zl_ok2 Inv (f_X11_clear SHP) (f_X12_clear SHP) []) ∧ (∀ (a : Int32), zl_ok2 Inv (f_X11_many SHP) (f_X12_many SHP) [.int a]) ∧ (zl_ok2 Inv (f_X11_keep SHP) (f_X12_keep SHP) []) ∧ (zl_ok2 Inv (f_X11_back SHP) (f_X12_back SHP) [])
theorem zl_step {κ : zk_K} {ω : zk_O} {L i : Nat} {xs : Nat → Int32} {h : zk_H} {Inv : zk_H → Prop} (hI : zl_L2 Inv) (g : zk_ok M_law κ ω) (hs : zl_Scr κ ω L xs) (hi : i + 6 ≤ L) (hL : L ≤ 3072) (h0 : Inv h) (k : ∀ h2, Inv h2 → zk_At κ ω 1188 (zl_env i) [] SHP h2) : ∀ (j t : Nat), [160, 193, 236, 299, 332, 375, 418, 451, 504, 567, 590, 623, 676, 699, 732, 781, 804, 837, 886, 945, 978, 991, 1034, 1103, 1126, 1139, 1162, 1175][j]? = some t → zk_At κ ω t (zl_env i) [] SHP h := by
  intro j t hj
  match j, hj with
  | 0, hj =>
    cases hj
    obtain ⟨r, h1, h2, e1, e2, h3⟩ := hI.1 (xs (i + 1)) (xs (i + 2)) h h0
    exact zl_case0 g hs hi hL e1 e2 (k h2 h3)
  | 1, hj =>
    cases hj
    obtain ⟨r, h1, h2, e1, e2, h3⟩ := hI.2.1 (xs (i + 1)) (xs (i + 2)) (xs (i + 3)) h h0
    exact zl_case1 g hs hi hL e1 e2 (k h2 h3)
  | 2, hj =>
    cases hj
    obtain ⟨r, h1, h2, e1, e2, h3⟩ := hI.2.2.1 (xs (i + 1)) (xs (i + 2)) (xs (i + 3)) (xs (i + 4)) (xs (i + 5)) h h0
    exact zl_case2 g hs hi hL e1 e2 (k h2 h3)
  | 3, hj =>
    cases hj
    obtain ⟨r, h1, h2, e1, e2, h3⟩ := hI.2.2.2.1 (xs (i + 1)) (xs (i + 2)) h h0
    exact zl_case3 g hs hi hL e1 e2 (k h2 h3)
  | 4, hj =>
    cases hj
    obtain ⟨r, h1, h2, e1, e2, h3⟩ := hI.2.2.2.2.1 (xs (i + 1)) (xs (i + 2)) (xs (i + 3)) h h0
    exact zl_case4 g hs hi hL e1 e2 (k h2 h3)
  | 5, hj =>
    cases hj
    obtain ⟨r, h1, h2, e1, e2, h3⟩ := hI.2.2.2.2.2.1 (xs (i + 1)) (xs (i + 2)) (xs (i + 3)) h h0
    exact zl_case5 g hs hi hL e1 e2 (k h2 h3)
  | 6, hj =>
    cases hj
    obtain ⟨r, h1, h2, e1, e2, h3⟩ := hI.2.2.2.2.2.2.1 (xs (i + 1)) (xs (i + 2)) h h0
    exact zl_case6 g hs hi hL e1 e2 (k h2 h3)
  | 7, hj =>
    cases hj
    obtain ⟨r, h1, h2, e1, e2, h3⟩ := hI.2.2.2.2.2.2.2.1 (xs (i + 1)) (xs (i + 2)) (xs (i + 3)) (xs (i + 4)) h h0
    exact zl_case7 g hs hi hL e1 e2 (k h2 h3)
  | 8, hj =>
    cases hj
    obtain ⟨r, h1, h2, e1, e2, h3⟩ := hI.2.2.2.2.2.2.2.2.1 (zl_lg (xs (i + 1)) (xs (i + 2))) (xs (i + 3)) h h0
    exact zl_case8 g hs hi hL e1 e2 (k h2 h3)
  | 9, hj =>
    cases hj
    obtain ⟨r, h1, h2, e1, e2, h3⟩ := hI.2.2.2.2.2.2.2.2.2.1 (xs (i + 1)) h h0
    exact zl_case9 g hs hi hL e1 e2 (k h2 h3)
  | 10, hj =>
    cases hj
    obtain ⟨r, h1, h2, e1, e2, h3⟩ := hI.2.2.2.2.2.2.2.2.2.2.1 (xs (i + 1)) (xs (i + 2)) h h0
    exact zl_case10 g hs hi hL e1 e2 (k h2 h3)
  | 11, hj =>
    cases hj
    obtain ⟨r, h1, h2, e1, e2, h3⟩ := hI.2.2.2.2.2.2.2.2.2.2.2.1 (xs (i + 1)) (xs (i + 2)) (xs (i + 3)) (xs (i + 4)) h h0
    exact zl_case11 g hs hi hL e1 e2 (k h2 h3)
  | 12, hj =>
    cases hj
    obtain ⟨r, h1, h2, e1, e2, h3⟩ := hI.2.2.2.2.2.2.2.2.2.2.2.2.1 (xs (i + 1)) h h0
    exact zl_case12 g hs hi hL e1 e2 (k h2 h3)
  | 13, hj =>
    cases hj
    obtain ⟨r, h1, h2, e1, e2, h3⟩ := hI.2.2.2.2.2.2.2.2.2.2.2.2.2.1 (xs (i + 1)) (xs (i + 2)) h h0
    exact zl_case13 g hs hi hL e1 e2 (k h2 h3)
  | 14, hj =>
    cases hj
    obtain ⟨r, h1, h2, e1, e2, h3⟩ := hI.2.2.2.2.2.2.2.2.2.2.2.2.2.2.1 (xs (i + 1)) (xs (i + 2)) h h0
    exact zl_case14 g hs hi hL e1 e2 (k h2 h3)
  | 15, hj =>
    cases hj
    obtain ⟨r, h1, h2, e1, e2, h3⟩ := hI.2.2.2.2.2.2.2.2.2.2.2.2.2.2.2.1 (xs (i + 1)) h h0
    exact zl_case15 g hs hi hL e1 e2 (k h2 h3)
  | 16, hj =>
    cases hj
    obtain ⟨r, h1, h2, e1, e2, h3⟩ := hI.2.2.2.2.2.2.2.2.2.2.2.2.2.2.2.2.1 (xs (i + 1)) (xs (i + 2)) h h0
    exact zl_case16 g hs hi hL e1 e2 (k h2 h3)
  | 17, hj =>
    cases hj
    obtain ⟨r, h1, h2, e1, e2, h3⟩ := hI.2.2.2.2.2.2.2.2.2.2.2.2.2.2.2.2.2.1 (xs (i + 1)) (xs (i + 2)) h h0
    exact zl_case17 g hs hi hL e1 e2 (k h2 h3)
  | 18, hj =>
    cases hj
    obtain ⟨r, h1, h2, e1, e2, h3⟩ := hI.2.2.2.2.2.2.2.2.2.2.2.2.2.2.2.2.2.2.1 (xs (i + 1)) (xs (i + 2)) (xs (i + 3)) h h0
    exact zl_case18 g hs hi hL e1 e2 (k h2 h3)
  | 19, hj =>
    cases hj
    obtain ⟨r, h1, h2, e1, e2, h3⟩ := hI.2.2.2.2.2.2.2.2.2.2.2.2.2.2.2.2.2.2.2.1 (xs (i + 1)) (xs (i + 2)) h h0
    exact zl_case19 g hs hi hL e1 e2 (k h2 h3)
  | 20, hj =>
    cases hj
    obtain ⟨r, h1, h2, e1, e2, h3⟩ := hI.2.2.2.2.2.2.2.2.2.2.2.2.2.2.2.2.2.2.2.2.1 h h0
    exact zl_case20 g hs hi hL e1 e2 (k h2 h3)
  | 21, hj =>
    cases hj
    obtain ⟨r, h1, h2, e1, e2, h3⟩ := hI.2.2.2.2.2.2.2.2.2.2.2.2.2.2.2.2.2.2.2.2.2.1 (xs (i + 1)) (xs (i + 2)) (xs (i + 3)) h h0
    exact zl_case21 g hs hi hL e1 e2 (k h2 h3)
  | 22, hj =>
    cases hj
    obtain ⟨r, h1, h2, e1, e2, h3⟩ := hI.2.2.2.2.2.2.2.2.2.2.2.2.2.2.2.2.2.2.2.2.2.2.1 (xs (i + 1)) (xs (i + 2)) (xs (i + 3)) (xs (i + 4)) h h0
    exact zl_case22 g hs hi hL e1 e2 (k h2 h3)
  | 23, hj =>
    cases hj
    obtain ⟨r, h1, h2, e1, e2, h3⟩ := hI.2.2.2.2.2.2.2.2.2.2.2.2.2.2.2.2.2.2.2.2.2.2.2.1 (xs (i + 1)) h h0
    exact zl_case23 g hs hi hL e1 e2 (k h2 h3)
  | 24, hj =>
    cases hj
    obtain ⟨r, h1, h2, e1, e2, h3⟩ := hI.2.2.2.2.2.2.2.2.2.2.2.2.2.2.2.2.2.2.2.2.2.2.2.2.1 h h0
    exact zl_case24 g hs hi hL e1 e2 (k h2 h3)
  | 25, hj =>
    cases hj
    obtain ⟨r, h1, h2, e1, e2, h3⟩ := hI.2.2.2.2.2.2.2.2.2.2.2.2.2.2.2.2.2.2.2.2.2.2.2.2.2.1 (xs (i + 1)) h h0
    exact zl_case25 g hs hi hL e1 e2 (k h2 h3)
  | 26, hj =>
    cases hj
    obtain ⟨r, h1, h2, e1, e2, h3⟩ := hI.2.2.2.2.2.2.2.2.2.2.2.2.2.2.2.2.2.2.2.2.2.2.2.2.2.2.1 h h0
    exact zl_case26 g hs hi hL e1 e2 (k h2 h3)
  | 27, hj =>
    cases hj
    obtain ⟨r, h1, h2, e1, e2, h3⟩ := hI.2.2.2.2.2.2.2.2.2.2.2.2.2.2.2.2.2.2.2.2.2.2.2.2.2.2.2 h h0
    exact zl_case27 g hs hi hL e1 e2 (k h2 h3)
  | n + 28, hj => simp at hj
