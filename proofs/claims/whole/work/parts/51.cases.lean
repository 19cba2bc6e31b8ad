/-! the law: each call of both, and the answers held against each other -/
set_option maxHeartbeats 4000000 in
set_option maxRecDepth 100000 in
theorem l_feed {E : Ev} {X : Cx} {Q : State → Prop} {b L t : Nat} {xs : Nat → Int32} {σ : Sg} (hX : ScrA E X b L xs) (hL : L ≤ 256) (ht : 4 * t + 4 ≤ L) (h : RS (1500 * t) σ) (ih : ∀ σ2, RS (1500 * t + 1500) σ2 → V E X room_1 RL code 4 ret 146 3933 Q false 146 18 [(0, .ref b), (1, .ref (Ez E + 0)), (2, .ref (Ez E + 132)), (3, .int (nI (4 * t + 4)))] [] (cellOf E σ2)) : V E X room_1 RL code 4 ret 146 3933 Q false 146 172 [(0, .ref b), (1, .ref (Ez E + 0)), (2, .ref (Ez E + 132)), (3, .int (nI (4 * t)))] [] (cellOf E σ) := by
  obtain ⟨v, σ1, hC, post, hM, hA⟩ := t_feed (E := E) h (by omega) (xs (nI (4 * t + 1)).toNatClampNeg)
  obtain ⟨f1, e1⟩ := oC E σ
  obtain ⟨f2, e2⟩ := oM E σ1
  refine v_aload_n (pc := 172) 1 dL_law_172 rfl rfl ?_
  refine v_aload_n (pc := 173) 0 dL_law_173 rfl rfl ?_
  refine v_iload_n (pc := 174) 3 dL_law_174 rfl rfl ?_
  refine v_iconst (pc := 175) (nI 1) dL_law_175 kI_1 ?_
  refine v_iaddN (pc := 176) dL_law_176 ?_
  refine v_sld (pc := 177) hX (vp_in_nI (by omega) (by omega)) dL_law_177 ?_
  refine v_callV (pc := 178) _ _ k_L_13 e1 rfl (by omega) hC ⟨rfl, rfl, by decide⟩ rfl rfl (Nat.le_of_ble_eq_true rfl) ⟨Nat.le_of_ble_eq_true rfl, Nat.le_of_ble_eq_true rfl⟩ dL_law_178 (unS ?_)
  show V E X _ RL _ _ _ 146 3933 _ false 146 181 _ [_] _
  refine v_aload_n (pc := 181) 2 dL_law_181 rfl rfl ?_
  refine v_aload_n (pc := 182) 0 dL_law_182 rfl rfl ?_
  refine v_iload_n (pc := 183) 3 dL_law_183 rfl rfl ?_
  refine v_iconst (pc := 184) (nI 1) dL_law_184 kI_1 ?_
  refine v_iaddN (pc := 185) dL_law_185 ?_
  refine v_sld (pc := 186) hX (vp_in_nI (by omega) (by omega)) dL_law_186 ?_
  refine v_callV (pc := 187) _ _ k_L_17 e2 rfl (by omega) hM ⟨rfl, rfl, by decide⟩ rfl rfl (Nat.le_of_ble_eq_true rfl) ⟨Nat.le_of_ble_eq_true rfl, Nat.le_of_ble_eq_true rfl⟩ dL_law_187 (fun r h2 q => ?_)
  obtain ⟨rfl, σ2, rfl, hR⟩ := hA r h2 q
  show V E X _ RL _ _ _ 146 3933 _ false 146 190 _ [_, _] _
  refine v_icmp_eq (pc := 190) (tgt := 1027) dL_law_190 rfl (fun _ => ?_) (fun c_ => absurd rfl c_)
  refine v_iincN (pc := 1027) 3 [1, 2, 3, 0] [(0, _), (1, _), (2, _), (3, _)] kI_4 dL_law_1027 rfl (by decide) rfl ?_
  refine v_goto (pc := 1030) (tgt := 18) dL_law_1030 rfl ?_
  exact ih σ2 hR
set_option maxHeartbeats 4000000 in
set_option maxRecDepth 100000 in
theorem l_parish {E : Ev} {X : Cx} {Q : State → Prop} {b L t : Nat} {xs : Nat → Int32} {σ : Sg} (hX : ScrA E X b L xs) (hL : L ≤ 256) (ht : 4 * t + 4 ≤ L) (h : RS (1500 * t) σ) (ih : ∀ σ2, RS (1500 * t + 1500) σ2 → V E X room_1 RL code 4 ret 146 3933 Q false 146 18 [(0, .ref b), (1, .ref (Ez E + 0)), (2, .ref (Ez E + 132)), (3, .int (nI (4 * t + 4)))] [] (cellOf E σ2)) : V E X room_1 RL code 4 ret 146 3933 Q false 146 195 [(0, .ref b), (1, .ref (Ez E + 0)), (2, .ref (Ez E + 132)), (3, .int (nI (4 * t)))] [] (cellOf E σ) := by
  obtain ⟨v, σ1, hC, post, hM, hA⟩ := t_parish (E := E) h (by omega) 
  obtain ⟨f1, e1⟩ := oC E σ
  obtain ⟨f2, e2⟩ := oM E σ1
  refine v_aload_n (pc := 195) 1 dL_law_195 rfl rfl ?_
  refine v_callV (pc := 196) _ _ k_L_18 e1 rfl (by omega) hC ⟨rfl, rfl, by decide⟩ rfl rfl (Nat.le_of_ble_eq_true rfl) ⟨Nat.le_of_ble_eq_true rfl, Nat.le_of_ble_eq_true rfl⟩ dL_law_196 (unS ?_)
  show V E X _ RL _ _ _ 146 3933 _ false 146 199 _ [_] _
  refine v_aload_n (pc := 199) 2 dL_law_199 rfl rfl ?_
  refine v_callV (pc := 200) _ _ k_L_22 e2 rfl (by omega) hM ⟨rfl, rfl, by decide⟩ rfl rfl (Nat.le_of_ble_eq_true rfl) ⟨Nat.le_of_ble_eq_true rfl, Nat.le_of_ble_eq_true rfl⟩ dL_law_200 (fun r h2 q => ?_)
  obtain ⟨rfl, σ2, rfl, hR⟩ := hA r h2 q
  show V E X _ RL _ _ _ 146 3933 _ false 146 203 _ [_, _] _
  refine v_icmp_eq (pc := 203) (tgt := 1027) dL_law_203 rfl (fun _ => ?_) (fun c_ => absurd rfl c_)
  refine v_iincN (pc := 1027) 3 [1, 2, 3, 0] [(0, _), (1, _), (2, _), (3, _)] kI_4 dL_law_1027 rfl (by decide) rfl ?_
  refine v_goto (pc := 1030) (tgt := 18) dL_law_1030 rfl ?_
  exact ih σ2 hR
set_option maxHeartbeats 4000000 in
set_option maxRecDepth 100000 in
theorem l_fault {E : Ev} {X : Cx} {Q : State → Prop} {b L t : Nat} {xs : Nat → Int32} {σ : Sg} (hX : ScrA E X b L xs) (hL : L ≤ 256) (ht : 4 * t + 4 ≤ L) (h : RS (1500 * t) σ) (ih : ∀ σ2, RS (1500 * t + 1500) σ2 → V E X room_1 RL code 4 ret 146 3933 Q false 146 18 [(0, .ref b), (1, .ref (Ez E + 0)), (2, .ref (Ez E + 132)), (3, .int (nI (4 * t + 4)))] [] (cellOf E σ2)) : V E X room_1 RL code 4 ret 146 3933 Q false 146 208 [(0, .ref b), (1, .ref (Ez E + 0)), (2, .ref (Ez E + 132)), (3, .int (nI (4 * t)))] [] (cellOf E σ) := by
  obtain ⟨v, σ1, hC, post, hM, hA⟩ := t_fault (E := E) h (by omega) 
  obtain ⟨f1, e1⟩ := oC E σ
  obtain ⟨f2, e2⟩ := oM E σ1
  refine v_aload_n (pc := 208) 1 dL_law_208 rfl rfl ?_
  refine v_callV (pc := 209) _ _ k_L_23 e1 rfl (by omega) hC ⟨rfl, rfl, by decide⟩ rfl rfl (Nat.le_of_ble_eq_true rfl) ⟨Nat.le_of_ble_eq_true rfl, Nat.le_of_ble_eq_true rfl⟩ dL_law_209 (unS ?_)
  show V E X _ RL _ _ _ 146 3933 _ false 146 212 _ [_] _
  refine v_aload_n (pc := 212) 2 dL_law_212 rfl rfl ?_
  refine v_callV (pc := 213) _ _ k_L_26 e2 rfl (by omega) hM ⟨rfl, rfl, by decide⟩ rfl rfl (Nat.le_of_ble_eq_true rfl) ⟨Nat.le_of_ble_eq_true rfl, Nat.le_of_ble_eq_true rfl⟩ dL_law_213 (fun r h2 q => ?_)
  obtain ⟨rfl, σ2, rfl, hR⟩ := hA r h2 q
  show V E X _ RL _ _ _ 146 3933 _ false 146 216 _ [_, _] _
  refine v_icmp_eq (pc := 216) (tgt := 1027) dL_law_216 rfl (fun _ => ?_) (fun c_ => absurd rfl c_)
  refine v_iincN (pc := 1027) 3 [1, 2, 3, 0] [(0, _), (1, _), (2, _), (3, _)] kI_4 dL_law_1027 rfl (by decide) rfl ?_
  refine v_goto (pc := 1030) (tgt := 18) dL_law_1030 rfl ?_
  exact ih σ2 hR
set_option maxHeartbeats 4000000 in
set_option maxRecDepth 100000 in
theorem l_told {E : Ev} {X : Cx} {Q : State → Prop} {b L t : Nat} {xs : Nat → Int32} {σ : Sg} (hX : ScrA E X b L xs) (hL : L ≤ 256) (ht : 4 * t + 4 ≤ L) (h : RS (1500 * t) σ) (ih : ∀ σ2, RS (1500 * t + 1500) σ2 → V E X room_1 RL code 4 ret 146 3933 Q false 146 18 [(0, .ref b), (1, .ref (Ez E + 0)), (2, .ref (Ez E + 132)), (3, .int (nI (4 * t + 4)))] [] (cellOf E σ2)) : V E X room_1 RL code 4 ret 146 3933 Q false 146 221 [(0, .ref b), (1, .ref (Ez E + 0)), (2, .ref (Ez E + 132)), (3, .int (nI (4 * t)))] [] (cellOf E σ) := by
  obtain ⟨v, σ1, hC, post, hM, hA⟩ := t_told (E := E) h (by omega) (xs (nI (4 * t + 1)).toNatClampNeg)
  obtain ⟨f1, e1⟩ := oC E σ
  obtain ⟨f2, e2⟩ := oM E σ1
  refine v_aload_n (pc := 221) 1 dL_law_221 rfl rfl ?_
  refine v_aload_n (pc := 222) 0 dL_law_222 rfl rfl ?_
  refine v_iload_n (pc := 223) 3 dL_law_223 rfl rfl ?_
  refine v_iconst (pc := 224) (nI 1) dL_law_224 kI_1 ?_
  refine v_iaddN (pc := 225) dL_law_225 ?_
  refine v_sld (pc := 226) hX (vp_in_nI (by omega) (by omega)) dL_law_226 ?_
  refine v_callV (pc := 227) _ _ k_L_27 e1 rfl (by omega) hC ⟨rfl, rfl, by decide⟩ rfl rfl (Nat.le_of_ble_eq_true rfl) ⟨Nat.le_of_ble_eq_true rfl, Nat.le_of_ble_eq_true rfl⟩ dL_law_227 (unS ?_)
  show V E X _ RL _ _ _ 146 3933 _ false 146 230 _ [_] _
  refine v_aload_n (pc := 230) 2 dL_law_230 rfl rfl ?_
  refine v_aload_n (pc := 231) 0 dL_law_231 rfl rfl ?_
  refine v_iload_n (pc := 232) 3 dL_law_232 rfl rfl ?_
  refine v_iconst (pc := 233) (nI 1) dL_law_233 kI_1 ?_
  refine v_iaddN (pc := 234) dL_law_234 ?_
  refine v_sld (pc := 235) hX (vp_in_nI (by omega) (by omega)) dL_law_235 ?_
  refine v_callV (pc := 236) _ _ k_L_30 e2 rfl (by omega) hM ⟨rfl, rfl, by decide⟩ rfl rfl (Nat.le_of_ble_eq_true rfl) ⟨Nat.le_of_ble_eq_true rfl, Nat.le_of_ble_eq_true rfl⟩ dL_law_236 (fun r h2 q => ?_)
  obtain ⟨rfl, σ2, rfl, hR⟩ := hA r h2 q
  show V E X _ RL _ _ _ 146 3933 _ false 146 239 _ [_, _] _
  refine v_icmp_eq (pc := 239) (tgt := 1027) dL_law_239 rfl (fun _ => ?_) (fun c_ => absurd rfl c_)
  refine v_iincN (pc := 1027) 3 [1, 2, 3, 0] [(0, _), (1, _), (2, _), (3, _)] kI_4 dL_law_1027 rfl (by decide) rfl ?_
  refine v_goto (pc := 1030) (tgt := 18) dL_law_1030 rfl ?_
  exact ih σ2 hR
set_option maxHeartbeats 4000000 in
set_option maxRecDepth 100000 in
theorem l_person {E : Ev} {X : Cx} {Q : State → Prop} {b L t : Nat} {xs : Nat → Int32} {σ : Sg} (hX : ScrA E X b L xs) (hL : L ≤ 256) (ht : 4 * t + 4 ≤ L) (h : RS (1500 * t) σ) (ih : ∀ σ2, RS (1500 * t + 1500) σ2 → V E X room_1 RL code 4 ret 146 3933 Q false 146 18 [(0, .ref b), (1, .ref (Ez E + 0)), (2, .ref (Ez E + 132)), (3, .int (nI (4 * t + 4)))] [] (cellOf E σ2)) : V E X room_1 RL code 4 ret 146 3933 Q false 146 244 [(0, .ref b), (1, .ref (Ez E + 0)), (2, .ref (Ez E + 132)), (3, .int (nI (4 * t)))] [] (cellOf E σ) := by
  obtain ⟨v, σ1, hC, post, hM, hA⟩ := t_person (E := E) h (by omega) (xs (nI (4 * t + 1)).toNatClampNeg) (xs (nI (4 * t + 2)).toNatClampNeg)
  obtain ⟨f1, e1⟩ := oC E σ
  obtain ⟨f2, e2⟩ := oM E σ1
  refine v_aload_n (pc := 244) 1 dL_law_244 rfl rfl ?_
  refine v_aload_n (pc := 245) 0 dL_law_245 rfl rfl ?_
  refine v_iload_n (pc := 246) 3 dL_law_246 rfl rfl ?_
  refine v_iconst (pc := 247) (nI 1) dL_law_247 kI_1 ?_
  refine v_iaddN (pc := 248) dL_law_248 ?_
  refine v_sld (pc := 249) hX (vp_in_nI (by omega) (by omega)) dL_law_249 ?_
  refine v_aload_n (pc := 250) 0 dL_law_250 rfl rfl ?_
  refine v_iload_n (pc := 251) 3 dL_law_251 rfl rfl ?_
  refine v_iconst (pc := 252) (nI 2) dL_law_252 kI_2 ?_
  refine v_iaddN (pc := 253) dL_law_253 ?_
  refine v_sld (pc := 254) hX (vp_in_nI (by omega) (by omega)) dL_law_254 ?_
  refine v_callV (pc := 255) _ _ k_L_31 e1 rfl (by omega) hC ⟨rfl, rfl, by decide⟩ rfl rfl (Nat.le_of_ble_eq_true rfl) ⟨Nat.le_of_ble_eq_true rfl, Nat.le_of_ble_eq_true rfl⟩ dL_law_255 (unS ?_)
  show V E X _ RL _ _ _ 146 3933 _ false 146 258 _ [_] _
  refine v_aload_n (pc := 258) 2 dL_law_258 rfl rfl ?_
  refine v_aload_n (pc := 259) 0 dL_law_259 rfl rfl ?_
  refine v_iload_n (pc := 260) 3 dL_law_260 rfl rfl ?_
  refine v_iconst (pc := 261) (nI 1) dL_law_261 kI_1 ?_
  refine v_iaddN (pc := 262) dL_law_262 ?_
  refine v_sld (pc := 263) hX (vp_in_nI (by omega) (by omega)) dL_law_263 ?_
  refine v_aload_n (pc := 264) 0 dL_law_264 rfl rfl ?_
  refine v_iload_n (pc := 265) 3 dL_law_265 rfl rfl ?_
  refine v_iconst (pc := 266) (nI 2) dL_law_266 kI_2 ?_
  refine v_iaddN (pc := 267) dL_law_267 ?_
  refine v_sld (pc := 268) hX (vp_in_nI (by omega) (by omega)) dL_law_268 ?_
  refine v_callV (pc := 269) _ _ k_L_35 e2 rfl (by omega) hM ⟨rfl, rfl, by decide⟩ rfl rfl (Nat.le_of_ble_eq_true rfl) ⟨Nat.le_of_ble_eq_true rfl, Nat.le_of_ble_eq_true rfl⟩ dL_law_269 (fun r h2 q => ?_)
  obtain ⟨rfl, σ2, rfl, hR⟩ := hA r h2 q
  show V E X _ RL _ _ _ 146 3933 _ false 146 272 _ [_, _] _
  refine v_icmp_eq (pc := 272) (tgt := 1027) dL_law_272 rfl (fun _ => ?_) (fun c_ => absurd rfl c_)
  refine v_iincN (pc := 1027) 3 [1, 2, 3, 0] [(0, _), (1, _), (2, _), (3, _)] kI_4 dL_law_1027 rfl (by decide) rfl ?_
  refine v_goto (pc := 1030) (tgt := 18) dL_law_1030 rfl ?_
  exact ih σ2 hR
set_option maxHeartbeats 4000000 in
set_option maxRecDepth 100000 in
theorem l_debt {E : Ev} {X : Cx} {Q : State → Prop} {b L t : Nat} {xs : Nat → Int32} {σ : Sg} (hX : ScrA E X b L xs) (hL : L ≤ 256) (ht : 4 * t + 4 ≤ L) (h : RS (1500 * t) σ) (ih : ∀ σ2, RS (1500 * t + 1500) σ2 → V E X room_1 RL code 4 ret 146 3933 Q false 146 18 [(0, .ref b), (1, .ref (Ez E + 0)), (2, .ref (Ez E + 132)), (3, .int (nI (4 * t + 4)))] [] (cellOf E σ2)) : V E X room_1 RL code 4 ret 146 3933 Q false 146 277 [(0, .ref b), (1, .ref (Ez E + 0)), (2, .ref (Ez E + 132)), (3, .int (nI (4 * t)))] [] (cellOf E σ) := by
  obtain ⟨v, σ1, hC, post, hM, hA⟩ := t_debt (E := E) h (by omega) (xs (nI (4 * t + 1)).toNatClampNeg) (xs (nI (4 * t + 2)).toNatClampNeg)
  obtain ⟨f1, e1⟩ := oC E σ
  obtain ⟨f2, e2⟩ := oM E σ1
  refine v_aload_n (pc := 277) 1 dL_law_277 rfl rfl ?_
  refine v_aload_n (pc := 278) 0 dL_law_278 rfl rfl ?_
  refine v_iload_n (pc := 279) 3 dL_law_279 rfl rfl ?_
  refine v_iconst (pc := 280) (nI 1) dL_law_280 kI_1 ?_
  refine v_iaddN (pc := 281) dL_law_281 ?_
  refine v_sld (pc := 282) hX (vp_in_nI (by omega) (by omega)) dL_law_282 ?_
  refine v_aload_n (pc := 283) 0 dL_law_283 rfl rfl ?_
  refine v_iload_n (pc := 284) 3 dL_law_284 rfl rfl ?_
  refine v_iconst (pc := 285) (nI 2) dL_law_285 kI_2 ?_
  refine v_iaddN (pc := 286) dL_law_286 ?_
  refine v_sld (pc := 287) hX (vp_in_nI (by omega) (by omega)) dL_law_287 ?_
  refine v_callV (pc := 288) _ _ k_L_36 e1 rfl (by omega) hC ⟨rfl, rfl, by decide⟩ rfl rfl (Nat.le_of_ble_eq_true rfl) ⟨Nat.le_of_ble_eq_true rfl, Nat.le_of_ble_eq_true rfl⟩ dL_law_288 (unS ?_)
  show V E X _ RL _ _ _ 146 3933 _ false 146 291 _ [_] _
  refine v_aload_n (pc := 291) 2 dL_law_291 rfl rfl ?_
  refine v_aload_n (pc := 292) 0 dL_law_292 rfl rfl ?_
  refine v_iload_n (pc := 293) 3 dL_law_293 rfl rfl ?_
  refine v_iconst (pc := 294) (nI 1) dL_law_294 kI_1 ?_
  refine v_iaddN (pc := 295) dL_law_295 ?_
  refine v_sld (pc := 296) hX (vp_in_nI (by omega) (by omega)) dL_law_296 ?_
  refine v_aload_n (pc := 297) 0 dL_law_297 rfl rfl ?_
  refine v_iload_n (pc := 298) 3 dL_law_298 rfl rfl ?_
  refine v_iconst (pc := 299) (nI 2) dL_law_299 kI_2 ?_
  refine v_iaddN (pc := 300) dL_law_300 ?_
  refine v_sld (pc := 301) hX (vp_in_nI (by omega) (by omega)) dL_law_301 ?_
  refine v_callV (pc := 302) _ _ k_L_39 e2 rfl (by omega) hM ⟨rfl, rfl, by decide⟩ rfl rfl (Nat.le_of_ble_eq_true rfl) ⟨Nat.le_of_ble_eq_true rfl, Nat.le_of_ble_eq_true rfl⟩ dL_law_302 (fun r h2 q => ?_)
  obtain ⟨rfl, σ2, rfl, hR⟩ := hA r h2 q
  show V E X _ RL _ _ _ 146 3933 _ false 146 305 _ [_, _] _
  refine v_icmp_eq (pc := 305) (tgt := 1027) dL_law_305 rfl (fun _ => ?_) (fun c_ => absurd rfl c_)
  refine v_iincN (pc := 1027) 3 [1, 2, 3, 0] [(0, _), (1, _), (2, _), (3, _)] kI_4 dL_law_1027 rfl (by decide) rfl ?_
  refine v_goto (pc := 1030) (tgt := 18) dL_law_1030 rfl ?_
  exact ih σ2 hR
set_option maxHeartbeats 4000000 in
set_option maxRecDepth 100000 in
theorem l_trace {E : Ev} {X : Cx} {Q : State → Prop} {b L t : Nat} {xs : Nat → Int32} {σ : Sg} (hX : ScrA E X b L xs) (hL : L ≤ 256) (ht : 4 * t + 4 ≤ L) (h : RS (1500 * t) σ) (ih : ∀ σ2, RS (1500 * t + 1500) σ2 → V E X room_1 RL code 4 ret 146 3933 Q false 146 18 [(0, .ref b), (1, .ref (Ez E + 0)), (2, .ref (Ez E + 132)), (3, .int (nI (4 * t + 4)))] [] (cellOf E σ2)) : V E X room_1 RL code 4 ret 146 3933 Q false 146 310 [(0, .ref b), (1, .ref (Ez E + 0)), (2, .ref (Ez E + 132)), (3, .int (nI (4 * t)))] [] (cellOf E σ) := by
  obtain ⟨v, σ1, hC, post, hM, hA⟩ := t_trace (E := E) h (by omega) (xs (nI (4 * t + 1)).toNatClampNeg)
  obtain ⟨f1, e1⟩ := oC E σ
  obtain ⟨f2, e2⟩ := oM E σ1
  refine v_aload_n (pc := 310) 1 dL_law_310 rfl rfl ?_
  refine v_aload_n (pc := 311) 0 dL_law_311 rfl rfl ?_
  refine v_iload_n (pc := 312) 3 dL_law_312 rfl rfl ?_
  refine v_iconst (pc := 313) (nI 1) dL_law_313 kI_1 ?_
  refine v_iaddN (pc := 314) dL_law_314 ?_
  refine v_sld (pc := 315) hX (vp_in_nI (by omega) (by omega)) dL_law_315 ?_
  refine v_callV (pc := 316) _ _ k_L_40 e1 rfl (by omega) hC ⟨rfl, rfl, by decide⟩ rfl rfl (Nat.le_of_ble_eq_true rfl) ⟨Nat.le_of_ble_eq_true rfl, Nat.le_of_ble_eq_true rfl⟩ dL_law_316 (unS ?_)
  show V E X _ RL _ _ _ 146 3933 _ false 146 319 _ [_] _
  refine v_aload_n (pc := 319) 2 dL_law_319 rfl rfl ?_
  refine v_aload_n (pc := 320) 0 dL_law_320 rfl rfl ?_
  refine v_iload_n (pc := 321) 3 dL_law_321 rfl rfl ?_
  refine v_iconst (pc := 322) (nI 1) dL_law_322 kI_1 ?_
  refine v_iaddN (pc := 323) dL_law_323 ?_
  refine v_sld (pc := 324) hX (vp_in_nI (by omega) (by omega)) dL_law_324 ?_
  refine v_callV (pc := 325) _ _ k_L_43 e2 rfl (by omega) hM ⟨rfl, rfl, by decide⟩ rfl rfl (Nat.le_of_ble_eq_true rfl) ⟨Nat.le_of_ble_eq_true rfl, Nat.le_of_ble_eq_true rfl⟩ dL_law_325 (fun r h2 q => ?_)
  obtain ⟨rfl, σ2, rfl, hR⟩ := hA r h2 q
  show V E X _ RL _ _ _ 146 3933 _ false 146 328 _ [_, _] _
  refine v_icmp_eq (pc := 328) (tgt := 1027) dL_law_328 rfl (fun _ => ?_) (fun c_ => absurd rfl c_)
  refine v_iincN (pc := 1027) 3 [1, 2, 3, 0] [(0, _), (1, _), (2, _), (3, _)] kI_4 dL_law_1027 rfl (by decide) rfl ?_
  refine v_goto (pc := 1030) (tgt := 18) dL_law_1030 rfl ?_
  exact ih σ2 hR
set_option maxHeartbeats 4000000 in
set_option maxRecDepth 100000 in
theorem l_count {E : Ev} {X : Cx} {Q : State → Prop} {b L t : Nat} {xs : Nat → Int32} {σ : Sg} (hX : ScrA E X b L xs) (hL : L ≤ 256) (ht : 4 * t + 4 ≤ L) (h : RS (1500 * t) σ) (ih : ∀ σ2, RS (1500 * t + 1500) σ2 → V E X room_1 RL code 4 ret 146 3933 Q false 146 18 [(0, .ref b), (1, .ref (Ez E + 0)), (2, .ref (Ez E + 132)), (3, .int (nI (4 * t + 4)))] [] (cellOf E σ2)) : V E X room_1 RL code 4 ret 146 3933 Q false 146 333 [(0, .ref b), (1, .ref (Ez E + 0)), (2, .ref (Ez E + 132)), (3, .int (nI (4 * t)))] [] (cellOf E σ) := by
  obtain ⟨v, σ1, hC, post, hM, hA⟩ := t_count (E := E) h (by omega) (xs (nI (4 * t + 1)).toNatClampNeg) (xs (nI (4 * t + 2)).toNatClampNeg)
  obtain ⟨f1, e1⟩ := oC E σ
  obtain ⟨f2, e2⟩ := oM E σ1
  refine v_aload_n (pc := 333) 1 dL_law_333 rfl rfl ?_
  refine v_aload_n (pc := 334) 0 dL_law_334 rfl rfl ?_
  refine v_iload_n (pc := 335) 3 dL_law_335 rfl rfl ?_
  refine v_iconst (pc := 336) (nI 1) dL_law_336 kI_1 ?_
  refine v_iaddN (pc := 337) dL_law_337 ?_
  refine v_sld (pc := 338) hX (vp_in_nI (by omega) (by omega)) dL_law_338 ?_
  refine v_aload_n (pc := 339) 0 dL_law_339 rfl rfl ?_
  refine v_iload_n (pc := 340) 3 dL_law_340 rfl rfl ?_
  refine v_iconst (pc := 341) (nI 2) dL_law_341 kI_2 ?_
  refine v_iaddN (pc := 342) dL_law_342 ?_
  refine v_sld (pc := 343) hX (vp_in_nI (by omega) (by omega)) dL_law_343 ?_
  refine v_callV (pc := 344) _ _ k_L_44 e1 rfl (by omega) hC ⟨rfl, rfl, by decide⟩ rfl rfl (Nat.le_of_ble_eq_true rfl) ⟨Nat.le_of_ble_eq_true rfl, Nat.le_of_ble_eq_true rfl⟩ dL_law_344 (unS ?_)
  show V E X _ RL _ _ _ 146 3933 _ false 146 347 _ [_] _
  refine v_aload_n (pc := 347) 2 dL_law_347 rfl rfl ?_
  refine v_aload_n (pc := 348) 0 dL_law_348 rfl rfl ?_
  refine v_iload_n (pc := 349) 3 dL_law_349 rfl rfl ?_
  refine v_iconst (pc := 350) (nI 1) dL_law_350 kI_1 ?_
  refine v_iaddN (pc := 351) dL_law_351 ?_
  refine v_sld (pc := 352) hX (vp_in_nI (by omega) (by omega)) dL_law_352 ?_
  refine v_aload_n (pc := 353) 0 dL_law_353 rfl rfl ?_
  refine v_iload_n (pc := 354) 3 dL_law_354 rfl rfl ?_
  refine v_iconst (pc := 355) (nI 2) dL_law_355 kI_2 ?_
  refine v_iaddN (pc := 356) dL_law_356 ?_
  refine v_sld (pc := 357) hX (vp_in_nI (by omega) (by omega)) dL_law_357 ?_
  refine v_callV (pc := 358) _ _ k_L_47 e2 rfl (by omega) hM ⟨rfl, rfl, by decide⟩ rfl rfl (Nat.le_of_ble_eq_true rfl) ⟨Nat.le_of_ble_eq_true rfl, Nat.le_of_ble_eq_true rfl⟩ dL_law_358 (fun r h2 q => ?_)
  obtain ⟨rfl, σ2, rfl, hR⟩ := hA r h2 q
  show V E X _ RL _ _ _ 146 3933 _ false 146 361 _ [_, _] _
  refine v_icmp_eq (pc := 361) (tgt := 1027) dL_law_361 rfl (fun _ => ?_) (fun c_ => absurd rfl c_)
  refine v_iincN (pc := 1027) 3 [1, 2, 3, 0] [(0, _), (1, _), (2, _), (3, _)] kI_4 dL_law_1027 rfl (by decide) rfl ?_
  refine v_goto (pc := 1030) (tgt := 18) dL_law_1030 rfl ?_
  exact ih σ2 hR
set_option maxHeartbeats 4000000 in
set_option maxRecDepth 100000 in
theorem l_pay {E : Ev} {X : Cx} {Q : State → Prop} {b L t : Nat} {xs : Nat → Int32} {σ : Sg} (hX : ScrA E X b L xs) (hL : L ≤ 256) (ht : 4 * t + 4 ≤ L) (h : RS (1500 * t) σ) (ih : ∀ σ2, RS (1500 * t + 1500) σ2 → V E X room_1 RL code 4 ret 146 3933 Q false 146 18 [(0, .ref b), (1, .ref (Ez E + 0)), (2, .ref (Ez E + 132)), (3, .int (nI (4 * t + 4)))] [] (cellOf E σ2)) : V E X room_1 RL code 4 ret 146 3933 Q false 146 366 [(0, .ref b), (1, .ref (Ez E + 0)), (2, .ref (Ez E + 132)), (3, .int (nI (4 * t)))] [] (cellOf E σ) := by
  obtain ⟨v, σ1, hC, post, hM, hA⟩ := t_pay (E := E) h (by omega) (xs (nI (4 * t + 1)).toNatClampNeg) (xs (nI (4 * t + 2)).toNatClampNeg) (xs (nI (4 * t + 3)).toNatClampNeg)
  obtain ⟨f1, e1⟩ := oC E σ
  obtain ⟨f2, e2⟩ := oM E σ1
  refine v_aload_n (pc := 366) 1 dL_law_366 rfl rfl ?_
  refine v_aload_n (pc := 367) 0 dL_law_367 rfl rfl ?_
  refine v_iload_n (pc := 368) 3 dL_law_368 rfl rfl ?_
  refine v_iconst (pc := 369) (nI 1) dL_law_369 kI_1 ?_
  refine v_iaddN (pc := 370) dL_law_370 ?_
  refine v_sld (pc := 371) hX (vp_in_nI (by omega) (by omega)) dL_law_371 ?_
  refine v_aload_n (pc := 372) 0 dL_law_372 rfl rfl ?_
  refine v_iload_n (pc := 373) 3 dL_law_373 rfl rfl ?_
  refine v_iconst (pc := 374) (nI 2) dL_law_374 kI_2 ?_
  refine v_iaddN (pc := 375) dL_law_375 ?_
  refine v_sld (pc := 376) hX (vp_in_nI (by omega) (by omega)) dL_law_376 ?_
  refine v_aload_n (pc := 377) 0 dL_law_377 rfl rfl ?_
  refine v_iload_n (pc := 378) 3 dL_law_378 rfl rfl ?_
  refine v_iconst (pc := 379) (nI 3) dL_law_379 kI_3 ?_
  refine v_iaddN (pc := 380) dL_law_380 ?_
  refine v_sld (pc := 381) hX (vp_in_nI (by omega) (by omega)) dL_law_381 ?_
  refine v_callV (pc := 382) _ _ k_L_48 e1 rfl (by omega) hC ⟨rfl, rfl, by decide⟩ rfl rfl (Nat.le_of_ble_eq_true rfl) ⟨Nat.le_of_ble_eq_true rfl, Nat.le_of_ble_eq_true rfl⟩ dL_law_382 (unS ?_)
  show V E X _ RL _ _ _ 146 3933 _ false 146 385 _ [_] _
  refine v_aload_n (pc := 385) 2 dL_law_385 rfl rfl ?_
  refine v_aload_n (pc := 386) 0 dL_law_386 rfl rfl ?_
  refine v_iload_n (pc := 387) 3 dL_law_387 rfl rfl ?_
  refine v_iconst (pc := 388) (nI 1) dL_law_388 kI_1 ?_
  refine v_iaddN (pc := 389) dL_law_389 ?_
  refine v_sld (pc := 390) hX (vp_in_nI (by omega) (by omega)) dL_law_390 ?_
  refine v_aload_n (pc := 391) 0 dL_law_391 rfl rfl ?_
  refine v_iload_n (pc := 392) 3 dL_law_392 rfl rfl ?_
  refine v_iconst (pc := 393) (nI 2) dL_law_393 kI_2 ?_
  refine v_iaddN (pc := 394) dL_law_394 ?_
  refine v_sld (pc := 395) hX (vp_in_nI (by omega) (by omega)) dL_law_395 ?_
  refine v_aload_n (pc := 396) 0 dL_law_396 rfl rfl ?_
  refine v_iload_n (pc := 397) 3 dL_law_397 rfl rfl ?_
  refine v_iconst (pc := 398) (nI 3) dL_law_398 kI_3 ?_
  refine v_iaddN (pc := 399) dL_law_399 ?_
  refine v_sld (pc := 400) hX (vp_in_nI (by omega) (by omega)) dL_law_400 ?_
  refine v_callV (pc := 401) _ _ k_L_52 e2 rfl (by omega) hM ⟨rfl, rfl, by decide⟩ rfl rfl (Nat.le_of_ble_eq_true rfl) ⟨Nat.le_of_ble_eq_true rfl, Nat.le_of_ble_eq_true rfl⟩ dL_law_401 (fun r h2 q => ?_)
  obtain ⟨rfl, σ2, rfl, hR⟩ := hA r h2 q
  show V E X _ RL _ _ _ 146 3933 _ false 146 404 _ [_, _] _
  refine v_icmp_eq (pc := 404) (tgt := 1027) dL_law_404 rfl (fun _ => ?_) (fun c_ => absurd rfl c_)
  refine v_iincN (pc := 1027) 3 [1, 2, 3, 0] [(0, _), (1, _), (2, _), (3, _)] kI_4 dL_law_1027 rfl (by decide) rfl ?_
  refine v_goto (pc := 1030) (tgt := 18) dL_law_1030 rfl ?_
  exact ih σ2 hR
set_option maxHeartbeats 4000000 in
set_option maxRecDepth 100000 in
theorem l_strew {E : Ev} {X : Cx} {Q : State → Prop} {b L t : Nat} {xs : Nat → Int32} {σ : Sg} (hX : ScrA E X b L xs) (hL : L ≤ 256) (ht : 4 * t + 4 ≤ L) (h : RS (1500 * t) σ) (ih : ∀ σ2, RS (1500 * t + 1500) σ2 → V E X room_1 RL code 4 ret 146 3933 Q false 146 18 [(0, .ref b), (1, .ref (Ez E + 0)), (2, .ref (Ez E + 132)), (3, .int (nI (4 * t + 4)))] [] (cellOf E σ2)) : V E X room_1 RL code 4 ret 146 3933 Q false 146 409 [(0, .ref b), (1, .ref (Ez E + 0)), (2, .ref (Ez E + 132)), (3, .int (nI (4 * t)))] [] (cellOf E σ) := by
  obtain ⟨v, σ1, hC, post, hM, hA⟩ := t_strew (E := E) h (by omega) (xs (nI (4 * t + 1)).toNatClampNeg) (xs (nI (4 * t + 2)).toNatClampNeg)
  obtain ⟨f1, e1⟩ := oC E σ
  obtain ⟨f2, e2⟩ := oM E σ1
  refine v_aload_n (pc := 409) 1 dL_law_409 rfl rfl ?_
  refine v_aload_n (pc := 410) 0 dL_law_410 rfl rfl ?_
  refine v_iload_n (pc := 411) 3 dL_law_411 rfl rfl ?_
  refine v_iconst (pc := 412) (nI 1) dL_law_412 kI_1 ?_
  refine v_iaddN (pc := 413) dL_law_413 ?_
  refine v_sld (pc := 414) hX (vp_in_nI (by omega) (by omega)) dL_law_414 ?_
  refine v_aload_n (pc := 415) 0 dL_law_415 rfl rfl ?_
  refine v_iload_n (pc := 416) 3 dL_law_416 rfl rfl ?_
  refine v_iconst (pc := 417) (nI 2) dL_law_417 kI_2 ?_
  refine v_iaddN (pc := 418) dL_law_418 ?_
  refine v_sld (pc := 419) hX (vp_in_nI (by omega) (by omega)) dL_law_419 ?_
  refine v_callV (pc := 420) _ _ k_L_53 e1 rfl (by omega) hC ⟨rfl, rfl, by decide⟩ rfl rfl (Nat.le_of_ble_eq_true rfl) ⟨Nat.le_of_ble_eq_true rfl, Nat.le_of_ble_eq_true rfl⟩ dL_law_420 (unS ?_)
  show V E X _ RL _ _ _ 146 3933 _ false 146 423 _ [_] _
  refine v_aload_n (pc := 423) 2 dL_law_423 rfl rfl ?_
  refine v_aload_n (pc := 424) 0 dL_law_424 rfl rfl ?_
  refine v_iload_n (pc := 425) 3 dL_law_425 rfl rfl ?_
  refine v_iconst (pc := 426) (nI 1) dL_law_426 kI_1 ?_
  refine v_iaddN (pc := 427) dL_law_427 ?_
  refine v_sld (pc := 428) hX (vp_in_nI (by omega) (by omega)) dL_law_428 ?_
  refine v_aload_n (pc := 429) 0 dL_law_429 rfl rfl ?_
  refine v_iload_n (pc := 430) 3 dL_law_430 rfl rfl ?_
  refine v_iconst (pc := 431) (nI 2) dL_law_431 kI_2 ?_
  refine v_iaddN (pc := 432) dL_law_432 ?_
  refine v_sld (pc := 433) hX (vp_in_nI (by omega) (by omega)) dL_law_433 ?_
  refine v_callV (pc := 434) _ _ k_L_56 e2 rfl (by omega) hM ⟨rfl, rfl, by decide⟩ rfl rfl (Nat.le_of_ble_eq_true rfl) ⟨Nat.le_of_ble_eq_true rfl, Nat.le_of_ble_eq_true rfl⟩ dL_law_434 (fun r h2 q => ?_)
  obtain ⟨rfl, σ2, rfl, hR⟩ := hA r h2 q
  show V E X _ RL _ _ _ 146 3933 _ false 146 437 _ [_, _] _
  refine v_icmp_eq (pc := 437) (tgt := 1027) dL_law_437 rfl (fun _ => ?_) (fun c_ => absurd rfl c_)
  refine v_iincN (pc := 1027) 3 [1, 2, 3, 0] [(0, _), (1, _), (2, _), (3, _)] kI_4 dL_law_1027 rfl (by decide) rfl ?_
  refine v_goto (pc := 1030) (tgt := 18) dL_law_1030 rfl ?_
  exact ih σ2 hR
set_option maxHeartbeats 4000000 in
set_option maxRecDepth 100000 in
theorem l_net {E : Ev} {X : Cx} {Q : State → Prop} {b L t : Nat} {xs : Nat → Int32} {σ : Sg} (hX : ScrA E X b L xs) (hL : L ≤ 256) (ht : 4 * t + 4 ≤ L) (h : RS (1500 * t) σ) (ih : ∀ σ2, RS (1500 * t + 1500) σ2 → V E X room_1 RL code 4 ret 146 3933 Q false 146 18 [(0, .ref b), (1, .ref (Ez E + 0)), (2, .ref (Ez E + 132)), (3, .int (nI (4 * t + 4)))] [] (cellOf E σ2)) : V E X room_1 RL code 4 ret 146 3933 Q false 146 442 [(0, .ref b), (1, .ref (Ez E + 0)), (2, .ref (Ez E + 132)), (3, .int (nI (4 * t)))] [] (cellOf E σ) := by
  by_cases hz : xs (nI (4 * t + 2)).toNatClampNeg = 0
  · obtain ⟨v, σ1, hC, post, hM, hA⟩ := t_net (E := E) h (by omega) (xs (nI (4 * t + 1)).toNatClampNeg) false
    obtain ⟨f1, e1⟩ := oC E σ
    obtain ⟨f2, e2⟩ := oM E σ1
    refine v_aload_n (pc := 442) 1 dL_law_442 rfl rfl ?_
    refine v_aload_n (pc := 443) 0 dL_law_443 rfl rfl ?_
    refine v_iload_n (pc := 444) 3 dL_law_444 rfl rfl ?_
    refine v_iconst (pc := 445) (nI 1) dL_law_445 kI_1 ?_
    refine v_iaddN (pc := 446) dL_law_446 ?_
    refine v_sld (pc := 447) hX (vp_in_nI (by omega) (by omega)) dL_law_447 ?_
    refine v_aload_n (pc := 448) 0 dL_law_448 rfl rfl ?_
    refine v_iload_n (pc := 449) 3 dL_law_449 rfl rfl ?_
    refine v_iconst (pc := 450) (nI 2) dL_law_450 kI_2 ?_
    refine v_iaddN (pc := 451) dL_law_451 ?_
    refine v_sld (pc := 452) hX (vp_in_nI (by omega) (by omega)) dL_law_452 ?_
    refine v_if_eq (pc := 453) (tgt := 460) dL_law_453 rfl (fun _ => ?_) (fun c_ => absurd hz c_)
    refine v_iconst (pc := 460) (nI 0) dL_law_460 kI_0 ?_
    refine v_callV (pc := 461) _ _ k_L_57 e1 rfl (by omega) hC ⟨rfl, rfl, by decide⟩ rfl rfl (Nat.le_of_ble_eq_true rfl) ⟨Nat.le_of_ble_eq_true rfl, Nat.le_of_ble_eq_true rfl⟩ dL_law_461 (unS ?_)
    show V E X _ RL _ _ _ 146 3933 _ false 146 464 _ [_] _
    refine v_aload_n (pc := 464) 2 dL_law_464 rfl rfl ?_
    refine v_aload_n (pc := 465) 0 dL_law_465 rfl rfl ?_
    refine v_iload_n (pc := 466) 3 dL_law_466 rfl rfl ?_
    refine v_iconst (pc := 467) (nI 1) dL_law_467 kI_1 ?_
    refine v_iaddN (pc := 468) dL_law_468 ?_
    refine v_sld (pc := 469) hX (vp_in_nI (by omega) (by omega)) dL_law_469 ?_
    refine v_aload_n (pc := 470) 0 dL_law_470 rfl rfl ?_
    refine v_iload_n (pc := 471) 3 dL_law_471 rfl rfl ?_
    refine v_iconst (pc := 472) (nI 2) dL_law_472 kI_2 ?_
    refine v_iaddN (pc := 473) dL_law_473 ?_
    refine v_sld (pc := 474) hX (vp_in_nI (by omega) (by omega)) dL_law_474 ?_
    refine v_if_eq (pc := 475) (tgt := 482) dL_law_475 rfl (fun _ => ?_) (fun c_ => absurd hz c_)
    refine v_iconst (pc := 482) (nI 0) dL_law_482 kI_0 ?_
    refine v_callV (pc := 483) _ _ k_L_61 e2 rfl (by omega) hM ⟨rfl, rfl, by decide⟩ rfl rfl (Nat.le_of_ble_eq_true rfl) ⟨Nat.le_of_ble_eq_true rfl, Nat.le_of_ble_eq_true rfl⟩ dL_law_483 (fun r h2 q => ?_)
    obtain ⟨rfl, σ2, rfl, hR⟩ := hA r h2 q
    show V E X _ RL _ _ _ 146 3933 _ false 146 486 _ [_, _] _
    refine v_icmp_eq (pc := 486) (tgt := 1027) dL_law_486 rfl (fun _ => ?_) (fun c_ => absurd rfl c_)
    refine v_iincN (pc := 1027) 3 [1, 2, 3, 0] [(0, _), (1, _), (2, _), (3, _)] kI_4 dL_law_1027 rfl (by decide) rfl ?_
    refine v_goto (pc := 1030) (tgt := 18) dL_law_1030 rfl ?_
    exact ih σ2 hR
  · obtain ⟨v, σ1, hC, post, hM, hA⟩ := t_net (E := E) h (by omega) (xs (nI (4 * t + 1)).toNatClampNeg) true
    obtain ⟨f1, e1⟩ := oC E σ
    obtain ⟨f2, e2⟩ := oM E σ1
    refine v_aload_n (pc := 442) 1 dL_law_442 rfl rfl ?_
    refine v_aload_n (pc := 443) 0 dL_law_443 rfl rfl ?_
    refine v_iload_n (pc := 444) 3 dL_law_444 rfl rfl ?_
    refine v_iconst (pc := 445) (nI 1) dL_law_445 kI_1 ?_
    refine v_iaddN (pc := 446) dL_law_446 ?_
    refine v_sld (pc := 447) hX (vp_in_nI (by omega) (by omega)) dL_law_447 ?_
    refine v_aload_n (pc := 448) 0 dL_law_448 rfl rfl ?_
    refine v_iload_n (pc := 449) 3 dL_law_449 rfl rfl ?_
    refine v_iconst (pc := 450) (nI 2) dL_law_450 kI_2 ?_
    refine v_iaddN (pc := 451) dL_law_451 ?_
    refine v_sld (pc := 452) hX (vp_in_nI (by omega) (by omega)) dL_law_452 ?_
    refine v_if_eq (pc := 453) (tgt := 460) dL_law_453 rfl (fun c_ => absurd c_ hz) (fun _ => ?_)
    refine v_iconst (pc := 456) (nI 1) dL_law_456 kI_1 ?_
    refine v_goto (pc := 457) (tgt := 461) dL_law_457 rfl ?_
    refine v_callV (pc := 461) _ _ k_L_57 e1 rfl (by omega) hC ⟨rfl, rfl, by decide⟩ rfl rfl (Nat.le_of_ble_eq_true rfl) ⟨Nat.le_of_ble_eq_true rfl, Nat.le_of_ble_eq_true rfl⟩ dL_law_461 (unS ?_)
    show V E X _ RL _ _ _ 146 3933 _ false 146 464 _ [_] _
    refine v_aload_n (pc := 464) 2 dL_law_464 rfl rfl ?_
    refine v_aload_n (pc := 465) 0 dL_law_465 rfl rfl ?_
    refine v_iload_n (pc := 466) 3 dL_law_466 rfl rfl ?_
    refine v_iconst (pc := 467) (nI 1) dL_law_467 kI_1 ?_
    refine v_iaddN (pc := 468) dL_law_468 ?_
    refine v_sld (pc := 469) hX (vp_in_nI (by omega) (by omega)) dL_law_469 ?_
    refine v_aload_n (pc := 470) 0 dL_law_470 rfl rfl ?_
    refine v_iload_n (pc := 471) 3 dL_law_471 rfl rfl ?_
    refine v_iconst (pc := 472) (nI 2) dL_law_472 kI_2 ?_
    refine v_iaddN (pc := 473) dL_law_473 ?_
    refine v_sld (pc := 474) hX (vp_in_nI (by omega) (by omega)) dL_law_474 ?_
    refine v_if_eq (pc := 475) (tgt := 482) dL_law_475 rfl (fun c_ => absurd c_ hz) (fun _ => ?_)
    refine v_iconst (pc := 478) (nI 1) dL_law_478 kI_1 ?_
    refine v_goto (pc := 479) (tgt := 483) dL_law_479 rfl ?_
    refine v_callV (pc := 483) _ _ k_L_61 e2 rfl (by omega) hM ⟨rfl, rfl, by decide⟩ rfl rfl (Nat.le_of_ble_eq_true rfl) ⟨Nat.le_of_ble_eq_true rfl, Nat.le_of_ble_eq_true rfl⟩ dL_law_483 (fun r h2 q => ?_)
    obtain ⟨rfl, σ2, rfl, hR⟩ := hA r h2 q
    show V E X _ RL _ _ _ 146 3933 _ false 146 486 _ [_, _] _
    refine v_icmp_eq (pc := 486) (tgt := 1027) dL_law_486 rfl (fun _ => ?_) (fun c_ => absurd rfl c_)
    refine v_iincN (pc := 1027) 3 [1, 2, 3, 0] [(0, _), (1, _), (2, _), (3, _)] kI_4 dL_law_1027 rfl (by decide) rfl ?_
    refine v_goto (pc := 1030) (tgt := 18) dL_law_1030 rfl ?_
    exact ih σ2 hR
set_option maxHeartbeats 4000000 in
set_option maxRecDepth 100000 in
theorem l_hawk {E : Ev} {X : Cx} {Q : State → Prop} {b L t : Nat} {xs : Nat → Int32} {σ : Sg} (hX : ScrA E X b L xs) (hL : L ≤ 256) (ht : 4 * t + 4 ≤ L) (h : RS (1500 * t) σ) (ih : ∀ σ2, RS (1500 * t + 1500) σ2 → V E X room_1 RL code 4 ret 146 3933 Q false 146 18 [(0, .ref b), (1, .ref (Ez E + 0)), (2, .ref (Ez E + 132)), (3, .int (nI (4 * t + 4)))] [] (cellOf E σ2)) : V E X room_1 RL code 4 ret 146 3933 Q false 146 491 [(0, .ref b), (1, .ref (Ez E + 0)), (2, .ref (Ez E + 132)), (3, .int (nI (4 * t)))] [] (cellOf E σ) := by
  obtain ⟨v, σ1, hC, post, hM, hA⟩ := t_hawk (E := E) h (by omega) (xs (nI (4 * t + 1)).toNatClampNeg) (xs (nI (4 * t + 2)).toNatClampNeg)
  obtain ⟨f1, e1⟩ := oC E σ
  obtain ⟨f2, e2⟩ := oM E σ1
  refine v_aload_n (pc := 491) 1 dL_law_491 rfl rfl ?_
  refine v_aload_n (pc := 492) 0 dL_law_492 rfl rfl ?_
  refine v_iload_n (pc := 493) 3 dL_law_493 rfl rfl ?_
  refine v_iconst (pc := 494) (nI 1) dL_law_494 kI_1 ?_
  refine v_iaddN (pc := 495) dL_law_495 ?_
  refine v_sld (pc := 496) hX (vp_in_nI (by omega) (by omega)) dL_law_496 ?_
  refine v_aload_n (pc := 497) 0 dL_law_497 rfl rfl ?_
  refine v_iload_n (pc := 498) 3 dL_law_498 rfl rfl ?_
  refine v_iconst (pc := 499) (nI 2) dL_law_499 kI_2 ?_
  refine v_iaddN (pc := 500) dL_law_500 ?_
  refine v_sld (pc := 501) hX (vp_in_nI (by omega) (by omega)) dL_law_501 ?_
  refine v_callV (pc := 502) _ _ k_L_62 e1 rfl (by omega) hC ⟨rfl, rfl, by decide⟩ rfl rfl (Nat.le_of_ble_eq_true rfl) ⟨Nat.le_of_ble_eq_true rfl, Nat.le_of_ble_eq_true rfl⟩ dL_law_502 (unS ?_)
  show V E X _ RL _ _ _ 146 3933 _ false 146 505 _ [_] _
  refine v_aload_n (pc := 505) 2 dL_law_505 rfl rfl ?_
  refine v_aload_n (pc := 506) 0 dL_law_506 rfl rfl ?_
  refine v_iload_n (pc := 507) 3 dL_law_507 rfl rfl ?_
  refine v_iconst (pc := 508) (nI 1) dL_law_508 kI_1 ?_
  refine v_iaddN (pc := 509) dL_law_509 ?_
  refine v_sld (pc := 510) hX (vp_in_nI (by omega) (by omega)) dL_law_510 ?_
  refine v_aload_n (pc := 511) 0 dL_law_511 rfl rfl ?_
  refine v_iload_n (pc := 512) 3 dL_law_512 rfl rfl ?_
  refine v_iconst (pc := 513) (nI 2) dL_law_513 kI_2 ?_
  refine v_iaddN (pc := 514) dL_law_514 ?_
  refine v_sld (pc := 515) hX (vp_in_nI (by omega) (by omega)) dL_law_515 ?_
  refine v_callV (pc := 516) _ _ k_L_65 e2 rfl (by omega) hM ⟨rfl, rfl, by decide⟩ rfl rfl (Nat.le_of_ble_eq_true rfl) ⟨Nat.le_of_ble_eq_true rfl, Nat.le_of_ble_eq_true rfl⟩ dL_law_516 (fun r h2 q => ?_)
  obtain ⟨rfl, σ2, rfl, hR⟩ := hA r h2 q
  show V E X _ RL _ _ _ 146 3933 _ false 146 519 _ [_, _] _
  refine v_icmp_eq (pc := 519) (tgt := 1027) dL_law_519 rfl (fun _ => ?_) (fun c_ => absurd rfl c_)
  refine v_iincN (pc := 1027) 3 [1, 2, 3, 0] [(0, _), (1, _), (2, _), (3, _)] kI_4 dL_law_1027 rfl (by decide) rfl ?_
  refine v_goto (pc := 1030) (tgt := 18) dL_law_1030 rfl ?_
  exact ih σ2 hR
set_option maxHeartbeats 4000000 in
set_option maxRecDepth 100000 in
theorem l_hour {E : Ev} {X : Cx} {Q : State → Prop} {b L t : Nat} {xs : Nat → Int32} {σ : Sg} (hX : ScrA E X b L xs) (hL : L ≤ 256) (ht : 4 * t + 4 ≤ L) (h : RS (1500 * t) σ) (ih : ∀ σ2, RS (1500 * t + 1500) σ2 → V E X room_1 RL code 4 ret 146 3933 Q false 146 18 [(0, .ref b), (1, .ref (Ez E + 0)), (2, .ref (Ez E + 132)), (3, .int (nI (4 * t + 4)))] [] (cellOf E σ2)) : V E X room_1 RL code 4 ret 146 3933 Q false 146 524 [(0, .ref b), (1, .ref (Ez E + 0)), (2, .ref (Ez E + 132)), (3, .int (nI (4 * t)))] [] (cellOf E σ) := by
  obtain ⟨v, σ1, hC, post, hM, hA⟩ := t_hour (E := E) h (by omega) (xs (nI (4 * t + 1)).toNatClampNeg)
  obtain ⟨f1, e1⟩ := oC E σ
  obtain ⟨f2, e2⟩ := oM E σ1
  refine v_aload_n (pc := 524) 1 dL_law_524 rfl rfl ?_
  refine v_aload_n (pc := 525) 0 dL_law_525 rfl rfl ?_
  refine v_iload_n (pc := 526) 3 dL_law_526 rfl rfl ?_
  refine v_iconst (pc := 527) (nI 1) dL_law_527 kI_1 ?_
  refine v_iaddN (pc := 528) dL_law_528 ?_
  refine v_sld (pc := 529) hX (vp_in_nI (by omega) (by omega)) dL_law_529 ?_
  refine v_callV (pc := 530) _ _ k_L_66 e1 rfl (by omega) hC ⟨rfl, rfl, by decide⟩ rfl rfl (Nat.le_of_ble_eq_true rfl) ⟨Nat.le_of_ble_eq_true rfl, Nat.le_of_ble_eq_true rfl⟩ dL_law_530 (unS ?_)
  show V E X _ RL _ _ _ 146 3933 _ false 146 533 _ [_] _
  refine v_aload_n (pc := 533) 2 dL_law_533 rfl rfl ?_
  refine v_aload_n (pc := 534) 0 dL_law_534 rfl rfl ?_
  refine v_iload_n (pc := 535) 3 dL_law_535 rfl rfl ?_
  refine v_iconst (pc := 536) (nI 1) dL_law_536 kI_1 ?_
  refine v_iaddN (pc := 537) dL_law_537 ?_
  refine v_sld (pc := 538) hX (vp_in_nI (by omega) (by omega)) dL_law_538 ?_
  refine v_callV (pc := 539) _ _ k_L_69 e2 rfl (by omega) hM ⟨rfl, rfl, by decide⟩ rfl rfl (Nat.le_of_ble_eq_true rfl) ⟨Nat.le_of_ble_eq_true rfl, Nat.le_of_ble_eq_true rfl⟩ dL_law_539 (fun r h2 q => ?_)
  obtain ⟨rfl, σ2, rfl, hR⟩ := hA r h2 q
  show V E X _ RL _ _ _ 146 3933 _ false 146 542 _ [_, _] _
  refine v_icmp_eq (pc := 542) (tgt := 1027) dL_law_542 rfl (fun _ => ?_) (fun c_ => absurd rfl c_)
  refine v_iincN (pc := 1027) 3 [1, 2, 3, 0] [(0, _), (1, _), (2, _), (3, _)] kI_4 dL_law_1027 rfl (by decide) rfl ?_
  refine v_goto (pc := 1030) (tgt := 18) dL_law_1030 rfl ?_
  exact ih σ2 hR
set_option maxHeartbeats 4000000 in
set_option maxRecDepth 100000 in
theorem l_drift {E : Ev} {X : Cx} {Q : State → Prop} {b L t : Nat} {xs : Nat → Int32} {σ : Sg} (hX : ScrA E X b L xs) (hL : L ≤ 256) (ht : 4 * t + 4 ≤ L) (h : RS (1500 * t) σ) (ih : ∀ σ2, RS (1500 * t + 1500) σ2 → V E X room_1 RL code 4 ret 146 3933 Q false 146 18 [(0, .ref b), (1, .ref (Ez E + 0)), (2, .ref (Ez E + 132)), (3, .int (nI (4 * t + 4)))] [] (cellOf E σ2)) : V E X room_1 RL code 4 ret 146 3933 Q false 146 547 [(0, .ref b), (1, .ref (Ez E + 0)), (2, .ref (Ez E + 132)), (3, .int (nI (4 * t)))] [] (cellOf E σ) := by
  obtain ⟨v, σ1, hC, post, hM, hA⟩ := t_drift (E := E) h (by omega) (xs (nI (4 * t + 1)).toNatClampNeg)
  obtain ⟨f1, e1⟩ := oC E σ
  obtain ⟨f2, e2⟩ := oM E σ1
  refine v_aload_n (pc := 547) 1 dL_law_547 rfl rfl ?_
  refine v_aload_n (pc := 548) 0 dL_law_548 rfl rfl ?_
  refine v_iload_n (pc := 549) 3 dL_law_549 rfl rfl ?_
  refine v_iconst (pc := 550) (nI 1) dL_law_550 kI_1 ?_
  refine v_iaddN (pc := 551) dL_law_551 ?_
  refine v_sld (pc := 552) hX (vp_in_nI (by omega) (by omega)) dL_law_552 ?_
  refine v_callV (pc := 553) _ _ k_L_70 e1 rfl (by omega) hC ⟨rfl, rfl, by decide⟩ rfl rfl (Nat.le_of_ble_eq_true rfl) ⟨Nat.le_of_ble_eq_true rfl, Nat.le_of_ble_eq_true rfl⟩ dL_law_553 (unS ?_)
  show V E X _ RL _ _ _ 146 3933 _ false 146 556 _ [_] _
  refine v_aload_n (pc := 556) 2 dL_law_556 rfl rfl ?_
  refine v_aload_n (pc := 557) 0 dL_law_557 rfl rfl ?_
  refine v_iload_n (pc := 558) 3 dL_law_558 rfl rfl ?_
  refine v_iconst (pc := 559) (nI 1) dL_law_559 kI_1 ?_
  refine v_iaddN (pc := 560) dL_law_560 ?_
  refine v_sld (pc := 561) hX (vp_in_nI (by omega) (by omega)) dL_law_561 ?_
  refine v_callV (pc := 562) _ _ k_L_73 e2 rfl (by omega) hM ⟨rfl, rfl, by decide⟩ rfl rfl (Nat.le_of_ble_eq_true rfl) ⟨Nat.le_of_ble_eq_true rfl, Nat.le_of_ble_eq_true rfl⟩ dL_law_562 (fun r h2 q => ?_)
  obtain ⟨rfl, σ2, rfl, hR⟩ := hA r h2 q
  show V E X _ RL _ _ _ 146 3933 _ false 146 565 _ [_, _] _
  refine v_icmp_eq (pc := 565) (tgt := 1027) dL_law_565 rfl (fun _ => ?_) (fun c_ => absurd rfl c_)
  refine v_iincN (pc := 1027) 3 [1, 2, 3, 0] [(0, _), (1, _), (2, _), (3, _)] kI_4 dL_law_1027 rfl (by decide) rfl ?_
  refine v_goto (pc := 1030) (tgt := 18) dL_law_1030 rfl ?_
  exact ih σ2 hR
set_option maxHeartbeats 4000000 in
set_option maxRecDepth 100000 in
theorem l_undo {E : Ev} {X : Cx} {Q : State → Prop} {b L t : Nat} {xs : Nat → Int32} {σ : Sg} (hX : ScrA E X b L xs) (hL : L ≤ 256) (ht : 4 * t + 4 ≤ L) (h : RS (1500 * t) σ) (ih : ∀ σ2, RS (1500 * t + 1500) σ2 → V E X room_1 RL code 4 ret 146 3933 Q false 146 18 [(0, .ref b), (1, .ref (Ez E + 0)), (2, .ref (Ez E + 132)), (3, .int (nI (4 * t + 4)))] [] (cellOf E σ2)) : V E X room_1 RL code 4 ret 146 3933 Q false 146 570 [(0, .ref b), (1, .ref (Ez E + 0)), (2, .ref (Ez E + 132)), (3, .int (nI (4 * t)))] [] (cellOf E σ) := by
  obtain ⟨v, σ1, hC, post, hM, hA⟩ := t_undo (E := E) h (by omega) 
  obtain ⟨f1, e1⟩ := oC E σ
  obtain ⟨f2, e2⟩ := oM E σ1
  refine v_aload_n (pc := 570) 1 dL_law_570 rfl rfl ?_
  refine v_callV (pc := 571) _ _ k_L_74 e1 rfl (by omega) hC ⟨rfl, rfl, by decide⟩ rfl rfl (Nat.le_of_ble_eq_true rfl) ⟨Nat.le_of_ble_eq_true rfl, Nat.le_of_ble_eq_true rfl⟩ dL_law_571 (unS ?_)
  show V E X _ RL _ _ _ 146 3933 _ false 146 574 _ [_] _
  refine v_aload_n (pc := 574) 2 dL_law_574 rfl rfl ?_
  refine v_callV (pc := 575) _ _ k_L_77 e2 rfl (by omega) hM ⟨rfl, rfl, by decide⟩ rfl rfl (Nat.le_of_ble_eq_true rfl) ⟨Nat.le_of_ble_eq_true rfl, Nat.le_of_ble_eq_true rfl⟩ dL_law_575 (fun r h2 q => ?_)
  obtain ⟨rfl, σ2, rfl, hR⟩ := hA r h2 q
  show V E X _ RL _ _ _ 146 3933 _ false 146 578 _ [_, _] _
  refine v_icmp_eq (pc := 578) (tgt := 1027) dL_law_578 rfl (fun _ => ?_) (fun c_ => absurd rfl c_)
  refine v_iincN (pc := 1027) 3 [1, 2, 3, 0] [(0, _), (1, _), (2, _), (3, _)] kI_4 dL_law_1027 rfl (by decide) rfl ?_
  refine v_goto (pc := 1030) (tgt := 18) dL_law_1030 rfl ?_
  exact ih σ2 hR
set_option maxHeartbeats 4000000 in
set_option maxRecDepth 100000 in
theorem l_hat {E : Ev} {X : Cx} {Q : State → Prop} {b L t : Nat} {xs : Nat → Int32} {σ : Sg} (hX : ScrA E X b L xs) (hL : L ≤ 256) (ht : 4 * t + 4 ≤ L) (h : RS (1500 * t) σ) (ih : ∀ σ2, RS (1500 * t + 1500) σ2 → V E X room_1 RL code 4 ret 146 3933 Q false 146 18 [(0, .ref b), (1, .ref (Ez E + 0)), (2, .ref (Ez E + 132)), (3, .int (nI (4 * t + 4)))] [] (cellOf E σ2)) : V E X room_1 RL code 4 ret 146 3933 Q false 146 583 [(0, .ref b), (1, .ref (Ez E + 0)), (2, .ref (Ez E + 132)), (3, .int (nI (4 * t)))] [] (cellOf E σ) := by
  obtain ⟨v, σ1, hC, post, hM, hA⟩ := t_hat (E := E) h (by omega) (xs (nI (4 * t + 1)).toNatClampNeg) (xs (nI (4 * t + 2)).toNatClampNeg)
  obtain ⟨f1, e1⟩ := oC E σ
  obtain ⟨f2, e2⟩ := oM E σ1
  refine v_aload_n (pc := 583) 1 dL_law_583 rfl rfl ?_
  refine v_aload_n (pc := 584) 0 dL_law_584 rfl rfl ?_
  refine v_iload_n (pc := 585) 3 dL_law_585 rfl rfl ?_
  refine v_iconst (pc := 586) (nI 1) dL_law_586 kI_1 ?_
  refine v_iaddN (pc := 587) dL_law_587 ?_
  refine v_sld (pc := 588) hX (vp_in_nI (by omega) (by omega)) dL_law_588 ?_
  refine v_aload_n (pc := 589) 0 dL_law_589 rfl rfl ?_
  refine v_iload_n (pc := 590) 3 dL_law_590 rfl rfl ?_
  refine v_iconst (pc := 591) (nI 2) dL_law_591 kI_2 ?_
  refine v_iaddN (pc := 592) dL_law_592 ?_
  refine v_sld (pc := 593) hX (vp_in_nI (by omega) (by omega)) dL_law_593 ?_
  refine v_callV (pc := 594) _ _ k_L_78 e1 rfl (by omega) hC ⟨rfl, rfl, by decide⟩ rfl rfl (Nat.le_of_ble_eq_true rfl) ⟨Nat.le_of_ble_eq_true rfl, Nat.le_of_ble_eq_true rfl⟩ dL_law_594 (unS ?_)
  show V E X _ RL _ _ _ 146 3933 _ false 146 597 _ [_] _
  refine v_aload_n (pc := 597) 2 dL_law_597 rfl rfl ?_
  refine v_aload_n (pc := 598) 0 dL_law_598 rfl rfl ?_
  refine v_iload_n (pc := 599) 3 dL_law_599 rfl rfl ?_
  refine v_iconst (pc := 600) (nI 1) dL_law_600 kI_1 ?_
  refine v_iaddN (pc := 601) dL_law_601 ?_
  refine v_sld (pc := 602) hX (vp_in_nI (by omega) (by omega)) dL_law_602 ?_
  refine v_aload_n (pc := 603) 0 dL_law_603 rfl rfl ?_
  refine v_iload_n (pc := 604) 3 dL_law_604 rfl rfl ?_
  refine v_iconst (pc := 605) (nI 2) dL_law_605 kI_2 ?_
  refine v_iaddN (pc := 606) dL_law_606 ?_
  refine v_sld (pc := 607) hX (vp_in_nI (by omega) (by omega)) dL_law_607 ?_
  refine v_callV (pc := 608) _ _ k_L_81 e2 rfl (by omega) hM ⟨rfl, rfl, by decide⟩ rfl rfl (Nat.le_of_ble_eq_true rfl) ⟨Nat.le_of_ble_eq_true rfl, Nat.le_of_ble_eq_true rfl⟩ dL_law_608 (fun r h2 q => ?_)
  obtain ⟨rfl, σ2, rfl, hR⟩ := hA r h2 q
  show V E X _ RL _ _ _ 146 3933 _ false 146 611 _ [_, _] _
  refine v_icmp_eq (pc := 611) (tgt := 1027) dL_law_611 rfl (fun _ => ?_) (fun c_ => absurd rfl c_)
  refine v_iincN (pc := 1027) 3 [1, 2, 3, 0] [(0, _), (1, _), (2, _), (3, _)] kI_4 dL_law_1027 rfl (by decide) rfl ?_
  refine v_goto (pc := 1030) (tgt := 18) dL_law_1030 rfl ?_
  exact ih σ2 hR
set_option maxHeartbeats 4000000 in
set_option maxRecDepth 100000 in
theorem l_most {E : Ev} {X : Cx} {Q : State → Prop} {b L t : Nat} {xs : Nat → Int32} {σ : Sg} (hX : ScrA E X b L xs) (hL : L ≤ 256) (ht : 4 * t + 4 ≤ L) (h : RS (1500 * t) σ) (ih : ∀ σ2, RS (1500 * t + 1500) σ2 → V E X room_1 RL code 4 ret 146 3933 Q false 146 18 [(0, .ref b), (1, .ref (Ez E + 0)), (2, .ref (Ez E + 132)), (3, .int (nI (4 * t + 4)))] [] (cellOf E σ2)) : V E X room_1 RL code 4 ret 146 3933 Q false 146 616 [(0, .ref b), (1, .ref (Ez E + 0)), (2, .ref (Ez E + 132)), (3, .int (nI (4 * t)))] [] (cellOf E σ) := by
  obtain ⟨v, σ1, hC, post, hM, hA⟩ := t_most (E := E) h (by omega) (xs (nI (4 * t + 1)).toNatClampNeg) (xs (nI (4 * t + 2)).toNatClampNeg) (xs (nI (4 * t + 3)).toNatClampNeg)
  obtain ⟨f1, e1⟩ := oC E σ
  obtain ⟨f2, e2⟩ := oM E σ1
  refine v_aload_n (pc := 616) 1 dL_law_616 rfl rfl ?_
  refine v_aload_n (pc := 617) 0 dL_law_617 rfl rfl ?_
  refine v_iload_n (pc := 618) 3 dL_law_618 rfl rfl ?_
  refine v_iconst (pc := 619) (nI 1) dL_law_619 kI_1 ?_
  refine v_iaddN (pc := 620) dL_law_620 ?_
  refine v_sld (pc := 621) hX (vp_in_nI (by omega) (by omega)) dL_law_621 ?_
  refine v_aload_n (pc := 622) 0 dL_law_622 rfl rfl ?_
  refine v_iload_n (pc := 623) 3 dL_law_623 rfl rfl ?_
  refine v_iconst (pc := 624) (nI 2) dL_law_624 kI_2 ?_
  refine v_iaddN (pc := 625) dL_law_625 ?_
  refine v_sld (pc := 626) hX (vp_in_nI (by omega) (by omega)) dL_law_626 ?_
  refine v_aload_n (pc := 627) 0 dL_law_627 rfl rfl ?_
  refine v_iload_n (pc := 628) 3 dL_law_628 rfl rfl ?_
  refine v_iconst (pc := 629) (nI 3) dL_law_629 kI_3 ?_
  refine v_iaddN (pc := 630) dL_law_630 ?_
  refine v_sld (pc := 631) hX (vp_in_nI (by omega) (by omega)) dL_law_631 ?_
  refine v_callV (pc := 632) _ _ k_L_82 e1 rfl (by omega) hC ⟨rfl, rfl, by decide⟩ rfl rfl (Nat.le_of_ble_eq_true rfl) ⟨Nat.le_of_ble_eq_true rfl, Nat.le_of_ble_eq_true rfl⟩ dL_law_632 (unS ?_)
  show V E X _ RL _ _ _ 146 3933 _ false 146 635 _ [_] _
  refine v_aload_n (pc := 635) 2 dL_law_635 rfl rfl ?_
  refine v_aload_n (pc := 636) 0 dL_law_636 rfl rfl ?_
  refine v_iload_n (pc := 637) 3 dL_law_637 rfl rfl ?_
  refine v_iconst (pc := 638) (nI 1) dL_law_638 kI_1 ?_
  refine v_iaddN (pc := 639) dL_law_639 ?_
  refine v_sld (pc := 640) hX (vp_in_nI (by omega) (by omega)) dL_law_640 ?_
  refine v_aload_n (pc := 641) 0 dL_law_641 rfl rfl ?_
  refine v_iload_n (pc := 642) 3 dL_law_642 rfl rfl ?_
  refine v_iconst (pc := 643) (nI 2) dL_law_643 kI_2 ?_
  refine v_iaddN (pc := 644) dL_law_644 ?_
  refine v_sld (pc := 645) hX (vp_in_nI (by omega) (by omega)) dL_law_645 ?_
  refine v_aload_n (pc := 646) 0 dL_law_646 rfl rfl ?_
  refine v_iload_n (pc := 647) 3 dL_law_647 rfl rfl ?_
  refine v_iconst (pc := 648) (nI 3) dL_law_648 kI_3 ?_
  refine v_iaddN (pc := 649) dL_law_649 ?_
  refine v_sld (pc := 650) hX (vp_in_nI (by omega) (by omega)) dL_law_650 ?_
  refine v_callV (pc := 651) _ _ k_L_85 e2 rfl (by omega) hM ⟨rfl, rfl, by decide⟩ rfl rfl (Nat.le_of_ble_eq_true rfl) ⟨Nat.le_of_ble_eq_true rfl, Nat.le_of_ble_eq_true rfl⟩ dL_law_651 (fun r h2 q => ?_)
  obtain ⟨rfl, σ2, rfl, hR⟩ := hA r h2 q
  show V E X _ RL _ _ _ 146 3933 _ false 146 654 _ [_, _] _
  refine v_icmp_eq (pc := 654) (tgt := 1027) dL_law_654 rfl (fun _ => ?_) (fun c_ => absurd rfl c_)
  refine v_iincN (pc := 1027) 3 [1, 2, 3, 0] [(0, _), (1, _), (2, _), (3, _)] kI_4 dL_law_1027 rfl (by decide) rfl ?_
  refine v_goto (pc := 1030) (tgt := 18) dL_law_1030 rfl ?_
  exact ih σ2 hR
set_option maxHeartbeats 4000000 in
set_option maxRecDepth 100000 in
theorem l_kept {E : Ev} {X : Cx} {Q : State → Prop} {b L t : Nat} {xs : Nat → Int32} {σ : Sg} (hX : ScrA E X b L xs) (hL : L ≤ 256) (ht : 4 * t + 4 ≤ L) (h : RS (1500 * t) σ) (ih : ∀ σ2, RS (1500 * t + 1500) σ2 → V E X room_1 RL code 4 ret 146 3933 Q false 146 18 [(0, .ref b), (1, .ref (Ez E + 0)), (2, .ref (Ez E + 132)), (3, .int (nI (4 * t + 4)))] [] (cellOf E σ2)) : V E X room_1 RL code 4 ret 146 3933 Q false 146 659 [(0, .ref b), (1, .ref (Ez E + 0)), (2, .ref (Ez E + 132)), (3, .int (nI (4 * t)))] [] (cellOf E σ) := by
  obtain ⟨v, σ1, hC, post, hM, hA⟩ := t_kept (E := E) h (by omega) (xs (nI (4 * t + 1)).toNatClampNeg)
  obtain ⟨f1, e1⟩ := oC E σ
  obtain ⟨f2, e2⟩ := oM E σ1
  refine v_aload_n (pc := 659) 1 dL_law_659 rfl rfl ?_
  refine v_aload_n (pc := 660) 0 dL_law_660 rfl rfl ?_
  refine v_iload_n (pc := 661) 3 dL_law_661 rfl rfl ?_
  refine v_iconst (pc := 662) (nI 1) dL_law_662 kI_1 ?_
  refine v_iaddN (pc := 663) dL_law_663 ?_
  refine v_sld (pc := 664) hX (vp_in_nI (by omega) (by omega)) dL_law_664 ?_
  refine v_callV (pc := 665) _ _ k_L_86 e1 rfl (by omega) hC ⟨rfl, rfl, by decide⟩ rfl rfl (Nat.le_of_ble_eq_true rfl) ⟨Nat.le_of_ble_eq_true rfl, Nat.le_of_ble_eq_true rfl⟩ dL_law_665 (unS ?_)
  show V E X _ RL _ _ _ 146 3933 _ false 146 668 _ [_] _
  refine v_aload_n (pc := 668) 2 dL_law_668 rfl rfl ?_
  refine v_aload_n (pc := 669) 0 dL_law_669 rfl rfl ?_
  refine v_iload_n (pc := 670) 3 dL_law_670 rfl rfl ?_
  refine v_iconst (pc := 671) (nI 1) dL_law_671 kI_1 ?_
  refine v_iaddN (pc := 672) dL_law_672 ?_
  refine v_sld (pc := 673) hX (vp_in_nI (by omega) (by omega)) dL_law_673 ?_
  refine v_callV (pc := 674) _ _ k_L_89 e2 rfl (by omega) hM ⟨rfl, rfl, by decide⟩ rfl rfl (Nat.le_of_ble_eq_true rfl) ⟨Nat.le_of_ble_eq_true rfl, Nat.le_of_ble_eq_true rfl⟩ dL_law_674 (fun r h2 q => ?_)
  obtain ⟨rfl, σ2, rfl, hR⟩ := hA r h2 q
  show V E X _ RL _ _ _ 146 3933 _ false 146 677 _ [_, _] _
  refine v_icmp_eq (pc := 677) (tgt := 1027) dL_law_677 rfl (fun _ => ?_) (fun c_ => absurd rfl c_)
  refine v_iincN (pc := 1027) 3 [1, 2, 3, 0] [(0, _), (1, _), (2, _), (3, _)] kI_4 dL_law_1027 rfl (by decide) rfl ?_
  refine v_goto (pc := 1030) (tgt := 18) dL_law_1030 rfl ?_
  exact ih σ2 hR
set_option maxHeartbeats 4000000 in
set_option maxRecDepth 100000 in
theorem l_settled {E : Ev} {X : Cx} {Q : State → Prop} {b L t : Nat} {xs : Nat → Int32} {σ : Sg} (hX : ScrA E X b L xs) (hL : L ≤ 256) (ht : 4 * t + 4 ≤ L) (h : RS (1500 * t) σ) (ih : ∀ σ2, RS (1500 * t + 1500) σ2 → V E X room_1 RL code 4 ret 146 3933 Q false 146 18 [(0, .ref b), (1, .ref (Ez E + 0)), (2, .ref (Ez E + 132)), (3, .int (nI (4 * t + 4)))] [] (cellOf E σ2)) : V E X room_1 RL code 4 ret 146 3933 Q false 146 682 [(0, .ref b), (1, .ref (Ez E + 0)), (2, .ref (Ez E + 132)), (3, .int (nI (4 * t)))] [] (cellOf E σ) := by
  obtain ⟨v, σ1, hC, post, hM, hA⟩ := t_settled (E := E) h (by omega) (xs (nI (4 * t + 1)).toNatClampNeg)
  obtain ⟨f1, e1⟩ := oC E σ
  obtain ⟨f2, e2⟩ := oM E σ1
  refine v_aload_n (pc := 682) 1 dL_law_682 rfl rfl ?_
  refine v_aload_n (pc := 683) 0 dL_law_683 rfl rfl ?_
  refine v_iload_n (pc := 684) 3 dL_law_684 rfl rfl ?_
  refine v_iconst (pc := 685) (nI 1) dL_law_685 kI_1 ?_
  refine v_iaddN (pc := 686) dL_law_686 ?_
  refine v_sld (pc := 687) hX (vp_in_nI (by omega) (by omega)) dL_law_687 ?_
  refine v_callV (pc := 688) _ _ k_L_90 e1 rfl (by omega) hC ⟨rfl, rfl, by decide⟩ rfl rfl (Nat.le_of_ble_eq_true rfl) ⟨Nat.le_of_ble_eq_true rfl, Nat.le_of_ble_eq_true rfl⟩ dL_law_688 (unS ?_)
  show V E X _ RL _ _ _ 146 3933 _ false 146 691 _ [_] _
  refine v_aload_n (pc := 691) 2 dL_law_691 rfl rfl ?_
  refine v_aload_n (pc := 692) 0 dL_law_692 rfl rfl ?_
  refine v_iload_n (pc := 693) 3 dL_law_693 rfl rfl ?_
  refine v_iconst (pc := 694) (nI 1) dL_law_694 kI_1 ?_
  refine v_iaddN (pc := 695) dL_law_695 ?_
  refine v_sld (pc := 696) hX (vp_in_nI (by omega) (by omega)) dL_law_696 ?_
  refine v_callV (pc := 697) _ _ k_L_93 e2 rfl (by omega) hM ⟨rfl, rfl, by decide⟩ rfl rfl (Nat.le_of_ble_eq_true rfl) ⟨Nat.le_of_ble_eq_true rfl, Nat.le_of_ble_eq_true rfl⟩ dL_law_697 (fun r h2 q => ?_)
  obtain ⟨rfl, σ2, rfl, hR⟩ := hA r h2 q
  show V E X _ RL _ _ _ 146 3933 _ false 146 700 _ [_, _] _
  refine v_icmp_eq (pc := 700) (tgt := 1027) dL_law_700 rfl (fun _ => ?_) (fun c_ => absurd rfl c_)
  refine v_iincN (pc := 1027) 3 [1, 2, 3, 0] [(0, _), (1, _), (2, _), (3, _)] kI_4 dL_law_1027 rfl (by decide) rfl ?_
  refine v_goto (pc := 1030) (tgt := 18) dL_law_1030 rfl ?_
  exact ih σ2 hR
set_option maxHeartbeats 4000000 in
set_option maxRecDepth 100000 in
theorem l_toFloat {E : Ev} {X : Cx} {Q : State → Prop} {b L t : Nat} {xs : Nat → Int32} {σ : Sg} (hX : ScrA E X b L xs) (hL : L ≤ 256) (ht : 4 * t + 4 ≤ L) (h : RS (1500 * t) σ) (ih : ∀ σ2, RS (1500 * t + 1500) σ2 → V E X room_1 RL code 4 ret 146 3933 Q false 146 18 [(0, .ref b), (1, .ref (Ez E + 0)), (2, .ref (Ez E + 132)), (3, .int (nI (4 * t + 4)))] [] (cellOf E σ2)) : V E X room_1 RL code 4 ret 146 3933 Q false 146 705 [(0, .ref b), (1, .ref (Ez E + 0)), (2, .ref (Ez E + 132)), (3, .int (nI (4 * t)))] [] (cellOf E σ) := by
  obtain ⟨v, σ1, hC, post, hM, hA⟩ := t_toFloat (E := E) h (by omega) (xs (nI (4 * t + 1)).toNatClampNeg)
  obtain ⟨f1, e1⟩ := oC E σ
  obtain ⟨f2, e2⟩ := oM E σ1
  refine v_aload_n (pc := 705) 1 dL_law_705 rfl rfl ?_
  refine v_aload_n (pc := 706) 0 dL_law_706 rfl rfl ?_
  refine v_iload_n (pc := 707) 3 dL_law_707 rfl rfl ?_
  refine v_iconst (pc := 708) (nI 1) dL_law_708 kI_1 ?_
  refine v_iaddN (pc := 709) dL_law_709 ?_
  refine v_sld (pc := 710) hX (vp_in_nI (by omega) (by omega)) dL_law_710 ?_
  refine v_callV (pc := 711) _ _ k_L_94 e1 rfl (by omega) hC ⟨rfl, rfl, by decide⟩ rfl rfl (Nat.le_of_ble_eq_true rfl) ⟨Nat.le_of_ble_eq_true rfl, Nat.le_of_ble_eq_true rfl⟩ dL_law_711 (unS ?_)
  show V E X _ RL _ _ _ 146 3933 _ false 146 714 _ [_] _
  refine v_aload_n (pc := 714) 2 dL_law_714 rfl rfl ?_
  refine v_aload_n (pc := 715) 0 dL_law_715 rfl rfl ?_
  refine v_iload_n (pc := 716) 3 dL_law_716 rfl rfl ?_
  refine v_iconst (pc := 717) (nI 1) dL_law_717 kI_1 ?_
  refine v_iaddN (pc := 718) dL_law_718 ?_
  refine v_sld (pc := 719) hX (vp_in_nI (by omega) (by omega)) dL_law_719 ?_
  refine v_callV (pc := 720) _ _ k_L_97 e2 rfl (by omega) hM ⟨rfl, rfl, by decide⟩ rfl rfl (Nat.le_of_ble_eq_true rfl) ⟨Nat.le_of_ble_eq_true rfl, Nat.le_of_ble_eq_true rfl⟩ dL_law_720 (fun r h2 q => ?_)
  obtain ⟨rfl, σ2, rfl, hR⟩ := hA r h2 q
  show V E X _ RL _ _ _ 146 3933 _ false 146 723 _ [_, _] _
  refine v_icmp_eq (pc := 723) (tgt := 1027) dL_law_723 rfl (fun _ => ?_) (fun c_ => absurd rfl c_)
  refine v_iincN (pc := 1027) 3 [1, 2, 3, 0] [(0, _), (1, _), (2, _), (3, _)] kI_4 dL_law_1027 rfl (by decide) rfl ?_
  refine v_goto (pc := 1030) (tgt := 18) dL_law_1030 rfl ?_
  exact ih σ2 hR
set_option maxHeartbeats 4000000 in
set_option maxRecDepth 100000 in
theorem l_nets {E : Ev} {X : Cx} {Q : State → Prop} {b L t : Nat} {xs : Nat → Int32} {σ : Sg} (hX : ScrA E X b L xs) (hL : L ≤ 256) (ht : 4 * t + 4 ≤ L) (h : RS (1500 * t) σ) (ih : ∀ σ2, RS (1500 * t + 1500) σ2 → V E X room_1 RL code 4 ret 146 3933 Q false 146 18 [(0, .ref b), (1, .ref (Ez E + 0)), (2, .ref (Ez E + 132)), (3, .int (nI (4 * t + 4)))] [] (cellOf E σ2)) : V E X room_1 RL code 4 ret 146 3933 Q false 146 728 [(0, .ref b), (1, .ref (Ez E + 0)), (2, .ref (Ez E + 132)), (3, .int (nI (4 * t)))] [] (cellOf E σ) := by
  obtain ⟨v, σ1, hC, post, hM, hA⟩ := t_nets (E := E) h (by omega) (xs (nI (4 * t + 1)).toNatClampNeg) (xs (nI (4 * t + 2)).toNatClampNeg)
  obtain ⟨f1, e1⟩ := oC E σ
  obtain ⟨f2, e2⟩ := oM E σ1
  refine v_aload_n (pc := 728) 1 dL_law_728 rfl rfl ?_
  refine v_aload_n (pc := 729) 0 dL_law_729 rfl rfl ?_
  refine v_iload_n (pc := 730) 3 dL_law_730 rfl rfl ?_
  refine v_iconst (pc := 731) (nI 1) dL_law_731 kI_1 ?_
  refine v_iaddN (pc := 732) dL_law_732 ?_
  refine v_sld (pc := 733) hX (vp_in_nI (by omega) (by omega)) dL_law_733 ?_
  refine v_aload_n (pc := 734) 0 dL_law_734 rfl rfl ?_
  refine v_iload_n (pc := 735) 3 dL_law_735 rfl rfl ?_
  refine v_iconst (pc := 736) (nI 2) dL_law_736 kI_2 ?_
  refine v_iaddN (pc := 737) dL_law_737 ?_
  refine v_sld (pc := 738) hX (vp_in_nI (by omega) (by omega)) dL_law_738 ?_
  refine v_callV (pc := 739) _ _ k_L_98 e1 rfl (by omega) hC ⟨rfl, rfl, by decide⟩ rfl rfl (Nat.le_of_ble_eq_true rfl) ⟨Nat.le_of_ble_eq_true rfl, Nat.le_of_ble_eq_true rfl⟩ dL_law_739 (unS ?_)
  show V E X _ RL _ _ _ 146 3933 _ false 146 742 _ [_] _
  refine v_aload_n (pc := 742) 2 dL_law_742 rfl rfl ?_
  refine v_aload_n (pc := 743) 0 dL_law_743 rfl rfl ?_
  refine v_iload_n (pc := 744) 3 dL_law_744 rfl rfl ?_
  refine v_iconst (pc := 745) (nI 1) dL_law_745 kI_1 ?_
  refine v_iaddN (pc := 746) dL_law_746 ?_
  refine v_sld (pc := 747) hX (vp_in_nI (by omega) (by omega)) dL_law_747 ?_
  refine v_aload_n (pc := 748) 0 dL_law_748 rfl rfl ?_
  refine v_iload_n (pc := 749) 3 dL_law_749 rfl rfl ?_
  refine v_iconst (pc := 750) (nI 2) dL_law_750 kI_2 ?_
  refine v_iaddN (pc := 751) dL_law_751 ?_
  refine v_sld (pc := 752) hX (vp_in_nI (by omega) (by omega)) dL_law_752 ?_
  refine v_callV (pc := 753) _ _ k_L_101 e2 rfl (by omega) hM ⟨rfl, rfl, by decide⟩ rfl rfl (Nat.le_of_ble_eq_true rfl) ⟨Nat.le_of_ble_eq_true rfl, Nat.le_of_ble_eq_true rfl⟩ dL_law_753 (fun r h2 q => ?_)
  obtain ⟨rfl, σ2, rfl, hR⟩ := hA r h2 q
  show V E X _ RL _ _ _ 146 3933 _ false 146 756 _ [_, _] _
  refine v_icmp_eq (pc := 756) (tgt := 1027) dL_law_756 rfl (fun _ => ?_) (fun c_ => absurd rfl c_)
  refine v_iincN (pc := 1027) 3 [1, 2, 3, 0] [(0, _), (1, _), (2, _), (3, _)] kI_4 dL_law_1027 rfl (by decide) rfl ?_
  refine v_goto (pc := 1030) (tgt := 18) dL_law_1030 rfl ?_
  exact ih σ2 hR
set_option maxHeartbeats 4000000 in
set_option maxRecDepth 100000 in
theorem l_calm {E : Ev} {X : Cx} {Q : State → Prop} {b L t : Nat} {xs : Nat → Int32} {σ : Sg} (hX : ScrA E X b L xs) (hL : L ≤ 256) (ht : 4 * t + 4 ≤ L) (h : RS (1500 * t) σ) (ih : ∀ σ2, RS (1500 * t + 1500) σ2 → V E X room_1 RL code 4 ret 146 3933 Q false 146 18 [(0, .ref b), (1, .ref (Ez E + 0)), (2, .ref (Ez E + 132)), (3, .int (nI (4 * t + 4)))] [] (cellOf E σ2)) : V E X room_1 RL code 4 ret 146 3933 Q false 146 761 [(0, .ref b), (1, .ref (Ez E + 0)), (2, .ref (Ez E + 132)), (3, .int (nI (4 * t)))] [] (cellOf E σ) := by
  obtain ⟨v, σ1, hC, post, hM, hA⟩ := t_calm (E := E) h (by omega) (xs (nI (4 * t + 1)).toNatClampNeg) (xs (nI (4 * t + 2)).toNatClampNeg)
  obtain ⟨f1, e1⟩ := oC E σ
  obtain ⟨f2, e2⟩ := oM E σ1
  refine v_aload_n (pc := 761) 1 dL_law_761 rfl rfl ?_
  refine v_aload_n (pc := 762) 0 dL_law_762 rfl rfl ?_
  refine v_iload_n (pc := 763) 3 dL_law_763 rfl rfl ?_
  refine v_iconst (pc := 764) (nI 1) dL_law_764 kI_1 ?_
  refine v_iaddN (pc := 765) dL_law_765 ?_
  refine v_sld (pc := 766) hX (vp_in_nI (by omega) (by omega)) dL_law_766 ?_
  refine v_aload_n (pc := 767) 0 dL_law_767 rfl rfl ?_
  refine v_iload_n (pc := 768) 3 dL_law_768 rfl rfl ?_
  refine v_iconst (pc := 769) (nI 2) dL_law_769 kI_2 ?_
  refine v_iaddN (pc := 770) dL_law_770 ?_
  refine v_sld (pc := 771) hX (vp_in_nI (by omega) (by omega)) dL_law_771 ?_
  refine v_callV (pc := 772) _ _ k_L_102 e1 rfl (by omega) hC ⟨rfl, rfl, by decide⟩ rfl rfl (Nat.le_of_ble_eq_true rfl) ⟨Nat.le_of_ble_eq_true rfl, Nat.le_of_ble_eq_true rfl⟩ dL_law_772 (unS ?_)
  show V E X _ RL _ _ _ 146 3933 _ false 146 775 _ [_] _
  refine v_aload_n (pc := 775) 2 dL_law_775 rfl rfl ?_
  refine v_aload_n (pc := 776) 0 dL_law_776 rfl rfl ?_
  refine v_iload_n (pc := 777) 3 dL_law_777 rfl rfl ?_
  refine v_iconst (pc := 778) (nI 1) dL_law_778 kI_1 ?_
  refine v_iaddN (pc := 779) dL_law_779 ?_
  refine v_sld (pc := 780) hX (vp_in_nI (by omega) (by omega)) dL_law_780 ?_
  refine v_aload_n (pc := 781) 0 dL_law_781 rfl rfl ?_
  refine v_iload_n (pc := 782) 3 dL_law_782 rfl rfl ?_
  refine v_iconst (pc := 783) (nI 2) dL_law_783 kI_2 ?_
  refine v_iaddN (pc := 784) dL_law_784 ?_
  refine v_sld (pc := 785) hX (vp_in_nI (by omega) (by omega)) dL_law_785 ?_
  refine v_callV (pc := 786) _ _ k_L_105 e2 rfl (by omega) hM ⟨rfl, rfl, by decide⟩ rfl rfl (Nat.le_of_ble_eq_true rfl) ⟨Nat.le_of_ble_eq_true rfl, Nat.le_of_ble_eq_true rfl⟩ dL_law_786 (fun r h2 q => ?_)
  obtain ⟨rfl, σ2, rfl, hR⟩ := hA r h2 q
  show V E X _ RL _ _ _ 146 3933 _ false 146 789 _ [_, _] _
  refine v_icmp_eq (pc := 789) (tgt := 1027) dL_law_789 rfl (fun _ => ?_) (fun c_ => absurd rfl c_)
  refine v_iincN (pc := 1027) 3 [1, 2, 3, 0] [(0, _), (1, _), (2, _), (3, _)] kI_4 dL_law_1027 rfl (by decide) rfl ?_
  refine v_goto (pc := 1030) (tgt := 18) dL_law_1030 rfl ?_
  exact ih σ2 hR
set_option maxHeartbeats 4000000 in
set_option maxRecDepth 100000 in
theorem l_watch {E : Ev} {X : Cx} {Q : State → Prop} {b L t : Nat} {xs : Nat → Int32} {σ : Sg} (hX : ScrA E X b L xs) (hL : L ≤ 256) (ht : 4 * t + 4 ≤ L) (h : RS (1500 * t) σ) (ih : ∀ σ2, RS (1500 * t + 1500) σ2 → V E X room_1 RL code 4 ret 146 3933 Q false 146 18 [(0, .ref b), (1, .ref (Ez E + 0)), (2, .ref (Ez E + 132)), (3, .int (nI (4 * t + 4)))] [] (cellOf E σ2)) : V E X room_1 RL code 4 ret 146 3933 Q false 146 794 [(0, .ref b), (1, .ref (Ez E + 0)), (2, .ref (Ez E + 132)), (3, .int (nI (4 * t)))] [] (cellOf E σ) := by
  obtain ⟨v, σ1, hC, post, hM, hA⟩ := t_watch (E := E) h (by omega) (xs (nI (4 * t + 1)).toNatClampNeg)
  obtain ⟨f1, e1⟩ := oC E σ
  obtain ⟨f2, e2⟩ := oM E σ1
  refine v_aload_n (pc := 794) 1 dL_law_794 rfl rfl ?_
  refine v_aload_n (pc := 795) 0 dL_law_795 rfl rfl ?_
  refine v_iload_n (pc := 796) 3 dL_law_796 rfl rfl ?_
  refine v_iconst (pc := 797) (nI 1) dL_law_797 kI_1 ?_
  refine v_iaddN (pc := 798) dL_law_798 ?_
  refine v_sld (pc := 799) hX (vp_in_nI (by omega) (by omega)) dL_law_799 ?_
  refine v_callV (pc := 800) _ _ k_L_106 e1 rfl (by omega) hC ⟨rfl, rfl, by decide⟩ rfl rfl (Nat.le_of_ble_eq_true rfl) ⟨Nat.le_of_ble_eq_true rfl, Nat.le_of_ble_eq_true rfl⟩ dL_law_800 (unS ?_)
  show V E X _ RL _ _ _ 146 3933 _ false 146 803 _ [_] _
  refine v_aload_n (pc := 803) 2 dL_law_803 rfl rfl ?_
  refine v_aload_n (pc := 804) 0 dL_law_804 rfl rfl ?_
  refine v_iload_n (pc := 805) 3 dL_law_805 rfl rfl ?_
  refine v_iconst (pc := 806) (nI 1) dL_law_806 kI_1 ?_
  refine v_iaddN (pc := 807) dL_law_807 ?_
  refine v_sld (pc := 808) hX (vp_in_nI (by omega) (by omega)) dL_law_808 ?_
  refine v_callV (pc := 809) _ _ k_L_109 e2 rfl (by omega) hM ⟨rfl, rfl, by decide⟩ rfl rfl (Nat.le_of_ble_eq_true rfl) ⟨Nat.le_of_ble_eq_true rfl, Nat.le_of_ble_eq_true rfl⟩ dL_law_809 (fun r h2 q => ?_)
  obtain ⟨rfl, σ2, rfl, hR⟩ := hA r h2 q
  show V E X _ RL _ _ _ 146 3933 _ false 146 812 _ [_, _] _
  refine v_icmp_eq (pc := 812) (tgt := 1027) dL_law_812 rfl (fun _ => ?_) (fun c_ => absurd rfl c_)
  refine v_iincN (pc := 1027) 3 [1, 2, 3, 0] [(0, _), (1, _), (2, _), (3, _)] kI_4 dL_law_1027 rfl (by decide) rfl ?_
  refine v_goto (pc := 1030) (tgt := 18) dL_law_1030 rfl ?_
  exact ih σ2 hR
set_option maxHeartbeats 4000000 in
set_option maxRecDepth 100000 in
theorem l_feel {E : Ev} {X : Cx} {Q : State → Prop} {b L t : Nat} {xs : Nat → Int32} {σ : Sg} (hX : ScrA E X b L xs) (hL : L ≤ 256) (ht : 4 * t + 4 ≤ L) (h : RS (1500 * t) σ) (ih : ∀ σ2, RS (1500 * t + 1500) σ2 → V E X room_1 RL code 4 ret 146 3933 Q false 146 18 [(0, .ref b), (1, .ref (Ez E + 0)), (2, .ref (Ez E + 132)), (3, .int (nI (4 * t + 4)))] [] (cellOf E σ2)) : V E X room_1 RL code 4 ret 146 3933 Q false 146 817 [(0, .ref b), (1, .ref (Ez E + 0)), (2, .ref (Ez E + 132)), (3, .int (nI (4 * t)))] [] (cellOf E σ) := by
  by_cases hz : xs (nI (4 * t + 3)).toNatClampNeg = 0
  · obtain ⟨v, σ1, hC, post, hM, hA⟩ := t_feel (E := E) h (by omega) (xs (nI (4 * t + 1)).toNatClampNeg) (xs (nI (4 * t + 2)).toNatClampNeg) false
    obtain ⟨f1, e1⟩ := oC E σ
    obtain ⟨f2, e2⟩ := oM E σ1
    refine v_aload_n (pc := 817) 1 dL_law_817 rfl rfl ?_
    refine v_aload_n (pc := 818) 0 dL_law_818 rfl rfl ?_
    refine v_iload_n (pc := 819) 3 dL_law_819 rfl rfl ?_
    refine v_iconst (pc := 820) (nI 1) dL_law_820 kI_1 ?_
    refine v_iaddN (pc := 821) dL_law_821 ?_
    refine v_sld (pc := 822) hX (vp_in_nI (by omega) (by omega)) dL_law_822 ?_
    refine v_aload_n (pc := 823) 0 dL_law_823 rfl rfl ?_
    refine v_iload_n (pc := 824) 3 dL_law_824 rfl rfl ?_
    refine v_iconst (pc := 825) (nI 2) dL_law_825 kI_2 ?_
    refine v_iaddN (pc := 826) dL_law_826 ?_
    refine v_sld (pc := 827) hX (vp_in_nI (by omega) (by omega)) dL_law_827 ?_
    refine v_aload_n (pc := 828) 0 dL_law_828 rfl rfl ?_
    refine v_iload_n (pc := 829) 3 dL_law_829 rfl rfl ?_
    refine v_iconst (pc := 830) (nI 3) dL_law_830 kI_3 ?_
    refine v_iaddN (pc := 831) dL_law_831 ?_
    refine v_sld (pc := 832) hX (vp_in_nI (by omega) (by omega)) dL_law_832 ?_
    refine v_if_eq (pc := 833) (tgt := 840) dL_law_833 rfl (fun _ => ?_) (fun c_ => absurd hz c_)
    refine v_iconst (pc := 840) (nI 0) dL_law_840 kI_0 ?_
    refine v_callV (pc := 841) _ _ k_L_110 e1 rfl (by omega) hC ⟨rfl, rfl, by decide⟩ rfl rfl (Nat.le_of_ble_eq_true rfl) ⟨Nat.le_of_ble_eq_true rfl, Nat.le_of_ble_eq_true rfl⟩ dL_law_841 (unS ?_)
    show V E X _ RL _ _ _ 146 3933 _ false 146 844 _ [_] _
    refine v_aload_n (pc := 844) 2 dL_law_844 rfl rfl ?_
    refine v_aload_n (pc := 845) 0 dL_law_845 rfl rfl ?_
    refine v_iload_n (pc := 846) 3 dL_law_846 rfl rfl ?_
    refine v_iconst (pc := 847) (nI 1) dL_law_847 kI_1 ?_
    refine v_iaddN (pc := 848) dL_law_848 ?_
    refine v_sld (pc := 849) hX (vp_in_nI (by omega) (by omega)) dL_law_849 ?_
    refine v_aload_n (pc := 850) 0 dL_law_850 rfl rfl ?_
    refine v_iload_n (pc := 851) 3 dL_law_851 rfl rfl ?_
    refine v_iconst (pc := 852) (nI 2) dL_law_852 kI_2 ?_
    refine v_iaddN (pc := 853) dL_law_853 ?_
    refine v_sld (pc := 854) hX (vp_in_nI (by omega) (by omega)) dL_law_854 ?_
    refine v_aload_n (pc := 855) 0 dL_law_855 rfl rfl ?_
    refine v_iload_n (pc := 856) 3 dL_law_856 rfl rfl ?_
    refine v_iconst (pc := 857) (nI 3) dL_law_857 kI_3 ?_
    refine v_iaddN (pc := 858) dL_law_858 ?_
    refine v_sld (pc := 859) hX (vp_in_nI (by omega) (by omega)) dL_law_859 ?_
    refine v_if_eq (pc := 860) (tgt := 867) dL_law_860 rfl (fun _ => ?_) (fun c_ => absurd hz c_)
    refine v_iconst (pc := 867) (nI 0) dL_law_867 kI_0 ?_
    refine v_callV (pc := 868) _ _ k_L_114 e2 rfl (by omega) hM ⟨rfl, rfl, by decide⟩ rfl rfl (Nat.le_of_ble_eq_true rfl) ⟨Nat.le_of_ble_eq_true rfl, Nat.le_of_ble_eq_true rfl⟩ dL_law_868 (fun r h2 q => ?_)
    obtain ⟨rfl, σ2, rfl, hR⟩ := hA r h2 q
    show V E X _ RL _ _ _ 146 3933 _ false 146 871 _ [_, _] _
    refine v_icmp_eq (pc := 871) (tgt := 1027) dL_law_871 rfl (fun _ => ?_) (fun c_ => absurd rfl c_)
    refine v_iincN (pc := 1027) 3 [1, 2, 3, 0] [(0, _), (1, _), (2, _), (3, _)] kI_4 dL_law_1027 rfl (by decide) rfl ?_
    refine v_goto (pc := 1030) (tgt := 18) dL_law_1030 rfl ?_
    exact ih σ2 hR
  · obtain ⟨v, σ1, hC, post, hM, hA⟩ := t_feel (E := E) h (by omega) (xs (nI (4 * t + 1)).toNatClampNeg) (xs (nI (4 * t + 2)).toNatClampNeg) true
    obtain ⟨f1, e1⟩ := oC E σ
    obtain ⟨f2, e2⟩ := oM E σ1
    refine v_aload_n (pc := 817) 1 dL_law_817 rfl rfl ?_
    refine v_aload_n (pc := 818) 0 dL_law_818 rfl rfl ?_
    refine v_iload_n (pc := 819) 3 dL_law_819 rfl rfl ?_
    refine v_iconst (pc := 820) (nI 1) dL_law_820 kI_1 ?_
    refine v_iaddN (pc := 821) dL_law_821 ?_
    refine v_sld (pc := 822) hX (vp_in_nI (by omega) (by omega)) dL_law_822 ?_
    refine v_aload_n (pc := 823) 0 dL_law_823 rfl rfl ?_
    refine v_iload_n (pc := 824) 3 dL_law_824 rfl rfl ?_
    refine v_iconst (pc := 825) (nI 2) dL_law_825 kI_2 ?_
    refine v_iaddN (pc := 826) dL_law_826 ?_
    refine v_sld (pc := 827) hX (vp_in_nI (by omega) (by omega)) dL_law_827 ?_
    refine v_aload_n (pc := 828) 0 dL_law_828 rfl rfl ?_
    refine v_iload_n (pc := 829) 3 dL_law_829 rfl rfl ?_
    refine v_iconst (pc := 830) (nI 3) dL_law_830 kI_3 ?_
    refine v_iaddN (pc := 831) dL_law_831 ?_
    refine v_sld (pc := 832) hX (vp_in_nI (by omega) (by omega)) dL_law_832 ?_
    refine v_if_eq (pc := 833) (tgt := 840) dL_law_833 rfl (fun c_ => absurd c_ hz) (fun _ => ?_)
    refine v_iconst (pc := 836) (nI 1) dL_law_836 kI_1 ?_
    refine v_goto (pc := 837) (tgt := 841) dL_law_837 rfl ?_
    refine v_callV (pc := 841) _ _ k_L_110 e1 rfl (by omega) hC ⟨rfl, rfl, by decide⟩ rfl rfl (Nat.le_of_ble_eq_true rfl) ⟨Nat.le_of_ble_eq_true rfl, Nat.le_of_ble_eq_true rfl⟩ dL_law_841 (unS ?_)
    show V E X _ RL _ _ _ 146 3933 _ false 146 844 _ [_] _
    refine v_aload_n (pc := 844) 2 dL_law_844 rfl rfl ?_
    refine v_aload_n (pc := 845) 0 dL_law_845 rfl rfl ?_
    refine v_iload_n (pc := 846) 3 dL_law_846 rfl rfl ?_
    refine v_iconst (pc := 847) (nI 1) dL_law_847 kI_1 ?_
    refine v_iaddN (pc := 848) dL_law_848 ?_
    refine v_sld (pc := 849) hX (vp_in_nI (by omega) (by omega)) dL_law_849 ?_
    refine v_aload_n (pc := 850) 0 dL_law_850 rfl rfl ?_
    refine v_iload_n (pc := 851) 3 dL_law_851 rfl rfl ?_
    refine v_iconst (pc := 852) (nI 2) dL_law_852 kI_2 ?_
    refine v_iaddN (pc := 853) dL_law_853 ?_
    refine v_sld (pc := 854) hX (vp_in_nI (by omega) (by omega)) dL_law_854 ?_
    refine v_aload_n (pc := 855) 0 dL_law_855 rfl rfl ?_
    refine v_iload_n (pc := 856) 3 dL_law_856 rfl rfl ?_
    refine v_iconst (pc := 857) (nI 3) dL_law_857 kI_3 ?_
    refine v_iaddN (pc := 858) dL_law_858 ?_
    refine v_sld (pc := 859) hX (vp_in_nI (by omega) (by omega)) dL_law_859 ?_
    refine v_if_eq (pc := 860) (tgt := 867) dL_law_860 rfl (fun c_ => absurd c_ hz) (fun _ => ?_)
    refine v_iconst (pc := 863) (nI 1) dL_law_863 kI_1 ?_
    refine v_goto (pc := 864) (tgt := 868) dL_law_864 rfl ?_
    refine v_callV (pc := 868) _ _ k_L_114 e2 rfl (by omega) hM ⟨rfl, rfl, by decide⟩ rfl rfl (Nat.le_of_ble_eq_true rfl) ⟨Nat.le_of_ble_eq_true rfl, Nat.le_of_ble_eq_true rfl⟩ dL_law_868 (fun r h2 q => ?_)
    obtain ⟨rfl, σ2, rfl, hR⟩ := hA r h2 q
    show V E X _ RL _ _ _ 146 3933 _ false 146 871 _ [_, _] _
    refine v_icmp_eq (pc := 871) (tgt := 1027) dL_law_871 rfl (fun _ => ?_) (fun c_ => absurd rfl c_)
    refine v_iincN (pc := 1027) 3 [1, 2, 3, 0] [(0, _), (1, _), (2, _), (3, _)] kI_4 dL_law_1027 rfl (by decide) rfl ?_
    refine v_goto (pc := 1030) (tgt := 18) dL_law_1030 rfl ?_
    exact ih σ2 hR
set_option maxHeartbeats 4000000 in
set_option maxRecDepth 100000 in
theorem l_reach {E : Ev} {X : Cx} {Q : State → Prop} {b L t : Nat} {xs : Nat → Int32} {σ : Sg} (hX : ScrA E X b L xs) (hL : L ≤ 256) (ht : 4 * t + 4 ≤ L) (h : RS (1500 * t) σ) (ih : ∀ σ2, RS (1500 * t + 1500) σ2 → V E X room_1 RL code 4 ret 146 3933 Q false 146 18 [(0, .ref b), (1, .ref (Ez E + 0)), (2, .ref (Ez E + 132)), (3, .int (nI (4 * t + 4)))] [] (cellOf E σ2)) : V E X room_1 RL code 4 ret 146 3933 Q false 146 876 [(0, .ref b), (1, .ref (Ez E + 0)), (2, .ref (Ez E + 132)), (3, .int (nI (4 * t)))] [] (cellOf E σ) := by
  obtain ⟨v, σ1, hC, post, hM, hA⟩ := t_reach (E := E) h (by omega) (xs (nI (4 * t + 1)).toNatClampNeg)
  obtain ⟨f1, e1⟩ := oC E σ
  obtain ⟨f2, e2⟩ := oM E σ1
  refine v_aload_n (pc := 876) 1 dL_law_876 rfl rfl ?_
  refine v_aload_n (pc := 877) 0 dL_law_877 rfl rfl ?_
  refine v_iload_n (pc := 878) 3 dL_law_878 rfl rfl ?_
  refine v_iconst (pc := 879) (nI 1) dL_law_879 kI_1 ?_
  refine v_iaddN (pc := 880) dL_law_880 ?_
  refine v_sld (pc := 881) hX (vp_in_nI (by omega) (by omega)) dL_law_881 ?_
  refine v_callV (pc := 882) _ _ k_L_115 e1 rfl (by omega) hC ⟨rfl, rfl, by decide⟩ rfl rfl (Nat.le_of_ble_eq_true rfl) ⟨Nat.le_of_ble_eq_true rfl, Nat.le_of_ble_eq_true rfl⟩ dL_law_882 (unS ?_)
  show V E X _ RL _ _ _ 146 3933 _ false 146 885 _ [_] _
  refine v_aload_n (pc := 885) 2 dL_law_885 rfl rfl ?_
  refine v_aload_n (pc := 886) 0 dL_law_886 rfl rfl ?_
  refine v_iload_n (pc := 887) 3 dL_law_887 rfl rfl ?_
  refine v_iconst (pc := 888) (nI 1) dL_law_888 kI_1 ?_
  refine v_iaddN (pc := 889) dL_law_889 ?_
  refine v_sld (pc := 890) hX (vp_in_nI (by omega) (by omega)) dL_law_890 ?_
  refine v_callV (pc := 891) _ _ k_L_118 e2 rfl (by omega) hM ⟨rfl, rfl, by decide⟩ rfl rfl (Nat.le_of_ble_eq_true rfl) ⟨Nat.le_of_ble_eq_true rfl, Nat.le_of_ble_eq_true rfl⟩ dL_law_891 (fun r h2 q => ?_)
  obtain ⟨rfl, σ2, rfl, hR⟩ := hA r h2 q
  show V E X _ RL _ _ _ 146 3933 _ false 146 894 _ [_, _] _
  refine v_icmp_eq (pc := 894) (tgt := 1027) dL_law_894 rfl (fun _ => ?_) (fun c_ => absurd rfl c_)
  refine v_iincN (pc := 1027) 3 [1, 2, 3, 0] [(0, _), (1, _), (2, _), (3, _)] kI_4 dL_law_1027 rfl (by decide) rfl ?_
  refine v_goto (pc := 1030) (tgt := 18) dL_law_1030 rfl ?_
  exact ih σ2 hR
set_option maxHeartbeats 4000000 in
set_option maxRecDepth 100000 in
theorem l_write {E : Ev} {X : Cx} {Q : State → Prop} {b L t : Nat} {xs : Nat → Int32} {σ : Sg} (hX : ScrA E X b L xs) (hL : L ≤ 256) (ht : 4 * t + 4 ≤ L) (h : RS (1500 * t) σ) (ih : ∀ σ2, RS (1500 * t + 1500) σ2 → V E X room_1 RL code 4 ret 146 3933 Q false 146 18 [(0, .ref b), (1, .ref (Ez E + 0)), (2, .ref (Ez E + 132)), (3, .int (nI (4 * t + 4)))] [] (cellOf E σ2)) : V E X room_1 RL code 4 ret 146 3933 Q false 146 899 [(0, .ref b), (1, .ref (Ez E + 0)), (2, .ref (Ez E + 132)), (3, .int (nI (4 * t)))] [] (cellOf E σ) := by
  obtain ⟨v, σ1, hC, post, hM, hA⟩ := t_write (E := E) h (by omega) (xs (nI (4 * t + 1)).toNatClampNeg) (xs (nI (4 * t + 2)).toNatClampNeg)
  obtain ⟨f1, e1⟩ := oC E σ
  obtain ⟨f2, e2⟩ := oM E σ1
  refine v_aload_n (pc := 899) 1 dL_law_899 rfl rfl ?_
  refine v_aload_n (pc := 900) 0 dL_law_900 rfl rfl ?_
  refine v_iload_n (pc := 901) 3 dL_law_901 rfl rfl ?_
  refine v_iconst (pc := 902) (nI 1) dL_law_902 kI_1 ?_
  refine v_iaddN (pc := 903) dL_law_903 ?_
  refine v_sld (pc := 904) hX (vp_in_nI (by omega) (by omega)) dL_law_904 ?_
  refine v_aload_n (pc := 905) 0 dL_law_905 rfl rfl ?_
  refine v_iload_n (pc := 906) 3 dL_law_906 rfl rfl ?_
  refine v_iconst (pc := 907) (nI 2) dL_law_907 kI_2 ?_
  refine v_iaddN (pc := 908) dL_law_908 ?_
  refine v_sld (pc := 909) hX (vp_in_nI (by omega) (by omega)) dL_law_909 ?_
  refine v_callV (pc := 910) _ _ k_L_119 e1 rfl (by omega) hC ⟨rfl, rfl, by decide⟩ rfl rfl (Nat.le_of_ble_eq_true rfl) ⟨Nat.le_of_ble_eq_true rfl, Nat.le_of_ble_eq_true rfl⟩ dL_law_910 (unS ?_)
  show V E X _ RL _ _ _ 146 3933 _ false 146 913 _ [_] _
  refine v_aload_n (pc := 913) 2 dL_law_913 rfl rfl ?_
  refine v_aload_n (pc := 914) 0 dL_law_914 rfl rfl ?_
  refine v_iload_n (pc := 915) 3 dL_law_915 rfl rfl ?_
  refine v_iconst (pc := 916) (nI 1) dL_law_916 kI_1 ?_
  refine v_iaddN (pc := 917) dL_law_917 ?_
  refine v_sld (pc := 918) hX (vp_in_nI (by omega) (by omega)) dL_law_918 ?_
  refine v_aload_n (pc := 919) 0 dL_law_919 rfl rfl ?_
  refine v_iload_n (pc := 920) 3 dL_law_920 rfl rfl ?_
  refine v_iconst (pc := 921) (nI 2) dL_law_921 kI_2 ?_
  refine v_iaddN (pc := 922) dL_law_922 ?_
  refine v_sld (pc := 923) hX (vp_in_nI (by omega) (by omega)) dL_law_923 ?_
  refine v_callV (pc := 924) _ _ k_L_122 e2 rfl (by omega) hM ⟨rfl, rfl, by decide⟩ rfl rfl (Nat.le_of_ble_eq_true rfl) ⟨Nat.le_of_ble_eq_true rfl, Nat.le_of_ble_eq_true rfl⟩ dL_law_924 (fun r h2 q => ?_)
  obtain ⟨rfl, σ2, rfl, hR⟩ := hA r h2 q
  show V E X _ RL _ _ _ 146 3933 _ false 146 927 _ [_, _] _
  refine v_icmp_eq (pc := 927) (tgt := 1027) dL_law_927 rfl (fun _ => ?_) (fun c_ => absurd rfl c_)
  refine v_iincN (pc := 1027) 3 [1, 2, 3, 0] [(0, _), (1, _), (2, _), (3, _)] kI_4 dL_law_1027 rfl (by decide) rfl ?_
  refine v_goto (pc := 1030) (tgt := 18) dL_law_1030 rfl ?_
  exact ih σ2 hR
set_option maxHeartbeats 4000000 in
set_option maxRecDepth 100000 in
theorem l_tear {E : Ev} {X : Cx} {Q : State → Prop} {b L t : Nat} {xs : Nat → Int32} {σ : Sg} (hX : ScrA E X b L xs) (hL : L ≤ 256) (ht : 4 * t + 4 ≤ L) (h : RS (1500 * t) σ) (ih : ∀ σ2, RS (1500 * t + 1500) σ2 → V E X room_1 RL code 4 ret 146 3933 Q false 146 18 [(0, .ref b), (1, .ref (Ez E + 0)), (2, .ref (Ez E + 132)), (3, .int (nI (4 * t + 4)))] [] (cellOf E σ2)) : V E X room_1 RL code 4 ret 146 3933 Q false 146 932 [(0, .ref b), (1, .ref (Ez E + 0)), (2, .ref (Ez E + 132)), (3, .int (nI (4 * t)))] [] (cellOf E σ) := by
  obtain ⟨v, σ1, hC, post, hM, hA⟩ := t_tear (E := E) h (by omega) 
  obtain ⟨f1, e1⟩ := oC E σ
  obtain ⟨f2, e2⟩ := oM E σ1
  refine v_aload_n (pc := 932) 1 dL_law_932 rfl rfl ?_
  refine v_callV (pc := 933) _ _ k_L_123 e1 rfl (by omega) hC ⟨rfl, rfl, by decide⟩ rfl rfl (Nat.le_of_ble_eq_true rfl) ⟨Nat.le_of_ble_eq_true rfl, Nat.le_of_ble_eq_true rfl⟩ dL_law_933 (unS ?_)
  show V E X _ RL _ _ _ 146 3933 _ false 146 936 _ [_] _
  refine v_aload_n (pc := 936) 2 dL_law_936 rfl rfl ?_
  refine v_callV (pc := 937) _ _ k_L_126 e2 rfl (by omega) hM ⟨rfl, rfl, by decide⟩ rfl rfl (Nat.le_of_ble_eq_true rfl) ⟨Nat.le_of_ble_eq_true rfl, Nat.le_of_ble_eq_true rfl⟩ dL_law_937 (fun r h2 q => ?_)
  obtain ⟨rfl, σ2, rfl, hR⟩ := hA r h2 q
  show V E X _ RL _ _ _ 146 3933 _ false 146 940 _ [_, _] _
  refine v_icmp_eq (pc := 940) (tgt := 1027) dL_law_940 rfl (fun _ => ?_) (fun c_ => absurd rfl c_)
  refine v_iincN (pc := 1027) 3 [1, 2, 3, 0] [(0, _), (1, _), (2, _), (3, _)] kI_4 dL_law_1027 rfl (by decide) rfl ?_
  refine v_goto (pc := 1030) (tgt := 18) dL_law_1030 rfl ?_
  exact ih σ2 hR
set_option maxHeartbeats 4000000 in
set_option maxRecDepth 100000 in
theorem l_judge {E : Ev} {X : Cx} {Q : State → Prop} {b L t : Nat} {xs : Nat → Int32} {σ : Sg} (hX : ScrA E X b L xs) (hL : L ≤ 256) (ht : 4 * t + 4 ≤ L) (h : RS (1500 * t) σ) (ih : ∀ σ2, RS (1500 * t + 1500) σ2 → V E X room_1 RL code 4 ret 146 3933 Q false 146 18 [(0, .ref b), (1, .ref (Ez E + 0)), (2, .ref (Ez E + 132)), (3, .int (nI (4 * t + 4)))] [] (cellOf E σ2)) : V E X room_1 RL code 4 ret 146 3933 Q false 146 945 [(0, .ref b), (1, .ref (Ez E + 0)), (2, .ref (Ez E + 132)), (3, .int (nI (4 * t)))] [] (cellOf E σ) := by
  obtain ⟨v, σ1, hC, post, hM, hA⟩ := t_judge (E := E) h (by omega) 
  obtain ⟨f1, e1⟩ := oC E σ
  obtain ⟨f2, e2⟩ := oM E σ1
  refine v_aload_n (pc := 945) 1 dL_law_945 rfl rfl ?_
  refine v_callV (pc := 946) _ _ k_L_127 e1 rfl (by omega) hC ⟨rfl, rfl, by decide⟩ rfl rfl (Nat.le_of_ble_eq_true rfl) ⟨Nat.le_of_ble_eq_true rfl, Nat.le_of_ble_eq_true rfl⟩ dL_law_946 (unS ?_)
  show V E X _ RL _ _ _ 146 3933 _ false 146 949 _ [_] _
  refine v_aload_n (pc := 949) 2 dL_law_949 rfl rfl ?_
  refine v_callV (pc := 950) _ _ k_L_130 e2 rfl (by omega) hM ⟨rfl, rfl, by decide⟩ rfl rfl (Nat.le_of_ble_eq_true rfl) ⟨Nat.le_of_ble_eq_true rfl, Nat.le_of_ble_eq_true rfl⟩ dL_law_950 (fun r h2 q => ?_)
  obtain ⟨rfl, σ2, rfl, hR⟩ := hA r h2 q
  show V E X _ RL _ _ _ 146 3933 _ false 146 953 _ [_, _] _
  refine v_icmp_eq (pc := 953) (tgt := 1027) dL_law_953 rfl (fun _ => ?_) (fun c_ => absurd rfl c_)
  refine v_iincN (pc := 1027) 3 [1, 2, 3, 0] [(0, _), (1, _), (2, _), (3, _)] kI_4 dL_law_1027 rfl (by decide) rfl ?_
  refine v_goto (pc := 1030) (tgt := 18) dL_law_1030 rfl ?_
  exact ih σ2 hR
set_option maxHeartbeats 4000000 in
set_option maxRecDepth 100000 in
theorem l_seed {E : Ev} {X : Cx} {Q : State → Prop} {b L t : Nat} {xs : Nat → Int32} {σ : Sg} (hX : ScrA E X b L xs) (hL : L ≤ 256) (ht : 4 * t + 4 ≤ L) (h : RS (1500 * t) σ) (ih : ∀ σ2, RS (1500 * t + 1500) σ2 → V E X room_1 RL code 4 ret 146 3933 Q false 146 18 [(0, .ref b), (1, .ref (Ez E + 0)), (2, .ref (Ez E + 132)), (3, .int (nI (4 * t + 4)))] [] (cellOf E σ2)) : V E X room_1 RL code 4 ret 146 3933 Q false 146 958 [(0, .ref b), (1, .ref (Ez E + 0)), (2, .ref (Ez E + 132)), (3, .int (nI (4 * t)))] [] (cellOf E σ) := by
  obtain ⟨v, σ1, hC, post, hM, hA⟩ := t_seed (E := E) h (by omega) (xs (nI (4 * t + 1)).toNatClampNeg)
  obtain ⟨f1, e1⟩ := oC E σ
  obtain ⟨f2, e2⟩ := oM E σ1
  refine v_aload_n (pc := 958) 1 dL_law_958 rfl rfl ?_
  refine v_aload_n (pc := 959) 0 dL_law_959 rfl rfl ?_
  refine v_iload_n (pc := 960) 3 dL_law_960 rfl rfl ?_
  refine v_iconst (pc := 961) (nI 1) dL_law_961 kI_1 ?_
  refine v_iaddN (pc := 962) dL_law_962 ?_
  refine v_sld (pc := 963) hX (vp_in_nI (by omega) (by omega)) dL_law_963 ?_
  refine v_callV (pc := 964) _ _ k_L_131 e1 rfl (by omega) hC ⟨rfl, rfl, by decide⟩ rfl rfl (Nat.le_of_ble_eq_true rfl) ⟨Nat.le_of_ble_eq_true rfl, Nat.le_of_ble_eq_true rfl⟩ dL_law_964 (unS ?_)
  show V E X _ RL _ _ _ 146 3933 _ false 146 967 _ [_] _
  refine v_aload_n (pc := 967) 2 dL_law_967 rfl rfl ?_
  refine v_aload_n (pc := 968) 0 dL_law_968 rfl rfl ?_
  refine v_iload_n (pc := 969) 3 dL_law_969 rfl rfl ?_
  refine v_iconst (pc := 970) (nI 1) dL_law_970 kI_1 ?_
  refine v_iaddN (pc := 971) dL_law_971 ?_
  refine v_sld (pc := 972) hX (vp_in_nI (by omega) (by omega)) dL_law_972 ?_
  refine v_callV (pc := 973) _ _ k_L_134 e2 rfl (by omega) hM ⟨rfl, rfl, by decide⟩ rfl rfl (Nat.le_of_ble_eq_true rfl) ⟨Nat.le_of_ble_eq_true rfl, Nat.le_of_ble_eq_true rfl⟩ dL_law_973 (fun r h2 q => ?_)
  obtain ⟨rfl, σ2, rfl, hR⟩ := hA r h2 q
  show V E X _ RL _ _ _ 146 3933 _ false 146 976 _ [_, _] _
  refine v_icmp_eq (pc := 976) (tgt := 1027) dL_law_976 rfl (fun _ => ?_) (fun c_ => absurd rfl c_)
  refine v_iincN (pc := 1027) 3 [1, 2, 3, 0] [(0, _), (1, _), (2, _), (3, _)] kI_4 dL_law_1027 rfl (by decide) rfl ?_
  refine v_goto (pc := 1030) (tgt := 18) dL_law_1030 rfl ?_
  exact ih σ2 hR
set_option maxHeartbeats 4000000 in
set_option maxRecDepth 100000 in
theorem l_keep {E : Ev} {X : Cx} {Q : State → Prop} {b L t : Nat} {xs : Nat → Int32} {σ : Sg} (hX : ScrA E X b L xs) (hL : L ≤ 256) (ht : 4 * t + 4 ≤ L) (h : RS (1500 * t) σ) (ih : ∀ σ2, RS (1500 * t + 1500) σ2 → V E X room_1 RL code 4 ret 146 3933 Q false 146 18 [(0, .ref b), (1, .ref (Ez E + 0)), (2, .ref (Ez E + 132)), (3, .int (nI (4 * t + 4)))] [] (cellOf E σ2)) : V E X room_1 RL code 4 ret 146 3933 Q false 146 981 [(0, .ref b), (1, .ref (Ez E + 0)), (2, .ref (Ez E + 132)), (3, .int (nI (4 * t)))] [] (cellOf E σ) := by
  obtain ⟨v, σ1, hC, post, hM, hA⟩ := t_keep (E := E) h (by omega) (xs (nI (4 * t + 1)).toNatClampNeg)
  obtain ⟨f1, e1⟩ := oC E σ
  obtain ⟨f2, e2⟩ := oM E σ1
  refine v_aload_n (pc := 981) 1 dL_law_981 rfl rfl ?_
  refine v_aload_n (pc := 982) 0 dL_law_982 rfl rfl ?_
  refine v_iload_n (pc := 983) 3 dL_law_983 rfl rfl ?_
  refine v_iconst (pc := 984) (nI 1) dL_law_984 kI_1 ?_
  refine v_iaddN (pc := 985) dL_law_985 ?_
  refine v_sld (pc := 986) hX (vp_in_nI (by omega) (by omega)) dL_law_986 ?_
  refine v_callV (pc := 987) _ _ k_L_135 e1 rfl (by omega) hC ⟨rfl, rfl, by decide⟩ rfl rfl (Nat.le_of_ble_eq_true rfl) ⟨Nat.le_of_ble_eq_true rfl, Nat.le_of_ble_eq_true rfl⟩ dL_law_987 (unS ?_)
  show V E X _ RL _ _ _ 146 3933 _ false 146 990 _ [_] _
  refine v_aload_n (pc := 990) 2 dL_law_990 rfl rfl ?_
  refine v_aload_n (pc := 991) 0 dL_law_991 rfl rfl ?_
  refine v_iload_n (pc := 992) 3 dL_law_992 rfl rfl ?_
  refine v_iconst (pc := 993) (nI 1) dL_law_993 kI_1 ?_
  refine v_iaddN (pc := 994) dL_law_994 ?_
  refine v_sld (pc := 995) hX (vp_in_nI (by omega) (by omega)) dL_law_995 ?_
  refine v_callV (pc := 996) _ _ k_L_138 e2 rfl (by omega) hM ⟨rfl, rfl, by decide⟩ rfl rfl (Nat.le_of_ble_eq_true rfl) ⟨Nat.le_of_ble_eq_true rfl, Nat.le_of_ble_eq_true rfl⟩ dL_law_996 (fun r h2 q => ?_)
  obtain ⟨rfl, σ2, rfl, hR⟩ := hA r h2 q
  show V E X _ RL _ _ _ 146 3933 _ false 146 999 _ [_, _] _
  refine v_icmp_eq (pc := 999) (tgt := 1027) dL_law_999 rfl (fun _ => ?_) (fun c_ => absurd rfl c_)
  refine v_iincN (pc := 1027) 3 [1, 2, 3, 0] [(0, _), (1, _), (2, _), (3, _)] kI_4 dL_law_1027 rfl (by decide) rfl ?_
  refine v_goto (pc := 1030) (tgt := 18) dL_law_1030 rfl ?_
  exact ih σ2 hR
set_option maxHeartbeats 4000000 in
set_option maxRecDepth 100000 in
theorem l_goBack {E : Ev} {X : Cx} {Q : State → Prop} {b L t : Nat} {xs : Nat → Int32} {σ : Sg} (hX : ScrA E X b L xs) (hL : L ≤ 256) (ht : 4 * t + 4 ≤ L) (h : RS (1500 * t) σ) (ih : ∀ σ2, RS (1500 * t + 1500) σ2 → V E X room_1 RL code 4 ret 146 3933 Q false 146 18 [(0, .ref b), (1, .ref (Ez E + 0)), (2, .ref (Ez E + 132)), (3, .int (nI (4 * t + 4)))] [] (cellOf E σ2)) : V E X room_1 RL code 4 ret 146 3933 Q false 146 1004 [(0, .ref b), (1, .ref (Ez E + 0)), (2, .ref (Ez E + 132)), (3, .int (nI (4 * t)))] [] (cellOf E σ) := by
  obtain ⟨v, σ1, hC, post, hM, hA⟩ := t_goBack (E := E) h (by omega) (xs (nI (4 * t + 1)).toNatClampNeg)
  obtain ⟨f1, e1⟩ := oC E σ
  obtain ⟨f2, e2⟩ := oM E σ1
  refine v_aload_n (pc := 1004) 1 dL_law_1004 rfl rfl ?_
  refine v_aload_n (pc := 1005) 0 dL_law_1005 rfl rfl ?_
  refine v_iload_n (pc := 1006) 3 dL_law_1006 rfl rfl ?_
  refine v_iconst (pc := 1007) (nI 1) dL_law_1007 kI_1 ?_
  refine v_iaddN (pc := 1008) dL_law_1008 ?_
  refine v_sld (pc := 1009) hX (vp_in_nI (by omega) (by omega)) dL_law_1009 ?_
  refine v_callV (pc := 1010) _ _ k_L_139 e1 rfl (by omega) hC ⟨rfl, rfl, by decide⟩ rfl rfl (Nat.le_of_ble_eq_true rfl) ⟨Nat.le_of_ble_eq_true rfl, Nat.le_of_ble_eq_true rfl⟩ dL_law_1010 (unS ?_)
  show V E X _ RL _ _ _ 146 3933 _ false 146 1013 _ [_] _
  refine v_aload_n (pc := 1013) 2 dL_law_1013 rfl rfl ?_
  refine v_aload_n (pc := 1014) 0 dL_law_1014 rfl rfl ?_
  refine v_iload_n (pc := 1015) 3 dL_law_1015 rfl rfl ?_
  refine v_iconst (pc := 1016) (nI 1) dL_law_1016 kI_1 ?_
  refine v_iaddN (pc := 1017) dL_law_1017 ?_
  refine v_sld (pc := 1018) hX (vp_in_nI (by omega) (by omega)) dL_law_1018 ?_
  refine v_callV (pc := 1019) _ _ k_L_142 e2 rfl (by omega) hM ⟨rfl, rfl, by decide⟩ rfl rfl (Nat.le_of_ble_eq_true rfl) ⟨Nat.le_of_ble_eq_true rfl, Nat.le_of_ble_eq_true rfl⟩ dL_law_1019 (fun r h2 q => ?_)
  obtain ⟨rfl, σ2, rfl, hR⟩ := hA r h2 q
  show V E X _ RL _ _ _ 146 3933 _ false 146 1022 _ [_, _] _
  refine v_icmp_eq (pc := 1022) (tgt := 1027) dL_law_1022 rfl (fun _ => ?_) (fun c_ => absurd rfl c_)
  refine v_iincN (pc := 1027) 3 [1, 2, 3, 0] [(0, _), (1, _), (2, _), (3, _)] kI_4 dL_law_1027 rfl (by decide) rfl ?_
  refine v_goto (pc := 1030) (tgt := 18) dL_law_1030 rfl ?_
  exact ih σ2 hR
