/-! the law: a call of the class, the same call of the reference (printed by wip/whole/gen65.py) -/
abbrev mL_law : Mt := (yL_law, cL_law, 4, some .boolean)
abbrev PL : Po := fun r _ _ => r = some (Iv 1)
abbrev Vz : Vs := fun _ => false
theorem g_icmp_same {X : Cx} {mt : Mt} {d : Nat} {P : Po} {V0 : Vs} {bc bs pc : Nat} {L : Lc} {st : List Av} {V : Vs} {κ : Ks} (tg : Nat) {x : Int} {off : Int} (hd : decode mt.2.1 pc = .ok (.if_icmp .eq off, 3)) (ht : (pc : Int) + off = (tg : Int)) (k : G X mt d P V0 bc bs tg L st V κ) : G X mt d P V0 bc bs pc L (Iv x :: Iv x :: st) V κ := fun p e R s m args below meth c mc ms ρ0 C H locs cells slots ls ρ hh => lv_icmp_eq C.1 C.2.1 hd ht (fun _ => k p e R s m args below meth c mc ms ρ0 C H locs cells slots ls ρ (hh.stk hh.2.2.1.2.2)) (fun z => absurd rfl z)
theorem mrg_self (κ : Ks) : mrg κ κ = κ := by
  funext t
  unfold mrg
  split <;> rfl
theorem m33 {κ : Ks} {p q : Int × Ks} (h : p = (q.1, mrg κ q.2)) (hpq : p = q) : q.2 33 = κ 33 := by
  rw [hpq] at h
  have e : q.2 = mrg κ q.2 := congrArg Prod.snd h
  exact (congrFun e 33).trans (mrg_out (ρ := κ) (κ := q.2) (t := 33) (by decide))
set_option maxHeartbeats 4000000 in
set_option maxRecDepth 20000 in
theorem lw_street {B : Bs} {n0 bcN bsN : Nat} {V : Vs} {κ : Ks} {i : Int} (hn0 : n0 ≤ 3072) (hLI : LI κ V) (hi : 0 ≤ i ∧ i + 6 ≤ (n0 : Int)) (kk : ∀ (κ2 : Ks) (V2 : Vs), LI κ2 V2 → G (XR B n0) mL_law 20 PL Vz bcN bsN 1361 [some (Rf 33), some (Rf 1), some (Rf 40), some (Iv i)] [] V2 κ2) : G (XR B n0) mL_law 20 PL Vz (bcN + 2) (bsN + 44) 180 [some (Rf 33), some (Rf 1), some (Rf 40), some (Iv i)] [] V κ := by
  obtain ⟨hInv, hz⟩ := id hLI
  refine G.rg (fun hR => ?_)
  obtain ⟨a1, e1⟩ : ∃ a : Int, a = κ 33 (i + 1).toNat := ⟨_, rfl⟩
  have r1 : inR a1 := by rw [e1]; exact hR _ _
  obtain ⟨a2, e2⟩ : ∃ a : Int, a = κ 33 (i + 2).toNat := ⟨_, rfl⟩
  have r2 : inR a2 := by rw [e2]; exact hR _ _
  refine G.wk (bc1 := (bcN + 2)) (bs1 := (bsN + 44)) (by omega) (by omega) ?_
  refine g_aload_n 181 dL_law_180 rfl rfl ?_
  refine g_aload_n 182 dL_law_181 rfl rfl ?_
  refine g_iload_n 183 dL_law_182 rfl rfl ?_
  refine g_iconst 184 dL_law_183 (by decide) rfl ?_
  refine g_iadd 185 dL_law_184 rfl ?_
  refine r_iald30 186 (i + 1).toNat (κ 33 (i + 1).toNat) dL_law_185 kd_33 (by omega) (by omega) rfl rfl rfl (fun _ => ?_)
  refine G.eqi (show κ 33 (i + 1).toNat = a1 from e1.symm) ?_
  refine g_aload_n 187 dL_law_186 rfl rfl ?_
  refine g_iload_n 188 dL_law_187 rfl rfl ?_
  refine g_iconst 189 dL_law_188 (by decide) rfl ?_
  refine g_iadd 190 dL_law_189 rfl ?_
  refine r_iald30 191 (i + 2).toNat (κ 33 (i + 2).toNat) dL_law_190 kd_33 (by omega) (by omega) rfl rfl rfl (fun _ => ?_)
  refine G.eqi (show κ 33 (i + 2).toNat = a2 from e2.symm) ?_
  refine p_V 194 bcN bsN [Iv a1, Iv a2] [] dL_law_191 cvL_13 mwX9_street kd_1 (by decide) rfl (Nat.le_of_ble_eq_true rfl) (by omega) (by omega) rfl (c_X9_street r1 r2 hInv) ?_
  intro q1 V1 κ1 hp1
  obtain ⟨hr1, hv1, he1, hc1⟩ := hp1
  subst hr1
  refine ⟨[Iv ((M_street κ a1 a2).1)], rfl, ?_⟩
  have eL := L_street (ρ := κ1) (κ := κ) (a := a1) (l := a2)
  rw [← mrg_eqM he1] at eL
  have z33 : κ1 33 = κ 33 := hc1.2.2.2.2.2.2.2.2.2.2.2.2.2.2.2.trans (m33 (L_street (ρ := κ) (κ := κ) (a := a1) (l := a2)) (by rw [mrg_self]))
  have hI1 : MI κ1 := MI_cl hInv.1 he1
  refine g_aload_n 195 dL_law_194 rfl rfl ?_
  refine g_aload_n 196 dL_law_195 rfl rfl ?_
  refine g_iload_n 197 dL_law_196 rfl rfl ?_
  refine g_iconst 198 dL_law_197 (by decide) rfl ?_
  refine g_iadd 199 dL_law_198 rfl ?_
  refine r_iald30 200 (i + 1).toNat (κ1 33 (i + 1).toNat) dL_law_199 kd_33 (by omega) (by omega) rfl rfl rfl (fun _ => ?_)
  refine G.eqi (show κ1 33 (i + 1).toNat = a1 from by rw [z33, e1]) ?_
  refine g_aload_n 201 dL_law_200 rfl rfl ?_
  refine g_iload_n 202 dL_law_201 rfl rfl ?_
  refine g_iconst 203 dL_law_202 (by decide) rfl ?_
  refine g_iadd 204 dL_law_203 rfl ?_
  refine r_iald30 205 (i + 2).toNat (κ1 33 (i + 2).toNat) dL_law_204 kd_33 (by omega) (by omega) rfl rfl rfl (fun _ => ?_)
  refine G.eqi (show κ1 33 (i + 2).toNat = a2 from by rw [z33, e2]) ?_
  refine p_V 208 bcN bsN [Iv a1, Iv a2] [Iv ((M_street κ a1 a2).1)] dL_law_205 cvL_17 mwX10_street kd_40 (by decide) rfl (Nat.le_of_ble_eq_true rfl) (by omega) (by omega) rfl (c_X10_street r1 r2 hI1) ?_
  intro q2 V2 κ2 hp2
  obtain ⟨hr2, hv2, hk2⟩ := hp2
  rw [eL] at hr2 hk2
  subst hr2
  subst hv2
  subst hk2
  refine ⟨[Iv ((M_street κ a1 a2).1), Iv ((M_street κ a1 a2).1)], rfl, ?_⟩
  refine g_icmp_same 1361 dL_law_208 (by decide) ?_
  exact kk _ _ (LI_step (κ := κ) (K_street hInv.1 hz) (Z_street hz) hc1 hv1)
set_option maxHeartbeats 4000000 in
set_option maxRecDepth 20000 in
theorem lw_set {B : Bs} {n0 bcN bsN : Nat} {V : Vs} {κ : Ks} {i : Int} (hn0 : n0 ≤ 3072) (hLI : LI κ V) (hi : 0 ≤ i ∧ i + 6 ≤ (n0 : Int)) (kk : ∀ (κ2 : Ks) (V2 : Vs), LI κ2 V2 → G (XR B n0) mL_law 20 PL Vz bcN bsN 1361 [some (Rf 33), some (Rf 1), some (Rf 40), some (Iv i)] [] V2 κ2) : G (XR B n0) mL_law 20 PL Vz (bcN + 2) (bsN + 44) 213 [some (Rf 33), some (Rf 1), some (Rf 40), some (Iv i)] [] V κ := by
  obtain ⟨hInv, hz⟩ := id hLI
  refine G.rg (fun hR => ?_)
  obtain ⟨a1, e1⟩ : ∃ a : Int, a = κ 33 (i + 1).toNat := ⟨_, rfl⟩
  have r1 : inR a1 := by rw [e1]; exact hR _ _
  obtain ⟨a2, e2⟩ : ∃ a : Int, a = κ 33 (i + 2).toNat := ⟨_, rfl⟩
  have r2 : inR a2 := by rw [e2]; exact hR _ _
  refine G.wk (bc1 := bcN) (bs1 := bsN) (by omega) (by omega) ?_
  refine g_aload_n 214 dL_law_213 rfl rfl ?_
  refine g_aload_n 215 dL_law_214 rfl rfl ?_
  refine g_iload_n 216 dL_law_215 rfl rfl ?_
  refine g_iconst 217 dL_law_216 (by decide) rfl ?_
  refine g_iadd 218 dL_law_217 rfl ?_
  refine r_iald30 219 (i + 1).toNat (κ 33 (i + 1).toNat) dL_law_218 kd_33 (by omega) (by omega) rfl rfl rfl (fun _ => ?_)
  refine G.eqi (show κ 33 (i + 1).toNat = a1 from e1.symm) ?_
  refine g_aload_n 220 dL_law_219 rfl rfl ?_
  refine g_iload_n 221 dL_law_220 rfl rfl ?_
  refine g_iconst 222 dL_law_221 (by decide) rfl ?_
  refine g_iadd 223 dL_law_222 rfl ?_
  refine r_iald30 224 (i + 2).toNat (κ 33 (i + 2).toNat) dL_law_223 kd_33 (by omega) (by omega) rfl rfl rfl (fun _ => ?_)
  refine G.eqi (show κ 33 (i + 2).toNat = a2 from e2.symm) ?_
  refine p_V 227 bcN bsN [Iv a1, Iv a2] [] dL_law_224 cvL_18 mwX9_set kd_1 (by decide) rfl (Nat.le_of_ble_eq_true rfl) (by omega) (by omega) rfl (c_X9_set r1 r2 hInv) ?_
  intro q1 V1 κ1 hp1
  obtain ⟨hr1, hv1, he1, hc1⟩ := hp1
  subst hr1
  refine ⟨[Iv ((M_set κ a1 a2).1)], rfl, ?_⟩
  have eL := L_set (ρ := κ1) (κ := κ) (w := a1) (v := a2)
  rw [← mrg_eqM he1] at eL
  have z33 : κ1 33 = κ 33 := hc1.2.2.2.2.2.2.2.2.2.2.2.2.2.2.2.trans (m33 (L_set (ρ := κ) (κ := κ) (w := a1) (v := a2)) (by rw [mrg_self]))
  have hI1 : MI κ1 := MI_cl hInv.1 he1
  refine g_aload_n 228 dL_law_227 rfl rfl ?_
  refine g_aload_n 229 dL_law_228 rfl rfl ?_
  refine g_iload_n 230 dL_law_229 rfl rfl ?_
  refine g_iconst 231 dL_law_230 (by decide) rfl ?_
  refine g_iadd 232 dL_law_231 rfl ?_
  refine r_iald30 233 (i + 1).toNat (κ1 33 (i + 1).toNat) dL_law_232 kd_33 (by omega) (by omega) rfl rfl rfl (fun _ => ?_)
  refine G.eqi (show κ1 33 (i + 1).toNat = a1 from by rw [z33, e1]) ?_
  refine g_aload_n 234 dL_law_233 rfl rfl ?_
  refine g_iload_n 235 dL_law_234 rfl rfl ?_
  refine g_iconst 236 dL_law_235 (by decide) rfl ?_
  refine g_iadd 237 dL_law_236 rfl ?_
  refine r_iald30 238 (i + 2).toNat (κ1 33 (i + 2).toNat) dL_law_237 kd_33 (by omega) (by omega) rfl rfl rfl (fun _ => ?_)
  refine G.eqi (show κ1 33 (i + 2).toNat = a2 from by rw [z33, e2]) ?_
  refine p_V 241 bcN bsN [Iv a1, Iv a2] [Iv ((M_set κ a1 a2).1)] dL_law_238 cvL_21 mwX10_set kd_40 (by decide) rfl (Nat.le_of_ble_eq_true rfl) (by omega) (by omega) rfl (c_X10_set r1 r2 hI1) ?_
  intro q2 V2 κ2 hp2
  obtain ⟨hr2, hv2, hk2⟩ := hp2
  rw [eL] at hr2 hk2
  subst hr2
  subst hv2
  subst hk2
  refine ⟨[Iv ((M_set κ a1 a2).1), Iv ((M_set κ a1 a2).1)], rfl, ?_⟩
  refine g_icmp_same 1361 dL_law_241 (by decide) ?_
  exact kk _ _ (LI_step (κ := κ) (K_set hInv.1) (Z_set hz) hc1 hv1)
set_option maxHeartbeats 4000000 in
set_option maxRecDepth 20000 in
theorem lw_coal {B : Bs} {n0 bcN bsN : Nat} {V : Vs} {κ : Ks} {i : Int} (hn0 : n0 ≤ 3072) (hLI : LI κ V) (hi : 0 ≤ i ∧ i + 6 ≤ (n0 : Int)) (kk : ∀ (κ2 : Ks) (V2 : Vs), LI κ2 V2 → G (XR B n0) mL_law 20 PL Vz bcN bsN 1361 [some (Rf 33), some (Rf 1), some (Rf 40), some (Iv i)] [] V2 κ2) : G (XR B n0) mL_law 20 PL Vz (bcN + 2) (bsN + 44) 246 [some (Rf 33), some (Rf 1), some (Rf 40), some (Iv i)] [] V κ := by
  obtain ⟨hInv, hz⟩ := id hLI
  refine G.rg (fun hR => ?_)
  obtain ⟨a1, e1⟩ : ∃ a : Int, a = κ 33 (i + 1).toNat := ⟨_, rfl⟩
  have r1 : inR a1 := by rw [e1]; exact hR _ _
  refine G.wk (bc1 := bcN) (bs1 := bsN) (by omega) (by omega) ?_
  refine g_aload_n 247 dL_law_246 rfl rfl ?_
  refine g_aload_n 248 dL_law_247 rfl rfl ?_
  refine g_iload_n 249 dL_law_248 rfl rfl ?_
  refine g_iconst 250 dL_law_249 (by decide) rfl ?_
  refine g_iadd 251 dL_law_250 rfl ?_
  refine r_iald30 252 (i + 1).toNat (κ 33 (i + 1).toNat) dL_law_251 kd_33 (by omega) (by omega) rfl rfl rfl (fun _ => ?_)
  refine G.eqi (show κ 33 (i + 1).toNat = a1 from e1.symm) ?_
  refine p_V 255 bcN bsN [Iv a1] [] dL_law_252 cvL_22 mwX9_coal kd_1 (by decide) rfl (Nat.le_of_ble_eq_true rfl) (by omega) (by omega) rfl (c_X9_coal r1 hInv) ?_
  intro q1 V1 κ1 hp1
  obtain ⟨hr1, hv1, he1, hc1⟩ := hp1
  subst hr1
  refine ⟨[Iv ((M_coal κ a1).1)], rfl, ?_⟩
  have eL := L_coal (ρ := κ1) (κ := κ) (n := a1)
  rw [← mrg_eqM he1] at eL
  have z33 : κ1 33 = κ 33 := hc1.2.2.2.2.2.2.2.2.2.2.2.2.2.2.2.trans (m33 (L_coal (ρ := κ) (κ := κ) (n := a1)) (by rw [mrg_self]))
  have hI1 : MI κ1 := MI_cl hInv.1 he1
  refine g_aload_n 256 dL_law_255 rfl rfl ?_
  refine g_aload_n 257 dL_law_256 rfl rfl ?_
  refine g_iload_n 258 dL_law_257 rfl rfl ?_
  refine g_iconst 259 dL_law_258 (by decide) rfl ?_
  refine g_iadd 260 dL_law_259 rfl ?_
  refine r_iald30 261 (i + 1).toNat (κ1 33 (i + 1).toNat) dL_law_260 kd_33 (by omega) (by omega) rfl rfl rfl (fun _ => ?_)
  refine G.eqi (show κ1 33 (i + 1).toNat = a1 from by rw [z33, e1]) ?_
  refine p_V 264 bcN bsN [Iv a1] [Iv ((M_coal κ a1).1)] dL_law_261 cvL_26 mwX10_coal kd_40 (by decide) rfl (Nat.le_of_ble_eq_true rfl) (by omega) (by omega) rfl (c_X10_coal r1 hI1) ?_
  intro q2 V2 κ2 hp2
  obtain ⟨hr2, hv2, hk2⟩ := hp2
  rw [eL] at hr2 hk2
  subst hr2
  subst hv2
  subst hk2
  refine ⟨[Iv ((M_coal κ a1).1), Iv ((M_coal κ a1).1)], rfl, ?_⟩
  refine g_icmp_same 1361 dL_law_264 (by decide) ?_
  exact kk _ _ (LI_step (κ := κ) (K_coal hInv.1) (Z_coal hz) hc1 hv1)
set_option maxHeartbeats 4000000 in
set_option maxRecDepth 20000 in
theorem lw_house {B : Bs} {n0 bcN bsN : Nat} {V : Vs} {κ : Ks} {i : Int} (hn0 : n0 ≤ 3072) (hLI : LI κ V) (hi : 0 ≤ i ∧ i + 6 ≤ (n0 : Int)) (kk : ∀ (κ2 : Ks) (V2 : Vs), LI κ2 V2 → G (XR B n0) mL_law 20 PL Vz bcN bsN 1361 [some (Rf 33), some (Rf 1), some (Rf 40), some (Iv i)] [] V2 κ2) : G (XR B n0) mL_law 20 PL Vz (bcN + 2) (bsN + 44) 269 [some (Rf 33), some (Rf 1), some (Rf 40), some (Iv i)] [] V κ := by
  obtain ⟨hInv, hz⟩ := id hLI
  refine G.rg (fun hR => ?_)
  obtain ⟨a1, e1⟩ : ∃ a : Int, a = κ 33 (i + 1).toNat := ⟨_, rfl⟩
  have r1 : inR a1 := by rw [e1]; exact hR _ _
  obtain ⟨a2, e2⟩ : ∃ a : Int, a = κ 33 (i + 2).toNat := ⟨_, rfl⟩
  have r2 : inR a2 := by rw [e2]; exact hR _ _
  obtain ⟨a3, e3⟩ : ∃ a : Int, a = κ 33 (i + 3).toNat := ⟨_, rfl⟩
  have r3 : inR a3 := by rw [e3]; exact hR _ _
  obtain ⟨a4, e4⟩ : ∃ a : Int, a = κ 33 (i + 4).toNat := ⟨_, rfl⟩
  have r4 : inR a4 := by rw [e4]; exact hR _ _
  obtain ⟨a5, e5⟩ : ∃ a : Int, a = κ 33 (i + 5).toNat := ⟨_, rfl⟩
  have r5 : inR a5 := by rw [e5]; exact hR _ _
  refine G.wk (bc1 := (bcN + 2)) (bs1 := (bsN + 42)) (by omega) (by omega) ?_
  by_cases hb : a5 = 0
  · refine g_aload_n 270 dL_law_269 rfl rfl ?_
    refine g_aload_n 271 dL_law_270 rfl rfl ?_
    refine g_iload_n 272 dL_law_271 rfl rfl ?_
    refine g_iconst 273 dL_law_272 (by decide) rfl ?_
    refine g_iadd 274 dL_law_273 rfl ?_
    refine r_iald30 275 (i + 1).toNat (κ 33 (i + 1).toNat) dL_law_274 kd_33 (by omega) (by omega) rfl rfl rfl (fun _ => ?_)
    refine G.eqi (show κ 33 (i + 1).toNat = a1 from e1.symm) ?_
    refine g_aload_n 276 dL_law_275 rfl rfl ?_
    refine g_iload_n 277 dL_law_276 rfl rfl ?_
    refine g_iconst 278 dL_law_277 (by decide) rfl ?_
    refine g_iadd 279 dL_law_278 rfl ?_
    refine r_iald30 280 (i + 2).toNat (κ 33 (i + 2).toNat) dL_law_279 kd_33 (by omega) (by omega) rfl rfl rfl (fun _ => ?_)
    refine G.eqi (show κ 33 (i + 2).toNat = a2 from e2.symm) ?_
    refine g_aload_n 281 dL_law_280 rfl rfl ?_
    refine g_iload_n 282 dL_law_281 rfl rfl ?_
    refine g_iconst 283 dL_law_282 (by decide) rfl ?_
    refine g_iadd 284 dL_law_283 rfl ?_
    refine r_iald30 285 (i + 3).toNat (κ 33 (i + 3).toNat) dL_law_284 kd_33 (by omega) (by omega) rfl rfl rfl (fun _ => ?_)
    refine G.eqi (show κ 33 (i + 3).toNat = a3 from e3.symm) ?_
    refine g_aload_n 286 dL_law_285 rfl rfl ?_
    refine g_iload_n 287 dL_law_286 rfl rfl ?_
    refine g_iconst 288 dL_law_287 (by decide) rfl ?_
    refine g_iadd 289 dL_law_288 rfl ?_
    refine r_iald30 290 (i + 4).toNat (κ 33 (i + 4).toNat) dL_law_289 kd_33 (by omega) (by omega) rfl rfl rfl (fun _ => ?_)
    refine G.eqi (show κ 33 (i + 4).toNat = a4 from e4.symm) ?_
    refine g_aload_n 291 dL_law_290 rfl rfl ?_
    refine g_iload_n 292 dL_law_291 rfl rfl ?_
    refine g_iconst 293 dL_law_292 (by decide) rfl ?_
    refine g_iadd 294 dL_law_293 rfl ?_
    refine r_iald30 295 (i + 5).toNat (κ 33 (i + 5).toNat) dL_law_294 kd_33 (by omega) (by omega) rfl rfl rfl (fun _ => ?_)
    refine G.eqi (show κ 33 (i + 5).toNat = a5 from e5.symm) ?_
    refine g_if_eq 302 298 dL_law_295 r5 (by decide) rfl (fun _ => ?_) (fun z => absurd hb z)
    refine g_iconst 303 dL_law_302 (by decide) rfl ?_
    refine p_V 306 bcN bsN [Iv a1, Iv a2, Iv a3, Iv a4, Iv 0] [] dL_law_303 cvL_27 mwX9_house kd_1 (by decide) rfl (Nat.le_of_ble_eq_true rfl) (by omega) (by omega) rfl (c_X9_house r1 r2 r3 r4 (by decide) hInv) ?_
    intro q1 V1 κ1 hp1
    obtain ⟨hr1, hv1, he1, hc1⟩ := hp1
    subst hr1
    refine ⟨[Iv ((M_house κ a1 a2 a3 a4 0).1)], rfl, ?_⟩
    have eL := L_house (ρ := κ1) (κ := κ) (s := a1) (c := a2) (f := a3) (u := a4) (b := 0)
    rw [← mrg_eqM he1] at eL
    have z33 : κ1 33 = κ 33 := hc1.2.2.2.2.2.2.2.2.2.2.2.2.2.2.2.trans (m33 (L_house (ρ := κ) (κ := κ) (s := a1) (c := a2) (f := a3) (u := a4) (b := 0)) (by rw [mrg_self]))
    have hI1 : MI κ1 := MI_cl hInv.1 he1
    refine g_aload_n 307 dL_law_306 rfl rfl ?_
    refine g_aload_n 308 dL_law_307 rfl rfl ?_
    refine g_iload_n 309 dL_law_308 rfl rfl ?_
    refine g_iconst 310 dL_law_309 (by decide) rfl ?_
    refine g_iadd 311 dL_law_310 rfl ?_
    refine r_iald30 312 (i + 1).toNat (κ1 33 (i + 1).toNat) dL_law_311 kd_33 (by omega) (by omega) rfl rfl rfl (fun _ => ?_)
    refine G.eqi (show κ1 33 (i + 1).toNat = a1 from by rw [z33, e1]) ?_
    refine g_aload_n 313 dL_law_312 rfl rfl ?_
    refine g_iload_n 314 dL_law_313 rfl rfl ?_
    refine g_iconst 315 dL_law_314 (by decide) rfl ?_
    refine g_iadd 316 dL_law_315 rfl ?_
    refine r_iald30 317 (i + 2).toNat (κ1 33 (i + 2).toNat) dL_law_316 kd_33 (by omega) (by omega) rfl rfl rfl (fun _ => ?_)
    refine G.eqi (show κ1 33 (i + 2).toNat = a2 from by rw [z33, e2]) ?_
    refine g_aload_n 318 dL_law_317 rfl rfl ?_
    refine g_iload_n 319 dL_law_318 rfl rfl ?_
    refine g_iconst 320 dL_law_319 (by decide) rfl ?_
    refine g_iadd 321 dL_law_320 rfl ?_
    refine r_iald30 322 (i + 3).toNat (κ1 33 (i + 3).toNat) dL_law_321 kd_33 (by omega) (by omega) rfl rfl rfl (fun _ => ?_)
    refine G.eqi (show κ1 33 (i + 3).toNat = a3 from by rw [z33, e3]) ?_
    refine g_aload_n 323 dL_law_322 rfl rfl ?_
    refine g_iload_n 324 dL_law_323 rfl rfl ?_
    refine g_iconst 325 dL_law_324 (by decide) rfl ?_
    refine g_iadd 326 dL_law_325 rfl ?_
    refine r_iald30 327 (i + 4).toNat (κ1 33 (i + 4).toNat) dL_law_326 kd_33 (by omega) (by omega) rfl rfl rfl (fun _ => ?_)
    refine G.eqi (show κ1 33 (i + 4).toNat = a4 from by rw [z33, e4]) ?_
    refine g_aload_n 328 dL_law_327 rfl rfl ?_
    refine g_iload_n 329 dL_law_328 rfl rfl ?_
    refine g_iconst 330 dL_law_329 (by decide) rfl ?_
    refine g_iadd 331 dL_law_330 rfl ?_
    refine r_iald30 332 (i + 5).toNat (κ1 33 (i + 5).toNat) dL_law_331 kd_33 (by omega) (by omega) rfl rfl rfl (fun _ => ?_)
    refine G.eqi (show κ1 33 (i + 5).toNat = a5 from by rw [z33, e5]) ?_
    refine g_if_eq 339 335 dL_law_332 r5 (by decide) rfl (fun _ => ?_) (fun z => absurd hb z)
    refine g_iconst 340 dL_law_339 (by decide) rfl ?_
    refine p_V 343 bcN bsN [Iv a1, Iv a2, Iv a3, Iv a4, Iv 0] [Iv ((M_house κ a1 a2 a3 a4 0).1)] dL_law_340 cvL_31 mwX10_house kd_40 (by decide) rfl (Nat.le_of_ble_eq_true rfl) (by omega) (by omega) rfl (c_X10_house r1 r2 r3 r4 (by decide) hI1) ?_
    intro q2 V2 κ2 hp2
    obtain ⟨hr2, hv2, hk2⟩ := hp2
    rw [eL] at hr2 hk2
    subst hr2
    subst hv2
    subst hk2
    refine ⟨[Iv ((M_house κ a1 a2 a3 a4 0).1), Iv ((M_house κ a1 a2 a3 a4 0).1)], rfl, ?_⟩
    refine g_icmp_same 1361 dL_law_343 (by decide) ?_
    exact kk _ _ (LI_step (κ := κ) (K_house hInv.1 (by decide)) (Z_house hz) hc1 hv1)
  · refine g_aload_n 270 dL_law_269 rfl rfl ?_
    refine g_aload_n 271 dL_law_270 rfl rfl ?_
    refine g_iload_n 272 dL_law_271 rfl rfl ?_
    refine g_iconst 273 dL_law_272 (by decide) rfl ?_
    refine g_iadd 274 dL_law_273 rfl ?_
    refine r_iald30 275 (i + 1).toNat (κ 33 (i + 1).toNat) dL_law_274 kd_33 (by omega) (by omega) rfl rfl rfl (fun _ => ?_)
    refine G.eqi (show κ 33 (i + 1).toNat = a1 from e1.symm) ?_
    refine g_aload_n 276 dL_law_275 rfl rfl ?_
    refine g_iload_n 277 dL_law_276 rfl rfl ?_
    refine g_iconst 278 dL_law_277 (by decide) rfl ?_
    refine g_iadd 279 dL_law_278 rfl ?_
    refine r_iald30 280 (i + 2).toNat (κ 33 (i + 2).toNat) dL_law_279 kd_33 (by omega) (by omega) rfl rfl rfl (fun _ => ?_)
    refine G.eqi (show κ 33 (i + 2).toNat = a2 from e2.symm) ?_
    refine g_aload_n 281 dL_law_280 rfl rfl ?_
    refine g_iload_n 282 dL_law_281 rfl rfl ?_
    refine g_iconst 283 dL_law_282 (by decide) rfl ?_
    refine g_iadd 284 dL_law_283 rfl ?_
    refine r_iald30 285 (i + 3).toNat (κ 33 (i + 3).toNat) dL_law_284 kd_33 (by omega) (by omega) rfl rfl rfl (fun _ => ?_)
    refine G.eqi (show κ 33 (i + 3).toNat = a3 from e3.symm) ?_
    refine g_aload_n 286 dL_law_285 rfl rfl ?_
    refine g_iload_n 287 dL_law_286 rfl rfl ?_
    refine g_iconst 288 dL_law_287 (by decide) rfl ?_
    refine g_iadd 289 dL_law_288 rfl ?_
    refine r_iald30 290 (i + 4).toNat (κ 33 (i + 4).toNat) dL_law_289 kd_33 (by omega) (by omega) rfl rfl rfl (fun _ => ?_)
    refine G.eqi (show κ 33 (i + 4).toNat = a4 from e4.symm) ?_
    refine g_aload_n 291 dL_law_290 rfl rfl ?_
    refine g_iload_n 292 dL_law_291 rfl rfl ?_
    refine g_iconst 293 dL_law_292 (by decide) rfl ?_
    refine g_iadd 294 dL_law_293 rfl ?_
    refine r_iald30 295 (i + 5).toNat (κ 33 (i + 5).toNat) dL_law_294 kd_33 (by omega) (by omega) rfl rfl rfl (fun _ => ?_)
    refine G.eqi (show κ 33 (i + 5).toNat = a5 from e5.symm) ?_
    refine g_if_eq 302 298 dL_law_295 r5 (by decide) rfl (fun z => absurd z hb) (fun _ => ?_)
    refine g_iconst 299 dL_law_298 (by decide) rfl ?_
    refine g_goto 303 dL_law_299 (by decide) ?_
    refine p_V 306 bcN bsN [Iv a1, Iv a2, Iv a3, Iv a4, Iv 1] [] dL_law_303 cvL_27 mwX9_house kd_1 (by decide) rfl (Nat.le_of_ble_eq_true rfl) (by omega) (by omega) rfl (c_X9_house r1 r2 r3 r4 (by decide) hInv) ?_
    intro q1 V1 κ1 hp1
    obtain ⟨hr1, hv1, he1, hc1⟩ := hp1
    subst hr1
    refine ⟨[Iv ((M_house κ a1 a2 a3 a4 1).1)], rfl, ?_⟩
    have eL := L_house (ρ := κ1) (κ := κ) (s := a1) (c := a2) (f := a3) (u := a4) (b := 1)
    rw [← mrg_eqM he1] at eL
    have z33 : κ1 33 = κ 33 := hc1.2.2.2.2.2.2.2.2.2.2.2.2.2.2.2.trans (m33 (L_house (ρ := κ) (κ := κ) (s := a1) (c := a2) (f := a3) (u := a4) (b := 1)) (by rw [mrg_self]))
    have hI1 : MI κ1 := MI_cl hInv.1 he1
    refine g_aload_n 307 dL_law_306 rfl rfl ?_
    refine g_aload_n 308 dL_law_307 rfl rfl ?_
    refine g_iload_n 309 dL_law_308 rfl rfl ?_
    refine g_iconst 310 dL_law_309 (by decide) rfl ?_
    refine g_iadd 311 dL_law_310 rfl ?_
    refine r_iald30 312 (i + 1).toNat (κ1 33 (i + 1).toNat) dL_law_311 kd_33 (by omega) (by omega) rfl rfl rfl (fun _ => ?_)
    refine G.eqi (show κ1 33 (i + 1).toNat = a1 from by rw [z33, e1]) ?_
    refine g_aload_n 313 dL_law_312 rfl rfl ?_
    refine g_iload_n 314 dL_law_313 rfl rfl ?_
    refine g_iconst 315 dL_law_314 (by decide) rfl ?_
    refine g_iadd 316 dL_law_315 rfl ?_
    refine r_iald30 317 (i + 2).toNat (κ1 33 (i + 2).toNat) dL_law_316 kd_33 (by omega) (by omega) rfl rfl rfl (fun _ => ?_)
    refine G.eqi (show κ1 33 (i + 2).toNat = a2 from by rw [z33, e2]) ?_
    refine g_aload_n 318 dL_law_317 rfl rfl ?_
    refine g_iload_n 319 dL_law_318 rfl rfl ?_
    refine g_iconst 320 dL_law_319 (by decide) rfl ?_
    refine g_iadd 321 dL_law_320 rfl ?_
    refine r_iald30 322 (i + 3).toNat (κ1 33 (i + 3).toNat) dL_law_321 kd_33 (by omega) (by omega) rfl rfl rfl (fun _ => ?_)
    refine G.eqi (show κ1 33 (i + 3).toNat = a3 from by rw [z33, e3]) ?_
    refine g_aload_n 323 dL_law_322 rfl rfl ?_
    refine g_iload_n 324 dL_law_323 rfl rfl ?_
    refine g_iconst 325 dL_law_324 (by decide) rfl ?_
    refine g_iadd 326 dL_law_325 rfl ?_
    refine r_iald30 327 (i + 4).toNat (κ1 33 (i + 4).toNat) dL_law_326 kd_33 (by omega) (by omega) rfl rfl rfl (fun _ => ?_)
    refine G.eqi (show κ1 33 (i + 4).toNat = a4 from by rw [z33, e4]) ?_
    refine g_aload_n 328 dL_law_327 rfl rfl ?_
    refine g_iload_n 329 dL_law_328 rfl rfl ?_
    refine g_iconst 330 dL_law_329 (by decide) rfl ?_
    refine g_iadd 331 dL_law_330 rfl ?_
    refine r_iald30 332 (i + 5).toNat (κ1 33 (i + 5).toNat) dL_law_331 kd_33 (by omega) (by omega) rfl rfl rfl (fun _ => ?_)
    refine G.eqi (show κ1 33 (i + 5).toNat = a5 from by rw [z33, e5]) ?_
    refine g_if_eq 339 335 dL_law_332 r5 (by decide) rfl (fun z => absurd z hb) (fun _ => ?_)
    refine g_iconst 336 dL_law_335 (by decide) rfl ?_
    refine g_goto 340 dL_law_336 (by decide) ?_
    refine p_V 343 bcN bsN [Iv a1, Iv a2, Iv a3, Iv a4, Iv 1] [Iv ((M_house κ a1 a2 a3 a4 1).1)] dL_law_340 cvL_31 mwX10_house kd_40 (by decide) rfl (Nat.le_of_ble_eq_true rfl) (by omega) (by omega) rfl (c_X10_house r1 r2 r3 r4 (by decide) hI1) ?_
    intro q2 V2 κ2 hp2
    obtain ⟨hr2, hv2, hk2⟩ := hp2
    rw [eL] at hr2 hk2
    subst hr2
    subst hv2
    subst hk2
    refine ⟨[Iv ((M_house κ a1 a2 a3 a4 1).1), Iv ((M_house κ a1 a2 a3 a4 1).1)], rfl, ?_⟩
    refine g_icmp_same 1361 dL_law_343 (by decide) ?_
    exact kk _ _ (LI_step (κ := κ) (K_house hInv.1 (by decide)) (Z_house hz) hc1 hv1)
set_option maxHeartbeats 4000000 in
set_option maxRecDepth 20000 in
theorem lw_row {B : Bs} {n0 bcN bsN : Nat} {V : Vs} {κ : Ks} {i : Int} (hn0 : n0 ≤ 3072) (hLI : LI κ V) (hi : 0 ≤ i ∧ i + 6 ≤ (n0 : Int)) (kk : ∀ (κ2 : Ks) (V2 : Vs), LI κ2 V2 → G (XR B n0) mL_law 20 PL Vz bcN bsN 1361 [some (Rf 33), some (Rf 1), some (Rf 40), some (Iv i)] [] V2 κ2) : G (XR B n0) mL_law 20 PL Vz (bcN + 2) (bsN + 44) 348 [some (Rf 33), some (Rf 1), some (Rf 40), some (Iv i)] [] V κ := by
  obtain ⟨hInv, hz⟩ := id hLI
  refine G.rg (fun hR => ?_)
  obtain ⟨a1, e1⟩ : ∃ a : Int, a = κ 33 (i + 1).toNat := ⟨_, rfl⟩
  have r1 : inR a1 := by rw [e1]; exact hR _ _
  obtain ⟨a2, e2⟩ : ∃ a : Int, a = κ 33 (i + 2).toNat := ⟨_, rfl⟩
  have r2 : inR a2 := by rw [e2]; exact hR _ _
  refine G.wk (bc1 := bcN) (bs1 := bsN) (by omega) (by omega) ?_
  refine g_aload_n 349 dL_law_348 rfl rfl ?_
  refine g_aload_n 350 dL_law_349 rfl rfl ?_
  refine g_iload_n 351 dL_law_350 rfl rfl ?_
  refine g_iconst 352 dL_law_351 (by decide) rfl ?_
  refine g_iadd 353 dL_law_352 rfl ?_
  refine r_iald30 354 (i + 1).toNat (κ 33 (i + 1).toNat) dL_law_353 kd_33 (by omega) (by omega) rfl rfl rfl (fun _ => ?_)
  refine G.eqi (show κ 33 (i + 1).toNat = a1 from e1.symm) ?_
  refine g_aload_n 355 dL_law_354 rfl rfl ?_
  refine g_iload_n 356 dL_law_355 rfl rfl ?_
  refine g_iconst 357 dL_law_356 (by decide) rfl ?_
  refine g_iadd 358 dL_law_357 rfl ?_
  refine r_iald30 359 (i + 2).toNat (κ 33 (i + 2).toNat) dL_law_358 kd_33 (by omega) (by omega) rfl rfl rfl (fun _ => ?_)
  refine G.eqi (show κ 33 (i + 2).toNat = a2 from e2.symm) ?_
  refine p_V 362 bcN bsN [Iv a1, Iv a2] [] dL_law_359 cvL_32 mwX9_row kd_1 (by decide) rfl (Nat.le_of_ble_eq_true rfl) (by omega) (by omega) rfl (c_X9_row r1 r2 hInv) ?_
  intro q1 V1 κ1 hp1
  obtain ⟨hr1, hv1, he1, hc1⟩ := hp1
  subst hr1
  refine ⟨[Iv ((M_row κ a1 a2).1)], rfl, ?_⟩
  have eL := L_row (ρ := κ1) (κ := κ) (r := a1) (n := a2)
  rw [← mrg_eqM he1] at eL
  have z33 : κ1 33 = κ 33 := hc1.2.2.2.2.2.2.2.2.2.2.2.2.2.2.2.trans (m33 (L_row (ρ := κ) (κ := κ) (r := a1) (n := a2)) (by rw [mrg_self]))
  have hI1 : MI κ1 := MI_cl hInv.1 he1
  refine g_aload_n 363 dL_law_362 rfl rfl ?_
  refine g_aload_n 364 dL_law_363 rfl rfl ?_
  refine g_iload_n 365 dL_law_364 rfl rfl ?_
  refine g_iconst 366 dL_law_365 (by decide) rfl ?_
  refine g_iadd 367 dL_law_366 rfl ?_
  refine r_iald30 368 (i + 1).toNat (κ1 33 (i + 1).toNat) dL_law_367 kd_33 (by omega) (by omega) rfl rfl rfl (fun _ => ?_)
  refine G.eqi (show κ1 33 (i + 1).toNat = a1 from by rw [z33, e1]) ?_
  refine g_aload_n 369 dL_law_368 rfl rfl ?_
  refine g_iload_n 370 dL_law_369 rfl rfl ?_
  refine g_iconst 371 dL_law_370 (by decide) rfl ?_
  refine g_iadd 372 dL_law_371 rfl ?_
  refine r_iald30 373 (i + 2).toNat (κ1 33 (i + 2).toNat) dL_law_372 kd_33 (by omega) (by omega) rfl rfl rfl (fun _ => ?_)
  refine G.eqi (show κ1 33 (i + 2).toNat = a2 from by rw [z33, e2]) ?_
  refine p_V 376 bcN bsN [Iv a1, Iv a2] [Iv ((M_row κ a1 a2).1)] dL_law_373 cvL_35 mwX10_row kd_40 (by decide) rfl (Nat.le_of_ble_eq_true rfl) (by omega) (by omega) rfl (c_X10_row r1 r2 hI1) ?_
  intro q2 V2 κ2 hp2
  obtain ⟨hr2, hv2, hk2⟩ := hp2
  rw [eL] at hr2 hk2
  subst hr2
  subst hv2
  subst hk2
  refine ⟨[Iv ((M_row κ a1 a2).1), Iv ((M_row κ a1 a2).1)], rfl, ?_⟩
  refine g_icmp_same 1361 dL_law_376 (by decide) ?_
  exact kk _ _ (LI_step (κ := κ) (K_row hInv.1) (Z_row hz) hc1 hv1)
set_option maxHeartbeats 4000000 in
set_option maxRecDepth 20000 in
theorem lw_lose {B : Bs} {n0 bcN bsN : Nat} {V : Vs} {κ : Ks} {i : Int} (hn0 : n0 ≤ 3072) (hLI : LI κ V) (hi : 0 ≤ i ∧ i + 6 ≤ (n0 : Int)) (kk : ∀ (κ2 : Ks) (V2 : Vs), LI κ2 V2 → G (XR B n0) mL_law 20 PL Vz bcN bsN 1361 [some (Rf 33), some (Rf 1), some (Rf 40), some (Iv i)] [] V2 κ2) : G (XR B n0) mL_law 20 PL Vz (bcN + 2) (bsN + 44) 381 [some (Rf 33), some (Rf 1), some (Rf 40), some (Iv i)] [] V κ := by
  obtain ⟨hInv, hz⟩ := id hLI
  refine G.rg (fun hR => ?_)
  obtain ⟨a1, e1⟩ : ∃ a : Int, a = κ 33 (i + 1).toNat := ⟨_, rfl⟩
  have r1 : inR a1 := by rw [e1]; exact hR _ _
  refine G.wk (bc1 := bcN) (bs1 := bsN) (by omega) (by omega) ?_
  refine g_aload_n 382 dL_law_381 rfl rfl ?_
  refine g_aload_n 383 dL_law_382 rfl rfl ?_
  refine g_iload_n 384 dL_law_383 rfl rfl ?_
  refine g_iconst 385 dL_law_384 (by decide) rfl ?_
  refine g_iadd 386 dL_law_385 rfl ?_
  refine r_iald30 387 (i + 1).toNat (κ 33 (i + 1).toNat) dL_law_386 kd_33 (by omega) (by omega) rfl rfl rfl (fun _ => ?_)
  refine G.eqi (show κ 33 (i + 1).toNat = a1 from e1.symm) ?_
  refine p_V 390 bcN bsN [Iv a1] [] dL_law_387 cvL_36 mwX9_lose kd_1 (by decide) rfl (Nat.le_of_ble_eq_true rfl) (by omega) (by omega) rfl (c_X9_lose r1 hInv) ?_
  intro q1 V1 κ1 hp1
  obtain ⟨hr1, hv1, he1, hc1⟩ := hp1
  subst hr1
  refine ⟨[Iv ((M_lose κ a1).1)], rfl, ?_⟩
  have eL := L_lose (ρ := κ1) (κ := κ) (r := a1)
  rw [← mrg_eqM he1] at eL
  have z33 : κ1 33 = κ 33 := hc1.2.2.2.2.2.2.2.2.2.2.2.2.2.2.2.trans (m33 (L_lose (ρ := κ) (κ := κ) (r := a1)) (by rw [mrg_self]))
  have hI1 : MI κ1 := MI_cl hInv.1 he1
  refine g_aload_n 391 dL_law_390 rfl rfl ?_
  refine g_aload_n 392 dL_law_391 rfl rfl ?_
  refine g_iload_n 393 dL_law_392 rfl rfl ?_
  refine g_iconst 394 dL_law_393 (by decide) rfl ?_
  refine g_iadd 395 dL_law_394 rfl ?_
  refine r_iald30 396 (i + 1).toNat (κ1 33 (i + 1).toNat) dL_law_395 kd_33 (by omega) (by omega) rfl rfl rfl (fun _ => ?_)
  refine G.eqi (show κ1 33 (i + 1).toNat = a1 from by rw [z33, e1]) ?_
  refine p_V 399 bcN bsN [Iv a1] [Iv ((M_lose κ a1).1)] dL_law_396 cvL_39 mwX10_lose kd_40 (by decide) rfl (Nat.le_of_ble_eq_true rfl) (by omega) (by omega) rfl (c_X10_lose r1 hI1) ?_
  intro q2 V2 κ2 hp2
  obtain ⟨hr2, hv2, hk2⟩ := hp2
  rw [eL] at hr2 hk2
  subst hr2
  subst hv2
  subst hk2
  refine ⟨[Iv ((M_lose κ a1).1), Iv ((M_lose κ a1).1)], rfl, ?_⟩
  refine g_icmp_same 1361 dL_law_399 (by decide) ?_
  exact kk _ _ (LI_step (κ := κ) (K_lose hInv.1) (Z_lose hz) hc1 hv1)
set_option maxHeartbeats 4000000 in
set_option maxRecDepth 20000 in
theorem lw_put {B : Bs} {n0 bcN bsN : Nat} {V : Vs} {κ : Ks} {i : Int} (hn0 : n0 ≤ 3072) (hLI : LI κ V) (hi : 0 ≤ i ∧ i + 6 ≤ (n0 : Int)) (kk : ∀ (κ2 : Ks) (V2 : Vs), LI κ2 V2 → G (XR B n0) mL_law 20 PL Vz bcN bsN 1361 [some (Rf 33), some (Rf 1), some (Rf 40), some (Iv i)] [] V2 κ2) : G (XR B n0) mL_law 20 PL Vz (bcN + 2) (bsN + 44) 404 [some (Rf 33), some (Rf 1), some (Rf 40), some (Iv i)] [] V κ := by
  obtain ⟨hInv, hz⟩ := id hLI
  refine G.rg (fun hR => ?_)
  obtain ⟨a1, e1⟩ : ∃ a : Int, a = κ 33 (i + 1).toNat := ⟨_, rfl⟩
  have r1 : inR a1 := by rw [e1]; exact hR _ _
  obtain ⟨a2, e2⟩ : ∃ a : Int, a = κ 33 (i + 2).toNat := ⟨_, rfl⟩
  have r2 : inR a2 := by rw [e2]; exact hR _ _
  obtain ⟨a3, e3⟩ : ∃ a : Int, a = κ 33 (i + 3).toNat := ⟨_, rfl⟩
  have r3 : inR a3 := by rw [e3]; exact hR _ _
  refine G.wk (bc1 := bcN) (bs1 := bsN) (by omega) (by omega) ?_
  refine g_aload_n 405 dL_law_404 rfl rfl ?_
  refine g_aload_n 406 dL_law_405 rfl rfl ?_
  refine g_iload_n 407 dL_law_406 rfl rfl ?_
  refine g_iconst 408 dL_law_407 (by decide) rfl ?_
  refine g_iadd 409 dL_law_408 rfl ?_
  refine r_iald30 410 (i + 1).toNat (κ 33 (i + 1).toNat) dL_law_409 kd_33 (by omega) (by omega) rfl rfl rfl (fun _ => ?_)
  refine G.eqi (show κ 33 (i + 1).toNat = a1 from e1.symm) ?_
  refine g_aload_n 411 dL_law_410 rfl rfl ?_
  refine g_iload_n 412 dL_law_411 rfl rfl ?_
  refine g_iconst 413 dL_law_412 (by decide) rfl ?_
  refine g_iadd 414 dL_law_413 rfl ?_
  refine r_iald30 415 (i + 2).toNat (κ 33 (i + 2).toNat) dL_law_414 kd_33 (by omega) (by omega) rfl rfl rfl (fun _ => ?_)
  refine G.eqi (show κ 33 (i + 2).toNat = a2 from e2.symm) ?_
  refine g_aload_n 416 dL_law_415 rfl rfl ?_
  refine g_iload_n 417 dL_law_416 rfl rfl ?_
  refine g_iconst 418 dL_law_417 (by decide) rfl ?_
  refine g_iadd 419 dL_law_418 rfl ?_
  refine r_iald30 420 (i + 3).toNat (κ 33 (i + 3).toNat) dL_law_419 kd_33 (by omega) (by omega) rfl rfl rfl (fun _ => ?_)
  refine G.eqi (show κ 33 (i + 3).toNat = a3 from e3.symm) ?_
  refine p_V 423 bcN bsN [Iv a1, Iv a2, Iv a3] [] dL_law_420 cvL_40 mwX9_put kd_1 (by decide) rfl (Nat.le_of_ble_eq_true rfl) (by omega) (by omega) rfl (c_X9_put r1 r2 r3 hInv) ?_
  intro q1 V1 κ1 hp1
  obtain ⟨hr1, hv1, he1, hc1⟩ := hp1
  subst hr1
  refine ⟨[Iv ((M_put κ a1 a2 a3).1)], rfl, ?_⟩
  have eL := L_put (ρ := κ1) (κ := κ) (r := a1) (p := a2) (n := a3)
  rw [← mrg_eqM he1] at eL
  have z33 : κ1 33 = κ 33 := hc1.2.2.2.2.2.2.2.2.2.2.2.2.2.2.2.trans (m33 (L_put (ρ := κ) (κ := κ) (r := a1) (p := a2) (n := a3)) (by rw [mrg_self]))
  have hI1 : MI κ1 := MI_cl hInv.1 he1
  refine g_aload_n 424 dL_law_423 rfl rfl ?_
  refine g_aload_n 425 dL_law_424 rfl rfl ?_
  refine g_iload_n 426 dL_law_425 rfl rfl ?_
  refine g_iconst 427 dL_law_426 (by decide) rfl ?_
  refine g_iadd 428 dL_law_427 rfl ?_
  refine r_iald30 429 (i + 1).toNat (κ1 33 (i + 1).toNat) dL_law_428 kd_33 (by omega) (by omega) rfl rfl rfl (fun _ => ?_)
  refine G.eqi (show κ1 33 (i + 1).toNat = a1 from by rw [z33, e1]) ?_
  refine g_aload_n 430 dL_law_429 rfl rfl ?_
  refine g_iload_n 431 dL_law_430 rfl rfl ?_
  refine g_iconst 432 dL_law_431 (by decide) rfl ?_
  refine g_iadd 433 dL_law_432 rfl ?_
  refine r_iald30 434 (i + 2).toNat (κ1 33 (i + 2).toNat) dL_law_433 kd_33 (by omega) (by omega) rfl rfl rfl (fun _ => ?_)
  refine G.eqi (show κ1 33 (i + 2).toNat = a2 from by rw [z33, e2]) ?_
  refine g_aload_n 435 dL_law_434 rfl rfl ?_
  refine g_iload_n 436 dL_law_435 rfl rfl ?_
  refine g_iconst 437 dL_law_436 (by decide) rfl ?_
  refine g_iadd 438 dL_law_437 rfl ?_
  refine r_iald30 439 (i + 3).toNat (κ1 33 (i + 3).toNat) dL_law_438 kd_33 (by omega) (by omega) rfl rfl rfl (fun _ => ?_)
  refine G.eqi (show κ1 33 (i + 3).toNat = a3 from by rw [z33, e3]) ?_
  refine p_V 442 bcN bsN [Iv a1, Iv a2, Iv a3] [Iv ((M_put κ a1 a2 a3).1)] dL_law_439 cvL_44 mwX10_put kd_40 (by decide) rfl (Nat.le_of_ble_eq_true rfl) (by omega) (by omega) rfl (c_X10_put r1 r2 r3 hI1) ?_
  intro q2 V2 κ2 hp2
  obtain ⟨hr2, hv2, hk2⟩ := hp2
  rw [eL] at hr2 hk2
  subst hr2
  subst hv2
  subst hk2
  refine ⟨[Iv ((M_put κ a1 a2 a3).1), Iv ((M_put κ a1 a2 a3).1)], rfl, ?_⟩
  refine g_icmp_same 1361 dL_law_442 (by decide) ?_
  exact kk _ _ (LI_step (κ := κ) (K_put hInv.1) (Z_put hz) hc1 hv1)
set_option maxHeartbeats 4000000 in
set_option maxRecDepth 20000 in
theorem lw_copy {B : Bs} {n0 bcN bsN : Nat} {V : Vs} {κ : Ks} {i : Int} (hn0 : n0 ≤ 3072) (hLI : LI κ V) (hi : 0 ≤ i ∧ i + 6 ≤ (n0 : Int)) (kk : ∀ (κ2 : Ks) (V2 : Vs), LI κ2 V2 → G (XR B n0) mL_law 20 PL Vz bcN bsN 1361 [some (Rf 33), some (Rf 1), some (Rf 40), some (Iv i)] [] V2 κ2) : G (XR B n0) mL_law 20 PL Vz (bcN + 2) (bsN + 44) 447 [some (Rf 33), some (Rf 1), some (Rf 40), some (Iv i)] [] V κ := by
  obtain ⟨hInv, hz⟩ := id hLI
  refine G.rg (fun hR => ?_)
  obtain ⟨a1, e1⟩ : ∃ a : Int, a = κ 33 (i + 1).toNat := ⟨_, rfl⟩
  have r1 : inR a1 := by rw [e1]; exact hR _ _
  obtain ⟨a2, e2⟩ : ∃ a : Int, a = κ 33 (i + 2).toNat := ⟨_, rfl⟩
  have r2 : inR a2 := by rw [e2]; exact hR _ _
  obtain ⟨a3, e3⟩ : ∃ a : Int, a = κ 33 (i + 3).toNat := ⟨_, rfl⟩
  have r3 : inR a3 := by rw [e3]; exact hR _ _
  obtain ⟨a4, e4⟩ : ∃ a : Int, a = κ 33 (i + 4).toNat := ⟨_, rfl⟩
  have r4 : inR a4 := by rw [e4]; exact hR _ _
  obtain ⟨a5, e5⟩ : ∃ a : Int, a = κ 33 (i + 5).toNat := ⟨_, rfl⟩
  have r5 : inR a5 := by rw [e5]; exact hR _ _
  refine G.wk (bc1 := bcN) (bs1 := bsN) (by omega) (by omega) ?_
  refine g_aload_n 448 dL_law_447 rfl rfl ?_
  refine g_aload_n 449 dL_law_448 rfl rfl ?_
  refine g_iload_n 450 dL_law_449 rfl rfl ?_
  refine g_iconst 451 dL_law_450 (by decide) rfl ?_
  refine g_iadd 452 dL_law_451 rfl ?_
  refine r_iald30 453 (i + 1).toNat (κ 33 (i + 1).toNat) dL_law_452 kd_33 (by omega) (by omega) rfl rfl rfl (fun _ => ?_)
  refine G.eqi (show κ 33 (i + 1).toNat = a1 from e1.symm) ?_
  refine g_aload_n 454 dL_law_453 rfl rfl ?_
  refine g_iload_n 455 dL_law_454 rfl rfl ?_
  refine g_iconst 456 dL_law_455 (by decide) rfl ?_
  refine g_iadd 457 dL_law_456 rfl ?_
  refine r_iald30 458 (i + 2).toNat (κ 33 (i + 2).toNat) dL_law_457 kd_33 (by omega) (by omega) rfl rfl rfl (fun _ => ?_)
  refine G.eqi (show κ 33 (i + 2).toNat = a2 from e2.symm) ?_
  refine g_aload_n 459 dL_law_458 rfl rfl ?_
  refine g_iload_n 460 dL_law_459 rfl rfl ?_
  refine g_iconst 461 dL_law_460 (by decide) rfl ?_
  refine g_iadd 462 dL_law_461 rfl ?_
  refine r_iald30 463 (i + 3).toNat (κ 33 (i + 3).toNat) dL_law_462 kd_33 (by omega) (by omega) rfl rfl rfl (fun _ => ?_)
  refine G.eqi (show κ 33 (i + 3).toNat = a3 from e3.symm) ?_
  refine g_aload_n 464 dL_law_463 rfl rfl ?_
  refine g_iload_n 465 dL_law_464 rfl rfl ?_
  refine g_iconst 466 dL_law_465 (by decide) rfl ?_
  refine g_iadd 467 dL_law_466 rfl ?_
  refine r_iald30 468 (i + 4).toNat (κ 33 (i + 4).toNat) dL_law_467 kd_33 (by omega) (by omega) rfl rfl rfl (fun _ => ?_)
  refine G.eqi (show κ 33 (i + 4).toNat = a4 from e4.symm) ?_
  refine g_aload_n 469 dL_law_468 rfl rfl ?_
  refine g_iload_n 470 dL_law_469 rfl rfl ?_
  refine g_iconst 471 dL_law_470 (by decide) rfl ?_
  refine g_iadd 472 dL_law_471 rfl ?_
  refine r_iald30 473 (i + 5).toNat (κ 33 (i + 5).toNat) dL_law_472 kd_33 (by omega) (by omega) rfl rfl rfl (fun _ => ?_)
  refine G.eqi (show κ 33 (i + 5).toNat = a5 from e5.symm) ?_
  refine p_V 476 bcN bsN [Iv a1, Iv a2, Iv a3, Iv a4, Iv a5] [] dL_law_473 cvL_45 mwX9_copy kd_1 (by decide) rfl (Nat.le_of_ble_eq_true rfl) (by omega) (by omega) rfl (c_X9_copy r1 r2 r3 r4 r5 hInv) ?_
  intro q1 V1 κ1 hp1
  obtain ⟨hr1, hv1, he1, hc1⟩ := hp1
  subst hr1
  refine ⟨[Iv ((M_copy κ a1 a2 a3 a4 a5).1)], rfl, ?_⟩
  have eL := L_copy (ρ := κ1) (κ := κ) (r := a1) (i := a2) (s := a3) (j := a4) (n := a5)
  rw [← mrg_eqM he1] at eL
  have z33 : κ1 33 = κ 33 := hc1.2.2.2.2.2.2.2.2.2.2.2.2.2.2.2.trans (m33 (L_copy (ρ := κ) (κ := κ) (r := a1) (i := a2) (s := a3) (j := a4) (n := a5)) (by rw [mrg_self]))
  have hI1 : MI κ1 := MI_cl hInv.1 he1
  refine g_aload_n 477 dL_law_476 rfl rfl ?_
  refine g_aload_n 478 dL_law_477 rfl rfl ?_
  refine g_iload_n 479 dL_law_478 rfl rfl ?_
  refine g_iconst 480 dL_law_479 (by decide) rfl ?_
  refine g_iadd 481 dL_law_480 rfl ?_
  refine r_iald30 482 (i + 1).toNat (κ1 33 (i + 1).toNat) dL_law_481 kd_33 (by omega) (by omega) rfl rfl rfl (fun _ => ?_)
  refine G.eqi (show κ1 33 (i + 1).toNat = a1 from by rw [z33, e1]) ?_
  refine g_aload_n 483 dL_law_482 rfl rfl ?_
  refine g_iload_n 484 dL_law_483 rfl rfl ?_
  refine g_iconst 485 dL_law_484 (by decide) rfl ?_
  refine g_iadd 486 dL_law_485 rfl ?_
  refine r_iald30 487 (i + 2).toNat (κ1 33 (i + 2).toNat) dL_law_486 kd_33 (by omega) (by omega) rfl rfl rfl (fun _ => ?_)
  refine G.eqi (show κ1 33 (i + 2).toNat = a2 from by rw [z33, e2]) ?_
  refine g_aload_n 488 dL_law_487 rfl rfl ?_
  refine g_iload_n 489 dL_law_488 rfl rfl ?_
  refine g_iconst 490 dL_law_489 (by decide) rfl ?_
  refine g_iadd 491 dL_law_490 rfl ?_
  refine r_iald30 492 (i + 3).toNat (κ1 33 (i + 3).toNat) dL_law_491 kd_33 (by omega) (by omega) rfl rfl rfl (fun _ => ?_)
  refine G.eqi (show κ1 33 (i + 3).toNat = a3 from by rw [z33, e3]) ?_
  refine g_aload_n 493 dL_law_492 rfl rfl ?_
  refine g_iload_n 494 dL_law_493 rfl rfl ?_
  refine g_iconst 495 dL_law_494 (by decide) rfl ?_
  refine g_iadd 496 dL_law_495 rfl ?_
  refine r_iald30 497 (i + 4).toNat (κ1 33 (i + 4).toNat) dL_law_496 kd_33 (by omega) (by omega) rfl rfl rfl (fun _ => ?_)
  refine G.eqi (show κ1 33 (i + 4).toNat = a4 from by rw [z33, e4]) ?_
  refine g_aload_n 498 dL_law_497 rfl rfl ?_
  refine g_iload_n 499 dL_law_498 rfl rfl ?_
  refine g_iconst 500 dL_law_499 (by decide) rfl ?_
  refine g_iadd 501 dL_law_500 rfl ?_
  refine r_iald30 502 (i + 5).toNat (κ1 33 (i + 5).toNat) dL_law_501 kd_33 (by omega) (by omega) rfl rfl rfl (fun _ => ?_)
  refine G.eqi (show κ1 33 (i + 5).toNat = a5 from by rw [z33, e5]) ?_
  refine p_V 505 bcN bsN [Iv a1, Iv a2, Iv a3, Iv a4, Iv a5] [Iv ((M_copy κ a1 a2 a3 a4 a5).1)] dL_law_502 cvL_49 mwX10_copy kd_40 (by decide) rfl (Nat.le_of_ble_eq_true rfl) (by omega) (by omega) rfl (c_X10_copy r1 r2 r3 r4 r5 hI1) ?_
  intro q2 V2 κ2 hp2
  obtain ⟨hr2, hv2, hk2⟩ := hp2
  rw [eL] at hr2 hk2
  subst hr2
  subst hv2
  subst hk2
  refine ⟨[Iv ((M_copy κ a1 a2 a3 a4 a5).1), Iv ((M_copy κ a1 a2 a3 a4 a5).1)], rfl, ?_⟩
  refine g_icmp_same 1361 dL_law_505 (by decide) ?_
  exact kk _ _ (LI_step (κ := κ) (K_copy hInv.1) (Z_copy hz) hc1 hv1)
set_option maxHeartbeats 4000000 in
set_option maxRecDepth 20000 in
theorem lw_lead {B : Bs} {n0 bcN bsN : Nat} {V : Vs} {κ : Ks} {i : Int} (hn0 : n0 ≤ 3072) (hLI : LI κ V) (hi : 0 ≤ i ∧ i + 6 ≤ (n0 : Int)) (kk : ∀ (κ2 : Ks) (V2 : Vs), LI κ2 V2 → G (XR B n0) mL_law 20 PL Vz bcN bsN 1361 [some (Rf 33), some (Rf 1), some (Rf 40), some (Iv i)] [] V2 κ2) : G (XR B n0) mL_law 20 PL Vz (bcN + 2) (bsN + 44) 510 [some (Rf 33), some (Rf 1), some (Rf 40), some (Iv i)] [] V κ := by
  obtain ⟨hInv, hz⟩ := id hLI
  refine G.rg (fun hR => ?_)
  obtain ⟨a1, e1⟩ : ∃ a : Int, a = κ 33 (i + 1).toNat := ⟨_, rfl⟩
  have r1 : inR a1 := by rw [e1]; exact hR _ _
  obtain ⟨a2, e2⟩ : ∃ a : Int, a = κ 33 (i + 2).toNat := ⟨_, rfl⟩
  have r2 : inR a2 := by rw [e2]; exact hR _ _
  refine G.wk (bc1 := bcN) (bs1 := bsN) (by omega) (by omega) ?_
  refine g_aload_n 511 dL_law_510 rfl rfl ?_
  refine g_aload_n 512 dL_law_511 rfl rfl ?_
  refine g_iload_n 513 dL_law_512 rfl rfl ?_
  refine g_iconst 514 dL_law_513 (by decide) rfl ?_
  refine g_iadd 515 dL_law_514 rfl ?_
  refine r_iald30 516 (i + 1).toNat (κ 33 (i + 1).toNat) dL_law_515 kd_33 (by omega) (by omega) rfl rfl rfl (fun _ => ?_)
  refine G.eqi (show κ 33 (i + 1).toNat = a1 from e1.symm) ?_
  refine g_aload_n 517 dL_law_516 rfl rfl ?_
  refine g_iload_n 518 dL_law_517 rfl rfl ?_
  refine g_iconst 519 dL_law_518 (by decide) rfl ?_
  refine g_iadd 520 dL_law_519 rfl ?_
  refine r_iald30 521 (i + 2).toNat (κ 33 (i + 2).toNat) dL_law_520 kd_33 (by omega) (by omega) rfl rfl rfl (fun _ => ?_)
  refine G.eqi (show κ 33 (i + 2).toNat = a2 from e2.symm) ?_
  refine p_V 524 bcN bsN [Iv a1, Iv a2] [] dL_law_521 cvL_50 mwX9_lead kd_1 (by decide) rfl (Nat.le_of_ble_eq_true rfl) (by omega) (by omega) rfl (c_X9_lead r1 r2 hInv) ?_
  intro q1 V1 κ1 hp1
  obtain ⟨hr1, hv1, he1, hc1⟩ := hp1
  subst hr1
  refine ⟨[Iv ((M_lead κ a1 a2).1)], rfl, ?_⟩
  have eL := L_lead (ρ := κ1) (κ := κ) (h := a1) (r := a2)
  rw [← mrg_eqM he1] at eL
  have z33 : κ1 33 = κ 33 := hc1.2.2.2.2.2.2.2.2.2.2.2.2.2.2.2.trans (m33 (L_lead (ρ := κ) (κ := κ) (h := a1) (r := a2)) (by rw [mrg_self]))
  have hI1 : MI κ1 := MI_cl hInv.1 he1
  refine g_aload_n 525 dL_law_524 rfl rfl ?_
  refine g_aload_n 526 dL_law_525 rfl rfl ?_
  refine g_iload_n 527 dL_law_526 rfl rfl ?_
  refine g_iconst 528 dL_law_527 (by decide) rfl ?_
  refine g_iadd 529 dL_law_528 rfl ?_
  refine r_iald30 530 (i + 1).toNat (κ1 33 (i + 1).toNat) dL_law_529 kd_33 (by omega) (by omega) rfl rfl rfl (fun _ => ?_)
  refine G.eqi (show κ1 33 (i + 1).toNat = a1 from by rw [z33, e1]) ?_
  refine g_aload_n 531 dL_law_530 rfl rfl ?_
  refine g_iload_n 532 dL_law_531 rfl rfl ?_
  refine g_iconst 533 dL_law_532 (by decide) rfl ?_
  refine g_iadd 534 dL_law_533 rfl ?_
  refine r_iald30 535 (i + 2).toNat (κ1 33 (i + 2).toNat) dL_law_534 kd_33 (by omega) (by omega) rfl rfl rfl (fun _ => ?_)
  refine G.eqi (show κ1 33 (i + 2).toNat = a2 from by rw [z33, e2]) ?_
  refine p_V 538 bcN bsN [Iv a1, Iv a2] [Iv ((M_lead κ a1 a2).1)] dL_law_535 cvL_53 mwX10_lead kd_40 (by decide) rfl (Nat.le_of_ble_eq_true rfl) (by omega) (by omega) rfl (c_X10_lead r1 r2 hI1) ?_
  intro q2 V2 κ2 hp2
  obtain ⟨hr2, hv2, hk2⟩ := hp2
  rw [eL] at hr2 hk2
  subst hr2
  subst hv2
  subst hk2
  refine ⟨[Iv ((M_lead κ a1 a2).1), Iv ((M_lead κ a1 a2).1)], rfl, ?_⟩
  refine g_icmp_same 1361 dL_law_538 (by decide) ?_
  exact kk _ _ (LI_step (κ := κ) (K_lead hInv.1) (Z_lead hz) hc1 hv1)
set_option maxHeartbeats 4000000 in
set_option maxRecDepth 20000 in
theorem lw_end {B : Bs} {n0 bcN bsN : Nat} {V : Vs} {κ : Ks} {i : Int} (hn0 : n0 ≤ 3072) (hLI : LI κ V) (hi : 0 ≤ i ∧ i + 6 ≤ (n0 : Int)) (kk : ∀ (κ2 : Ks) (V2 : Vs), LI κ2 V2 → G (XR B n0) mL_law 20 PL Vz bcN bsN 1361 [some (Rf 33), some (Rf 1), some (Rf 40), some (Iv i)] [] V2 κ2) : G (XR B n0) mL_law 20 PL Vz (bcN + 2) (bsN + 44) 543 [some (Rf 33), some (Rf 1), some (Rf 40), some (Iv i)] [] V κ := by
  obtain ⟨hInv, hz⟩ := id hLI
  refine G.rg (fun hR => ?_)
  obtain ⟨a1, e1⟩ : ∃ a : Int, a = κ 33 (i + 1).toNat := ⟨_, rfl⟩
  have r1 : inR a1 := by rw [e1]; exact hR _ _
  obtain ⟨a2, e2⟩ : ∃ a : Int, a = κ 33 (i + 2).toNat := ⟨_, rfl⟩
  have r2 : inR a2 := by rw [e2]; exact hR _ _
  refine G.wk (bc1 := bcN) (bs1 := bsN) (by omega) (by omega) ?_
  refine g_aload_n 544 dL_law_543 rfl rfl ?_
  refine g_aload_n 545 dL_law_544 rfl rfl ?_
  refine g_iload_n 546 dL_law_545 rfl rfl ?_
  refine g_iconst 547 dL_law_546 (by decide) rfl ?_
  refine g_iadd 548 dL_law_547 rfl ?_
  refine r_iald30 549 (i + 1).toNat (κ 33 (i + 1).toNat) dL_law_548 kd_33 (by omega) (by omega) rfl rfl rfl (fun _ => ?_)
  refine G.eqi (show κ 33 (i + 1).toNat = a1 from e1.symm) ?_
  refine g_aload_n 550 dL_law_549 rfl rfl ?_
  refine g_iload_n 551 dL_law_550 rfl rfl ?_
  refine g_iconst 552 dL_law_551 (by decide) rfl ?_
  refine g_iadd 553 dL_law_552 rfl ?_
  refine r_iald30 554 (i + 2).toNat (κ 33 (i + 2).toNat) dL_law_553 kd_33 (by omega) (by omega) rfl rfl rfl (fun _ => ?_)
  refine G.eqi (show κ 33 (i + 2).toNat = a2 from e2.symm) ?_
  refine p_V 557 bcN bsN [Iv a1, Iv a2] [] dL_law_554 cvL_54 mwX9_end kd_1 (by decide) rfl (Nat.le_of_ble_eq_true rfl) (by omega) (by omega) rfl (c_X9_end r1 r2 hInv) ?_
  intro q1 V1 κ1 hp1
  obtain ⟨hr1, hv1, he1, hc1⟩ := hp1
  subst hr1
  refine ⟨[Iv ((M_end κ a1 a2).1)], rfl, ?_⟩
  have eL := L_end (ρ := κ1) (κ := κ) (s := a1) (z := a2)
  rw [← mrg_eqM he1] at eL
  have z33 : κ1 33 = κ 33 := hc1.2.2.2.2.2.2.2.2.2.2.2.2.2.2.2.trans (m33 (L_end (ρ := κ) (κ := κ) (s := a1) (z := a2)) (by rw [mrg_self]))
  have hI1 : MI κ1 := MI_cl hInv.1 he1
  refine g_aload_n 558 dL_law_557 rfl rfl ?_
  refine g_aload_n 559 dL_law_558 rfl rfl ?_
  refine g_iload_n 560 dL_law_559 rfl rfl ?_
  refine g_iconst 561 dL_law_560 (by decide) rfl ?_
  refine g_iadd 562 dL_law_561 rfl ?_
  refine r_iald30 563 (i + 1).toNat (κ1 33 (i + 1).toNat) dL_law_562 kd_33 (by omega) (by omega) rfl rfl rfl (fun _ => ?_)
  refine G.eqi (show κ1 33 (i + 1).toNat = a1 from by rw [z33, e1]) ?_
  refine g_aload_n 564 dL_law_563 rfl rfl ?_
  refine g_iload_n 565 dL_law_564 rfl rfl ?_
  refine g_iconst 566 dL_law_565 (by decide) rfl ?_
  refine g_iadd 567 dL_law_566 rfl ?_
  refine r_iald30 568 (i + 2).toNat (κ1 33 (i + 2).toNat) dL_law_567 kd_33 (by omega) (by omega) rfl rfl rfl (fun _ => ?_)
  refine G.eqi (show κ1 33 (i + 2).toNat = a2 from by rw [z33, e2]) ?_
  refine p_V 571 bcN bsN [Iv a1, Iv a2] [Iv ((M_end κ a1 a2).1)] dL_law_568 cvL_57 mwX10_end kd_40 (by decide) rfl (Nat.le_of_ble_eq_true rfl) (by omega) (by omega) rfl (c_X10_end r1 r2 hI1) ?_
  intro q2 V2 κ2 hp2
  obtain ⟨hr2, hv2, hk2⟩ := hp2
  rw [eL] at hr2 hk2
  subst hr2
  subst hv2
  subst hk2
  refine ⟨[Iv ((M_end κ a1 a2).1), Iv ((M_end κ a1 a2).1)], rfl, ?_⟩
  refine g_icmp_same 1361 dL_law_571 (by decide) ?_
  exact kk _ _ (LI_step (κ := κ) (K_end hInv.1) (Z_end hz) hc1 hv1)
set_option maxHeartbeats 4000000 in
set_option maxRecDepth 20000 in
theorem lw_clear {B : Bs} {n0 bcN bsN : Nat} {V : Vs} {κ : Ks} {i : Int} (hn0 : n0 ≤ 3072) (hLI : LI κ V) (hi : 0 ≤ i ∧ i + 6 ≤ (n0 : Int)) (kk : ∀ (κ2 : Ks) (V2 : Vs), LI κ2 V2 → G (XR B n0) mL_law 20 PL Vz bcN bsN 1361 [some (Rf 33), some (Rf 1), some (Rf 40), some (Iv i)] [] V2 κ2) : G (XR B n0) mL_law 20 PL Vz (bcN + 2) (bsN + 44) 576 [some (Rf 33), some (Rf 1), some (Rf 40), some (Iv i)] [] V κ := by
  obtain ⟨hInv, hz⟩ := id hLI
  refine G.rg (fun hR => ?_)
  obtain ⟨a1, e1⟩ : ∃ a : Int, a = κ 33 (i + 1).toNat := ⟨_, rfl⟩
  have r1 : inR a1 := by rw [e1]; exact hR _ _
  refine G.wk (bc1 := bcN) (bs1 := bsN) (by omega) (by omega) ?_
  refine g_aload_n 577 dL_law_576 rfl rfl ?_
  refine g_aload_n 578 dL_law_577 rfl rfl ?_
  refine g_iload_n 579 dL_law_578 rfl rfl ?_
  refine g_iconst 580 dL_law_579 (by decide) rfl ?_
  refine g_iadd 581 dL_law_580 rfl ?_
  refine r_iald30 582 (i + 1).toNat (κ 33 (i + 1).toNat) dL_law_581 kd_33 (by omega) (by omega) rfl rfl rfl (fun _ => ?_)
  refine G.eqi (show κ 33 (i + 1).toNat = a1 from e1.symm) ?_
  refine p_V 585 bcN bsN [Iv a1] [] dL_law_582 cvL_58 mwX9_clear kd_1 (by decide) rfl (Nat.le_of_ble_eq_true rfl) (by omega) (by omega) rfl (c_X9_clear r1 hInv) ?_
  intro q1 V1 κ1 hp1
  obtain ⟨hr1, hv1, he1, hc1⟩ := hp1
  subst hr1
  refine ⟨[Iv ((M_clear κ a1).1)], rfl, ?_⟩
  have eL := L_clear (ρ := κ1) (κ := κ) (s := a1)
  rw [← mrg_eqM he1] at eL
  have z33 : κ1 33 = κ 33 := hc1.2.2.2.2.2.2.2.2.2.2.2.2.2.2.2.trans (m33 (L_clear (ρ := κ) (κ := κ) (s := a1)) (by rw [mrg_self]))
  have hI1 : MI κ1 := MI_cl hInv.1 he1
  refine g_aload_n 586 dL_law_585 rfl rfl ?_
  refine g_aload_n 587 dL_law_586 rfl rfl ?_
  refine g_iload_n 588 dL_law_587 rfl rfl ?_
  refine g_iconst 589 dL_law_588 (by decide) rfl ?_
  refine g_iadd 590 dL_law_589 rfl ?_
  refine r_iald30 591 (i + 1).toNat (κ1 33 (i + 1).toNat) dL_law_590 kd_33 (by omega) (by omega) rfl rfl rfl (fun _ => ?_)
  refine G.eqi (show κ1 33 (i + 1).toNat = a1 from by rw [z33, e1]) ?_
  refine p_V 594 bcN bsN [Iv a1] [Iv ((M_clear κ a1).1)] dL_law_591 cvL_61 mwX10_clear kd_40 (by decide) rfl (Nat.le_of_ble_eq_true rfl) (by omega) (by omega) rfl (c_X10_clear r1 hI1) ?_
  intro q2 V2 κ2 hp2
  obtain ⟨hr2, hv2, hk2⟩ := hp2
  rw [eL] at hr2 hk2
  subst hr2
  subst hv2
  subst hk2
  refine ⟨[Iv ((M_clear κ a1).1), Iv ((M_clear κ a1).1)], rfl, ?_⟩
  refine g_icmp_same 1361 dL_law_594 (by decide) ?_
  exact kk _ _ (LI_step (κ := κ) (K_clear hInv.1) (Z_clear hz) hc1 hv1)
set_option maxHeartbeats 4000000 in
set_option maxRecDepth 20000 in
theorem lw_draw {B : Bs} {n0 bcN bsN : Nat} {V : Vs} {κ : Ks} {i : Int} (hn0 : n0 ≤ 3072) (hLI : LI κ V) (hi : 0 ≤ i ∧ i + 6 ≤ (n0 : Int)) (kk : ∀ (κ2 : Ks) (V2 : Vs), LI κ2 V2 → G (XR B n0) mL_law 20 PL Vz bcN bsN 1361 [some (Rf 33), some (Rf 1), some (Rf 40), some (Iv i)] [] V2 κ2) : G (XR B n0) mL_law 20 PL Vz (bcN + 2) (bsN + 44) 599 [some (Rf 33), some (Rf 1), some (Rf 40), some (Iv i)] [] V κ := by
  obtain ⟨hInv, hz⟩ := id hLI
  refine G.rg (fun hR => ?_)
  obtain ⟨a1, e1⟩ : ∃ a : Int, a = κ 33 (i + 1).toNat := ⟨_, rfl⟩
  have r1 : inR a1 := by rw [e1]; exact hR _ _
  obtain ⟨a2, e2⟩ : ∃ a : Int, a = κ 33 (i + 2).toNat := ⟨_, rfl⟩
  have r2 : inR a2 := by rw [e2]; exact hR _ _
  refine G.wk (bc1 := bcN) (bs1 := bsN) (by omega) (by omega) ?_
  by_cases hb : a2 = 0
  · refine g_aload_n 600 dL_law_599 rfl rfl ?_
    refine g_aload_n 601 dL_law_600 rfl rfl ?_
    refine g_iload_n 602 dL_law_601 rfl rfl ?_
    refine g_iconst 603 dL_law_602 (by decide) rfl ?_
    refine g_iadd 604 dL_law_603 rfl ?_
    refine r_iald30 605 (i + 1).toNat (κ 33 (i + 1).toNat) dL_law_604 kd_33 (by omega) (by omega) rfl rfl rfl (fun _ => ?_)
    refine G.eqi (show κ 33 (i + 1).toNat = a1 from e1.symm) ?_
    refine g_aload_n 606 dL_law_605 rfl rfl ?_
    refine g_iload_n 607 dL_law_606 rfl rfl ?_
    refine g_iconst 608 dL_law_607 (by decide) rfl ?_
    refine g_iadd 609 dL_law_608 rfl ?_
    refine r_iald30 610 (i + 2).toNat (κ 33 (i + 2).toNat) dL_law_609 kd_33 (by omega) (by omega) rfl rfl rfl (fun _ => ?_)
    refine G.eqi (show κ 33 (i + 2).toNat = a2 from e2.symm) ?_
    refine g_if_eq 617 613 dL_law_610 r2 (by decide) rfl (fun _ => ?_) (fun z => absurd hb z)
    refine g_iconst 618 dL_law_617 (by decide) rfl ?_
    refine p_V 621 bcN bsN [Iv a1, Iv 0] [] dL_law_618 cvL_62 mwX9_draw kd_1 (by decide) rfl (Nat.le_of_ble_eq_true rfl) (by omega) (by omega) rfl (c_X9_draw r1 (by decide) hInv) ?_
    intro q1 V1 κ1 hp1
    obtain ⟨hr1, hv1, he1, hc1⟩ := hp1
    subst hr1
    refine ⟨[Iv ((M_draw κ a1 0).1)], rfl, ?_⟩
    have eL := L_draw (ρ := κ1) (κ := κ) (s := a1) (b := 0)
    rw [← mrg_eqM he1] at eL
    have z33 : κ1 33 = κ 33 := hc1.2.2.2.2.2.2.2.2.2.2.2.2.2.2.2.trans (m33 (L_draw (ρ := κ) (κ := κ) (s := a1) (b := 0)) (by rw [mrg_self]))
    have hI1 : MI κ1 := MI_cl hInv.1 he1
    refine g_aload_n 622 dL_law_621 rfl rfl ?_
    refine g_aload_n 623 dL_law_622 rfl rfl ?_
    refine g_iload_n 624 dL_law_623 rfl rfl ?_
    refine g_iconst 625 dL_law_624 (by decide) rfl ?_
    refine g_iadd 626 dL_law_625 rfl ?_
    refine r_iald30 627 (i + 1).toNat (κ1 33 (i + 1).toNat) dL_law_626 kd_33 (by omega) (by omega) rfl rfl rfl (fun _ => ?_)
    refine G.eqi (show κ1 33 (i + 1).toNat = a1 from by rw [z33, e1]) ?_
    refine g_aload_n 628 dL_law_627 rfl rfl ?_
    refine g_iload_n 629 dL_law_628 rfl rfl ?_
    refine g_iconst 630 dL_law_629 (by decide) rfl ?_
    refine g_iadd 631 dL_law_630 rfl ?_
    refine r_iald30 632 (i + 2).toNat (κ1 33 (i + 2).toNat) dL_law_631 kd_33 (by omega) (by omega) rfl rfl rfl (fun _ => ?_)
    refine G.eqi (show κ1 33 (i + 2).toNat = a2 from by rw [z33, e2]) ?_
    refine g_if_eq 639 635 dL_law_632 r2 (by decide) rfl (fun _ => ?_) (fun z => absurd hb z)
    refine g_iconst 640 dL_law_639 (by decide) rfl ?_
    refine p_V 643 bcN bsN [Iv a1, Iv 0] [Iv ((M_draw κ a1 0).1)] dL_law_640 cvL_66 mwX10_draw kd_40 (by decide) rfl (Nat.le_of_ble_eq_true rfl) (by omega) (by omega) rfl (c_X10_draw r1 (by decide) hI1) ?_
    intro q2 V2 κ2 hp2
    obtain ⟨hr2, hv2, hk2⟩ := hp2
    rw [eL] at hr2 hk2
    subst hr2
    subst hv2
    subst hk2
    refine ⟨[Iv ((M_draw κ a1 0).1), Iv ((M_draw κ a1 0).1)], rfl, ?_⟩
    refine g_icmp_same 1361 dL_law_643 (by decide) ?_
    exact kk _ _ (LI_step (κ := κ) (K_draw (by decide) hInv.1) (Z_draw hz) hc1 hv1)
  · refine g_aload_n 600 dL_law_599 rfl rfl ?_
    refine g_aload_n 601 dL_law_600 rfl rfl ?_
    refine g_iload_n 602 dL_law_601 rfl rfl ?_
    refine g_iconst 603 dL_law_602 (by decide) rfl ?_
    refine g_iadd 604 dL_law_603 rfl ?_
    refine r_iald30 605 (i + 1).toNat (κ 33 (i + 1).toNat) dL_law_604 kd_33 (by omega) (by omega) rfl rfl rfl (fun _ => ?_)
    refine G.eqi (show κ 33 (i + 1).toNat = a1 from e1.symm) ?_
    refine g_aload_n 606 dL_law_605 rfl rfl ?_
    refine g_iload_n 607 dL_law_606 rfl rfl ?_
    refine g_iconst 608 dL_law_607 (by decide) rfl ?_
    refine g_iadd 609 dL_law_608 rfl ?_
    refine r_iald30 610 (i + 2).toNat (κ 33 (i + 2).toNat) dL_law_609 kd_33 (by omega) (by omega) rfl rfl rfl (fun _ => ?_)
    refine G.eqi (show κ 33 (i + 2).toNat = a2 from e2.symm) ?_
    refine g_if_eq 617 613 dL_law_610 r2 (by decide) rfl (fun z => absurd z hb) (fun _ => ?_)
    refine g_iconst 614 dL_law_613 (by decide) rfl ?_
    refine g_goto 618 dL_law_614 (by decide) ?_
    refine p_V 621 bcN bsN [Iv a1, Iv 1] [] dL_law_618 cvL_62 mwX9_draw kd_1 (by decide) rfl (Nat.le_of_ble_eq_true rfl) (by omega) (by omega) rfl (c_X9_draw r1 (by decide) hInv) ?_
    intro q1 V1 κ1 hp1
    obtain ⟨hr1, hv1, he1, hc1⟩ := hp1
    subst hr1
    refine ⟨[Iv ((M_draw κ a1 1).1)], rfl, ?_⟩
    have eL := L_draw (ρ := κ1) (κ := κ) (s := a1) (b := 1)
    rw [← mrg_eqM he1] at eL
    have z33 : κ1 33 = κ 33 := hc1.2.2.2.2.2.2.2.2.2.2.2.2.2.2.2.trans (m33 (L_draw (ρ := κ) (κ := κ) (s := a1) (b := 1)) (by rw [mrg_self]))
    have hI1 : MI κ1 := MI_cl hInv.1 he1
    refine g_aload_n 622 dL_law_621 rfl rfl ?_
    refine g_aload_n 623 dL_law_622 rfl rfl ?_
    refine g_iload_n 624 dL_law_623 rfl rfl ?_
    refine g_iconst 625 dL_law_624 (by decide) rfl ?_
    refine g_iadd 626 dL_law_625 rfl ?_
    refine r_iald30 627 (i + 1).toNat (κ1 33 (i + 1).toNat) dL_law_626 kd_33 (by omega) (by omega) rfl rfl rfl (fun _ => ?_)
    refine G.eqi (show κ1 33 (i + 1).toNat = a1 from by rw [z33, e1]) ?_
    refine g_aload_n 628 dL_law_627 rfl rfl ?_
    refine g_iload_n 629 dL_law_628 rfl rfl ?_
    refine g_iconst 630 dL_law_629 (by decide) rfl ?_
    refine g_iadd 631 dL_law_630 rfl ?_
    refine r_iald30 632 (i + 2).toNat (κ1 33 (i + 2).toNat) dL_law_631 kd_33 (by omega) (by omega) rfl rfl rfl (fun _ => ?_)
    refine G.eqi (show κ1 33 (i + 2).toNat = a2 from by rw [z33, e2]) ?_
    refine g_if_eq 639 635 dL_law_632 r2 (by decide) rfl (fun z => absurd z hb) (fun _ => ?_)
    refine g_iconst 636 dL_law_635 (by decide) rfl ?_
    refine g_goto 640 dL_law_636 (by decide) ?_
    refine p_V 643 bcN bsN [Iv a1, Iv 1] [Iv ((M_draw κ a1 1).1)] dL_law_640 cvL_66 mwX10_draw kd_40 (by decide) rfl (Nat.le_of_ble_eq_true rfl) (by omega) (by omega) rfl (c_X10_draw r1 (by decide) hI1) ?_
    intro q2 V2 κ2 hp2
    obtain ⟨hr2, hv2, hk2⟩ := hp2
    rw [eL] at hr2 hk2
    subst hr2
    subst hv2
    subst hk2
    refine ⟨[Iv ((M_draw κ a1 1).1), Iv ((M_draw κ a1 1).1)], rfl, ?_⟩
    refine g_icmp_same 1361 dL_law_643 (by decide) ?_
    exact kk _ _ (LI_step (κ := κ) (K_draw (by decide) hInv.1) (Z_draw hz) hc1 hv1)
set_option maxHeartbeats 4000000 in
set_option maxRecDepth 20000 in
theorem lw_brew {B : Bs} {n0 bcN bsN : Nat} {V : Vs} {κ : Ks} {i : Int} (hn0 : n0 ≤ 3072) (hLI : LI κ V) (hi : 0 ≤ i ∧ i + 6 ≤ (n0 : Int)) (kk : ∀ (κ2 : Ks) (V2 : Vs), LI κ2 V2 → G (XR B n0) mL_law 20 PL Vz bcN bsN 1361 [some (Rf 33), some (Rf 1), some (Rf 40), some (Iv i)] [] V2 κ2) : G (XR B n0) mL_law 20 PL Vz (bcN + 2) (bsN + 44) 648 [some (Rf 33), some (Rf 1), some (Rf 40), some (Iv i)] [] V κ := by
  obtain ⟨hInv, hz⟩ := id hLI
  refine G.rg (fun hR => ?_)
  obtain ⟨a1, e1⟩ : ∃ a : Int, a = κ 33 (i + 1).toNat := ⟨_, rfl⟩
  have r1 : inR a1 := by rw [e1]; exact hR _ _
  obtain ⟨a2, e2⟩ : ∃ a : Int, a = κ 33 (i + 2).toNat := ⟨_, rfl⟩
  have r2 : inR a2 := by rw [e2]; exact hR _ _
  refine G.wk (bc1 := bcN) (bs1 := bsN) (by omega) (by omega) ?_
  refine g_aload_n 649 dL_law_648 rfl rfl ?_
  refine g_aload_n 650 dL_law_649 rfl rfl ?_
  refine g_iload_n 651 dL_law_650 rfl rfl ?_
  refine g_iconst 652 dL_law_651 (by decide) rfl ?_
  refine g_iadd 653 dL_law_652 rfl ?_
  refine r_iald30 654 (i + 1).toNat (κ 33 (i + 1).toNat) dL_law_653 kd_33 (by omega) (by omega) rfl rfl rfl (fun _ => ?_)
  refine G.eqi (show κ 33 (i + 1).toNat = a1 from e1.symm) ?_
  refine g_aload_n 655 dL_law_654 rfl rfl ?_
  refine g_iload_n 656 dL_law_655 rfl rfl ?_
  refine g_iconst 657 dL_law_656 (by decide) rfl ?_
  refine g_iadd 658 dL_law_657 rfl ?_
  refine r_iald30 659 (i + 2).toNat (κ 33 (i + 2).toNat) dL_law_658 kd_33 (by omega) (by omega) rfl rfl rfl (fun _ => ?_)
  refine G.eqi (show κ 33 (i + 2).toNat = a2 from e2.symm) ?_
  refine p_V 662 bcN bsN [Iv a1, Iv a2] [] dL_law_659 cvL_67 mwX9_brew kd_1 (by decide) rfl (Nat.le_of_ble_eq_true rfl) (by omega) (by omega) rfl (c_X9_brew r1 r2 hInv) ?_
  intro q1 V1 κ1 hp1
  obtain ⟨hr1, hv1, he1, hc1⟩ := hp1
  subst hr1
  refine ⟨[Iv ((M_brew κ a1 a2).1)], rfl, ?_⟩
  have eL := L_brew (ρ := κ1) (κ := κ) (s := a1) (n := a2)
  rw [← mrg_eqM he1] at eL
  have z33 : κ1 33 = κ 33 := hc1.2.2.2.2.2.2.2.2.2.2.2.2.2.2.2.trans (m33 (L_brew (ρ := κ) (κ := κ) (s := a1) (n := a2)) (by rw [mrg_self]))
  have hI1 : MI κ1 := MI_cl hInv.1 he1
  refine g_aload_n 663 dL_law_662 rfl rfl ?_
  refine g_aload_n 664 dL_law_663 rfl rfl ?_
  refine g_iload_n 665 dL_law_664 rfl rfl ?_
  refine g_iconst 666 dL_law_665 (by decide) rfl ?_
  refine g_iadd 667 dL_law_666 rfl ?_
  refine r_iald30 668 (i + 1).toNat (κ1 33 (i + 1).toNat) dL_law_667 kd_33 (by omega) (by omega) rfl rfl rfl (fun _ => ?_)
  refine G.eqi (show κ1 33 (i + 1).toNat = a1 from by rw [z33, e1]) ?_
  refine g_aload_n 669 dL_law_668 rfl rfl ?_
  refine g_iload_n 670 dL_law_669 rfl rfl ?_
  refine g_iconst 671 dL_law_670 (by decide) rfl ?_
  refine g_iadd 672 dL_law_671 rfl ?_
  refine r_iald30 673 (i + 2).toNat (κ1 33 (i + 2).toNat) dL_law_672 kd_33 (by omega) (by omega) rfl rfl rfl (fun _ => ?_)
  refine G.eqi (show κ1 33 (i + 2).toNat = a2 from by rw [z33, e2]) ?_
  refine p_V 676 bcN bsN [Iv a1, Iv a2] [Iv ((M_brew κ a1 a2).1)] dL_law_673 cvL_70 mwX10_brew kd_40 (by decide) rfl (Nat.le_of_ble_eq_true rfl) (by omega) (by omega) rfl (c_X10_brew r1 r2 hI1) ?_
  intro q2 V2 κ2 hp2
  obtain ⟨hr2, hv2, hk2⟩ := hp2
  rw [eL] at hr2 hk2
  subst hr2
  subst hv2
  subst hk2
  refine ⟨[Iv ((M_brew κ a1 a2).1), Iv ((M_brew κ a1 a2).1)], rfl, ?_⟩
  refine g_icmp_same 1361 dL_law_676 (by decide) ?_
  exact kk _ _ (LI_step (κ := κ) (K_brew hInv.1) (Z_brew hz) hc1 hv1)
set_option maxHeartbeats 4000000 in
set_option maxRecDepth 20000 in
theorem lw_turn {B : Bs} {n0 bcN bsN : Nat} {V : Vs} {κ : Ks} {i : Int} (hn0 : n0 ≤ 3072) (hLI : LI κ V) (hi : 0 ≤ i ∧ i + 6 ≤ (n0 : Int)) (kk : ∀ (κ2 : Ks) (V2 : Vs), LI κ2 V2 → G (XR B n0) mL_law 20 PL Vz bcN bsN 1361 [some (Rf 33), some (Rf 1), some (Rf 40), some (Iv i)] [] V2 κ2) : G (XR B n0) mL_law 20 PL Vz (bcN + 2) (bsN + 44) 681 [some (Rf 33), some (Rf 1), some (Rf 40), some (Iv i)] [] V κ := by
  obtain ⟨hInv, hz⟩ := id hLI
  refine G.rg (fun hR => ?_)
  obtain ⟨a1, e1⟩ : ∃ a : Int, a = κ 33 (i + 1).toNat := ⟨_, rfl⟩
  have r1 : inR a1 := by rw [e1]; exact hR _ _
  obtain ⟨a2, e2⟩ : ∃ a : Int, a = κ 33 (i + 2).toNat := ⟨_, rfl⟩
  have r2 : inR a2 := by rw [e2]; exact hR _ _
  obtain ⟨a3, e3⟩ : ∃ a : Int, a = κ 33 (i + 3).toNat := ⟨_, rfl⟩
  have r3 : inR a3 := by rw [e3]; exact hR _ _
  obtain ⟨a4, e4⟩ : ∃ a : Int, a = κ 33 (i + 4).toNat := ⟨_, rfl⟩
  have r4 : inR a4 := by rw [e4]; exact hR _ _
  obtain ⟨a5, e5⟩ : ∃ a : Int, a = κ 33 (i + 5).toNat := ⟨_, rfl⟩
  have r5 : inR a5 := by rw [e5]; exact hR _ _
  refine G.wk (bc1 := (bcN + 2)) (bs1 := (bsN + 37)) (by omega) (by omega) ?_
  refine g_aload_n 682 dL_law_681 rfl rfl ?_
  refine g_aload_n 683 dL_law_682 rfl rfl ?_
  refine g_iload_n 684 dL_law_683 rfl rfl ?_
  refine g_iconst 685 dL_law_684 (by decide) rfl ?_
  refine g_iadd 686 dL_law_685 rfl ?_
  refine r_iald30 687 (i + 1).toNat (κ 33 (i + 1).toNat) dL_law_686 kd_33 (by omega) (by omega) rfl rfl rfl (fun _ => ?_)
  refine G.eqi (show κ 33 (i + 1).toNat = a1 from e1.symm) ?_
  refine g_aload_n 688 dL_law_687 rfl rfl ?_
  refine g_iload_n 689 dL_law_688 rfl rfl ?_
  refine g_iconst 690 dL_law_689 (by decide) rfl ?_
  refine g_iadd 691 dL_law_690 rfl ?_
  refine r_iald30 692 (i + 2).toNat (κ 33 (i + 2).toNat) dL_law_691 kd_33 (by omega) (by omega) rfl rfl rfl (fun _ => ?_)
  refine G.eqi (show κ 33 (i + 2).toNat = a2 from e2.symm) ?_
  refine g_aload_n 693 dL_law_692 rfl rfl ?_
  refine g_iload_n 694 dL_law_693 rfl rfl ?_
  refine g_iconst 695 dL_law_694 (by decide) rfl ?_
  refine g_iadd 696 dL_law_695 rfl ?_
  refine r_iald30 697 (i + 3).toNat (κ 33 (i + 3).toNat) dL_law_696 kd_33 (by omega) (by omega) rfl rfl rfl (fun _ => ?_)
  refine G.eqi (show κ 33 (i + 3).toNat = a3 from e3.symm) ?_
  refine g_aload_n 698 dL_law_697 rfl rfl ?_
  refine g_iload_n 699 dL_law_698 rfl rfl ?_
  refine g_iconst 700 dL_law_699 (by decide) rfl ?_
  refine g_iadd 701 dL_law_700 rfl ?_
  refine r_iald30 702 (i + 4).toNat (κ 33 (i + 4).toNat) dL_law_701 kd_33 (by omega) (by omega) rfl rfl rfl (fun _ => ?_)
  refine G.eqi (show κ 33 (i + 4).toNat = a4 from e4.symm) ?_
  refine g_aload_n 703 dL_law_702 rfl rfl ?_
  refine g_iload_n 704 dL_law_703 rfl rfl ?_
  refine g_iconst 705 dL_law_704 (by decide) rfl ?_
  refine g_iadd 706 dL_law_705 rfl ?_
  refine r_iald30 707 (i + 5).toNat (κ 33 (i + 5).toNat) dL_law_706 kd_33 (by omega) (by omega) rfl rfl rfl (fun _ => ?_)
  refine G.eqi (show κ 33 (i + 5).toNat = a5 from e5.symm) ?_
  refine p_V 710 bcN bsN [Iv a1, Iv a2, Iv a3, Iv a4, Iv a5] [] dL_law_707 cvL_71 mwX9_turn kd_1 (by decide) rfl (Nat.le_of_ble_eq_true rfl) (by omega) (by omega) rfl (c_X9_turn r1 r2 r3 r4 r5 hInv) ?_
  intro q1 V1 κ1 hp1
  obtain ⟨hr1, hv1, he1, hc1⟩ := hp1
  subst hr1
  refine ⟨[Iv ((M_turn κ a1 a2 a3 a4 a5).1)], rfl, ?_⟩
  have eL := L_turn (ρ := κ1) (κ := κ) (s := a1) (c := a2) (y := a3) (h := a4) (n := a5)
  rw [← mrg_eqM he1] at eL
  have z33 : κ1 33 = κ 33 := hc1.2.2.2.2.2.2.2.2.2.2.2.2.2.2.2.trans (m33 (L_turn (ρ := κ) (κ := κ) (s := a1) (c := a2) (y := a3) (h := a4) (n := a5)) (by rw [mrg_self]))
  have hI1 : MI κ1 := MI_cl hInv.1 he1
  refine g_aload_n 711 dL_law_710 rfl rfl ?_
  refine g_aload_n 712 dL_law_711 rfl rfl ?_
  refine g_iload_n 713 dL_law_712 rfl rfl ?_
  refine g_iconst 714 dL_law_713 (by decide) rfl ?_
  refine g_iadd 715 dL_law_714 rfl ?_
  refine r_iald30 716 (i + 1).toNat (κ1 33 (i + 1).toNat) dL_law_715 kd_33 (by omega) (by omega) rfl rfl rfl (fun _ => ?_)
  refine G.eqi (show κ1 33 (i + 1).toNat = a1 from by rw [z33, e1]) ?_
  refine g_aload_n 717 dL_law_716 rfl rfl ?_
  refine g_iload_n 718 dL_law_717 rfl rfl ?_
  refine g_iconst 719 dL_law_718 (by decide) rfl ?_
  refine g_iadd 720 dL_law_719 rfl ?_
  refine r_iald30 721 (i + 2).toNat (κ1 33 (i + 2).toNat) dL_law_720 kd_33 (by omega) (by omega) rfl rfl rfl (fun _ => ?_)
  refine G.eqi (show κ1 33 (i + 2).toNat = a2 from by rw [z33, e2]) ?_
  refine g_aload_n 722 dL_law_721 rfl rfl ?_
  refine g_iload_n 723 dL_law_722 rfl rfl ?_
  refine g_iconst 724 dL_law_723 (by decide) rfl ?_
  refine g_iadd 725 dL_law_724 rfl ?_
  refine r_iald30 726 (i + 3).toNat (κ1 33 (i + 3).toNat) dL_law_725 kd_33 (by omega) (by omega) rfl rfl rfl (fun _ => ?_)
  refine G.eqi (show κ1 33 (i + 3).toNat = a3 from by rw [z33, e3]) ?_
  refine g_aload_n 727 dL_law_726 rfl rfl ?_
  refine g_iload_n 728 dL_law_727 rfl rfl ?_
  refine g_iconst 729 dL_law_728 (by decide) rfl ?_
  refine g_iadd 730 dL_law_729 rfl ?_
  refine r_iald30 731 (i + 4).toNat (κ1 33 (i + 4).toNat) dL_law_730 kd_33 (by omega) (by omega) rfl rfl rfl (fun _ => ?_)
  refine G.eqi (show κ1 33 (i + 4).toNat = a4 from by rw [z33, e4]) ?_
  refine g_aload_n 732 dL_law_731 rfl rfl ?_
  refine g_iload_n 733 dL_law_732 rfl rfl ?_
  refine g_iconst 734 dL_law_733 (by decide) rfl ?_
  refine g_iadd 735 dL_law_734 rfl ?_
  refine r_iald30 736 (i + 5).toNat (κ1 33 (i + 5).toNat) dL_law_735 kd_33 (by omega) (by omega) rfl rfl rfl (fun _ => ?_)
  refine G.eqi (show κ1 33 (i + 5).toNat = a5 from by rw [z33, e5]) ?_
  refine p_V 739 bcN bsN [Iv a1, Iv a2, Iv a3, Iv a4, Iv a5] [Iv ((M_turn κ a1 a2 a3 a4 a5).1)] dL_law_736 cvL_74 mwX10_turn kd_40 (by decide) rfl (Nat.le_of_ble_eq_true rfl) (by omega) (by omega) rfl (c_X10_turn r1 r2 r3 r4 r5 hI1) ?_
  intro q2 V2 κ2 hp2
  obtain ⟨hr2, hv2, hk2⟩ := hp2
  rw [eL] at hr2 hk2
  subst hr2
  subst hv2
  subst hk2
  refine ⟨[Iv ((M_turn κ a1 a2 a3 a4 a5).1), Iv ((M_turn κ a1 a2 a3 a4 a5).1)], rfl, ?_⟩
  refine g_icmp_same 1361 dL_law_739 (by decide) ?_
  exact kk _ _ (LI_step (κ := κ) (K_turn hInv.1) (Z_turn hz) hc1 hv1)
set_option maxHeartbeats 4000000 in
set_option maxRecDepth 20000 in
theorem lw_let {B : Bs} {n0 bcN bsN : Nat} {V : Vs} {κ : Ks} {i : Int} (hn0 : n0 ≤ 3072) (hLI : LI κ V) (hi : 0 ≤ i ∧ i + 6 ≤ (n0 : Int)) (kk : ∀ (κ2 : Ks) (V2 : Vs), LI κ2 V2 → G (XR B n0) mL_law 20 PL Vz bcN bsN 1361 [some (Rf 33), some (Rf 1), some (Rf 40), some (Iv i)] [] V2 κ2) : G (XR B n0) mL_law 20 PL Vz (bcN + 2) (bsN + 44) 744 [some (Rf 33), some (Rf 1), some (Rf 40), some (Iv i)] [] V κ := by
  obtain ⟨hInv, hz⟩ := id hLI
  refine G.rg (fun hR => ?_)
  obtain ⟨a1, e1⟩ : ∃ a : Int, a = κ 33 (i + 1).toNat := ⟨_, rfl⟩
  have r1 : inR a1 := by rw [e1]; exact hR _ _
  obtain ⟨a2, e2⟩ : ∃ a : Int, a = κ 33 (i + 2).toNat := ⟨_, rfl⟩
  have r2 : inR a2 := by rw [e2]; exact hR _ _
  obtain ⟨a3, e3⟩ : ∃ a : Int, a = κ 33 (i + 3).toNat := ⟨_, rfl⟩
  have r3 : inR a3 := by rw [e3]; exact hR _ _
  refine G.wk (bc1 := bcN) (bs1 := bsN) (by omega) (by omega) ?_
  refine g_aload_n 745 dL_law_744 rfl rfl ?_
  refine g_aload_n 746 dL_law_745 rfl rfl ?_
  refine g_iload_n 747 dL_law_746 rfl rfl ?_
  refine g_iconst 748 dL_law_747 (by decide) rfl ?_
  refine g_iadd 749 dL_law_748 rfl ?_
  refine r_iald30 750 (i + 1).toNat (κ 33 (i + 1).toNat) dL_law_749 kd_33 (by omega) (by omega) rfl rfl rfl (fun _ => ?_)
  refine G.eqi (show κ 33 (i + 1).toNat = a1 from e1.symm) ?_
  refine g_aload_n 751 dL_law_750 rfl rfl ?_
  refine g_iload_n 752 dL_law_751 rfl rfl ?_
  refine g_iconst 753 dL_law_752 (by decide) rfl ?_
  refine g_iadd 754 dL_law_753 rfl ?_
  refine r_iald30 755 (i + 2).toNat (κ 33 (i + 2).toNat) dL_law_754 kd_33 (by omega) (by omega) rfl rfl rfl (fun _ => ?_)
  refine G.eqi (show κ 33 (i + 2).toNat = a2 from e2.symm) ?_
  refine g_aload_n 756 dL_law_755 rfl rfl ?_
  refine g_iload_n 757 dL_law_756 rfl rfl ?_
  refine g_iconst 758 dL_law_757 (by decide) rfl ?_
  refine g_iadd 759 dL_law_758 rfl ?_
  refine r_iald30 760 (i + 3).toNat (κ 33 (i + 3).toNat) dL_law_759 kd_33 (by omega) (by omega) rfl rfl rfl (fun _ => ?_)
  refine G.eqi (show κ 33 (i + 3).toNat = a3 from e3.symm) ?_
  refine p_V 763 bcN bsN [Iv a1, Iv a2, Iv a3] [] dL_law_760 cvL_75 mwX9_let kd_1 (by decide) rfl (Nat.le_of_ble_eq_true rfl) (by omega) (by omega) rfl (c_X9_let r1 r2 r3 hInv) ?_
  intro q1 V1 κ1 hp1
  obtain ⟨hr1, hv1, he1, hc1⟩ := hp1
  subst hr1
  refine ⟨[Iv ((M_let κ a1 a2 a3).1)], rfl, ?_⟩
  have eL := L_let (ρ := κ1) (κ := κ) (s := a1) (h := a2) (w := a3)
  rw [← mrg_eqM he1] at eL
  have z33 : κ1 33 = κ 33 := hc1.2.2.2.2.2.2.2.2.2.2.2.2.2.2.2.trans (m33 (L_let (ρ := κ) (κ := κ) (s := a1) (h := a2) (w := a3)) (by rw [mrg_self]))
  have hI1 : MI κ1 := MI_cl hInv.1 he1
  refine g_aload_n 764 dL_law_763 rfl rfl ?_
  refine g_aload_n 765 dL_law_764 rfl rfl ?_
  refine g_iload_n 766 dL_law_765 rfl rfl ?_
  refine g_iconst 767 dL_law_766 (by decide) rfl ?_
  refine g_iadd 768 dL_law_767 rfl ?_
  refine r_iald30 769 (i + 1).toNat (κ1 33 (i + 1).toNat) dL_law_768 kd_33 (by omega) (by omega) rfl rfl rfl (fun _ => ?_)
  refine G.eqi (show κ1 33 (i + 1).toNat = a1 from by rw [z33, e1]) ?_
  refine g_aload_n 770 dL_law_769 rfl rfl ?_
  refine g_iload_n 771 dL_law_770 rfl rfl ?_
  refine g_iconst 772 dL_law_771 (by decide) rfl ?_
  refine g_iadd 773 dL_law_772 rfl ?_
  refine r_iald30 774 (i + 2).toNat (κ1 33 (i + 2).toNat) dL_law_773 kd_33 (by omega) (by omega) rfl rfl rfl (fun _ => ?_)
  refine G.eqi (show κ1 33 (i + 2).toNat = a2 from by rw [z33, e2]) ?_
  refine g_aload_n 775 dL_law_774 rfl rfl ?_
  refine g_iload_n 776 dL_law_775 rfl rfl ?_
  refine g_iconst 777 dL_law_776 (by decide) rfl ?_
  refine g_iadd 778 dL_law_777 rfl ?_
  refine r_iald30 779 (i + 3).toNat (κ1 33 (i + 3).toNat) dL_law_778 kd_33 (by omega) (by omega) rfl rfl rfl (fun _ => ?_)
  refine G.eqi (show κ1 33 (i + 3).toNat = a3 from by rw [z33, e3]) ?_
  refine p_V 782 bcN bsN [Iv a1, Iv a2, Iv a3] [Iv ((M_let κ a1 a2 a3).1)] dL_law_779 cvL_78 mwX10_let kd_40 (by decide) rfl (Nat.le_of_ble_eq_true rfl) (by omega) (by omega) rfl (c_X10_let r1 r2 r3 hI1) ?_
  intro q2 V2 κ2 hp2
  obtain ⟨hr2, hv2, hk2⟩ := hp2
  rw [eL] at hr2 hk2
  subst hr2
  subst hv2
  subst hk2
  refine ⟨[Iv ((M_let κ a1 a2 a3).1), Iv ((M_let κ a1 a2 a3).1)], rfl, ?_⟩
  refine g_icmp_same 1361 dL_law_782 (by decide) ?_
  exact kk _ _ (LI_step (κ := κ) (K_let hInv.1) (Z_let hz) hc1 hv1)
set_option maxHeartbeats 4000000 in
set_option maxRecDepth 20000 in
theorem lw_clashes {B : Bs} {n0 bcN bsN : Nat} {V : Vs} {κ : Ks} {i : Int} (hn0 : n0 ≤ 3072) (hLI : LI κ V) (hi : 0 ≤ i ∧ i + 6 ≤ (n0 : Int)) (kk : ∀ (κ2 : Ks) (V2 : Vs), LI κ2 V2 → G (XR B n0) mL_law 20 PL Vz bcN bsN 1361 [some (Rf 33), some (Rf 1), some (Rf 40), some (Iv i)] [] V2 κ2) : G (XR B n0) mL_law 20 PL Vz (bcN + 2) (bsN + 44) 787 [some (Rf 33), some (Rf 1), some (Rf 40), some (Iv i)] [] V κ := by
  obtain ⟨hInv, hz⟩ := id hLI
  refine G.rg (fun hR => ?_)
  obtain ⟨a1, e1⟩ : ∃ a : Int, a = κ 33 (i + 1).toNat := ⟨_, rfl⟩
  have r1 : inR a1 := by rw [e1]; exact hR _ _
  refine G.wk (bc1 := bcN) (bs1 := bsN) (by omega) (by omega) ?_
  refine g_aload_n 788 dL_law_787 rfl rfl ?_
  refine g_aload_n 789 dL_law_788 rfl rfl ?_
  refine g_iload_n 790 dL_law_789 rfl rfl ?_
  refine g_iconst 791 dL_law_790 (by decide) rfl ?_
  refine g_iadd 792 dL_law_791 rfl ?_
  refine r_iald30 793 (i + 1).toNat (κ 33 (i + 1).toNat) dL_law_792 kd_33 (by omega) (by omega) rfl rfl rfl (fun _ => ?_)
  refine G.eqi (show κ 33 (i + 1).toNat = a1 from e1.symm) ?_
  refine p_V 796 bcN bsN [Iv a1] [] dL_law_793 cvL_79 mwX9_clashes kd_1 (by decide) rfl (Nat.le_of_ble_eq_true rfl) (by omega) (by omega) rfl (c_X9_clashes r1 hInv) ?_
  intro q1 V1 κ1 hp1
  obtain ⟨hr1, hv1, he1, hc1⟩ := hp1
  subst hr1
  refine ⟨[Iv ((M_clashes κ a1).1)], rfl, ?_⟩
  have eL := L_clashes (ρ := κ1) (κ := κ) (c := a1)
  rw [← mrg_eqM he1] at eL
  have z33 : κ1 33 = κ 33 := hc1.2.2.2.2.2.2.2.2.2.2.2.2.2.2.2.trans (m33 (L_clashes (ρ := κ) (κ := κ) (c := a1)) (by rw [mrg_self]))
  have hI1 : MI κ1 := MI_cl hInv.1 he1
  refine g_aload_n 797 dL_law_796 rfl rfl ?_
  refine g_aload_n 798 dL_law_797 rfl rfl ?_
  refine g_iload_n 799 dL_law_798 rfl rfl ?_
  refine g_iconst 800 dL_law_799 (by decide) rfl ?_
  refine g_iadd 801 dL_law_800 rfl ?_
  refine r_iald30 802 (i + 1).toNat (κ1 33 (i + 1).toNat) dL_law_801 kd_33 (by omega) (by omega) rfl rfl rfl (fun _ => ?_)
  refine G.eqi (show κ1 33 (i + 1).toNat = a1 from by rw [z33, e1]) ?_
  refine p_V 805 bcN bsN [Iv a1] [Iv ((M_clashes κ a1).1)] dL_law_802 cvL_82 mwX10_clashes kd_40 (by decide) rfl (Nat.le_of_ble_eq_true rfl) (by omega) (by omega) rfl (c_X10_clashes r1 hI1) ?_
  intro q2 V2 κ2 hp2
  obtain ⟨hr2, hv2, hk2⟩ := hp2
  rw [eL] at hr2 hk2
  subst hr2
  subst hv2
  subst hk2
  refine ⟨[Iv ((M_clashes κ a1).1), Iv ((M_clashes κ a1).1)], rfl, ?_⟩
  refine g_icmp_same 1361 dL_law_805 (by decide) ?_
  exact kk _ _ (LI_step (κ := κ) (K_clashes hInv.1) (Z_clashes hz) hc1 hv1)
set_option maxHeartbeats 4000000 in
set_option maxRecDepth 20000 in
theorem lw_hours {B : Bs} {n0 bcN bsN : Nat} {V : Vs} {κ : Ks} {i : Int} (hn0 : n0 ≤ 3072) (hLI : LI κ V) (hi : 0 ≤ i ∧ i + 6 ≤ (n0 : Int)) (kk : ∀ (κ2 : Ks) (V2 : Vs), LI κ2 V2 → G (XR B n0) mL_law 20 PL Vz bcN bsN 1361 [some (Rf 33), some (Rf 1), some (Rf 40), some (Iv i)] [] V2 κ2) : G (XR B n0) mL_law 20 PL Vz (bcN + 2) (bsN + 44) 810 [some (Rf 33), some (Rf 1), some (Rf 40), some (Iv i)] [] V κ := by
  obtain ⟨hInv, hz⟩ := id hLI
  refine G.rg (fun hR => ?_)
  obtain ⟨a1, e1⟩ : ∃ a : Int, a = κ 33 (i + 1).toNat := ⟨_, rfl⟩
  have r1 : inR a1 := by rw [e1]; exact hR _ _
  refine G.wk (bc1 := bcN) (bs1 := bsN) (by omega) (by omega) ?_
  refine g_aload_n 811 dL_law_810 rfl rfl ?_
  refine g_aload_n 812 dL_law_811 rfl rfl ?_
  refine g_iload_n 813 dL_law_812 rfl rfl ?_
  refine g_iconst 814 dL_law_813 (by decide) rfl ?_
  refine g_iadd 815 dL_law_814 rfl ?_
  refine r_iald30 816 (i + 1).toNat (κ 33 (i + 1).toNat) dL_law_815 kd_33 (by omega) (by omega) rfl rfl rfl (fun _ => ?_)
  refine G.eqi (show κ 33 (i + 1).toNat = a1 from e1.symm) ?_
  refine p_V 819 bcN bsN [Iv a1] [] dL_law_816 cvL_83 mwX9_hours kd_1 (by decide) rfl (Nat.le_of_ble_eq_true rfl) (by omega) (by omega) rfl (c_X9_hours r1 hInv) ?_
  intro q1 V1 κ1 hp1
  obtain ⟨hr1, hv1, he1, hc1⟩ := hp1
  subst hr1
  refine ⟨[Iv ((M_hours κ a1).1)], rfl, ?_⟩
  have eL := L_hours (ρ := κ1) (κ := κ) (n := a1)
  rw [← mrg_eqM he1] at eL
  have z33 : κ1 33 = κ 33 := hc1.2.2.2.2.2.2.2.2.2.2.2.2.2.2.2.trans (m33 (L_hours (ρ := κ) (κ := κ) (n := a1)) (by rw [mrg_self]))
  have hI1 : MI κ1 := MI_cl hInv.1 he1
  refine g_aload_n 820 dL_law_819 rfl rfl ?_
  refine g_aload_n 821 dL_law_820 rfl rfl ?_
  refine g_iload_n 822 dL_law_821 rfl rfl ?_
  refine g_iconst 823 dL_law_822 (by decide) rfl ?_
  refine g_iadd 824 dL_law_823 rfl ?_
  refine r_iald30 825 (i + 1).toNat (κ1 33 (i + 1).toNat) dL_law_824 kd_33 (by omega) (by omega) rfl rfl rfl (fun _ => ?_)
  refine G.eqi (show κ1 33 (i + 1).toNat = a1 from by rw [z33, e1]) ?_
  refine p_V 828 bcN bsN [Iv a1] [Iv ((M_hours κ a1).1)] dL_law_825 cvL_86 mwX10_hours kd_40 (by decide) rfl (Nat.le_of_ble_eq_true rfl) (by omega) (by omega) rfl (c_X10_hours r1 hI1) ?_
  intro q2 V2 κ2 hp2
  obtain ⟨hr2, hv2, hk2⟩ := hp2
  rw [eL] at hr2 hk2
  subst hr2
  subst hv2
  subst hk2
  refine ⟨[Iv ((M_hours κ a1).1), Iv ((M_hours κ a1).1)], rfl, ?_⟩
  refine g_icmp_same 1361 dL_law_828 (by decide) ?_
  exact kk _ _ (LI_step (κ := κ) (K_hours hInv.1) (Z_hours hInv.1 hz) hc1 hv1)
set_option maxHeartbeats 4000000 in
set_option maxRecDepth 20000 in
theorem lw_iron {B : Bs} {n0 bcN bsN : Nat} {V : Vs} {κ : Ks} {i : Int} (hn0 : n0 ≤ 3072) (hLI : LI κ V) (hi : 0 ≤ i ∧ i + 6 ≤ (n0 : Int)) (kk : ∀ (κ2 : Ks) (V2 : Vs), LI κ2 V2 → G (XR B n0) mL_law 20 PL Vz bcN bsN 1361 [some (Rf 33), some (Rf 1), some (Rf 40), some (Iv i)] [] V2 κ2) : G (XR B n0) mL_law 20 PL Vz (bcN + 2) (bsN + 44) 833 [some (Rf 33), some (Rf 1), some (Rf 40), some (Iv i)] [] V κ := by
  obtain ⟨hInv, hz⟩ := id hLI
  refine G.rg (fun hR => ?_)
  obtain ⟨a1, e1⟩ : ∃ a : Int, a = κ 33 (i + 1).toNat := ⟨_, rfl⟩
  have r1 : inR a1 := by rw [e1]; exact hR _ _
  refine G.wk (bc1 := bcN) (bs1 := bsN) (by omega) (by omega) ?_
  refine g_aload_n 834 dL_law_833 rfl rfl ?_
  refine g_aload_n 835 dL_law_834 rfl rfl ?_
  refine g_iload_n 836 dL_law_835 rfl rfl ?_
  refine g_iconst 837 dL_law_836 (by decide) rfl ?_
  refine g_iadd 838 dL_law_837 rfl ?_
  refine r_iald30 839 (i + 1).toNat (κ 33 (i + 1).toNat) dL_law_838 kd_33 (by omega) (by omega) rfl rfl rfl (fun _ => ?_)
  refine G.eqi (show κ 33 (i + 1).toNat = a1 from e1.symm) ?_
  refine p_V 842 bcN bsN [Iv a1] [] dL_law_839 cvL_87 mwX9_iron kd_1 (by decide) rfl (Nat.le_of_ble_eq_true rfl) (by omega) (by omega) rfl (c_X9_iron r1 hInv) ?_
  intro q1 V1 κ1 hp1
  obtain ⟨hr1, hv1, he1, hc1⟩ := hp1
  subst hr1
  refine ⟨[Iv ((M_iron κ a1).1)], rfl, ?_⟩
  have eL := L_iron (ρ := κ1) (κ := κ) (s := a1)
  rw [← mrg_eqM he1] at eL
  have z33 : κ1 33 = κ 33 := hc1.2.2.2.2.2.2.2.2.2.2.2.2.2.2.2.trans (m33 (L_iron (ρ := κ) (κ := κ) (s := a1)) (by rw [mrg_self]))
  have hI1 : MI κ1 := MI_cl hInv.1 he1
  refine g_aload_n 843 dL_law_842 rfl rfl ?_
  refine g_aload_n 844 dL_law_843 rfl rfl ?_
  refine g_iload_n 845 dL_law_844 rfl rfl ?_
  refine g_iconst 846 dL_law_845 (by decide) rfl ?_
  refine g_iadd 847 dL_law_846 rfl ?_
  refine r_iald30 848 (i + 1).toNat (κ1 33 (i + 1).toNat) dL_law_847 kd_33 (by omega) (by omega) rfl rfl rfl (fun _ => ?_)
  refine G.eqi (show κ1 33 (i + 1).toNat = a1 from by rw [z33, e1]) ?_
  refine p_V 851 bcN bsN [Iv a1] [Iv ((M_iron κ a1).1)] dL_law_848 cvL_90 mwX10_iron kd_40 (by decide) rfl (Nat.le_of_ble_eq_true rfl) (by omega) (by omega) rfl (c_X10_iron r1 hI1) ?_
  intro q2 V2 κ2 hp2
  obtain ⟨hr2, hv2, hk2⟩ := hp2
  rw [eL] at hr2 hk2
  subst hr2
  subst hv2
  subst hk2
  refine ⟨[Iv ((M_iron κ a1).1), Iv ((M_iron κ a1).1)], rfl, ?_⟩
  refine g_icmp_same 1361 dL_law_851 (by decide) ?_
  exact kk _ _ (LI_step (κ := κ) (K_iron hInv.1) (Z_iron hz) hc1 hv1)
set_option maxHeartbeats 4000000 in
set_option maxRecDepth 20000 in
theorem lw_renew {B : Bs} {n0 bcN bsN : Nat} {V : Vs} {κ : Ks} {i : Int} (hn0 : n0 ≤ 3072) (hLI : LI κ V) (hi : 0 ≤ i ∧ i + 6 ≤ (n0 : Int)) (kk : ∀ (κ2 : Ks) (V2 : Vs), LI κ2 V2 → G (XR B n0) mL_law 20 PL Vz bcN bsN 1361 [some (Rf 33), some (Rf 1), some (Rf 40), some (Iv i)] [] V2 κ2) : G (XR B n0) mL_law 20 PL Vz (bcN + 2) (bsN + 44) 856 [some (Rf 33), some (Rf 1), some (Rf 40), some (Iv i)] [] V κ := by
  obtain ⟨hInv, hz⟩ := id hLI
  refine G.rg (fun hR => ?_)
  obtain ⟨a1, e1⟩ : ∃ a : Int, a = κ 33 (i + 1).toNat := ⟨_, rfl⟩
  have r1 : inR a1 := by rw [e1]; exact hR _ _
  refine G.wk (bc1 := bcN) (bs1 := bsN) (by omega) (by omega) ?_
  refine g_aload_n 857 dL_law_856 rfl rfl ?_
  refine g_aload_n 858 dL_law_857 rfl rfl ?_
  refine g_iload_n 859 dL_law_858 rfl rfl ?_
  refine g_iconst 860 dL_law_859 (by decide) rfl ?_
  refine g_iadd 861 dL_law_860 rfl ?_
  refine r_iald30 862 (i + 1).toNat (κ 33 (i + 1).toNat) dL_law_861 kd_33 (by omega) (by omega) rfl rfl rfl (fun _ => ?_)
  refine G.eqi (show κ 33 (i + 1).toNat = a1 from e1.symm) ?_
  refine p_V 865 bcN bsN [Iv a1] [] dL_law_862 cvL_91 mwX9_renew kd_1 (by decide) rfl (Nat.le_of_ble_eq_true rfl) (by omega) (by omega) rfl (c_X9_renew r1 hInv) ?_
  intro q1 V1 κ1 hp1
  obtain ⟨hr1, hv1, he1, hc1⟩ := hp1
  subst hr1
  refine ⟨[Iv ((M_renew κ a1).1)], rfl, ?_⟩
  have eL := L_renew (ρ := κ1) (κ := κ) (s := a1)
  rw [← mrg_eqM he1] at eL
  have z33 : κ1 33 = κ 33 := hc1.2.2.2.2.2.2.2.2.2.2.2.2.2.2.2.trans (m33 (L_renew (ρ := κ) (κ := κ) (s := a1)) (by rw [mrg_self]))
  have hI1 : MI κ1 := MI_cl hInv.1 he1
  refine g_aload_n 866 dL_law_865 rfl rfl ?_
  refine g_aload_n 867 dL_law_866 rfl rfl ?_
  refine g_iload_n 868 dL_law_867 rfl rfl ?_
  refine g_iconst 869 dL_law_868 (by decide) rfl ?_
  refine g_iadd 870 dL_law_869 rfl ?_
  refine r_iald30 871 (i + 1).toNat (κ1 33 (i + 1).toNat) dL_law_870 kd_33 (by omega) (by omega) rfl rfl rfl (fun _ => ?_)
  refine G.eqi (show κ1 33 (i + 1).toNat = a1 from by rw [z33, e1]) ?_
  refine p_V 874 bcN bsN [Iv a1] [Iv ((M_renew κ a1).1)] dL_law_871 cvL_94 mwX10_renew kd_40 (by decide) rfl (Nat.le_of_ble_eq_true rfl) (by omega) (by omega) rfl (c_X10_renew r1 hI1) ?_
  intro q2 V2 κ2 hp2
  obtain ⟨hr2, hv2, hk2⟩ := hp2
  rw [eL] at hr2 hk2
  subst hr2
  subst hv2
  subst hk2
  refine ⟨[Iv ((M_renew κ a1).1), Iv ((M_renew κ a1).1)], rfl, ?_⟩
  refine g_icmp_same 1361 dL_law_874 (by decide) ?_
  exact kk _ _ (LI_step (κ := κ) (K_renew hInv.1) (Z_renew hz) hc1 hv1)
set_option maxHeartbeats 4000000 in
set_option maxRecDepth 20000 in
theorem lw_stand {B : Bs} {n0 bcN bsN : Nat} {V : Vs} {κ : Ks} {i : Int} (hn0 : n0 ≤ 3072) (hLI : LI κ V) (hi : 0 ≤ i ∧ i + 6 ≤ (n0 : Int)) (kk : ∀ (κ2 : Ks) (V2 : Vs), LI κ2 V2 → G (XR B n0) mL_law 20 PL Vz bcN bsN 1361 [some (Rf 33), some (Rf 1), some (Rf 40), some (Iv i)] [] V2 κ2) : G (XR B n0) mL_law 20 PL Vz (bcN + 2) (bsN + 44) 879 [some (Rf 33), some (Rf 1), some (Rf 40), some (Iv i)] [] V κ := by
  obtain ⟨hInv, hz⟩ := id hLI
  refine G.rg (fun hR => ?_)
  obtain ⟨a1, e1⟩ : ∃ a : Int, a = κ 33 (i + 1).toNat := ⟨_, rfl⟩
  have r1 : inR a1 := by rw [e1]; exact hR _ _
  obtain ⟨a2, e2⟩ : ∃ a : Int, a = κ 33 (i + 2).toNat := ⟨_, rfl⟩
  have r2 : inR a2 := by rw [e2]; exact hR _ _
  refine G.wk (bc1 := bcN) (bs1 := bsN) (by omega) (by omega) ?_
  refine g_aload_n 880 dL_law_879 rfl rfl ?_
  refine g_aload_n 881 dL_law_880 rfl rfl ?_
  refine g_iload_n 882 dL_law_881 rfl rfl ?_
  refine g_iconst 883 dL_law_882 (by decide) rfl ?_
  refine g_iadd 884 dL_law_883 rfl ?_
  refine r_iald30 885 (i + 1).toNat (κ 33 (i + 1).toNat) dL_law_884 kd_33 (by omega) (by omega) rfl rfl rfl (fun _ => ?_)
  refine G.eqi (show κ 33 (i + 1).toNat = a1 from e1.symm) ?_
  refine g_aload_n 886 dL_law_885 rfl rfl ?_
  refine g_iload_n 887 dL_law_886 rfl rfl ?_
  refine g_iconst 888 dL_law_887 (by decide) rfl ?_
  refine g_iadd 889 dL_law_888 rfl ?_
  refine r_iald30 890 (i + 2).toNat (κ 33 (i + 2).toNat) dL_law_889 kd_33 (by omega) (by omega) rfl rfl rfl (fun _ => ?_)
  refine G.eqi (show κ 33 (i + 2).toNat = a2 from e2.symm) ?_
  refine p_V 893 bcN bsN [Iv a1, Iv a2] [] dL_law_890 cvL_95 mwX9_stand kd_1 (by decide) rfl (Nat.le_of_ble_eq_true rfl) (by omega) (by omega) rfl (c_X9_stand r1 r2 hInv) ?_
  intro q1 V1 κ1 hp1
  obtain ⟨hr1, hv1, he1, hc1⟩ := hp1
  subst hr1
  refine ⟨[Iv ((M_stand κ a1 a2).1)], rfl, ?_⟩
  have eL := L_stand (ρ := κ1) (κ := κ) (c := a1) (s := a2)
  rw [← mrg_eqM he1] at eL
  have z33 : κ1 33 = κ 33 := hc1.2.2.2.2.2.2.2.2.2.2.2.2.2.2.2.trans (m33 (L_stand (ρ := κ) (κ := κ) (c := a1) (s := a2)) (by rw [mrg_self]))
  have hI1 : MI κ1 := MI_cl hInv.1 he1
  refine g_aload_n 894 dL_law_893 rfl rfl ?_
  refine g_aload_n 895 dL_law_894 rfl rfl ?_
  refine g_iload_n 896 dL_law_895 rfl rfl ?_
  refine g_iconst 897 dL_law_896 (by decide) rfl ?_
  refine g_iadd 898 dL_law_897 rfl ?_
  refine r_iald30 899 (i + 1).toNat (κ1 33 (i + 1).toNat) dL_law_898 kd_33 (by omega) (by omega) rfl rfl rfl (fun _ => ?_)
  refine G.eqi (show κ1 33 (i + 1).toNat = a1 from by rw [z33, e1]) ?_
  refine g_aload_n 900 dL_law_899 rfl rfl ?_
  refine g_iload_n 901 dL_law_900 rfl rfl ?_
  refine g_iconst 902 dL_law_901 (by decide) rfl ?_
  refine g_iadd 903 dL_law_902 rfl ?_
  refine r_iald30 904 (i + 2).toNat (κ1 33 (i + 2).toNat) dL_law_903 kd_33 (by omega) (by omega) rfl rfl rfl (fun _ => ?_)
  refine G.eqi (show κ1 33 (i + 2).toNat = a2 from by rw [z33, e2]) ?_
  refine p_V 907 bcN bsN [Iv a1, Iv a2] [Iv ((M_stand κ a1 a2).1)] dL_law_904 cvL_98 mwX10_stand kd_40 (by decide) rfl (Nat.le_of_ble_eq_true rfl) (by omega) (by omega) rfl (c_X10_stand r1 r2 hI1) ?_
  intro q2 V2 κ2 hp2
  obtain ⟨hr2, hv2, hk2⟩ := hp2
  rw [eL] at hr2 hk2
  subst hr2
  subst hv2
  subst hk2
  refine ⟨[Iv ((M_stand κ a1 a2).1), Iv ((M_stand κ a1 a2).1)], rfl, ?_⟩
  refine g_icmp_same 1361 dL_law_907 (by decide) ?_
  exact kk _ _ (LI_step (κ := κ) (K_stand hInv.1) (Z_stand hz) hc1 hv1)
set_option maxHeartbeats 4000000 in
set_option maxRecDepth 20000 in
theorem lw_way {B : Bs} {n0 bcN bsN : Nat} {V : Vs} {κ : Ks} {i : Int} (hn0 : n0 ≤ 3072) (hLI : LI κ V) (hi : 0 ≤ i ∧ i + 6 ≤ (n0 : Int)) (kk : ∀ (κ2 : Ks) (V2 : Vs), LI κ2 V2 → G (XR B n0) mL_law 20 PL Vz bcN bsN 1361 [some (Rf 33), some (Rf 1), some (Rf 40), some (Iv i)] [] V2 κ2) : G (XR B n0) mL_law 20 PL Vz (bcN + 2) (bsN + 44) 912 [some (Rf 33), some (Rf 1), some (Rf 40), some (Iv i)] [] V κ := by
  obtain ⟨hInv, hz⟩ := id hLI
  refine G.rg (fun hR => ?_)
  obtain ⟨a1, e1⟩ : ∃ a : Int, a = κ 33 (i + 1).toNat := ⟨_, rfl⟩
  have r1 : inR a1 := by rw [e1]; exact hR _ _
  obtain ⟨a2, e2⟩ : ∃ a : Int, a = κ 33 (i + 2).toNat := ⟨_, rfl⟩
  have r2 : inR a2 := by rw [e2]; exact hR _ _
  refine G.wk (bc1 := bcN) (bs1 := bsN) (by omega) (by omega) ?_
  refine g_aload_n 913 dL_law_912 rfl rfl ?_
  refine g_aload_n 914 dL_law_913 rfl rfl ?_
  refine g_iload_n 915 dL_law_914 rfl rfl ?_
  refine g_iconst 916 dL_law_915 (by decide) rfl ?_
  refine g_iadd 917 dL_law_916 rfl ?_
  refine r_iald30 918 (i + 1).toNat (κ 33 (i + 1).toNat) dL_law_917 kd_33 (by omega) (by omega) rfl rfl rfl (fun _ => ?_)
  refine G.eqi (show κ 33 (i + 1).toNat = a1 from e1.symm) ?_
  refine g_aload_n 919 dL_law_918 rfl rfl ?_
  refine g_iload_n 920 dL_law_919 rfl rfl ?_
  refine g_iconst 921 dL_law_920 (by decide) rfl ?_
  refine g_iadd 922 dL_law_921 rfl ?_
  refine r_iald30 923 (i + 2).toNat (κ 33 (i + 2).toNat) dL_law_922 kd_33 (by omega) (by omega) rfl rfl rfl (fun _ => ?_)
  refine G.eqi (show κ 33 (i + 2).toNat = a2 from e2.symm) ?_
  refine p_V 926 bcN bsN [Iv a1, Iv a2] [] dL_law_923 cvL_99 mwX9_way kd_1 (by decide) rfl (Nat.le_of_ble_eq_true rfl) (by omega) (by omega) rfl (c_X9_way r1 r2 hInv) ?_
  intro q1 V1 κ1 hp1
  obtain ⟨hr1, hv1, he1, hc1⟩ := hp1
  subst hr1
  refine ⟨[Iv ((M_way κ a1 a2).1)], rfl, ?_⟩
  have eL := L_way (ρ := κ1) (κ := κ) (a := a1) (b := a2)
  rw [← mrg_eqM he1] at eL
  have z33 : κ1 33 = κ 33 := hc1.2.2.2.2.2.2.2.2.2.2.2.2.2.2.2.trans (m33 (L_way (ρ := κ) (κ := κ) (a := a1) (b := a2)) (by rw [mrg_self]))
  have hI1 : MI κ1 := MI_cl hInv.1 he1
  refine g_aload_n 927 dL_law_926 rfl rfl ?_
  refine g_aload_n 928 dL_law_927 rfl rfl ?_
  refine g_iload_n 929 dL_law_928 rfl rfl ?_
  refine g_iconst 930 dL_law_929 (by decide) rfl ?_
  refine g_iadd 931 dL_law_930 rfl ?_
  refine r_iald30 932 (i + 1).toNat (κ1 33 (i + 1).toNat) dL_law_931 kd_33 (by omega) (by omega) rfl rfl rfl (fun _ => ?_)
  refine G.eqi (show κ1 33 (i + 1).toNat = a1 from by rw [z33, e1]) ?_
  refine g_aload_n 933 dL_law_932 rfl rfl ?_
  refine g_iload_n 934 dL_law_933 rfl rfl ?_
  refine g_iconst 935 dL_law_934 (by decide) rfl ?_
  refine g_iadd 936 dL_law_935 rfl ?_
  refine r_iald30 937 (i + 2).toNat (κ1 33 (i + 2).toNat) dL_law_936 kd_33 (by omega) (by omega) rfl rfl rfl (fun _ => ?_)
  refine G.eqi (show κ1 33 (i + 2).toNat = a2 from by rw [z33, e2]) ?_
  refine p_V 940 bcN bsN [Iv a1, Iv a2] [Iv ((M_way κ a1 a2).1)] dL_law_937 cvL_102 mwX10_way kd_40 (by decide) rfl (Nat.le_of_ble_eq_true rfl) (by omega) (by omega) rfl (c_X10_way r1 r2 hI1) ?_
  intro q2 V2 κ2 hp2
  obtain ⟨hr2, hv2, hk2⟩ := hp2
  rw [eL] at hr2 hk2
  subst hr2
  subst hv2
  subst hk2
  refine ⟨[Iv ((M_way κ a1 a2).1), Iv ((M_way κ a1 a2).1)], rfl, ?_⟩
  refine g_icmp_same 1361 dL_law_940 (by decide) ?_
  exact kk _ _ (LI_step (κ := κ) (K_way hInv.1) (Z_way hz) hc1 hv1)
set_option maxHeartbeats 4000000 in
set_option maxRecDepth 20000 in
theorem lw_fire {B : Bs} {n0 bcN bsN : Nat} {V : Vs} {κ : Ks} {i : Int} (hn0 : n0 ≤ 3072) (hLI : LI κ V) (hi : 0 ≤ i ∧ i + 6 ≤ (n0 : Int)) (kk : ∀ (κ2 : Ks) (V2 : Vs), LI κ2 V2 → G (XR B n0) mL_law 20 PL Vz bcN bsN 1361 [some (Rf 33), some (Rf 1), some (Rf 40), some (Iv i)] [] V2 κ2) : G (XR B n0) mL_law 20 PL Vz (bcN + 2) (bsN + 44) 945 [some (Rf 33), some (Rf 1), some (Rf 40), some (Iv i)] [] V κ := by
  obtain ⟨hInv, hz⟩ := id hLI
  refine G.rg (fun hR => ?_)
  obtain ⟨a1, e1⟩ : ∃ a : Int, a = κ 33 (i + 1).toNat := ⟨_, rfl⟩
  have r1 : inR a1 := by rw [e1]; exact hR _ _
  obtain ⟨a2, e2⟩ : ∃ a : Int, a = κ 33 (i + 2).toNat := ⟨_, rfl⟩
  have r2 : inR a2 := by rw [e2]; exact hR _ _
  refine G.wk (bc1 := bcN) (bs1 := bsN) (by omega) (by omega) ?_
  refine g_aload_n 946 dL_law_945 rfl rfl ?_
  refine g_aload_n 947 dL_law_946 rfl rfl ?_
  refine g_iload_n 948 dL_law_947 rfl rfl ?_
  refine g_iconst 949 dL_law_948 (by decide) rfl ?_
  refine g_iadd 950 dL_law_949 rfl ?_
  refine r_iald30 951 (i + 1).toNat (κ 33 (i + 1).toNat) dL_law_950 kd_33 (by omega) (by omega) rfl rfl rfl (fun _ => ?_)
  refine G.eqi (show κ 33 (i + 1).toNat = a1 from e1.symm) ?_
  refine g_aload_n 952 dL_law_951 rfl rfl ?_
  refine g_iload_n 953 dL_law_952 rfl rfl ?_
  refine g_iconst 954 dL_law_953 (by decide) rfl ?_
  refine g_iadd 955 dL_law_954 rfl ?_
  refine r_iald30 956 (i + 2).toNat (κ 33 (i + 2).toNat) dL_law_955 kd_33 (by omega) (by omega) rfl rfl rfl (fun _ => ?_)
  refine G.eqi (show κ 33 (i + 2).toNat = a2 from e2.symm) ?_
  refine p_V 959 bcN bsN [Iv a1, Iv a2] [] dL_law_956 cvL_103 mwX9_fire kd_1 (by decide) rfl (Nat.le_of_ble_eq_true rfl) (by omega) (by omega) rfl (c_X9_fire r1 r2 hInv) ?_
  intro q1 V1 κ1 hp1
  obtain ⟨hr1, hv1, he1, hc1⟩ := hp1
  subst hr1
  refine ⟨[Iv ((M_fire κ a1 a2).1)], rfl, ?_⟩
  have eL := L_fire (ρ := κ1) (κ := κ) (s := a1) (w := a2)
  rw [← mrg_eqM he1] at eL
  have z33 : κ1 33 = κ 33 := hc1.2.2.2.2.2.2.2.2.2.2.2.2.2.2.2.trans (m33 (L_fire (ρ := κ) (κ := κ) (s := a1) (w := a2)) (by rw [mrg_self]))
  have hI1 : MI κ1 := MI_cl hInv.1 he1
  refine g_aload_n 960 dL_law_959 rfl rfl ?_
  refine g_aload_n 961 dL_law_960 rfl rfl ?_
  refine g_iload_n 962 dL_law_961 rfl rfl ?_
  refine g_iconst 963 dL_law_962 (by decide) rfl ?_
  refine g_iadd 964 dL_law_963 rfl ?_
  refine r_iald30 965 (i + 1).toNat (κ1 33 (i + 1).toNat) dL_law_964 kd_33 (by omega) (by omega) rfl rfl rfl (fun _ => ?_)
  refine G.eqi (show κ1 33 (i + 1).toNat = a1 from by rw [z33, e1]) ?_
  refine g_aload_n 966 dL_law_965 rfl rfl ?_
  refine g_iload_n 967 dL_law_966 rfl rfl ?_
  refine g_iconst 968 dL_law_967 (by decide) rfl ?_
  refine g_iadd 969 dL_law_968 rfl ?_
  refine r_iald30 970 (i + 2).toNat (κ1 33 (i + 2).toNat) dL_law_969 kd_33 (by omega) (by omega) rfl rfl rfl (fun _ => ?_)
  refine G.eqi (show κ1 33 (i + 2).toNat = a2 from by rw [z33, e2]) ?_
  refine p_V 973 bcN bsN [Iv a1, Iv a2] [Iv ((M_fire κ a1 a2).1)] dL_law_970 cvL_106 mwX10_fire kd_40 (by decide) rfl (Nat.le_of_ble_eq_true rfl) (by omega) (by omega) rfl (c_X10_fire r1 r2 hI1) ?_
  intro q2 V2 κ2 hp2
  obtain ⟨hr2, hv2, hk2⟩ := hp2
  rw [eL] at hr2 hk2
  subst hr2
  subst hv2
  subst hk2
  refine ⟨[Iv ((M_fire κ a1 a2).1), Iv ((M_fire κ a1 a2).1)], rfl, ?_⟩
  refine g_icmp_same 1361 dL_law_973 (by decide) ?_
  exact kk _ _ (LI_step (κ := κ) (K_fire hInv.1) (Z_fire hz) hc1 hv1)
set_option maxHeartbeats 4000000 in
set_option maxRecDepth 20000 in
theorem lw_reading {B : Bs} {n0 bcN bsN : Nat} {V : Vs} {κ : Ks} {i : Int} (hn0 : n0 ≤ 3072) (hLI : LI κ V) (hi : 0 ≤ i ∧ i + 6 ≤ (n0 : Int)) (kk : ∀ (κ2 : Ks) (V2 : Vs), LI κ2 V2 → G (XR B n0) mL_law 20 PL Vz bcN bsN 1361 [some (Rf 33), some (Rf 1), some (Rf 40), some (Iv i)] [] V2 κ2) : G (XR B n0) mL_law 20 PL Vz (bcN + 2) (bsN + 44) 978 [some (Rf 33), some (Rf 1), some (Rf 40), some (Iv i)] [] V κ := by
  obtain ⟨hInv, hz⟩ := id hLI
  refine G.rg (fun hR => ?_)
  obtain ⟨a1, e1⟩ : ∃ a : Int, a = κ 33 (i + 1).toNat := ⟨_, rfl⟩
  have r1 : inR a1 := by rw [e1]; exact hR _ _
  obtain ⟨a2, e2⟩ : ∃ a : Int, a = κ 33 (i + 2).toNat := ⟨_, rfl⟩
  have r2 : inR a2 := by rw [e2]; exact hR _ _
  obtain ⟨a3, e3⟩ : ∃ a : Int, a = κ 33 (i + 3).toNat := ⟨_, rfl⟩
  have r3 : inR a3 := by rw [e3]; exact hR _ _
  obtain ⟨a4, e4⟩ : ∃ a : Int, a = κ 33 (i + 4).toNat := ⟨_, rfl⟩
  have r4 : inR a4 := by rw [e4]; exact hR _ _
  refine G.wk (bc1 := bcN) (bs1 := bsN) (by omega) (by omega) ?_
  refine g_aload_n 979 dL_law_978 rfl rfl ?_
  refine g_aload_n 980 dL_law_979 rfl rfl ?_
  refine g_iload_n 981 dL_law_980 rfl rfl ?_
  refine g_iconst 982 dL_law_981 (by decide) rfl ?_
  refine g_iadd 983 dL_law_982 rfl ?_
  refine r_iald30 984 (i + 1).toNat (κ 33 (i + 1).toNat) dL_law_983 kd_33 (by omega) (by omega) rfl rfl rfl (fun _ => ?_)
  refine G.eqi (show κ 33 (i + 1).toNat = a1 from e1.symm) ?_
  refine g_aload_n 985 dL_law_984 rfl rfl ?_
  refine g_iload_n 986 dL_law_985 rfl rfl ?_
  refine g_iconst 987 dL_law_986 (by decide) rfl ?_
  refine g_iadd 988 dL_law_987 rfl ?_
  refine r_iald30 989 (i + 2).toNat (κ 33 (i + 2).toNat) dL_law_988 kd_33 (by omega) (by omega) rfl rfl rfl (fun _ => ?_)
  refine G.eqi (show κ 33 (i + 2).toNat = a2 from e2.symm) ?_
  refine g_aload_n 990 dL_law_989 rfl rfl ?_
  refine g_iload_n 991 dL_law_990 rfl rfl ?_
  refine g_iconst 992 dL_law_991 (by decide) rfl ?_
  refine g_iadd 993 dL_law_992 rfl ?_
  refine r_iald30 994 (i + 3).toNat (κ 33 (i + 3).toNat) dL_law_993 kd_33 (by omega) (by omega) rfl rfl rfl (fun _ => ?_)
  refine G.eqi (show κ 33 (i + 3).toNat = a3 from e3.symm) ?_
  refine g_aload_n 995 dL_law_994 rfl rfl ?_
  refine g_iload_n 996 dL_law_995 rfl rfl ?_
  refine g_iconst 997 dL_law_996 (by decide) rfl ?_
  refine g_iadd 998 dL_law_997 rfl ?_
  refine r_iald30 999 (i + 4).toNat (κ 33 (i + 4).toNat) dL_law_998 kd_33 (by omega) (by omega) rfl rfl rfl (fun _ => ?_)
  refine G.eqi (show κ 33 (i + 4).toNat = a4 from e4.symm) ?_
  refine p_V 1002 bcN bsN [Iv a1, Iv a2, Iv a3, Iv a4] [] dL_law_999 cvL_107 mwX9_reading kd_1 (by decide) rfl (Nat.le_of_ble_eq_true rfl) (by omega) (by omega) rfl (c_X9_reading r1 r2 r3 r4 hInv) ?_
  intro q1 V1 κ1 hp1
  obtain ⟨hr1, hv1, he1, hc1⟩ := hp1
  subst hr1
  refine ⟨[Iv ((M_reading κ a1 a2 a3 a4).1)], rfl, ?_⟩
  have eL := L_reading (ρ := κ1) (κ := κ) (s := a1) (i := a2) (t := a3) (d := a4)
  rw [← mrg_eqM he1] at eL
  have z33 : κ1 33 = κ 33 := hc1.2.2.2.2.2.2.2.2.2.2.2.2.2.2.2.trans (m33 (L_reading (ρ := κ) (κ := κ) (s := a1) (i := a2) (t := a3) (d := a4)) (by rw [mrg_self]))
  have hI1 : MI κ1 := MI_cl hInv.1 he1
  refine g_aload_n 1003 dL_law_1002 rfl rfl ?_
  refine g_aload_n 1004 dL_law_1003 rfl rfl ?_
  refine g_iload_n 1005 dL_law_1004 rfl rfl ?_
  refine g_iconst 1006 dL_law_1005 (by decide) rfl ?_
  refine g_iadd 1007 dL_law_1006 rfl ?_
  refine r_iald30 1008 (i + 1).toNat (κ1 33 (i + 1).toNat) dL_law_1007 kd_33 (by omega) (by omega) rfl rfl rfl (fun _ => ?_)
  refine G.eqi (show κ1 33 (i + 1).toNat = a1 from by rw [z33, e1]) ?_
  refine g_aload_n 1009 dL_law_1008 rfl rfl ?_
  refine g_iload_n 1010 dL_law_1009 rfl rfl ?_
  refine g_iconst 1011 dL_law_1010 (by decide) rfl ?_
  refine g_iadd 1012 dL_law_1011 rfl ?_
  refine r_iald30 1013 (i + 2).toNat (κ1 33 (i + 2).toNat) dL_law_1012 kd_33 (by omega) (by omega) rfl rfl rfl (fun _ => ?_)
  refine G.eqi (show κ1 33 (i + 2).toNat = a2 from by rw [z33, e2]) ?_
  refine g_aload_n 1014 dL_law_1013 rfl rfl ?_
  refine g_iload_n 1015 dL_law_1014 rfl rfl ?_
  refine g_iconst 1016 dL_law_1015 (by decide) rfl ?_
  refine g_iadd 1017 dL_law_1016 rfl ?_
  refine r_iald30 1018 (i + 3).toNat (κ1 33 (i + 3).toNat) dL_law_1017 kd_33 (by omega) (by omega) rfl rfl rfl (fun _ => ?_)
  refine G.eqi (show κ1 33 (i + 3).toNat = a3 from by rw [z33, e3]) ?_
  refine g_aload_n 1019 dL_law_1018 rfl rfl ?_
  refine g_iload_n 1020 dL_law_1019 rfl rfl ?_
  refine g_iconst 1021 dL_law_1020 (by decide) rfl ?_
  refine g_iadd 1022 dL_law_1021 rfl ?_
  refine r_iald30 1023 (i + 4).toNat (κ1 33 (i + 4).toNat) dL_law_1022 kd_33 (by omega) (by omega) rfl rfl rfl (fun _ => ?_)
  refine G.eqi (show κ1 33 (i + 4).toNat = a4 from by rw [z33, e4]) ?_
  refine p_V 1026 bcN bsN [Iv a1, Iv a2, Iv a3, Iv a4] [Iv ((M_reading κ a1 a2 a3 a4).1)] dL_law_1023 cvL_111 mwX10_reading kd_40 (by decide) rfl (Nat.le_of_ble_eq_true rfl) (by omega) (by omega) rfl (c_X10_reading r1 r2 r3 r4 hI1) ?_
  intro q2 V2 κ2 hp2
  obtain ⟨hr2, hv2, hk2⟩ := hp2
  rw [eL] at hr2 hk2
  subst hr2
  subst hv2
  subst hk2
  refine ⟨[Iv ((M_reading κ a1 a2 a3 a4).1), Iv ((M_reading κ a1 a2 a3 a4).1)], rfl, ?_⟩
  refine g_icmp_same 1361 dL_law_1026 (by decide) ?_
  exact kk _ _ (LI_step (κ := κ) (K_reading hInv.1) (Z_reading hz) hc1 hv1)
set_option maxHeartbeats 4000000 in
set_option maxRecDepth 20000 in
theorem lw_span {B : Bs} {n0 bcN bsN : Nat} {V : Vs} {κ : Ks} {i : Int} (hn0 : n0 ≤ 3072) (hLI : LI κ V) (hi : 0 ≤ i ∧ i + 6 ≤ (n0 : Int)) (kk : ∀ (κ2 : Ks) (V2 : Vs), LI κ2 V2 → G (XR B n0) mL_law 20 PL Vz bcN bsN 1361 [some (Rf 33), some (Rf 1), some (Rf 40), some (Iv i)] [] V2 κ2) : G (XR B n0) mL_law 20 PL Vz (bcN + 2) (bsN + 44) 1031 [some (Rf 33), some (Rf 1), some (Rf 40), some (Iv i)] [] V κ := by
  obtain ⟨hInv, hz⟩ := id hLI
  refine G.rg (fun hR => ?_)
  obtain ⟨a1, e1⟩ : ∃ a : Int, a = κ 33 (i + 1).toNat := ⟨_, rfl⟩
  have r1 : inR a1 := by rw [e1]; exact hR _ _
  obtain ⟨a2, e2⟩ : ∃ a : Int, a = κ 33 (i + 2).toNat := ⟨_, rfl⟩
  have r2 : inR a2 := by rw [e2]; exact hR _ _
  refine G.wk (bc1 := bcN) (bs1 := bsN) (by omega) (by omega) ?_
  refine g_aload_n 1032 dL_law_1031 rfl rfl ?_
  refine g_aload_n 1033 dL_law_1032 rfl rfl ?_
  refine g_iload_n 1034 dL_law_1033 rfl rfl ?_
  refine g_iconst 1035 dL_law_1034 (by decide) rfl ?_
  refine g_iadd 1036 dL_law_1035 rfl ?_
  refine r_iald30 1037 (i + 1).toNat (κ 33 (i + 1).toNat) dL_law_1036 kd_33 (by omega) (by omega) rfl rfl rfl (fun _ => ?_)
  refine G.eqi (show κ 33 (i + 1).toNat = a1 from e1.symm) ?_
  refine g_aload_n 1038 dL_law_1037 rfl rfl ?_
  refine g_iload_n 1039 dL_law_1038 rfl rfl ?_
  refine g_iconst 1040 dL_law_1039 (by decide) rfl ?_
  refine g_iadd 1041 dL_law_1040 rfl ?_
  refine r_iald30 1042 (i + 2).toNat (κ 33 (i + 2).toNat) dL_law_1041 kd_33 (by omega) (by omega) rfl rfl rfl (fun _ => ?_)
  refine G.eqi (show κ 33 (i + 2).toNat = a2 from e2.symm) ?_
  refine p_V 1045 bcN bsN [Iv a1, Iv a2] [] dL_law_1042 cvL_112 mwX9_span kd_1 (by decide) rfl (Nat.le_of_ble_eq_true rfl) (by omega) (by omega) rfl (c_X9_span r1 r2 hInv) ?_
  intro q1 V1 κ1 hp1
  obtain ⟨hr1, hv1, he1, hc1⟩ := hp1
  subst hr1
  refine ⟨[Iv ((M_span κ a1 a2).1)], rfl, ?_⟩
  have eL := L_span (ρ := κ1) (κ := κ) (s := a1) (w := a2)
  rw [← mrg_eqM he1] at eL
  have z33 : κ1 33 = κ 33 := hc1.2.2.2.2.2.2.2.2.2.2.2.2.2.2.2.trans (m33 (L_span (ρ := κ) (κ := κ) (s := a1) (w := a2)) (by rw [mrg_self]))
  have hI1 : MI κ1 := MI_cl hInv.1 he1
  refine g_aload_n 1046 dL_law_1045 rfl rfl ?_
  refine g_aload_n 1047 dL_law_1046 rfl rfl ?_
  refine g_iload_n 1048 dL_law_1047 rfl rfl ?_
  refine g_iconst 1049 dL_law_1048 (by decide) rfl ?_
  refine g_iadd 1050 dL_law_1049 rfl ?_
  refine r_iald30 1051 (i + 1).toNat (κ1 33 (i + 1).toNat) dL_law_1050 kd_33 (by omega) (by omega) rfl rfl rfl (fun _ => ?_)
  refine G.eqi (show κ1 33 (i + 1).toNat = a1 from by rw [z33, e1]) ?_
  refine g_aload_n 1052 dL_law_1051 rfl rfl ?_
  refine g_iload_n 1053 dL_law_1052 rfl rfl ?_
  refine g_iconst 1054 dL_law_1053 (by decide) rfl ?_
  refine g_iadd 1055 dL_law_1054 rfl ?_
  refine r_iald30 1056 (i + 2).toNat (κ1 33 (i + 2).toNat) dL_law_1055 kd_33 (by omega) (by omega) rfl rfl rfl (fun _ => ?_)
  refine G.eqi (show κ1 33 (i + 2).toNat = a2 from by rw [z33, e2]) ?_
  refine p_V 1059 bcN bsN [Iv a1, Iv a2] [Iv ((M_span κ a1 a2).1)] dL_law_1056 cvL_115 mwX10_span kd_40 (by decide) rfl (Nat.le_of_ble_eq_true rfl) (by omega) (by omega) rfl (c_X10_span r1 r2 hI1) ?_
  intro q2 V2 κ2 hp2
  obtain ⟨hr2, hv2, hk2⟩ := hp2
  rw [eL] at hr2 hk2
  subst hr2
  subst hv2
  subst hk2
  refine ⟨[Iv ((M_span κ a1 a2).1), Iv ((M_span κ a1 a2).1)], rfl, ?_⟩
  refine g_icmp_same 1361 dL_law_1059 (by decide) ?_
  exact kk _ _ (LI_step (κ := κ) (K_span hInv.1) (Z_span hz) hc1 hv1)
set_option maxHeartbeats 4000000 in
set_option maxRecDepth 20000 in
theorem lw_best {B : Bs} {n0 bcN bsN : Nat} {V : Vs} {κ : Ks} {i : Int} (hn0 : n0 ≤ 3072) (hLI : LI κ V) (hi : 0 ≤ i ∧ i + 6 ≤ (n0 : Int)) (kk : ∀ (κ2 : Ks) (V2 : Vs), LI κ2 V2 → G (XR B n0) mL_law 20 PL Vz bcN bsN 1361 [some (Rf 33), some (Rf 1), some (Rf 40), some (Iv i)] [] V2 κ2) : G (XR B n0) mL_law 20 PL Vz (bcN + 2) (bsN + 44) 1064 [some (Rf 33), some (Rf 1), some (Rf 40), some (Iv i)] [] V κ := by
  obtain ⟨hInv, hz⟩ := id hLI
  refine G.rg (fun hR => ?_)
  obtain ⟨a1, e1⟩ : ∃ a : Int, a = κ 33 (i + 1).toNat := ⟨_, rfl⟩
  have r1 : inR a1 := by rw [e1]; exact hR _ _
  refine G.wk (bc1 := bcN) (bs1 := bsN) (by omega) (by omega) ?_
  refine g_aload_n 1065 dL_law_1064 rfl rfl ?_
  refine g_aload_n 1066 dL_law_1065 rfl rfl ?_
  refine g_iload_n 1067 dL_law_1066 rfl rfl ?_
  refine g_iconst 1068 dL_law_1067 (by decide) rfl ?_
  refine g_iadd 1069 dL_law_1068 rfl ?_
  refine r_iald30 1070 (i + 1).toNat (κ 33 (i + 1).toNat) dL_law_1069 kd_33 (by omega) (by omega) rfl rfl rfl (fun _ => ?_)
  refine G.eqi (show κ 33 (i + 1).toNat = a1 from e1.symm) ?_
  refine p_V 1073 bcN bsN [Iv a1] [] dL_law_1070 cvL_116 mwX9_best kd_1 (by decide) rfl (Nat.le_of_ble_eq_true rfl) (by omega) (by omega) rfl (c_X9_best r1 hInv) ?_
  intro q1 V1 κ1 hp1
  obtain ⟨hr1, hv1, he1, hc1⟩ := hp1
  subst hr1
  refine ⟨[Iv ((M_best κ a1).1)], rfl, ?_⟩
  have eL := L_best (ρ := κ1) (κ := κ) (sum := a1)
  rw [← mrg_eqM he1] at eL
  have z33 : κ1 33 = κ 33 := hc1.2.2.2.2.2.2.2.2.2.2.2.2.2.2.2.trans (m33 (L_best (ρ := κ) (κ := κ) (sum := a1)) (by rw [mrg_self]))
  have hI1 : MI κ1 := MI_cl hInv.1 he1
  refine g_aload_n 1074 dL_law_1073 rfl rfl ?_
  refine g_aload_n 1075 dL_law_1074 rfl rfl ?_
  refine g_iload_n 1076 dL_law_1075 rfl rfl ?_
  refine g_iconst 1077 dL_law_1076 (by decide) rfl ?_
  refine g_iadd 1078 dL_law_1077 rfl ?_
  refine r_iald30 1079 (i + 1).toNat (κ1 33 (i + 1).toNat) dL_law_1078 kd_33 (by omega) (by omega) rfl rfl rfl (fun _ => ?_)
  refine G.eqi (show κ1 33 (i + 1).toNat = a1 from by rw [z33, e1]) ?_
  refine p_V 1082 bcN bsN [Iv a1] [Iv ((M_best κ a1).1)] dL_law_1079 cvL_119 mwX10_best kd_40 (by decide) rfl (Nat.le_of_ble_eq_true rfl) (by omega) (by omega) rfl (c_X10_best r1 hI1) ?_
  intro q2 V2 κ2 hp2
  obtain ⟨hr2, hv2, hk2⟩ := hp2
  rw [eL] at hr2 hk2
  subst hr2
  subst hv2
  refine ⟨[Iv ((M_best κ a1).1), Iv ((M_best κ a1).1)], rfl, ?_⟩
  refine g_icmp_same 1361 dL_law_1082 (by decide) ?_
  exact kk _ _ (LI_scr (LI_step (κ := κ) (K_best hInv.1) (Z_best hz) hc1 hv1) hk2)
set_option maxHeartbeats 4000000 in
set_option maxRecDepth 20000 in
theorem lw_bestWorth {B : Bs} {n0 bcN bsN : Nat} {V : Vs} {κ : Ks} {i : Int} (hn0 : n0 ≤ 3072) (hLI : LI κ V) (hi : 0 ≤ i ∧ i + 6 ≤ (n0 : Int)) (kk : ∀ (κ2 : Ks) (V2 : Vs), LI κ2 V2 → G (XR B n0) mL_law 20 PL Vz bcN bsN 1361 [some (Rf 33), some (Rf 1), some (Rf 40), some (Iv i)] [] V2 κ2) : G (XR B n0) mL_law 20 PL Vz (bcN + 2) (bsN + 44) 1087 [some (Rf 33), some (Rf 1), some (Rf 40), some (Iv i)] [] V κ := by
  obtain ⟨hInv, hz⟩ := id hLI
  refine G.rg (fun hR => ?_)
  obtain ⟨a1, e1⟩ : ∃ a : Int, a = κ 33 (i + 1).toNat := ⟨_, rfl⟩
  have r1 : inR a1 := by rw [e1]; exact hR _ _
  refine G.wk (bc1 := bcN) (bs1 := bsN) (by omega) (by omega) ?_
  refine g_aload_n 1088 dL_law_1087 rfl rfl ?_
  refine g_aload_n 1089 dL_law_1088 rfl rfl ?_
  refine g_iload_n 1090 dL_law_1089 rfl rfl ?_
  refine g_iconst 1091 dL_law_1090 (by decide) rfl ?_
  refine g_iadd 1092 dL_law_1091 rfl ?_
  refine r_iald30 1093 (i + 1).toNat (κ 33 (i + 1).toNat) dL_law_1092 kd_33 (by omega) (by omega) rfl rfl rfl (fun _ => ?_)
  refine G.eqi (show κ 33 (i + 1).toNat = a1 from e1.symm) ?_
  refine p_V 1096 bcN bsN [Iv a1] [] dL_law_1093 cvL_120 mwX9_bestWorth kd_1 (by decide) rfl (Nat.le_of_ble_eq_true rfl) (by omega) (by omega) rfl (c_X9_bestWorth r1 hInv) ?_
  intro q1 V1 κ1 hp1
  obtain ⟨hr1, hv1, he1, hc1⟩ := hp1
  subst hr1
  refine ⟨[Iv ((M_bestWorth κ a1).1)], rfl, ?_⟩
  have eL := L_bestWorth (ρ := κ1) (κ := κ) (sum := a1)
  rw [← mrg_eqM he1] at eL
  have z33 : κ1 33 = κ 33 := hc1.2.2.2.2.2.2.2.2.2.2.2.2.2.2.2.trans (m33 (L_bestWorth (ρ := κ) (κ := κ) (sum := a1)) (by rw [mrg_self]))
  have hI1 : MI κ1 := MI_cl hInv.1 he1
  refine g_aload_n 1097 dL_law_1096 rfl rfl ?_
  refine g_aload_n 1098 dL_law_1097 rfl rfl ?_
  refine g_iload_n 1099 dL_law_1098 rfl rfl ?_
  refine g_iconst 1100 dL_law_1099 (by decide) rfl ?_
  refine g_iadd 1101 dL_law_1100 rfl ?_
  refine r_iald30 1102 (i + 1).toNat (κ1 33 (i + 1).toNat) dL_law_1101 kd_33 (by omega) (by omega) rfl rfl rfl (fun _ => ?_)
  refine G.eqi (show κ1 33 (i + 1).toNat = a1 from by rw [z33, e1]) ?_
  refine p_V 1105 bcN bsN [Iv a1] [Iv ((M_bestWorth κ a1).1)] dL_law_1102 cvL_123 mwX10_bestWorth kd_40 (by decide) rfl (Nat.le_of_ble_eq_true rfl) (by omega) (by omega) rfl (c_X10_bestWorth r1 hI1) ?_
  intro q2 V2 κ2 hp2
  obtain ⟨hr2, hv2, hk2⟩ := hp2
  rw [eL] at hr2 hk2
  subst hr2
  subst hv2
  refine ⟨[Iv ((M_bestWorth κ a1).1), Iv ((M_bestWorth κ a1).1)], rfl, ?_⟩
  refine g_icmp_same 1361 dL_law_1105 (by decide) ?_
  exact kk _ _ (LI_scr (LI_step (κ := κ) (K_bestWorth hInv.1) (Z_bestWorth hz) hc1 hv1) hk2)
set_option maxHeartbeats 4000000 in
set_option maxRecDepth 20000 in
theorem lw_days {B : Bs} {n0 bcN bsN : Nat} {V : Vs} {κ : Ks} {i : Int} (hn0 : n0 ≤ 3072) (hLI : LI κ V) (hi : 0 ≤ i ∧ i + 6 ≤ (n0 : Int)) (kk : ∀ (κ2 : Ks) (V2 : Vs), LI κ2 V2 → G (XR B n0) mL_law 20 PL Vz bcN bsN 1361 [some (Rf 33), some (Rf 1), some (Rf 40), some (Iv i)] [] V2 κ2) : G (XR B n0) mL_law 20 PL Vz (bcN + 2) (bsN + 44) 1110 [some (Rf 33), some (Rf 1), some (Rf 40), some (Iv i)] [] V κ := by
  obtain ⟨hInv, hz⟩ := id hLI
  refine G.rg (fun hR => ?_)
  obtain ⟨a1, e1⟩ : ∃ a : Int, a = κ 33 (i + 1).toNat := ⟨_, rfl⟩
  have r1 : inR a1 := by rw [e1]; exact hR _ _
  obtain ⟨a2, e2⟩ : ∃ a : Int, a = κ 33 (i + 2).toNat := ⟨_, rfl⟩
  have r2 : inR a2 := by rw [e2]; exact hR _ _
  refine G.wk (bc1 := bcN) (bs1 := bsN) (by omega) (by omega) ?_
  refine g_aload_n 1111 dL_law_1110 rfl rfl ?_
  refine g_aload_n 1112 dL_law_1111 rfl rfl ?_
  refine g_iload_n 1113 dL_law_1112 rfl rfl ?_
  refine g_iconst 1114 dL_law_1113 (by decide) rfl ?_
  refine g_iadd 1115 dL_law_1114 rfl ?_
  refine r_iald30 1116 (i + 1).toNat (κ 33 (i + 1).toNat) dL_law_1115 kd_33 (by omega) (by omega) rfl rfl rfl (fun _ => ?_)
  refine G.eqi (show κ 33 (i + 1).toNat = a1 from e1.symm) ?_
  refine g_aload_n 1117 dL_law_1116 rfl rfl ?_
  refine g_iload_n 1118 dL_law_1117 rfl rfl ?_
  refine g_iconst 1119 dL_law_1118 (by decide) rfl ?_
  refine g_iadd 1120 dL_law_1119 rfl ?_
  refine r_iald30 1121 (i + 2).toNat (κ 33 (i + 2).toNat) dL_law_1120 kd_33 (by omega) (by omega) rfl rfl rfl (fun _ => ?_)
  refine G.eqi (show κ 33 (i + 2).toNat = a2 from e2.symm) ?_
  refine p_V 1124 bcN bsN [Iv a1, Iv a2] [] dL_law_1121 cvL_124 mwX9_days kd_1 (by decide) rfl (Nat.le_of_ble_eq_true rfl) (by omega) (by omega) rfl (c_X9_days r1 r2 hInv) ?_
  intro q1 V1 κ1 hp1
  obtain ⟨hr1, hv1, he1, hc1⟩ := hp1
  subst hr1
  refine ⟨[Iv ((M_days κ a1 a2).1)], rfl, ?_⟩
  have eL := L_days (ρ := κ1) (κ := κ) (set := a1) (sum := a2)
  rw [← mrg_eqM he1] at eL
  have z33 : κ1 33 = κ 33 := hc1.2.2.2.2.2.2.2.2.2.2.2.2.2.2.2.trans (m33 (L_days (ρ := κ) (κ := κ) (set := a1) (sum := a2)) (by rw [mrg_self]))
  have hI1 : MI κ1 := MI_cl hInv.1 he1
  refine g_aload_n 1125 dL_law_1124 rfl rfl ?_
  refine g_aload_n 1126 dL_law_1125 rfl rfl ?_
  refine g_iload_n 1127 dL_law_1126 rfl rfl ?_
  refine g_iconst 1128 dL_law_1127 (by decide) rfl ?_
  refine g_iadd 1129 dL_law_1128 rfl ?_
  refine r_iald30 1130 (i + 1).toNat (κ1 33 (i + 1).toNat) dL_law_1129 kd_33 (by omega) (by omega) rfl rfl rfl (fun _ => ?_)
  refine G.eqi (show κ1 33 (i + 1).toNat = a1 from by rw [z33, e1]) ?_
  refine g_aload_n 1131 dL_law_1130 rfl rfl ?_
  refine g_iload_n 1132 dL_law_1131 rfl rfl ?_
  refine g_iconst 1133 dL_law_1132 (by decide) rfl ?_
  refine g_iadd 1134 dL_law_1133 rfl ?_
  refine r_iald30 1135 (i + 2).toNat (κ1 33 (i + 2).toNat) dL_law_1134 kd_33 (by omega) (by omega) rfl rfl rfl (fun _ => ?_)
  refine G.eqi (show κ1 33 (i + 2).toNat = a2 from by rw [z33, e2]) ?_
  refine p_V 1138 bcN bsN [Iv a1, Iv a2] [Iv ((M_days κ a1 a2).1)] dL_law_1135 cvL_127 mwX10_days kd_40 (by decide) rfl (Nat.le_of_ble_eq_true rfl) (by omega) (by omega) rfl (c_X10_days r1 r2 hI1) ?_
  intro q2 V2 κ2 hp2
  obtain ⟨hr2, hv2, hk2⟩ := hp2
  rw [eL] at hr2 hk2
  subst hr2
  subst hv2
  refine ⟨[Iv ((M_days κ a1 a2).1), Iv ((M_days κ a1 a2).1)], rfl, ?_⟩
  refine g_icmp_same 1361 dL_law_1138 (by decide) ?_
  exact kk _ _ (LI_scr (LI_step (κ := κ) (K_days hInv.1) (Z_days hz) hc1 hv1) hk2)
set_option maxHeartbeats 4000000 in
set_option maxRecDepth 20000 in
theorem lw_dayOf {B : Bs} {n0 bcN bsN : Nat} {V : Vs} {κ : Ks} {i : Int} (hn0 : n0 ≤ 3072) (hLI : LI κ V) (hi : 0 ≤ i ∧ i + 6 ≤ (n0 : Int)) (kk : ∀ (κ2 : Ks) (V2 : Vs), LI κ2 V2 → G (XR B n0) mL_law 20 PL Vz bcN bsN 1361 [some (Rf 33), some (Rf 1), some (Rf 40), some (Iv i)] [] V2 κ2) : G (XR B n0) mL_law 20 PL Vz (bcN + 2) (bsN + 44) 1143 [some (Rf 33), some (Rf 1), some (Rf 40), some (Iv i)] [] V κ := by
  obtain ⟨hInv, hz⟩ := id hLI
  refine G.rg (fun hR => ?_)
  obtain ⟨a1, e1⟩ : ∃ a : Int, a = κ 33 (i + 1).toNat := ⟨_, rfl⟩
  have r1 : inR a1 := by rw [e1]; exact hR _ _
  obtain ⟨a2, e2⟩ : ∃ a : Int, a = κ 33 (i + 2).toNat := ⟨_, rfl⟩
  have r2 : inR a2 := by rw [e2]; exact hR _ _
  obtain ⟨a3, e3⟩ : ∃ a : Int, a = κ 33 (i + 3).toNat := ⟨_, rfl⟩
  have r3 : inR a3 := by rw [e3]; exact hR _ _
  refine G.wk (bc1 := bcN) (bs1 := bsN) (by omega) (by omega) ?_
  refine g_aload_n 1144 dL_law_1143 rfl rfl ?_
  refine g_aload_n 1145 dL_law_1144 rfl rfl ?_
  refine g_iload_n 1146 dL_law_1145 rfl rfl ?_
  refine g_iconst 1147 dL_law_1146 (by decide) rfl ?_
  refine g_iadd 1148 dL_law_1147 rfl ?_
  refine r_iald30 1149 (i + 1).toNat (κ 33 (i + 1).toNat) dL_law_1148 kd_33 (by omega) (by omega) rfl rfl rfl (fun _ => ?_)
  refine G.eqi (show κ 33 (i + 1).toNat = a1 from e1.symm) ?_
  refine g_aload_n 1150 dL_law_1149 rfl rfl ?_
  refine g_iload_n 1151 dL_law_1150 rfl rfl ?_
  refine g_iconst 1152 dL_law_1151 (by decide) rfl ?_
  refine g_iadd 1153 dL_law_1152 rfl ?_
  refine r_iald30 1154 (i + 2).toNat (κ 33 (i + 2).toNat) dL_law_1153 kd_33 (by omega) (by omega) rfl rfl rfl (fun _ => ?_)
  refine G.eqi (show κ 33 (i + 2).toNat = a2 from e2.symm) ?_
  refine g_aload_n 1155 dL_law_1154 rfl rfl ?_
  refine g_iload_n 1156 dL_law_1155 rfl rfl ?_
  refine g_iconst 1157 dL_law_1156 (by decide) rfl ?_
  refine g_iadd 1158 dL_law_1157 rfl ?_
  refine r_iald30 1159 (i + 3).toNat (κ 33 (i + 3).toNat) dL_law_1158 kd_33 (by omega) (by omega) rfl rfl rfl (fun _ => ?_)
  refine G.eqi (show κ 33 (i + 3).toNat = a3 from e3.symm) ?_
  refine p_V 1162 bcN bsN [Iv a1, Iv a2, Iv a3] [] dL_law_1159 cvL_128 mwX9_dayOf kd_1 (by decide) rfl (Nat.le_of_ble_eq_true rfl) (by omega) (by omega) rfl (c_X9_dayOf r1 r2 r3 hInv) ?_
  intro q1 V1 κ1 hp1
  obtain ⟨hr1, hv1, he1, hc1⟩ := hp1
  subst hr1
  refine ⟨[Iv ((M_dayOf κ a1 a2 a3).1)], rfl, ?_⟩
  have eL := L_dayOf (ρ := κ1) (κ := κ) (set := a1) (sum := a2) (s := a3)
  rw [← mrg_eqM he1] at eL
  have z33 : κ1 33 = κ 33 := hc1.2.2.2.2.2.2.2.2.2.2.2.2.2.2.2.trans (m33 (L_dayOf (ρ := κ) (κ := κ) (set := a1) (sum := a2) (s := a3)) (by rw [mrg_self]))
  have hI1 : MI κ1 := MI_cl hInv.1 he1
  refine g_aload_n 1163 dL_law_1162 rfl rfl ?_
  refine g_aload_n 1164 dL_law_1163 rfl rfl ?_
  refine g_iload_n 1165 dL_law_1164 rfl rfl ?_
  refine g_iconst 1166 dL_law_1165 (by decide) rfl ?_
  refine g_iadd 1167 dL_law_1166 rfl ?_
  refine r_iald30 1168 (i + 1).toNat (κ1 33 (i + 1).toNat) dL_law_1167 kd_33 (by omega) (by omega) rfl rfl rfl (fun _ => ?_)
  refine G.eqi (show κ1 33 (i + 1).toNat = a1 from by rw [z33, e1]) ?_
  refine g_aload_n 1169 dL_law_1168 rfl rfl ?_
  refine g_iload_n 1170 dL_law_1169 rfl rfl ?_
  refine g_iconst 1171 dL_law_1170 (by decide) rfl ?_
  refine g_iadd 1172 dL_law_1171 rfl ?_
  refine r_iald30 1173 (i + 2).toNat (κ1 33 (i + 2).toNat) dL_law_1172 kd_33 (by omega) (by omega) rfl rfl rfl (fun _ => ?_)
  refine G.eqi (show κ1 33 (i + 2).toNat = a2 from by rw [z33, e2]) ?_
  refine g_aload_n 1174 dL_law_1173 rfl rfl ?_
  refine g_iload_n 1175 dL_law_1174 rfl rfl ?_
  refine g_iconst 1176 dL_law_1175 (by decide) rfl ?_
  refine g_iadd 1177 dL_law_1176 rfl ?_
  refine r_iald30 1178 (i + 3).toNat (κ1 33 (i + 3).toNat) dL_law_1177 kd_33 (by omega) (by omega) rfl rfl rfl (fun _ => ?_)
  refine G.eqi (show κ1 33 (i + 3).toNat = a3 from by rw [z33, e3]) ?_
  refine p_V 1181 bcN bsN [Iv a1, Iv a2, Iv a3] [Iv ((M_dayOf κ a1 a2 a3).1)] dL_law_1178 cvL_131 mwX10_dayOf kd_40 (by decide) rfl (Nat.le_of_ble_eq_true rfl) (by omega) (by omega) rfl (c_X10_dayOf r1 r2 r3 hI1) ?_
  intro q2 V2 κ2 hp2
  obtain ⟨hr2, hv2, hk2⟩ := hp2
  rw [eL] at hr2 hk2
  subst hr2
  subst hv2
  refine ⟨[Iv ((M_dayOf κ a1 a2 a3).1), Iv ((M_dayOf κ a1 a2 a3).1)], rfl, ?_⟩
  refine g_icmp_same 1361 dL_law_1181 (by decide) ?_
  exact kk _ _ (LI_scr (LI_step (κ := κ) (K_dayOf hInv.1) (Z_dayOf hz) hc1 hv1) hk2)
set_option maxHeartbeats 4000000 in
set_option maxRecDepth 20000 in
theorem lw_law {B : Bs} {n0 bcN bsN : Nat} {V : Vs} {κ : Ks} {i : Int} (hn0 : n0 ≤ 3072) (hLI : LI κ V) (hi : 0 ≤ i ∧ i + 6 ≤ (n0 : Int)) (kk : ∀ (κ2 : Ks) (V2 : Vs), LI κ2 V2 → G (XR B n0) mL_law 20 PL Vz bcN bsN 1361 [some (Rf 33), some (Rf 1), some (Rf 40), some (Iv i)] [] V2 κ2) : G (XR B n0) mL_law 20 PL Vz (bcN + 2) (bsN + 44) 1186 [some (Rf 33), some (Rf 1), some (Rf 40), some (Iv i)] [] V κ := by
  obtain ⟨hInv, hz⟩ := id hLI
  refine G.rg (fun hR => ?_)
  obtain ⟨a1, e1⟩ : ∃ a : Int, a = κ 33 (i + 1).toNat := ⟨_, rfl⟩
  have r1 : inR a1 := by rw [e1]; exact hR _ _
  obtain ⟨a2, e2⟩ : ∃ a : Int, a = κ 33 (i + 2).toNat := ⟨_, rfl⟩
  have r2 : inR a2 := by rw [e2]; exact hR _ _
  obtain ⟨a3, e3⟩ : ∃ a : Int, a = κ 33 (i + 3).toNat := ⟨_, rfl⟩
  have r3 : inR a3 := by rw [e3]; exact hR _ _
  obtain ⟨a4, e4⟩ : ∃ a : Int, a = κ 33 (i + 4).toNat := ⟨_, rfl⟩
  have r4 : inR a4 := by rw [e4]; exact hR _ _
  refine G.wk (bc1 := (bcN + 2)) (bs1 := (bsN + 37)) (by omega) (by omega) ?_
  refine g_aload_n 1187 dL_law_1186 rfl rfl ?_
  refine g_aload_n 1188 dL_law_1187 rfl rfl ?_
  refine g_iload_n 1189 dL_law_1188 rfl rfl ?_
  refine g_iconst 1190 dL_law_1189 (by decide) rfl ?_
  refine g_iadd 1191 dL_law_1190 rfl ?_
  refine r_iald30 1192 (i + 1).toNat (κ 33 (i + 1).toNat) dL_law_1191 kd_33 (by omega) (by omega) rfl rfl rfl (fun _ => ?_)
  refine G.eqi (show κ 33 (i + 1).toNat = a1 from e1.symm) ?_
  refine g_aload_n 1193 dL_law_1192 rfl rfl ?_
  refine g_iload_n 1194 dL_law_1193 rfl rfl ?_
  refine g_iconst 1195 dL_law_1194 (by decide) rfl ?_
  refine g_iadd 1196 dL_law_1195 rfl ?_
  refine r_iald30 1197 (i + 2).toNat (κ 33 (i + 2).toNat) dL_law_1196 kd_33 (by omega) (by omega) rfl rfl rfl (fun _ => ?_)
  refine G.eqi (show κ 33 (i + 2).toNat = a2 from e2.symm) ?_
  refine g_aload_n 1198 dL_law_1197 rfl rfl ?_
  refine g_iload_n 1199 dL_law_1198 rfl rfl ?_
  refine g_iconst 1200 dL_law_1199 (by decide) rfl ?_
  refine g_iadd 1201 dL_law_1200 rfl ?_
  refine r_iald30 1202 (i + 3).toNat (κ 33 (i + 3).toNat) dL_law_1201 kd_33 (by omega) (by omega) rfl rfl rfl (fun _ => ?_)
  refine G.eqi (show κ 33 (i + 3).toNat = a3 from e3.symm) ?_
  refine g_aload_n 1203 dL_law_1202 rfl rfl ?_
  refine g_iload_n 1204 dL_law_1203 rfl rfl ?_
  refine g_iconst 1205 dL_law_1204 (by decide) rfl ?_
  refine g_iadd 1206 dL_law_1205 rfl ?_
  refine r_iald30 1207 (i + 4).toNat (κ 33 (i + 4).toNat) dL_law_1206 kd_33 (by omega) (by omega) rfl rfl rfl (fun _ => ?_)
  refine G.eqi (show κ 33 (i + 4).toNat = a4 from e4.symm) ?_
  refine p_V 1210 bcN bsN [Iv a1, Iv a2, Iv a3, Iv a4] [] dL_law_1207 cvL_132 mwX9_law kd_1 (by decide) rfl (Nat.le_of_ble_eq_true rfl) (by omega) (by omega) rfl (c_X9_law r1 r2 r3 r4 hInv) ?_
  intro q1 V1 κ1 hp1
  obtain ⟨hr1, hv1, he1, hc1⟩ := hp1
  subst hr1
  refine ⟨[Iv ((M_law κ a1 a2 a3 a4).1)], rfl, ?_⟩
  have eL := L_law (ρ := κ1) (κ := κ) (h := a1) (f := a2) (t := a3) (d := a4)
  rw [← mrg_eqM he1] at eL
  have z33 : κ1 33 = κ 33 := hc1.2.2.2.2.2.2.2.2.2.2.2.2.2.2.2.trans (m33 (L_law (ρ := κ) (κ := κ) (h := a1) (f := a2) (t := a3) (d := a4)) (by rw [mrg_self]))
  have hI1 : MI κ1 := MI_cl hInv.1 he1
  refine g_aload_n 1211 dL_law_1210 rfl rfl ?_
  refine g_aload_n 1212 dL_law_1211 rfl rfl ?_
  refine g_iload_n 1213 dL_law_1212 rfl rfl ?_
  refine g_iconst 1214 dL_law_1213 (by decide) rfl ?_
  refine g_iadd 1215 dL_law_1214 rfl ?_
  refine r_iald30 1216 (i + 1).toNat (κ1 33 (i + 1).toNat) dL_law_1215 kd_33 (by omega) (by omega) rfl rfl rfl (fun _ => ?_)
  refine G.eqi (show κ1 33 (i + 1).toNat = a1 from by rw [z33, e1]) ?_
  refine g_aload_n 1217 dL_law_1216 rfl rfl ?_
  refine g_iload_n 1218 dL_law_1217 rfl rfl ?_
  refine g_iconst 1219 dL_law_1218 (by decide) rfl ?_
  refine g_iadd 1220 dL_law_1219 rfl ?_
  refine r_iald30 1221 (i + 2).toNat (κ1 33 (i + 2).toNat) dL_law_1220 kd_33 (by omega) (by omega) rfl rfl rfl (fun _ => ?_)
  refine G.eqi (show κ1 33 (i + 2).toNat = a2 from by rw [z33, e2]) ?_
  refine g_aload_n 1222 dL_law_1221 rfl rfl ?_
  refine g_iload_n 1223 dL_law_1222 rfl rfl ?_
  refine g_iconst 1224 dL_law_1223 (by decide) rfl ?_
  refine g_iadd 1225 dL_law_1224 rfl ?_
  refine r_iald30 1226 (i + 3).toNat (κ1 33 (i + 3).toNat) dL_law_1225 kd_33 (by omega) (by omega) rfl rfl rfl (fun _ => ?_)
  refine G.eqi (show κ1 33 (i + 3).toNat = a3 from by rw [z33, e3]) ?_
  refine g_aload_n 1227 dL_law_1226 rfl rfl ?_
  refine g_iload_n 1228 dL_law_1227 rfl rfl ?_
  refine g_iconst 1229 dL_law_1228 (by decide) rfl ?_
  refine g_iadd 1230 dL_law_1229 rfl ?_
  refine r_iald30 1231 (i + 4).toNat (κ1 33 (i + 4).toNat) dL_law_1230 kd_33 (by omega) (by omega) rfl rfl rfl (fun _ => ?_)
  refine G.eqi (show κ1 33 (i + 4).toNat = a4 from by rw [z33, e4]) ?_
  refine p_V 1234 bcN bsN [Iv a1, Iv a2, Iv a3, Iv a4] [Iv ((M_law κ a1 a2 a3 a4).1)] dL_law_1231 cvL_135 mwX10_law kd_40 (by decide) rfl (Nat.le_of_ble_eq_true rfl) (by omega) (by omega) rfl (c_X10_law r1 r2 r3 r4 hI1) ?_
  intro q2 V2 κ2 hp2
  obtain ⟨hr2, hv2, hk2⟩ := hp2
  rw [eL] at hr2 hk2
  subst hr2
  subst hv2
  subst hk2
  refine ⟨[Iv ((M_law κ a1 a2 a3 a4).1), Iv ((M_law κ a1 a2 a3 a4).1)], rfl, ?_⟩
  refine g_icmp_same 1361 dL_law_1234 (by decide) ?_
  exact kk _ _ (LI_step (κ := κ) (K_law hInv.1) (Z_law hz) hc1 hv1)
set_option maxHeartbeats 4000000 in
set_option maxRecDepth 20000 in
theorem lw_rate {B : Bs} {n0 bcN bsN : Nat} {V : Vs} {κ : Ks} {i : Int} (hn0 : n0 ≤ 3072) (hLI : LI κ V) (hi : 0 ≤ i ∧ i + 6 ≤ (n0 : Int)) (kk : ∀ (κ2 : Ks) (V2 : Vs), LI κ2 V2 → G (XR B n0) mL_law 20 PL Vz bcN bsN 1361 [some (Rf 33), some (Rf 1), some (Rf 40), some (Iv i)] [] V2 κ2) : G (XR B n0) mL_law 20 PL Vz (bcN + 2) (bsN + 44) 1239 [some (Rf 33), some (Rf 1), some (Rf 40), some (Iv i)] [] V κ := by
  obtain ⟨hInv, hz⟩ := id hLI
  refine G.rg (fun hR => ?_)
  obtain ⟨a1, e1⟩ : ∃ a : Int, a = κ 33 (i + 1).toNat := ⟨_, rfl⟩
  have r1 : inR a1 := by rw [e1]; exact hR _ _
  obtain ⟨a2, e2⟩ : ∃ a : Int, a = κ 33 (i + 2).toNat := ⟨_, rfl⟩
  have r2 : inR a2 := by rw [e2]; exact hR _ _
  refine G.wk (bc1 := bcN) (bs1 := bsN) (by omega) (by omega) ?_
  refine g_aload_n 1240 dL_law_1239 rfl rfl ?_
  refine g_aload_n 1241 dL_law_1240 rfl rfl ?_
  refine g_iload_n 1242 dL_law_1241 rfl rfl ?_
  refine g_iconst 1243 dL_law_1242 (by decide) rfl ?_
  refine g_iadd 1244 dL_law_1243 rfl ?_
  refine r_iald30 1245 (i + 1).toNat (κ 33 (i + 1).toNat) dL_law_1244 kd_33 (by omega) (by omega) rfl rfl rfl (fun _ => ?_)
  refine G.eqi (show κ 33 (i + 1).toNat = a1 from e1.symm) ?_
  refine g_aload_n 1246 dL_law_1245 rfl rfl ?_
  refine g_iload_n 1247 dL_law_1246 rfl rfl ?_
  refine g_iconst 1248 dL_law_1247 (by decide) rfl ?_
  refine g_iadd 1249 dL_law_1248 rfl ?_
  refine r_iald30 1250 (i + 2).toNat (κ 33 (i + 2).toNat) dL_law_1249 kd_33 (by omega) (by omega) rfl rfl rfl (fun _ => ?_)
  refine G.eqi (show κ 33 (i + 2).toNat = a2 from e2.symm) ?_
  refine p_V 1253 bcN bsN [Iv a1, Iv a2] [] dL_law_1250 cvL_136 mwX9_rate kd_1 (by decide) rfl (Nat.le_of_ble_eq_true rfl) (by omega) (by omega) rfl (c_X9_rate r1 r2 hInv) ?_
  intro q1 V1 κ1 hp1
  obtain ⟨hr1, hv1, he1, hc1⟩ := hp1
  subst hr1
  refine ⟨[Iv ((M_rate κ a1 a2).1)], rfl, ?_⟩
  have eL := L_rate (ρ := κ1) (κ := κ) (h := a1) (d := a2)
  rw [← mrg_eqM he1] at eL
  have z33 : κ1 33 = κ 33 := hc1.2.2.2.2.2.2.2.2.2.2.2.2.2.2.2.trans (m33 (L_rate (ρ := κ) (κ := κ) (h := a1) (d := a2)) (by rw [mrg_self]))
  have hI1 : MI κ1 := MI_cl hInv.1 he1
  refine g_aload_n 1254 dL_law_1253 rfl rfl ?_
  refine g_aload_n 1255 dL_law_1254 rfl rfl ?_
  refine g_iload_n 1256 dL_law_1255 rfl rfl ?_
  refine g_iconst 1257 dL_law_1256 (by decide) rfl ?_
  refine g_iadd 1258 dL_law_1257 rfl ?_
  refine r_iald30 1259 (i + 1).toNat (κ1 33 (i + 1).toNat) dL_law_1258 kd_33 (by omega) (by omega) rfl rfl rfl (fun _ => ?_)
  refine G.eqi (show κ1 33 (i + 1).toNat = a1 from by rw [z33, e1]) ?_
  refine g_aload_n 1260 dL_law_1259 rfl rfl ?_
  refine g_iload_n 1261 dL_law_1260 rfl rfl ?_
  refine g_iconst 1262 dL_law_1261 (by decide) rfl ?_
  refine g_iadd 1263 dL_law_1262 rfl ?_
  refine r_iald30 1264 (i + 2).toNat (κ1 33 (i + 2).toNat) dL_law_1263 kd_33 (by omega) (by omega) rfl rfl rfl (fun _ => ?_)
  refine G.eqi (show κ1 33 (i + 2).toNat = a2 from by rw [z33, e2]) ?_
  refine p_V 1267 bcN bsN [Iv a1, Iv a2] [Iv ((M_rate κ a1 a2).1)] dL_law_1264 cvL_139 mwX10_rate kd_40 (by decide) rfl (Nat.le_of_ble_eq_true rfl) (by omega) (by omega) rfl (c_X10_rate r1 r2 hI1) ?_
  intro q2 V2 κ2 hp2
  obtain ⟨hr2, hv2, hk2⟩ := hp2
  rw [eL] at hr2 hk2
  subst hr2
  subst hv2
  subst hk2
  refine ⟨[Iv ((M_rate κ a1 a2).1), Iv ((M_rate κ a1 a2).1)], rfl, ?_⟩
  refine g_icmp_same 1361 dL_law_1267 (by decide) ?_
  exact kk _ _ (LI_step (κ := κ) (K_rate hInv.1) (Z_rate hz) hc1 hv1)
set_option maxHeartbeats 4000000 in
set_option maxRecDepth 20000 in
theorem lw_houseOf {B : Bs} {n0 bcN bsN : Nat} {V : Vs} {κ : Ks} {i : Int} (hn0 : n0 ≤ 3072) (hLI : LI κ V) (hi : 0 ≤ i ∧ i + 6 ≤ (n0 : Int)) (kk : ∀ (κ2 : Ks) (V2 : Vs), LI κ2 V2 → G (XR B n0) mL_law 20 PL Vz bcN bsN 1361 [some (Rf 33), some (Rf 1), some (Rf 40), some (Iv i)] [] V2 κ2) : G (XR B n0) mL_law 20 PL Vz (bcN + 2) (bsN + 44) 1272 [some (Rf 33), some (Rf 1), some (Rf 40), some (Iv i)] [] V κ := by
  obtain ⟨hInv, hz⟩ := id hLI
  refine G.rg (fun hR => ?_)
  obtain ⟨a1, e1⟩ : ∃ a : Int, a = κ 33 (i + 1).toNat := ⟨_, rfl⟩
  have r1 : inR a1 := by rw [e1]; exact hR _ _
  obtain ⟨a2, e2⟩ : ∃ a : Int, a = κ 33 (i + 2).toNat := ⟨_, rfl⟩
  have r2 : inR a2 := by rw [e2]; exact hR _ _
  refine G.wk (bc1 := bcN) (bs1 := bsN) (by omega) (by omega) ?_
  refine g_aload_n 1273 dL_law_1272 rfl rfl ?_
  refine g_aload_n 1274 dL_law_1273 rfl rfl ?_
  refine g_iload_n 1275 dL_law_1274 rfl rfl ?_
  refine g_iconst 1276 dL_law_1275 (by decide) rfl ?_
  refine g_iadd 1277 dL_law_1276 rfl ?_
  refine r_iald30 1278 (i + 1).toNat (κ 33 (i + 1).toNat) dL_law_1277 kd_33 (by omega) (by omega) rfl rfl rfl (fun _ => ?_)
  refine G.eqi (show κ 33 (i + 1).toNat = a1 from e1.symm) ?_
  refine g_aload_n 1279 dL_law_1278 rfl rfl ?_
  refine g_iload_n 1280 dL_law_1279 rfl rfl ?_
  refine g_iconst 1281 dL_law_1280 (by decide) rfl ?_
  refine g_iadd 1282 dL_law_1281 rfl ?_
  refine r_iald30 1283 (i + 2).toNat (κ 33 (i + 2).toNat) dL_law_1282 kd_33 (by omega) (by omega) rfl rfl rfl (fun _ => ?_)
  refine G.eqi (show κ 33 (i + 2).toNat = a2 from e2.symm) ?_
  refine p_V 1286 bcN bsN [Iv a1, Iv a2] [] dL_law_1283 cvL_140 mwX9_houseOf kd_1 (by decide) rfl (Nat.le_of_ble_eq_true rfl) (by omega) (by omega) rfl (c_X9_houseOf r1 r2 hInv) ?_
  intro q1 V1 κ1 hp1
  obtain ⟨hr1, hv1, he1, hc1⟩ := hp1
  subst hr1
  refine ⟨[Iv ((M_houseOf κ a1 a2).1)], rfl, ?_⟩
  have eL := L_houseOf (ρ := κ1) (κ := κ) (h := a1) (w := a2)
  rw [← mrg_eqM he1] at eL
  have z33 : κ1 33 = κ 33 := hc1.2.2.2.2.2.2.2.2.2.2.2.2.2.2.2.trans (m33 (L_houseOf (ρ := κ) (κ := κ) (h := a1) (w := a2)) (by rw [mrg_self]))
  have hI1 : MI κ1 := MI_cl hInv.1 he1
  refine g_aload_n 1287 dL_law_1286 rfl rfl ?_
  refine g_aload_n 1288 dL_law_1287 rfl rfl ?_
  refine g_iload_n 1289 dL_law_1288 rfl rfl ?_
  refine g_iconst 1290 dL_law_1289 (by decide) rfl ?_
  refine g_iadd 1291 dL_law_1290 rfl ?_
  refine r_iald30 1292 (i + 1).toNat (κ1 33 (i + 1).toNat) dL_law_1291 kd_33 (by omega) (by omega) rfl rfl rfl (fun _ => ?_)
  refine G.eqi (show κ1 33 (i + 1).toNat = a1 from by rw [z33, e1]) ?_
  refine g_aload_n 1293 dL_law_1292 rfl rfl ?_
  refine g_iload_n 1294 dL_law_1293 rfl rfl ?_
  refine g_iconst 1295 dL_law_1294 (by decide) rfl ?_
  refine g_iadd 1296 dL_law_1295 rfl ?_
  refine r_iald30 1297 (i + 2).toNat (κ1 33 (i + 2).toNat) dL_law_1296 kd_33 (by omega) (by omega) rfl rfl rfl (fun _ => ?_)
  refine G.eqi (show κ1 33 (i + 2).toNat = a2 from by rw [z33, e2]) ?_
  refine p_V 1300 bcN bsN [Iv a1, Iv a2] [Iv ((M_houseOf κ a1 a2).1)] dL_law_1297 cvL_143 mwX10_houseOf kd_40 (by decide) rfl (Nat.le_of_ble_eq_true rfl) (by omega) (by omega) rfl (c_X10_houseOf r1 r2 hI1) ?_
  intro q2 V2 κ2 hp2
  obtain ⟨hr2, hv2, hk2⟩ := hp2
  rw [eL] at hr2 hk2
  subst hr2
  subst hv2
  subst hk2
  refine ⟨[Iv ((M_houseOf κ a1 a2).1), Iv ((M_houseOf κ a1 a2).1)], rfl, ?_⟩
  refine g_icmp_same 1361 dL_law_1300 (by decide) ?_
  exact kk _ _ (LI_step (κ := κ) (K_houseOf hInv.1) (Z_houseOf hz) hc1 hv1)
set_option maxHeartbeats 4000000 in
set_option maxRecDepth 20000 in
theorem lw_streetOf {B : Bs} {n0 bcN bsN : Nat} {V : Vs} {κ : Ks} {i : Int} (hn0 : n0 ≤ 3072) (hLI : LI κ V) (hi : 0 ≤ i ∧ i + 6 ≤ (n0 : Int)) (kk : ∀ (κ2 : Ks) (V2 : Vs), LI κ2 V2 → G (XR B n0) mL_law 20 PL Vz bcN bsN 1361 [some (Rf 33), some (Rf 1), some (Rf 40), some (Iv i)] [] V2 κ2) : G (XR B n0) mL_law 20 PL Vz (bcN + 2) (bsN + 44) 1305 [some (Rf 33), some (Rf 1), some (Rf 40), some (Iv i)] [] V κ := by
  obtain ⟨hInv, hz⟩ := id hLI
  refine G.rg (fun hR => ?_)
  obtain ⟨a1, e1⟩ : ∃ a : Int, a = κ 33 (i + 1).toNat := ⟨_, rfl⟩
  have r1 : inR a1 := by rw [e1]; exact hR _ _
  obtain ⟨a2, e2⟩ : ∃ a : Int, a = κ 33 (i + 2).toNat := ⟨_, rfl⟩
  have r2 : inR a2 := by rw [e2]; exact hR _ _
  refine G.wk (bc1 := bcN) (bs1 := bsN) (by omega) (by omega) ?_
  refine g_aload_n 1306 dL_law_1305 rfl rfl ?_
  refine g_aload_n 1307 dL_law_1306 rfl rfl ?_
  refine g_iload_n 1308 dL_law_1307 rfl rfl ?_
  refine g_iconst 1309 dL_law_1308 (by decide) rfl ?_
  refine g_iadd 1310 dL_law_1309 rfl ?_
  refine r_iald30 1311 (i + 1).toNat (κ 33 (i + 1).toNat) dL_law_1310 kd_33 (by omega) (by omega) rfl rfl rfl (fun _ => ?_)
  refine G.eqi (show κ 33 (i + 1).toNat = a1 from e1.symm) ?_
  refine g_aload_n 1312 dL_law_1311 rfl rfl ?_
  refine g_iload_n 1313 dL_law_1312 rfl rfl ?_
  refine g_iconst 1314 dL_law_1313 (by decide) rfl ?_
  refine g_iadd 1315 dL_law_1314 rfl ?_
  refine r_iald30 1316 (i + 2).toNat (κ 33 (i + 2).toNat) dL_law_1315 kd_33 (by omega) (by omega) rfl rfl rfl (fun _ => ?_)
  refine G.eqi (show κ 33 (i + 2).toNat = a2 from e2.symm) ?_
  refine p_V 1319 bcN bsN [Iv a1, Iv a2] [] dL_law_1316 cvL_144 mwX9_streetOf kd_1 (by decide) rfl (Nat.le_of_ble_eq_true rfl) (by omega) (by omega) rfl (c_X9_streetOf r1 r2 hInv) ?_
  intro q1 V1 κ1 hp1
  obtain ⟨hr1, hv1, he1, hc1⟩ := hp1
  subst hr1
  refine ⟨[Iv ((M_streetOf κ a1 a2).1)], rfl, ?_⟩
  have eL := L_streetOf (ρ := κ1) (κ := κ) (s := a1) (w := a2)
  rw [← mrg_eqM he1] at eL
  have z33 : κ1 33 = κ 33 := hc1.2.2.2.2.2.2.2.2.2.2.2.2.2.2.2.trans (m33 (L_streetOf (ρ := κ) (κ := κ) (s := a1) (w := a2)) (by rw [mrg_self]))
  have hI1 : MI κ1 := MI_cl hInv.1 he1
  refine g_aload_n 1320 dL_law_1319 rfl rfl ?_
  refine g_aload_n 1321 dL_law_1320 rfl rfl ?_
  refine g_iload_n 1322 dL_law_1321 rfl rfl ?_
  refine g_iconst 1323 dL_law_1322 (by decide) rfl ?_
  refine g_iadd 1324 dL_law_1323 rfl ?_
  refine r_iald30 1325 (i + 1).toNat (κ1 33 (i + 1).toNat) dL_law_1324 kd_33 (by omega) (by omega) rfl rfl rfl (fun _ => ?_)
  refine G.eqi (show κ1 33 (i + 1).toNat = a1 from by rw [z33, e1]) ?_
  refine g_aload_n 1326 dL_law_1325 rfl rfl ?_
  refine g_iload_n 1327 dL_law_1326 rfl rfl ?_
  refine g_iconst 1328 dL_law_1327 (by decide) rfl ?_
  refine g_iadd 1329 dL_law_1328 rfl ?_
  refine r_iald30 1330 (i + 2).toNat (κ1 33 (i + 2).toNat) dL_law_1329 kd_33 (by omega) (by omega) rfl rfl rfl (fun _ => ?_)
  refine G.eqi (show κ1 33 (i + 2).toNat = a2 from by rw [z33, e2]) ?_
  refine p_V 1333 bcN bsN [Iv a1, Iv a2] [Iv ((M_streetOf κ a1 a2).1)] dL_law_1330 cvL_147 mwX10_streetOf kd_40 (by decide) rfl (Nat.le_of_ble_eq_true rfl) (by omega) (by omega) rfl (c_X10_streetOf r1 r2 hI1) ?_
  intro q2 V2 κ2 hp2
  obtain ⟨hr2, hv2, hk2⟩ := hp2
  rw [eL] at hr2 hk2
  subst hr2
  subst hv2
  subst hk2
  refine ⟨[Iv ((M_streetOf κ a1 a2).1), Iv ((M_streetOf κ a1 a2).1)], rfl, ?_⟩
  refine g_icmp_same 1361 dL_law_1333 (by decide) ?_
  exact kk _ _ (LI_step (κ := κ) (K_streetOf hInv.1) (Z_streetOf hz) hc1 hv1)
set_option maxHeartbeats 4000000 in
set_option maxRecDepth 20000 in
theorem lw_count {B : Bs} {n0 bcN bsN : Nat} {V : Vs} {κ : Ks} {i : Int} (hn0 : n0 ≤ 3072) (hLI : LI κ V) (hi : 0 ≤ i ∧ i + 6 ≤ (n0 : Int)) (kk : ∀ (κ2 : Ks) (V2 : Vs), LI κ2 V2 → G (XR B n0) mL_law 20 PL Vz bcN bsN 1361 [some (Rf 33), some (Rf 1), some (Rf 40), some (Iv i)] [] V2 κ2) : G (XR B n0) mL_law 20 PL Vz (bcN + 2) (bsN + 44) 1338 [some (Rf 33), some (Rf 1), some (Rf 40), some (Iv i)] [] V κ := by
  obtain ⟨hInv, hz⟩ := id hLI
  refine G.rg (fun hR => ?_)
  obtain ⟨a1, e1⟩ : ∃ a : Int, a = κ 33 (i + 1).toNat := ⟨_, rfl⟩
  have r1 : inR a1 := by rw [e1]; exact hR _ _
  refine G.wk (bc1 := bcN) (bs1 := bsN) (by omega) (by omega) ?_
  refine g_aload_n 1339 dL_law_1338 rfl rfl ?_
  refine g_aload_n 1340 dL_law_1339 rfl rfl ?_
  refine g_iload_n 1341 dL_law_1340 rfl rfl ?_
  refine g_iconst 1342 dL_law_1341 (by decide) rfl ?_
  refine g_iadd 1343 dL_law_1342 rfl ?_
  refine r_iald30 1344 (i + 1).toNat (κ 33 (i + 1).toNat) dL_law_1343 kd_33 (by omega) (by omega) rfl rfl rfl (fun _ => ?_)
  refine G.eqi (show κ 33 (i + 1).toNat = a1 from e1.symm) ?_
  refine p_V 1347 bcN bsN [Iv a1] [] dL_law_1344 cvL_148 mwX9_count kd_1 (by decide) rfl (Nat.le_of_ble_eq_true rfl) (by omega) (by omega) rfl (c_X9_count r1 hInv) ?_
  intro q1 V1 κ1 hp1
  obtain ⟨hr1, hv1, he1, hc1⟩ := hp1
  subst hr1
  refine ⟨[Iv ((M_count κ a1).1)], rfl, ?_⟩
  have eL := L_count (ρ := κ1) (κ := κ) (w := a1)
  rw [← mrg_eqM he1] at eL
  have z33 : κ1 33 = κ 33 := hc1.2.2.2.2.2.2.2.2.2.2.2.2.2.2.2.trans (m33 (L_count (ρ := κ) (κ := κ) (w := a1)) (by rw [mrg_self]))
  have hI1 : MI κ1 := MI_cl hInv.1 he1
  refine g_aload_n 1348 dL_law_1347 rfl rfl ?_
  refine g_aload_n 1349 dL_law_1348 rfl rfl ?_
  refine g_iload_n 1350 dL_law_1349 rfl rfl ?_
  refine g_iconst 1351 dL_law_1350 (by decide) rfl ?_
  refine g_iadd 1352 dL_law_1351 rfl ?_
  refine r_iald30 1353 (i + 1).toNat (κ1 33 (i + 1).toNat) dL_law_1352 kd_33 (by omega) (by omega) rfl rfl rfl (fun _ => ?_)
  refine G.eqi (show κ1 33 (i + 1).toNat = a1 from by rw [z33, e1]) ?_
  refine p_V 1356 bcN bsN [Iv a1] [Iv ((M_count κ a1).1)] dL_law_1353 cvL_151 mwX10_count kd_40 (by decide) rfl (Nat.le_of_ble_eq_true rfl) (by omega) (by omega) rfl (c_X10_count r1 hI1) ?_
  intro q2 V2 κ2 hp2
  obtain ⟨hr2, hv2, hk2⟩ := hp2
  rw [eL] at hr2 hk2
  subst hr2
  subst hv2
  subst hk2
  refine ⟨[Iv ((M_count κ a1).1), Iv ((M_count κ a1).1)], rfl, ?_⟩
  refine g_icmp_same 1361 dL_law_1356 (by decide) ?_
  exact kk _ _ (LI_step (κ := κ) (K_count hInv.1) (Z_count hz) hc1 hv1)
