/-! the reference: hours, needs, rates, spans (printed by wip/whole/gen19.py) -/
theorem MI.hour {κ : Ks} (h : MI κ) (h0 : κ 40 0 + 1 ≤ 5000) : MI (st2 κ 40 0 (κ 40 0 + 1)) := by
  obtain ⟨⟨i0, i1, i2, i3, i4, i5, i6, i7, i8, i9⟩, iS, iH, iR, iT, iC, iG, iL, iZ⟩ := h
  have e0 : st2 κ 40 0 (κ 40 0 + 1) 40 0 = κ 40 0 + 1 := st2_s _ _ _ _
  have ej : ∀ j, j ≠ 0 → st2 κ 40 0 (κ 40 0 + 1) 40 j = κ 40 j := fun j hj => st2_j hj
  have et : ∀ t, t ≠ 40 → st2 κ 40 0 (κ 40 0 + 1) t = κ t := fun t ht => st2_t ht
  unfold MI MIs MIst MIh MIr MIt MIc MIg MIl MIz
  rw [e0, ej 1 (by decide), ej 2 (by decide), ej 3 (by decide), ej 4 (by decide), ej 11 (by decide), ej 20 (by decide), ej 31 (by decide), ej 37 (by decide), ej 41 (by decide)]
  rw [et 53 (by decide), et 54 (by decide), et 55 (by decide), et 56 (by decide), et 57 (by decide), et 58 (by decide), et 59 (by decide), et 60 (by decide), et 62 (by decide), et 63 (by decide), et 64 (by decide), et 65 (by decide), et 66 (by decide), et 67 (by decide), et 68 (by decide), et 69 (by decide), et 70 (by decide), et 71 (by decide), et 73 (by decide), et 74 (by decide), et 75 (by decide), et 76 (by decide), et 77 (by decide), et 79 (by decide), et 80 (by decide), et 81 (by decide), et 83 (by decide), et 84 (by decide), et 85 (by decide), et 86 (by decide)]
  exact ⟨⟨by omega, i1, i2, i3, i4, i5, i6, i7, i8, i9⟩, fun s hs => by have := iS s hs; omega, iH, iR, iT, iC, iG, iL, iZ⟩
theorem passM_ok {κ : Ks} (h : MI κ) (h0 : κ 40 0 + 1 ≤ 5000) : MI (passM κ) ∧ passM κ 40 0 = κ 40 0 + 1 := by
  obtain ⟨a, b⟩ := passD_ok h
  have e := b.1.1
  have q := a.hour (by rw [e]; exact h0)
  rw [e] at q
  exact ⟨q, st2_s _ _ _ _⟩
set_option maxHeartbeats 4000000 in
set_option maxRecDepth 20000 in
theorem c_X10_pass {B : Bs} {n0 : Nat} {V : Vs} {κ : Ks}  (hI : MI κ) : Ct (XR B n0) mX10_pass 5 0 0 [Rf 40] V κ (Ex none V (passM κ)) := by
  obtain ⟨⟨i0, i1, i2, i3, i4, i5, i6, i7, i8, i9⟩, iS, iH, iR, iT, iC, iG, iL, iZ⟩ := id hI
  refine Ct.of (L := [some (Rf 40), none, none, none, none]) 4 (by decide +kernel) rfl rfl ?_
  have lpD : ∀ (m : Nat) (k : Int) (κ2 : Ks), MI κ2 → sm κ κ2 → 0 ≤ k ∧ k ≤ κ 40 20 → (m : Int) = κ 40 20 - k → κ2 = drnkM (st2 (passC κ) 40 8 (bm (passC κ 40 8 + passC κ 40 48))) k.toNat → ∀ a2 a4 : Option Av, G (XR B n0) mX10_pass 5 (Ex none V (passM κ)) V 0 0 189 [some (Rf 40), some (Iv (κ 40 0 % 168)), a2, some (Iv k), a4] [] V κ2 := by
    intro m
    induction m using Nat.strongRecOn with
    | ind m ih =>
      intro k κ2 hI2 hS2 hkk hm hk a2 a4
      obtain ⟨⟨j0, j1, j2, j3, j4, j5, j6, j7, j8, j9⟩, jS, jH, jR, jT, jC, jG, jL, jZ⟩ := id hI2
      have i2 := hS2.1
      refine g_iload_n 190 dX10_pass_189 rfl rfl ?_
      refine g_aload_n 191 dX10_pass_190 rfl rfl ?_
      refine r_getI 194 (κ2 40 20) dX10_pass_191 fgX10_142 kd_40 ly_40_20 rfl (rfl) (fun r101 => ?_)
      refine g_icmp_ge 265 197 dX10_pass_194 (by first | assumption | omega) (by first | assumption | omega) (by decide) rfl (fun h102 => ?_) (fun h102 => ?_)
      · refine g_aload_n 266 dX10_pass_265 rfl rfl ?_
        refine g_dup 267 dX10_pass_266 rfl ?_
        refine r_getI 270 (κ2 40 0) dX10_pass_267 fgX10_149 kd_40 ly_40_0 rfl (rfl) (fun r103 => ?_)
        refine g_iconst 271 dX10_pass_270 (by decide) rfl ?_
        refine g_iadd 272 dX10_pass_271 rfl ?_
        refine g_putI 275 dX10_pass_272 fpX10_149 (fun h => (nomatch h)) kd_40 ly_40_0 (by omega) rfl ?_
        refine g_vret dX10_pass_275 rfl ?_
        have ek : k = κ 40 20 := by omega
        subst ek
        refine ⟨rfl, rfl, ?_⟩
        unfold passM passD
        rw [← hk, i2.1]
      refine g_aload_n 198 dX10_pass_197 rfl rfl ?_
      refine g_iload_n 199 dX10_pass_198 rfl rfl ?_
      have us := use_R hI2 (k := k.toNat) (by omega)
      have jh := jH k.toNat (by omega)
      refine e_V 202 0 0 [Iv k] [] dX10_pass_199 cvX10_221 mwX10_useOf kd_40 (by decide) rfl (Nat.le_of_ble_eq_true rfl) rfl rfl rfl (c_X10_useOf (by omega) hI2) ?_
      refine g_istore (L' := [some (Rf 40), some (Iv (κ 40 0 % 168)), a2, some (Iv k), some (Iv (useM κ2 (k).toNat))]) 204 dX10_pass_202 rfl (by decide) rfl ?_
      refine g_aload_n 205 dX10_pass_204 rfl rfl ?_
      refine g_getC 208 dX10_pass_205 fgX10_66 kd_40 ly_40_28 rfl ?_
      refine g_iload_n 209 dX10_pass_208 rfl rfl ?_
      refine g_dup2 210 dX10_pass_209 rfl ?_
      refine r_iald 211 ((k).toNat) (κ2 69 ((k).toNat)) dX10_pass_210 kd_69 (by decide) (by omega) (rfl) rfl (rfl) (fun r104 => ?_)
      refine g_aload_n 212 dX10_pass_211 rfl rfl ?_
      refine g_getC 215 dX10_pass_212 fgX10_63 kd_40 ly_40_27 rfl ?_
      refine g_iload_n 216 dX10_pass_215 rfl rfl ?_
      refine r_iald 217 ((k).toNat) (κ2 68 ((k).toNat)) dX10_pass_216 kd_68 (by decide) (by omega) (rfl) rfl (rfl) (fun r105 => ?_)
      refine g_iload 219 dX10_pass_217 rfl rfl ?_
      refine g_icmp_ge 226 222 dX10_pass_219 (by first | assumption | omega) (by first | assumption | omega) (by decide) rfl (fun h106 => ?_) (fun h106 => ?_)
      · refine g_iconst 227 dX10_pass_226 (by decide) rfl ?_
        refine g_iadd 228 dX10_pass_227 rfl ?_
        refine r_iastw 229 ((k).toNat) dX10_pass_228 kd_69 (by decide) ly_69 (by omega) (rfl) rfl ?_
        refine g_aload_n 230 dX10_pass_229 rfl rfl ?_
        refine g_getC 233 dX10_pass_230 fgX10_63 kd_40 ly_40_27 rfl ?_
        refine g_iload_n 234 dX10_pass_233 rfl rfl ?_
        refine g_aload_n 235 dX10_pass_234 rfl rfl ?_
        refine g_getC 238 dX10_pass_235 fgX10_63 kd_40 ly_40_27 rfl ?_
        refine g_iload_n 239 dX10_pass_238 rfl rfl ?_
        refine r_iald 240 ((k).toNat) (κ2 68 ((k).toNat)) dX10_pass_239 kd_68 (by decide) (by omega) (rfl) rfl (rd_t (by decide) (rfl)) (fun r107 => ?_)
        refine g_iload 242 dX10_pass_240 rfl rfl ?_
        refine g_icmp_ge 249 245 dX10_pass_242 (by first | assumption | omega) (by first | assumption | omega) (by decide) rfl (fun h108 => ?_) (fun h108 => ?_)
        · refine g_aload_n 250 dX10_pass_249 rfl rfl ?_
          refine g_getC 253 dX10_pass_250 fgX10_63 kd_40 ly_40_27 rfl ?_
          refine g_iload_n 254 dX10_pass_253 rfl rfl ?_
          refine r_iald 255 ((k).toNat) (κ2 68 ((k).toNat)) dX10_pass_254 kd_68 (by decide) (by omega) (rfl) rfl (rd_t (by decide) (rfl)) (fun r109 => ?_)
          refine g_iload 257 dX10_pass_255 rfl rfl ?_
          refine g_isub 258 dX10_pass_257 rfl ?_
          refine r_iast 259 ((k).toNat) dX10_pass_258 kd_68 (by decide) ly_68 (by omega) (rfl) (by omega) rfl ?_
          refine g_iinc (L' := [some (Rf 40), some (Iv (κ 40 0 % 168)), a2, some (Iv (k + 1)), some (Iv (useM κ2 (k).toNat))]) 262 dX10_pass_259 rfl rfl (by decide) rfl ?_
          refine g_goto 189 dX10_pass_262 (by decide) ?_
          have ed := drnkS_ok hI2 (k := k.toNat) (by omega)
          have ek : (st2 (st2 κ2 69 ((k).toNat) (bm ((κ2 69 ((k).toNat)) + 0))) 68 ((k).toNat) ((κ2 68 ((k).toNat)) - (useM κ2 (k).toNat))) = drnkS κ2 k.toNat := by unfold drnkS; first | rw [if_pos (by omega), if_pos (by omega)] | rw [if_neg (by omega), if_neg (by omega)]
          have q := ih (m - 1) (by omega) (k + 1) _ ed.1 (hS2.tr ed.2) (by omega) (by omega) (by rw [show (k + 1).toNat = k.toNat + 1 by omega, hk]; rfl) a2 (some (Iv (useM κ2 k.toNat)))
          rw [← ek] at q
          exact q
        refine g_iconst 246 dX10_pass_245 (by decide) rfl ?_
        refine g_goto 258 dX10_pass_246 (by decide) ?_
        refine r_iast 259 ((k).toNat) dX10_pass_258 kd_68 (by decide) ly_68 (by omega) (rfl) (by omega) rfl ?_
        refine g_iinc (L' := [some (Rf 40), some (Iv (κ 40 0 % 168)), a2, some (Iv (k + 1)), some (Iv (useM κ2 (k).toNat))]) 262 dX10_pass_259 rfl rfl (by decide) rfl ?_
        refine g_goto 189 dX10_pass_262 (by decide) ?_
        exfalso
        omega
      refine g_iconst 223 dX10_pass_222 (by decide) rfl ?_
      refine g_goto 227 dX10_pass_223 (by decide) ?_
      refine g_iadd 228 dX10_pass_227 rfl ?_
      refine r_iastw 229 ((k).toNat) dX10_pass_228 kd_69 (by decide) ly_69 (by omega) (rfl) rfl ?_
      refine g_aload_n 230 dX10_pass_229 rfl rfl ?_
      refine g_getC 233 dX10_pass_230 fgX10_63 kd_40 ly_40_27 rfl ?_
      refine g_iload_n 234 dX10_pass_233 rfl rfl ?_
      refine g_aload_n 235 dX10_pass_234 rfl rfl ?_
      refine g_getC 238 dX10_pass_235 fgX10_63 kd_40 ly_40_27 rfl ?_
      refine g_iload_n 239 dX10_pass_238 rfl rfl ?_
      refine r_iald 240 ((k).toNat) (κ2 68 ((k).toNat)) dX10_pass_239 kd_68 (by decide) (by omega) (rfl) rfl (rd_t (by decide) (rfl)) (fun r110 => ?_)
      refine g_iload 242 dX10_pass_240 rfl rfl ?_
      refine g_icmp_ge 249 245 dX10_pass_242 (by first | assumption | omega) (by first | assumption | omega) (by decide) rfl (fun h111 => ?_) (fun h111 => ?_)
      · refine g_aload_n 250 dX10_pass_249 rfl rfl ?_
        refine g_getC 253 dX10_pass_250 fgX10_63 kd_40 ly_40_27 rfl ?_
        refine g_iload_n 254 dX10_pass_253 rfl rfl ?_
        refine r_iald 255 ((k).toNat) (κ2 68 ((k).toNat)) dX10_pass_254 kd_68 (by decide) (by omega) (rfl) rfl (rd_t (by decide) (rfl)) (fun r112 => ?_)
        refine g_iload 257 dX10_pass_255 rfl rfl ?_
        refine g_isub 258 dX10_pass_257 rfl ?_
        refine r_iast 259 ((k).toNat) dX10_pass_258 kd_68 (by decide) ly_68 (by omega) (rfl) (by omega) rfl ?_
        refine g_iinc (L' := [some (Rf 40), some (Iv (κ 40 0 % 168)), a2, some (Iv (k + 1)), some (Iv (useM κ2 (k).toNat))]) 262 dX10_pass_259 rfl rfl (by decide) rfl ?_
        refine g_goto 189 dX10_pass_262 (by decide) ?_
        exfalso
        omega
      refine g_iconst 246 dX10_pass_245 (by decide) rfl ?_
      refine g_goto 258 dX10_pass_246 (by decide) ?_
      refine r_iast 259 ((k).toNat) dX10_pass_258 kd_68 (by decide) ly_68 (by omega) (rfl) (by omega) rfl ?_
      refine g_iinc (L' := [some (Rf 40), some (Iv (κ 40 0 % 168)), a2, some (Iv (k + 1)), some (Iv (useM κ2 (k).toNat))]) 262 dX10_pass_259 rfl rfl (by decide) rfl ?_
      refine g_goto 189 dX10_pass_262 (by decide) ?_
      have ed := drnkS_ok hI2 (k := k.toNat) (by omega)
      have ek : (st2 (st2 κ2 69 ((k).toNat) (bm ((κ2 69 ((k).toNat)) + 1))) 68 ((k).toNat) 0) = drnkS κ2 k.toNat := by unfold drnkS; first | rw [if_pos (by omega), if_pos (by omega)] | rw [if_neg (by omega), if_neg (by omega)]
      have q := ih (m - 1) (by omega) (k + 1) _ ed.1 (hS2.tr ed.2) (by omega) (by omega) (by rw [show (k + 1).toNat = k.toNat + 1 by omega, hk]; rfl) a2 (some (Iv (useM κ2 k.toNat)))
      rw [← ek] at q
      exact q
  have lpC : ∀ (m : Nat) (s : Int) (κ2 : Ks), MI κ2 → HL κ2 → sm κ κ2 → 0 ≤ s ∧ s ≤ κ 40 11 → (m : Int) = κ 40 11 - s → κ2 = srvM (passB κ) (κ 40 0 % 168) s.toNat → ∀ a2 a4 : Option Av, G (XR B n0) mX10_pass 5 (Ex none V (passM κ)) V 0 0 146 [some (Rf 40), some (Iv (κ 40 0 % 168)), a2, some (Iv s), a4] [] V κ2 := by
    intro m
    induction m using Nat.strongRecOn with
    | ind m ih =>
      intro s κ2 hI2 hL2 hS2 hs hm hk a2 a4
      obtain ⟨⟨j0, j1, j2, j3, j4, j5, j6, j7, j8, j9⟩, jS, jH, jR, jT, jC, jG, jL, jZ⟩ := id hI2
      have i2 := hS2.1
      obtain ⟨l1, l2⟩ := id hL2
      refine g_iload_n 147 dX10_pass_146 rfl rfl ?_
      refine g_aload_n 148 dX10_pass_147 rfl rfl ?_
      refine r_getI 151 (κ2 40 11) dX10_pass_148 fgX10_135 kd_40 ly_40_11 rfl (rfl) (fun r101 => ?_)
      refine g_icmp_ge 174 154 dX10_pass_151 (by first | assumption | omega) (by first | assumption | omega) (by decide) rfl (fun h102 => ?_) (fun h102 => ?_)
      · refine g_aload_n 175 dX10_pass_174 rfl rfl ?_
        refine g_dup 176 dX10_pass_175 rfl ?_
        refine r_getI 179 (κ2 40 8) dX10_pass_176 fgX10_218 kd_40 ly_40_8 rfl (rfl) (fun r103 => ?_)
        refine g_aload_n 180 dX10_pass_179 rfl rfl ?_
        refine r_getI 183 (κ2 40 48) dX10_pass_180 fgX10_184 kd_40 ly_40_48 rfl (rfl) (fun r104 => ?_)
        refine g_iadd 184 dX10_pass_183 rfl ?_
        refine r_putIw 187 dX10_pass_184 fpX10_218 (fun h => (nomatch h)) kd_40 ly_40_8 rfl ?_
        refine g_iconst 188 dX10_pass_187 (by decide) rfl ?_
        refine g_istore_n (L' := [some (Rf 40), some (Iv (κ 40 0 % 168)), a2, some (Iv 0), a4]) 189 dX10_pass_188 rfl (by decide) rfl ?_
        have es : s = κ 40 11 := by omega
        subst es
        have ec : κ2 = passC κ := hk
        subst ec
        exact lpD (κ 40 20).toNat 0 _ (hI2.s40 (by decide)) (hS2.tr (sm.s40 _ (by decide))) (by omega) (by omega) rfl a2 a4
      refine g_aload_n 155 dX10_pass_154 rfl rfl ?_
      refine g_iload_n 156 dX10_pass_155 rfl rfl ?_
      refine g_iload_n 157 dX10_pass_156 rfl rfl ?_
      refine o_V 160 0 0 [Iv s, Iv (κ 40 0 % 168)] [] dX10_pass_157 cvX10_171 mwX10_isOpen kd_40 (by decide) rfl (Nat.le_of_ble_eq_true rfl) rfl rfl rfl (c_X10_isOpen (by omega) (by omega) hI2) (fun h105 => ?_) (fun h105 => ?_)
      · have ho := h105
        refine g_if_eq 168 163 dX10_pass_160 (by decide) (by decide) rfl (fun z => absurd z (by decide)) (fun _ => ?_)
        refine g_aload_n 164 dX10_pass_163 rfl rfl ?_
        refine g_iload_n 165 dX10_pass_164 rfl rfl ?_
        refine v_V 168 0 0 [Iv s] [] dX10_pass_165 cvX10_215 mwX10_serve kd_40 (by decide) rfl (Nat.le_of_ble_eq_true rfl) rfl rfl rfl (c_X10_serve (by omega) hI2 hL2) ?_
        refine g_iinc (L' := [some (Rf 40), some (Iv (κ 40 0 % 168)), a2, some (Iv (s + 1)), a4]) 171 dX10_pass_168 rfl rfl (by decide) rfl ?_
        refine g_goto 146 dX10_pass_171 (by decide) ?_
        have es := serve_ok hI2 hL2 (s := s.toNat) (by omega)
        exact ih (m - 1) (by omega) (s + 1) _ es.1 es.2.1 (hS2.tr es.2.2) (by omega) (by omega) (by rw [show (s + 1).toNat = s.toNat + 1 by omega]; unfold srvM; rw [← hk, show ((s.toNat : Nat) : Int) = s by omega, if_pos ((openB_iff jS (by omega) (by omega)).mpr ho)]) a2 a4
      have ho := h105
      refine g_if_eq 168 163 dX10_pass_160 (by decide) (by decide) rfl (fun _ => ?_) (fun z => absurd z (by decide))
      refine g_iinc (L' := [some (Rf 40), some (Iv (κ 40 0 % 168)), a2, some (Iv (s + 1)), a4]) 171 dX10_pass_168 rfl rfl (by decide) rfl ?_
      refine g_goto 146 dX10_pass_171 (by decide) ?_
      exact ih (m - 1) (by omega) (s + 1) _ hI2 hL2 hS2 (by omega) (by omega) (by rw [show (s + 1).toNat = s.toNat + 1 by omega]; unfold srvM; rw [← hk, show ((s.toNat : Nat) : Int) = s by omega, if_neg (fun z => ho ((openB_iff jS (by omega) (by omega)).mp z))]) a2 a4
  have lpB : ∀ (m : Nat) (s : Int) (κ2 : Ks), MI κ2 → HL κ2 → sm κ κ2 → 0 ≤ s ∧ s ≤ κ 40 11 → (m : Int) = κ 40 11 - s → κ2 = leakM (passA κ) (κ 40 0 % 168) s.toNat → ∀ a2 a4 : Option Av, G (XR B n0) mX10_pass 5 (Ex none V (passM κ)) V 0 0 99 [some (Rf 40), some (Iv (κ 40 0 % 168)), a2, some (Iv s), a4] [] V κ2 := by
    intro m
    induction m using Nat.strongRecOn with
    | ind m ih =>
      intro s κ2 hI2 hL2 hS2 hs hm hk a2 a4
      obtain ⟨⟨j0, j1, j2, j3, j4, j5, j6, j7, j8, j9⟩, jS, jH, jR, jT, jC, jG, jL, jZ⟩ := id hI2
      have i2 := hS2.1
      obtain ⟨l1, l2⟩ := id hL2
      refine g_iload_n 100 dX10_pass_99 rfl rfl ?_
      refine g_aload_n 101 dX10_pass_100 rfl rfl ?_
      refine r_getI 104 (κ2 40 11) dX10_pass_101 fgX10_135 kd_40 ly_40_11 rfl (rfl) (fun r101 => ?_)
      refine g_icmp_ge 144 107 dX10_pass_104 (by first | assumption | omega) (by first | assumption | omega) (by decide) rfl (fun h102 => ?_) (fun h102 => ?_)
      · refine g_iconst 145 dX10_pass_144 (by decide) rfl ?_
        refine g_istore_n (L' := [some (Rf 40), some (Iv (κ 40 0 % 168)), a2, some (Iv 0), a4]) 146 dX10_pass_145 rfl (by decide) rfl ?_
        have es : s = κ 40 11 := by omega
        subst es
        have ec : κ2 = passB κ := hk
        subst ec
        exact lpC (κ 40 11).toNat 0 _ hI2 hL2 hS2 (by omega) (by omega) rfl a2 a4
      refine g_aload_n 108 dX10_pass_107 rfl rfl ?_
      refine g_dup 109 dX10_pass_108 rfl ?_
      refine r_getI 112 (κ2 40 5) dX10_pass_109 fgX10_209 kd_40 ly_40_5 rfl (rfl) (fun r103 => ?_)
      refine g_aload_n 113 dX10_pass_112 rfl rfl ?_
      refine g_iload_n 114 dX10_pass_113 rfl rfl ?_
      refine g_iload_n 115 dX10_pass_114 rfl rfl ?_
      refine o_V 118 0 0 [Iv s, Iv (κ 40 0 % 168)] [Iv (κ2 40 5), Rf 40] dX10_pass_115 cvX10_171 mwX10_isOpen kd_40 (by decide) rfl (Nat.le_of_ble_eq_true rfl) rfl rfl rfl (c_X10_isOpen (by omega) (by omega) hI2) (fun h104 => ?_) (fun h104 => ?_)
      · have ho := h104
        refine g_if_eq 133 121 dX10_pass_118 (by decide) (by decide) rfl (fun z => absurd z (by decide)) (fun _ => ?_)
        refine g_aload_n 122 dX10_pass_121 rfl rfl ?_
        refine g_aload_n 123 dX10_pass_122 rfl rfl ?_
        refine g_iload_n 124 dX10_pass_123 rfl rfl ?_
        refine e_V 127 0 0 [Iv s] [Rf 40, Iv (κ2 40 5), Rf 40] dX10_pass_124 cvX10_212 mwX10_dripOf kd_40 (by decide) rfl (Nat.le_of_ble_eq_true rfl) rfl rfl rfl (c_X10_dripOf (by omega) hI2) ?_
        have dq := drip_R hI2 (s := s.toNat) (by omega)
        refine e_V 130 0 0 [Iv (dripM κ2 (s).toNat)] [Iv (κ2 40 5), Rf 40] dX10_pass_127 cvX10_190 mwX10_take kd_40 (by decide) rfl (Nat.le_of_ble_eq_true rfl) rfl rfl rfl (c_X10_take (by omega) hL2) ?_
        refine g_goto 134 dX10_pass_130 (by decide) ?_
        refine g_iadd 135 dX10_pass_134 rfl ?_
        refine r_putIw 138 dX10_pass_135 fpX10_209 (fun h => (nomatch h)) kd_40 ly_40_5 rfl ?_
        refine g_iinc (L' := [some (Rf 40), some (Iv (κ 40 0 % 168)), a2, some (Iv (s + 1)), a4]) 141 dX10_pass_138 rfl rfl (by decide) rfl ?_
        refine g_goto 99 dX10_pass_141 (by decide) ?_
        have es := leakS_ok hI2 hL2 (κ 40 0 % 168) (s := s.toNat) (by omega)
        have ek : (st2 (st2 κ2 40 48 (κ2 40 48 - min (dripM κ2 (s).toNat) (κ2 40 48))) 40 5 (bm ((κ2 40 5) + (min (dripM κ2 (s).toNat) (κ2 40 48))))) = leakS κ2 (κ 40 0 % 168) s.toNat := by unfold leakS; rw [show ((s.toNat : Nat) : Int) = s by omega, if_pos ((openB_iff jS (by omega) (by omega)).mpr ho)] <;> rfl
        have q := ih (m - 1) (by omega) (s + 1) _ es.1 es.2.1 (hS2.tr es.2.2) (by omega) (by omega) (by rw [show (s + 1).toNat = s.toNat + 1 by omega]; unfold leakM; rw [← hk]) a2 a4
        rw [← ek] at q
        exact q
      have ho := h104
      refine g_if_eq 133 121 dX10_pass_118 (by decide) (by decide) rfl (fun _ => ?_) (fun z => absurd z (by decide))
      refine g_iconst 134 dX10_pass_133 (by decide) rfl ?_
      refine g_iadd 135 dX10_pass_134 rfl ?_
      refine r_putIw 138 dX10_pass_135 fpX10_209 (fun h => (nomatch h)) kd_40 ly_40_5 rfl ?_
      refine g_iinc (L' := [some (Rf 40), some (Iv (κ 40 0 % 168)), a2, some (Iv (s + 1)), a4]) 141 dX10_pass_138 rfl rfl (by decide) rfl ?_
      refine g_goto 99 dX10_pass_141 (by decide) ?_
      have es := leakS_ok hI2 hL2 (κ 40 0 % 168) (s := s.toNat) (by omega)
      have ek : (st2 κ2 40 5 (bm ((κ2 40 5) + 0))) = leakS κ2 (κ 40 0 % 168) s.toNat := by unfold leakS; rw [show ((s.toNat : Nat) : Int) = s by omega, if_neg (fun z => ho ((openB_iff jS (by omega) (by omega)).mp z))] <;> rfl
      have q := ih (m - 1) (by omega) (s + 1) _ es.1 es.2.1 (hS2.tr es.2.2) (by omega) (by omega) (by rw [show (s + 1).toNat = s.toNat + 1 by omega]; unfold leakM; rw [← hk]) a2 a4
      rw [← ek] at q
      exact q
  have sg0 : ∀ (a3 a4 : Option Av), someM κ (κ 40 0 % 168) (κ 40 11).toNat = false → G (XR B n0) mX10_pass 5 (Ex none V (passM κ)) V 0 0 46 [some (Rf 40), some (Iv (κ 40 0 % 168)), some (Iv 0), a3, a4] [] V κ := by
    intro a3 a4 hs
    refine g_aload_n 47 dX10_pass_46 rfl rfl ?_
    refine g_iconst 48 dX10_pass_47 (by decide) rfl ?_
    refine g_putI 51 dX10_pass_48 fpX10_184 (fun h => (nomatch h)) kd_40 ly_40_48 (by omega) rfl ?_
    refine g_iload_n 52 dX10_pass_51 rfl rfl ?_
    refine g_if_eq 97 55 dX10_pass_52 (by decide) (by decide) rfl (fun _ => ?_) (fun z => absurd z (by decide))
    refine g_iconst 98 dX10_pass_97 (by decide) rfl ?_
    refine g_istore_n (L' := [some (Rf 40), some (Iv (κ 40 0 % 168)), some (Iv 0), some (Iv 0), a4]) 99 dX10_pass_98 rfl (by decide) rfl ?_
    have ek : (st2 κ 40 48 0) = passA κ := by unfold passA pumpM; rw [if_neg (fun z => by rw [hs] at z; exact absurd z.1 (by decide))]
    have pa := passA_ok hI
    have q := lpB (κ 40 11).toNat 0 _ pa.1 pa.2.1 pa.2.2 (by omega) (by omega) rfl (some (Iv 0)) a4
    rw [← ek] at q
    exact q
  have sg1 : ∀ (a3 a4 : Option Av), someM κ (κ 40 0 % 168) (κ 40 11).toNat = true → G (XR B n0) mX10_pass 5 (Ex none V (passM κ)) V 0 0 46 [some (Rf 40), some (Iv (κ 40 0 % 168)), some (Iv 1), a3, a4] [] V κ := by
    intro a3 a4 hs
    refine g_aload_n 47 dX10_pass_46 rfl rfl ?_
    refine g_iconst 48 dX10_pass_47 (by decide) rfl ?_
    refine g_putI 51 dX10_pass_48 fpX10_184 (fun h => (nomatch h)) kd_40 ly_40_48 (by omega) rfl ?_
    refine g_iload_n 52 dX10_pass_51 rfl rfl ?_
    refine g_if_eq 97 55 dX10_pass_52 (by decide) (by decide) rfl (fun z => absurd z (by decide)) (fun _ => ?_)
    refine g_aload_n 56 dX10_pass_55 rfl rfl ?_
    refine r_getI 59 (κ 40 4) dX10_pass_56 fgX10_153 kd_40 ly_40_4 rfl (rd_j (by decide) (rfl)) (fun r151 => ?_)
    refine g_aload_n 60 dX10_pass_59 rfl rfl ?_
    refine r_getI 63 (κ 40 2) dX10_pass_60 fgX10_13 kd_40 ly_40_2 rfl (rd_j (by decide) (rfl)) (fun r152 => ?_)
    refine g_icmp_lt 97 66 dX10_pass_63 (by first | assumption | omega) (by first | assumption | omega) (by decide) rfl (fun h153 => ?_) (fun h153 => ?_)
    · refine g_iconst 98 dX10_pass_97 (by decide) rfl ?_
      refine g_istore_n (L' := [some (Rf 40), some (Iv (κ 40 0 % 168)), some (Iv 1), some (Iv 0), a4]) 99 dX10_pass_98 rfl (by decide) rfl ?_
      have ek : (st2 κ 40 48 0) = passA κ := by unfold passA pumpM; rw [if_neg (fun z => absurd z.2 (by omega))]
      have pa := passA_ok hI
      have q := lpB (κ 40 11).toNat 0 _ pa.1 pa.2.1 pa.2.2 (by omega) (by omega) rfl (some (Iv 1)) a4
      rw [← ek] at q
      exact q
    refine g_aload_n 67 dX10_pass_66 rfl rfl ?_
    refine g_dup 68 dX10_pass_67 rfl ?_
    refine r_getI 71 (κ 40 4) dX10_pass_68 fgX10_153 kd_40 ly_40_4 rfl (rd_j (by decide) (rfl)) (fun r154 => ?_)
    refine g_aload_n 72 dX10_pass_71 rfl rfl ?_
    refine r_getI 75 (κ 40 2) dX10_pass_72 fgX10_13 kd_40 ly_40_2 rfl (rd_j (by decide) (rfl)) (fun r155 => ?_)
    refine g_isub 76 dX10_pass_75 rfl ?_
    refine g_putI 79 dX10_pass_76 fpX10_153 (fun h => (nomatch h)) kd_40 ly_40_4 (by omega) rfl ?_
    refine g_aload_n 80 dX10_pass_79 rfl rfl ?_
    refine g_aload_n 81 dX10_pass_80 rfl rfl ?_
    refine r_getI 84 (κ 40 1) dX10_pass_81 fgX10_7 kd_40 ly_40_1 rfl (rd_j (by decide) (rd_j (by decide) (rfl))) (fun r156 => ?_)
    refine g_putI 87 dX10_pass_84 fpX10_184 (fun h => (nomatch h)) kd_40 ly_40_48 (by omega) rfl ?_
    refine g_aload_n 88 dX10_pass_87 rfl rfl ?_
    refine g_dup 89 dX10_pass_88 rfl ?_
    refine r_getI 92 (κ 40 9) dX10_pass_89 fgX10_206 kd_40 ly_40_9 rfl (rd_j (by decide) (rd_j (by decide) (rd_j (by decide) (rfl)))) (fun r157 => ?_)
    refine g_iconst 93 dX10_pass_92 (by decide) rfl ?_
    refine g_iadd 94 dX10_pass_93 rfl ?_
    refine r_putIw 97 dX10_pass_94 fpX10_206 (fun h => (nomatch h)) kd_40 ly_40_9 rfl ?_
    refine g_iconst 98 dX10_pass_97 (by decide) rfl ?_
    refine g_istore_n (L' := [some (Rf 40), some (Iv (κ 40 0 % 168)), some (Iv 1), some (Iv 0), a4]) 99 dX10_pass_98 rfl (by decide) rfl ?_
    have ek : (st2 (st2 (st2 (st2 κ 40 48 0) 40 4 ((κ 40 4) - (κ 40 2))) 40 48 (κ 40 1)) 40 9 (bm ((κ 40 9) + 1))) = passA κ := by unfold passA pumpM; rw [if_pos ⟨hs, by omega⟩]
    have pa := passA_ok hI
    have q := lpB (κ 40 11).toNat 0 _ pa.1 pa.2.1 pa.2.2 (by omega) (by omega) rfl (some (Iv 1)) a4
    rw [← ek] at q
    exact q
  have lpA1 : ∀ (m : Nat) (s : Int) (a4 : Option Av), 0 ≤ s ∧ s ≤ κ 40 11 → (m : Int) = κ 40 11 - s → someM κ (κ 40 0 % 168) s.toNat = true → G (XR B n0) mX10_pass 5 (Ex none V (passM κ)) V 0 0 13 [some (Rf 40), some (Iv (κ 40 0 % 168)), some (Iv 1), some (Iv s), a4] [] V κ := by
    intro m
    induction m using Nat.strongRecOn with
    | ind m ih =>
      intro s a4 hs hm ho
      refine g_iload_n 14 dX10_pass_13 rfl rfl ?_
      refine g_aload_n 15 dX10_pass_14 rfl rfl ?_
      refine r_getI 18 (κ 40 11) dX10_pass_15 fgX10_135 kd_40 ly_40_11 rfl (rfl) (fun r101 => ?_)
      refine g_icmp_ge 46 21 dX10_pass_18 (by first | assumption | omega) (by first | assumption | omega) (by decide) rfl (fun h102 => ?_) (fun h102 => ?_)
      · have es : s = κ 40 11 := by omega
        subst es
        exact sg1 _ a4 ho
      refine g_iload_n 22 dX10_pass_21 rfl rfl ?_
      refine g_if_ne 34 25 dX10_pass_22 (by decide) (by decide) rfl (fun _ => ?_) (fun z => absurd z (by decide))
      refine g_iconst 35 dX10_pass_34 (by decide) rfl ?_
      refine g_goto 39 dX10_pass_35 (by decide) ?_
      refine g_istore_n (L' := [some (Rf 40), some (Iv (κ 40 0 % 168)), some (Iv 1), some (Iv s), a4]) 40 dX10_pass_39 rfl (by decide) rfl ?_
      refine g_iinc (L' := [some (Rf 40), some (Iv (κ 40 0 % 168)), some (Iv 1), some (Iv (s + 1)), a4]) 43 dX10_pass_40 rfl rfl (by decide) rfl ?_
      refine g_goto 13 dX10_pass_43 (by decide) ?_
      exact ih (m - 1) (by omega) (s + 1) a4 (by omega) (by omega) (by rw [show (s + 1).toNat = s.toNat + 1 by omega]; unfold someM; rw [ho]; rfl)
  have lpA0 : ∀ (m : Nat) (s : Int) (a4 : Option Av), 0 ≤ s ∧ s ≤ κ 40 11 → (m : Int) = κ 40 11 - s → someM κ (κ 40 0 % 168) s.toNat = false → G (XR B n0) mX10_pass 5 (Ex none V (passM κ)) V 0 0 13 [some (Rf 40), some (Iv (κ 40 0 % 168)), some (Iv 0), some (Iv s), a4] [] V κ := by
    intro m
    induction m using Nat.strongRecOn with
    | ind m ih =>
      intro s a4 hs hm ho
      refine g_iload_n 14 dX10_pass_13 rfl rfl ?_
      refine g_aload_n 15 dX10_pass_14 rfl rfl ?_
      refine r_getI 18 (κ 40 11) dX10_pass_15 fgX10_135 kd_40 ly_40_11 rfl (rfl) (fun r101 => ?_)
      refine g_icmp_ge 46 21 dX10_pass_18 (by first | assumption | omega) (by first | assumption | omega) (by decide) rfl (fun h102 => ?_) (fun h102 => ?_)
      · have es : s = κ 40 11 := by omega
        subst es
        exact sg0 _ a4 ho
      refine g_iload_n 22 dX10_pass_21 rfl rfl ?_
      refine g_if_ne 34 25 dX10_pass_22 (by decide) (by decide) rfl (fun z => absurd z (by decide)) (fun _ => ?_)
      refine g_aload_n 26 dX10_pass_25 rfl rfl ?_
      refine g_iload_n 27 dX10_pass_26 rfl rfl ?_
      refine g_iload_n 28 dX10_pass_27 rfl rfl ?_
      refine o_V 31 0 0 [Iv s, Iv (κ 40 0 % 168)] [] dX10_pass_28 cvX10_171 mwX10_isOpen kd_40 (by decide) rfl (Nat.le_of_ble_eq_true rfl) rfl rfl rfl (c_X10_isOpen (by omega) (by omega) hI) (fun h103 => ?_) (fun h103 => ?_)
      · have hop := h103
        refine g_if_eq 38 34 dX10_pass_31 (by decide) (by decide) rfl (fun z => absurd z (by decide)) (fun _ => ?_)
        refine g_iconst 35 dX10_pass_34 (by decide) rfl ?_
        refine g_goto 39 dX10_pass_35 (by decide) ?_
        refine g_istore_n (L' := [some (Rf 40), some (Iv (κ 40 0 % 168)), some (Iv 1), some (Iv s), a4]) 40 dX10_pass_39 rfl (by decide) rfl ?_
        refine g_iinc (L' := [some (Rf 40), some (Iv (κ 40 0 % 168)), some (Iv 1), some (Iv (s + 1)), a4]) 43 dX10_pass_40 rfl rfl (by decide) rfl ?_
        refine g_goto 13 dX10_pass_43 (by decide) ?_
        exact lpA1 (m - 1) (s + 1) a4 (by omega) (by omega) (by rw [show (s + 1).toNat = s.toNat + 1 by omega]; unfold someM; rw [show ((s.toNat : Nat) : Int) = s by omega, (openB_iff iS (by omega) (by omega)).mpr hop, Bool.or_true])
      have hop := h103
      refine g_if_eq 38 34 dX10_pass_31 (by decide) (by decide) rfl (fun _ => ?_) (fun z => absurd z (by decide))
      refine g_iconst 39 dX10_pass_38 (by decide) rfl ?_
      refine g_istore_n (L' := [some (Rf 40), some (Iv (κ 40 0 % 168)), some (Iv 0), some (Iv s), a4]) 40 dX10_pass_39 rfl (by decide) rfl ?_
      refine g_iinc (L' := [some (Rf 40), some (Iv (κ 40 0 % 168)), some (Iv 0), some (Iv (s + 1)), a4]) 43 dX10_pass_40 rfl rfl (by decide) rfl ?_
      refine g_goto 13 dX10_pass_43 (by decide) ?_
      exact ih (m - 1) (by omega) (s + 1) a4 (by omega) (by omega) (by rw [show (s + 1).toNat = s.toNat + 1 by omega]; unfold someM; rw [show ((s.toNat : Nat) : Int) = s by omega, ho, Bool.false_or]; exact Bool.eq_false_iff.mpr (fun z => hop ((openB_iff iS (by omega) (by omega)).mp z)))
  refine g_aload_n 1 dX10_pass_0 rfl rfl ?_
  refine r_getI 4 (κ 40 0) dX10_pass_1 fgX10_149 kd_40 ly_40_0 rfl (rfl) (fun r1 => ?_)
  refine g_sipush 7 dX10_pass_4 (by decide) rfl ?_
  refine g_irem 8 dX10_pass_7 (by omega) (by omega) rfl ?_
  refine g_istore_n (L' := [some (Rf 40), some (Iv ((κ 40 0) % 168)), none, none, none]) 9 dX10_pass_8 rfl (by decide) rfl ?_
  refine g_iconst 10 dX10_pass_9 (by decide) rfl ?_
  refine g_istore_n (L' := [some (Rf 40), some (Iv ((κ 40 0) % 168)), some (Iv 0), none, none]) 11 dX10_pass_10 rfl (by decide) rfl ?_
  refine g_iconst 12 dX10_pass_11 (by decide) rfl ?_
  refine g_istore_n (L' := [some (Rf 40), some (Iv ((κ 40 0) % 168)), some (Iv 0), some (Iv 0), none]) 13 dX10_pass_12 rfl (by decide) rfl ?_
  exact lpA0 (κ 40 11).toNat 0 none (by omega) (by omega) rfl
set_option maxHeartbeats 4000000 in
set_option maxRecDepth 20000 in
theorem c_X10_hours {B : Bs} {n0 : Nat} {V : Vs} {κ : Ks} {n : Int} (r_n : inR n) (hI : MI κ) : Ct (XR B n0) mX10_hours 6 0 0 [Rf 40, Iv n] V κ (PM (M_hours κ n) V) := by
  obtain ⟨⟨i0, i1, i2, i3, i4, i5, i6, i7, i8, i9⟩, iS, iH, iR, iT, iC, iG, iL, iZ⟩ := id hI
  refine Ct.of (L := [some (Rf 40), some (Iv n), none]) 1 (by decide +kernel) rfl rfl ?_
  have lp : ∀ (m : Nat) (k : Int) (κ2 : Ks), MI κ2 → 0 ≤ k ∧ k ≤ n → 1 ≤ n ∧ n ≤ 5000 - κ 40 0 → (m : Int) = n - k → κ2 40 0 = κ 40 0 + k → κ2 = passN κ k.toNat → G (XR B n0) mX10_hours 6 (PM (M_hours κ n) V) V 0 0 33 [some (Rf 40), some (Iv n), some (Iv k)] [] V κ2 := by
    intro m
    induction m using Nat.strongRecOn with
    | ind m ih =>
      intro k κ2 hI2 hkk hn hm h0 hk
      refine g_iload_n 34 dX10_hours_33 rfl rfl ?_
      refine g_iload_n 35 dX10_hours_34 rfl rfl ?_
      refine g_icmp_ge 48 38 dX10_hours_35 (by first | assumption | omega) (by first | assumption | omega) (by decide) rfl (fun h101 => ?_) (fun h101 => ?_)
      · refine g_aload_n 49 dX10_hours_48 rfl rfl ?_
        refine r_getI 52 (κ2 40 0) dX10_hours_49 fgX10_149 kd_40 ly_40_0 rfl (rfl) (fun r102 => ?_)
        refine g_iret dX10_hours_52 rfl ?_
        have ek : k = n := by omega
        subst ek
        unfold M_hours
        rw [if_neg (by omega), if_neg (by omega)]
        exact ⟨congrArg (fun x => some (Iv x)) h0, rfl, hk⟩
      refine g_aload_n 39 dX10_hours_38 rfl rfl ?_
      refine v_V 42 0 0 [] [] dX10_hours_39 cvX10_224 mwX10_pass kd_40 (by decide) rfl (Nat.le_of_ble_eq_true rfl) rfl rfl rfl (c_X10_pass hI2) ?_
      refine g_iinc (L' := [some (Rf 40), some (Iv n), some (Iv (k + 1))]) 45 dX10_hours_42 rfl rfl (by decide) rfl ?_
      refine g_goto 33 dX10_hours_45 (by decide) ?_
      have pm := passM_ok hI2 (by omega)
      exact ih (m - 1) (by omega) (k + 1) _ pm.1 (by omega) hn (by omega) (by rw [pm.2]; omega) (by rw [show (k + 1).toNat = k.toNat + 1 by omega, hk]; rfl)
  refine g_iload_n 1 dX10_hours_0 rfl rfl ?_
  refine g_iconst 2 dX10_hours_1 (by decide) rfl ?_
  refine g_icmp_ge 12 5 dX10_hours_2 (by first | assumption | omega) (by decide) (by decide) rfl (fun h1 => ?_) (fun h1 => ?_)
  · refine g_iload_n 13 dX10_hours_12 rfl rfl ?_
    refine g_sipush 16 dX10_hours_13 (by decide) rfl ?_
    refine g_aload_n 17 dX10_hours_16 rfl rfl ?_
    refine r_getI 20 (κ 40 0) dX10_hours_17 fgX10_149 kd_40 ly_40_0 rfl (rfl) (fun r2 => ?_)
    refine g_isub 21 dX10_hours_20 rfl ?_
    refine g_icmp_le 31 24 dX10_hours_21 (by first | assumption | omega) (by first | assumption | omega) (by decide) rfl (fun h3 => ?_) (fun h3 => ?_)
    · refine g_iconst 32 dX10_hours_31 (by decide) rfl ?_
      refine g_istore_n (L' := [some (Rf 40), some (Iv n), some (Iv 0)]) 33 dX10_hours_32 rfl (by decide) rfl ?_
      exact lp n.toNat 0 κ hI (by omega) (by omega) (by omega) (by omega) rfl
    refine g_aload_n 25 dX10_hours_24 rfl rfl ?_
    refine g_bipush 27 dX10_hours_25 (by decide) rfl ?_
    refine e_V 30 0 0 [Iv (-6)] [] dX10_hours_27 cvX10_145 mwX10_refuse kd_40 (by decide) rfl (Nat.le_of_ble_eq_true rfl) rfl rfl rfl (c_X10_refuse 6 (by decide) (by decide)) ?_
    refine g_iret dX10_hours_30 rfl ?_
    unfold M_hours
    (repeat' split) <;> first | (exfalso; omega) | exact ⟨rfl, rfl, rfl⟩ | exact ⟨congrArg (fun x => some (Iv x)) (by omega), rfl, rfl⟩
  refine g_aload_n 6 dX10_hours_5 rfl rfl ?_
  refine g_bipush 8 dX10_hours_6 (by decide) rfl ?_
  refine e_V 11 0 0 [Iv (-4)] [] dX10_hours_8 cvX10_145 mwX10_refuse kd_40 (by decide) rfl (Nat.le_of_ble_eq_true rfl) rfl rfl rfl (c_X10_refuse 4 (by decide) (by decide)) ?_
  refine g_iret dX10_hours_11 rfl ?_
  unfold M_hours
  (repeat' split) <;> first | (exfalso; omega) | exact ⟨rfl, rfl, rfl⟩ | exact ⟨congrArg (fun x => some (Iv x)) (by omega), rfl, rfl⟩
set_option maxHeartbeats 4000000 in
set_option maxRecDepth 20000 in
theorem c_X10_houseOf {B : Bs} {n0 : Nat} {V : Vs} {κ : Ks} {h w : Int} (r_h : inR h) (r_w : inR w) (hI : MI κ) : Ct (XR B n0) mX10_houseOf 3 0 0 [Rf 40, Iv h, Iv w] V κ (PM (M_houseOf κ h w) V) := by
  obtain ⟨⟨i0, i1, i2, i3, i4, i5, i6, i7, i8, i9⟩, iS, iH, iR, iT, iC, iG, iL, iZ⟩ := id hI
  refine Ct.of (L := [some (Rf 40), some (Iv h), some (Iv w)]) 0 (by decide +kernel) rfl rfl ?_
  refine g_aload_n 1 dX10_houseOf_0 rfl rfl ?_
  refine g_iload_n 2 dX10_houseOf_1 rfl rfl ?_
  refine o_V 5 0 0 [Iv h] [] dX10_houseOf_2 cvX10_160 mwX10_isHouse kd_40 (by decide) rfl (Nat.le_of_ble_eq_true rfl) rfl rfl rfl (c_X10_isHouse (by omega) hI) (fun h1 => ?_) (fun h1 => ?_)
  · refine g_if_ne 14 8 dX10_houseOf_5 (by decide) (by decide) rfl (fun _ => ?_) (fun z => absurd z (by decide))
    refine g_iload_n 15 dX10_houseOf_14 rfl rfl ?_
    by_cases h2 : w = 0
    · refine g_tabIn 44 29 dX10_houseOf_15 (by omega) (by omega) (by omega) (by rw [h2]; rfl) (by decide) ?_
      refine g_aload_n 45 dX10_houseOf_44 rfl rfl ?_
      refine g_getC 48 dX10_houseOf_45 fgX10_63 kd_40 ly_40_27 rfl ?_
      refine g_iload_n 49 dX10_houseOf_48 rfl rfl ?_
      refine r_iald 50 ((h).toNat) (κ 68 ((h).toNat)) dX10_houseOf_49 kd_68 (by decide) (by omega) (rfl) rfl (rfl) (fun r3 => ?_)
      refine g_iret dX10_houseOf_50 rfl ?_
      unfold M_houseOf
      (repeat' split) <;> first | (exfalso; omega) | exact ⟨rfl, rfl, rfl⟩ | exact ⟨congrArg (fun x => some (Iv x)) (by omega), rfl, rfl⟩
    by_cases h4 : w = 1
    · refine g_tabIn 51 36 dX10_houseOf_15 (by omega) (by omega) (by omega) (by rw [h4]; rfl) (by decide) ?_
      refine g_aload_n 52 dX10_houseOf_51 rfl rfl ?_
      refine g_getC 55 dX10_houseOf_52 fgX10_66 kd_40 ly_40_28 rfl ?_
      refine g_iload_n 56 dX10_houseOf_55 rfl rfl ?_
      refine r_iald 57 ((h).toNat) (κ 69 ((h).toNat)) dX10_houseOf_56 kd_69 (by decide) (by omega) (rfl) rfl (rfl) (fun r5 => ?_)
      refine g_iret dX10_houseOf_57 rfl ?_
      unfold M_houseOf
      (repeat' split) <;> first | (exfalso; omega) | exact ⟨rfl, rfl, rfl⟩ | exact ⟨congrArg (fun x => some (Iv x)) (by omega), rfl, rfl⟩
    by_cases h6 : w = 2
    · refine g_tabIn 58 43 dX10_houseOf_15 (by omega) (by omega) (by omega) (by rw [h6]; rfl) (by decide) ?_
      refine g_aload_n 59 dX10_houseOf_58 rfl rfl ?_
      refine g_iload_n 60 dX10_houseOf_59 rfl rfl ?_
      refine e_V 63 0 0 [Iv h] [] dX10_houseOf_60 cvX10_221 mwX10_useOf kd_40 (by decide) rfl (Nat.le_of_ble_eq_true rfl) rfl rfl rfl (c_X10_useOf (by omega) hI) ?_
      refine g_iret dX10_houseOf_63 rfl ?_
      unfold M_houseOf
      (repeat' split) <;> first | (exfalso; omega) | exact ⟨rfl, rfl, rfl⟩ | exact ⟨congrArg (fun x => some (Iv x)) (by omega), rfl, rfl⟩
    by_cases h7 : w = 3
    · refine g_tabIn 64 49 dX10_houseOf_15 (by omega) (by omega) (by omega) (by rw [h7]; rfl) (by decide) ?_
      refine g_aload_n 65 dX10_houseOf_64 rfl rfl ?_
      refine g_getC 68 dX10_houseOf_65 fgX10_45 kd_40 ly_40_21 rfl ?_
      refine g_iload_n 69 dX10_houseOf_68 rfl rfl ?_
      refine r_iald 70 ((h).toNat) (κ 62 ((h).toNat)) dX10_houseOf_69 kd_62 (by decide) (by omega) (rfl) rfl (rfl) (fun r8 => ?_)
      refine g_iret dX10_houseOf_70 rfl ?_
      unfold M_houseOf
      (repeat' split) <;> first | (exfalso; omega) | exact ⟨rfl, rfl, rfl⟩ | exact ⟨congrArg (fun x => some (Iv x)) (by omega), rfl, rfl⟩
    refine g_tabOut 71 dX10_houseOf_15 (by omega) (by omega) (by decide) ?_
    refine g_aload_n 72 dX10_houseOf_71 rfl rfl ?_
    refine g_bipush 74 dX10_houseOf_72 (by decide) rfl ?_
    refine e_V 77 0 0 [Iv (-2)] [] dX10_houseOf_74 cvX10_145 mwX10_refuse kd_40 (by decide) rfl (Nat.le_of_ble_eq_true rfl) rfl rfl rfl (c_X10_refuse 2 (by decide) (by decide)) ?_
    refine g_iret dX10_houseOf_77 rfl ?_
    unfold M_houseOf
    (repeat' split) <;> first | (exfalso; omega) | exact ⟨rfl, rfl, rfl⟩ | exact ⟨congrArg (fun x => some (Iv x)) (by omega), rfl, rfl⟩
  refine g_if_ne 14 8 dX10_houseOf_5 (by decide) (by decide) rfl (fun z => absurd z (by decide)) (fun _ => ?_)
  refine g_aload_n 9 dX10_houseOf_8 rfl rfl ?_
  refine g_iconst 10 dX10_houseOf_9 (by decide) rfl ?_
  refine e_V 13 0 0 [Iv (-1)] [] dX10_houseOf_10 cvX10_145 mwX10_refuse kd_40 (by decide) rfl (Nat.le_of_ble_eq_true rfl) rfl rfl rfl (c_X10_refuse 1 (by decide) (by decide)) ?_
  refine g_iret dX10_houseOf_13 rfl ?_
  unfold M_houseOf
  (repeat' split) <;> first | (exfalso; omega) | exact ⟨rfl, rfl, rfl⟩ | exact ⟨congrArg (fun x => some (Iv x)) (by omega), rfl, rfl⟩
set_option maxHeartbeats 4000000 in
set_option maxRecDepth 20000 in
theorem c_X10_needOf {B : Bs} {n0 : Nat} {V : Vs} {κ : Ks} {s : Int} (h_s : 0 ≤ s ∧ s < κ 40 11) (hI : MI κ) : Ct (XR B n0) mX10_needOf 1 0 0 [Rf 40, Iv s] V κ (Ex (some (Iv (needM κ s.toNat))) V κ) := by
  obtain ⟨⟨i0, i1, i2, i3, i4, i5, i6, i7, i8, i9⟩, iS, iH, iR, iT, iC, iG, iL, iZ⟩ := id hI
  have is := iS s.toNat (by omega)
  refine Ct.of (L := [some (Rf 40), some (Iv s), none, none]) 2 (by decide +kernel) rfl rfl ?_
  have lp : ∀ (m : Nat) (n h : Int), 0 ≤ h ∧ h ≤ κ 40 20 → (m : Int) = κ 40 20 - h → n = (if κ 57 s.toNat = 2 then κ 58 s.toNat - κ 59 s.toNat else 0) + ndH κ s.toNat h.toNat → G (XR B n0) mX10_needOf 1 (Ex (some (Iv (needM κ s.toNat))) V κ) V 0 0 30 [some (Rf 40), some (Iv s), some (Iv n), some (Iv h)] [] V κ := by
    intro m
    induction m using Nat.strongRecOn with
    | ind m ih =>
      intro n h hh hm hn
      refine g_iload_n 31 dX10_needOf_30 rfl rfl ?_
      refine g_aload_n 32 dX10_needOf_31 rfl rfl ?_
      refine r_getI 35 (κ 40 20) dX10_needOf_32 fgX10_142 kd_40 ly_40_20 rfl (rfl) (fun r101 => ?_)
      refine g_icmp_ge 74 38 dX10_needOf_35 (by first | assumption | omega) (by first | assumption | omega) (by decide) rfl (fun h102 => ?_) (fun h102 => ?_)
      · refine g_iload_n 75 dX10_needOf_74 rfl rfl ?_
        refine g_iret dX10_needOf_75 rfl ?_
        have eh : h = κ 40 20 := by omega
        subst eh
        exact ⟨congrArg (fun x => some (Iv x)) hn, rfl, rfl⟩
      refine g_iload_n 39 dX10_needOf_38 rfl rfl ?_
      refine g_aload_n 40 dX10_needOf_39 rfl rfl ?_
      refine g_getC 43 dX10_needOf_40 fgX10_45 kd_40 ly_40_21 rfl ?_
      refine g_iload_n 44 dX10_needOf_43 rfl rfl ?_
      have jh := iH h.toNat (by omega)
      refine r_iald 45 ((h).toNat) (κ 62 ((h).toNat)) dX10_needOf_44 kd_62 (by decide) (by omega) (rfl) rfl (rfl) (fun r103 => ?_)
      refine g_iload_n 46 dX10_needOf_45 rfl rfl ?_
      refine g_icmp_ne 65 49 dX10_needOf_46 (by first | assumption | omega) (by first | assumption | omega) (by decide) rfl (fun h104 => ?_) (fun h104 => ?_)
      · refine g_iconst 66 dX10_needOf_65 (by decide) rfl ?_
        refine g_iadd 67 dX10_needOf_66 rfl ?_
        refine g_istore_n (L' := [some (Rf 40), some (Iv s), some (Iv (n + 0)), some (Iv h)]) 68 dX10_needOf_67 rfl (by decide) rfl ?_
        refine g_iinc (L' := [some (Rf 40), some (Iv s), some (Iv (n + 0)), some (Iv (h + 1))]) 71 dX10_needOf_68 rfl rfl (by decide) rfl ?_
        refine g_goto 30 dX10_needOf_71 (by decide) ?_
        refine ih (m - 1) (by omega) _ (h + 1) (by omega) (by omega) ?_
        rw [show (h + 1).toNat = h.toNat + 1 by omega]
        have es : ndH κ s.toNat (h.toNat + 1) = ndH κ s.toNat h.toNat + (if κ 62 h.toNat = s.toNat then κ 63 h.toNat - κ 68 h.toNat else 0) := rfl
        rw [es, hn]
        first | (rw [if_pos (show κ 62 h.toNat = (s.toNat : Int) by omega)]; omega) | (rw [if_neg (show ¬ κ 62 h.toNat = (s.toNat : Int) by omega)]; omega)
      refine g_aload_n 50 dX10_needOf_49 rfl rfl ?_
      refine g_getC 53 dX10_needOf_50 fgX10_48 kd_40 ly_40_22 rfl ?_
      refine g_iload_n 54 dX10_needOf_53 rfl rfl ?_
      refine r_iald 55 ((h).toNat) (κ 63 ((h).toNat)) dX10_needOf_54 kd_63 (by decide) (by omega) (rfl) rfl (rfl) (fun r105 => ?_)
      refine g_aload_n 56 dX10_needOf_55 rfl rfl ?_
      refine g_getC 59 dX10_needOf_56 fgX10_63 kd_40 ly_40_27 rfl ?_
      refine g_iload_n 60 dX10_needOf_59 rfl rfl ?_
      refine r_iald 61 ((h).toNat) (κ 68 ((h).toNat)) dX10_needOf_60 kd_68 (by decide) (by omega) (rfl) rfl (rfl) (fun r106 => ?_)
      refine g_isub 62 dX10_needOf_61 rfl ?_
      refine g_goto 66 dX10_needOf_62 (by decide) ?_
      refine g_iadd 67 dX10_needOf_66 rfl ?_
      refine g_istore_n (L' := [some (Rf 40), some (Iv s), some (Iv (n + ((κ 63 ((h).toNat)) - (κ 68 ((h).toNat))))), some (Iv h)]) 68 dX10_needOf_67 rfl (by decide) rfl ?_
      refine g_iinc (L' := [some (Rf 40), some (Iv s), some (Iv (n + ((κ 63 ((h).toNat)) - (κ 68 ((h).toNat))))), some (Iv (h + 1))]) 71 dX10_needOf_68 rfl rfl (by decide) rfl ?_
      refine g_goto 30 dX10_needOf_71 (by decide) ?_
      refine ih (m - 1) (by omega) _ (h + 1) (by omega) (by omega) ?_
      rw [show (h + 1).toNat = h.toNat + 1 by omega]
      have es : ndH κ s.toNat (h.toNat + 1) = ndH κ s.toNat h.toNat + (if κ 62 h.toNat = s.toNat then κ 63 h.toNat - κ 68 h.toNat else 0) := rfl
      rw [es, hn]
      first | (rw [if_pos (show κ 62 h.toNat = (s.toNat : Int) by omega)]; omega) | (rw [if_neg (show ¬ κ 62 h.toNat = (s.toNat : Int) by omega)]; omega)
  refine g_aload_n 1 dX10_needOf_0 rfl rfl ?_
  refine g_getC 4 dX10_needOf_1 fgX10_33 kd_40 ly_40_16 rfl ?_
  refine g_iload_n 5 dX10_needOf_4 rfl rfl ?_
  refine r_iald 6 ((s).toNat) (κ 57 ((s).toNat)) dX10_needOf_5 kd_57 (by decide) (by omega) (rfl) rfl (rfl) (fun r1 => ?_)
  refine g_iconst 7 dX10_needOf_6 (by decide) rfl ?_
  refine g_icmp_ne 26 10 dX10_needOf_7 (by first | assumption | omega) (by decide) (by decide) rfl (fun h2 => ?_) (fun h2 => ?_)
  · refine g_iconst 27 dX10_needOf_26 (by decide) rfl ?_
    refine g_istore_n (L' := [some (Rf 40), some (Iv s), some (Iv 0), none]) 28 dX10_needOf_27 rfl (by decide) rfl ?_
    refine g_iconst 29 dX10_needOf_28 (by decide) rfl ?_
    refine g_istore_n (L' := [some (Rf 40), some (Iv s), some (Iv 0), some (Iv 0)]) 30 dX10_needOf_29 rfl (by decide) rfl ?_
    exact lp (κ 40 20).toNat _ 0 (by omega) (by omega) (by first | (rw [if_pos (by omega)]; show _ = _ + 0; omega) | (rw [if_neg (by omega)]; rfl))
  refine g_aload_n 11 dX10_needOf_10 rfl rfl ?_
  refine g_getC 14 dX10_needOf_11 fgX10_36 kd_40 ly_40_17 rfl ?_
  refine g_iload_n 15 dX10_needOf_14 rfl rfl ?_
  refine r_iald 16 ((s).toNat) (κ 58 ((s).toNat)) dX10_needOf_15 kd_58 (by decide) (by omega) (rfl) rfl (rfl) (fun r3 => ?_)
  refine g_aload_n 17 dX10_needOf_16 rfl rfl ?_
  refine g_getC 20 dX10_needOf_17 fgX10_39 kd_40 ly_40_18 rfl ?_
  refine g_iload_n 21 dX10_needOf_20 rfl rfl ?_
  refine r_iald 22 ((s).toNat) (κ 59 ((s).toNat)) dX10_needOf_21 kd_59 (by decide) (by omega) (rfl) rfl (rfl) (fun r4 => ?_)
  refine g_isub 23 dX10_needOf_22 rfl ?_
  refine g_goto 27 dX10_needOf_23 (by decide) ?_
  refine g_istore_n (L' := [some (Rf 40), some (Iv s), some (Iv ((κ 58 ((s).toNat)) - (κ 59 ((s).toNat)))), none]) 28 dX10_needOf_27 rfl (by decide) rfl ?_
  refine g_iconst 29 dX10_needOf_28 (by decide) rfl ?_
  refine g_istore_n (L' := [some (Rf 40), some (Iv s), some (Iv ((κ 58 ((s).toNat)) - (κ 59 ((s).toNat)))), some (Iv 0)]) 30 dX10_needOf_29 rfl (by decide) rfl ?_
  exact lp (κ 40 20).toNat _ 0 (by omega) (by omega) (by first | (rw [if_pos (by omega)]; show _ = _ + 0; omega) | (rw [if_neg (by omega)]; rfl))
set_option maxHeartbeats 4000000 in
set_option maxRecDepth 20000 in
theorem c_X10_streetOf {B : Bs} {n0 : Nat} {V : Vs} {κ : Ks} {s w : Int} (r_s : inR s) (r_w : inR w) (hI : MI κ) : Ct (XR B n0) mX10_streetOf 3 0 0 [Rf 40, Iv s, Iv w] V κ (PM (M_streetOf κ s w) V) := by
  obtain ⟨⟨i0, i1, i2, i3, i4, i5, i6, i7, i8, i9⟩, iS, iH, iR, iT, iC, iG, iL, iZ⟩ := id hI
  refine Ct.of (L := [some (Rf 40), some (Iv s), some (Iv w)]) 0 (by decide +kernel) rfl rfl ?_
  refine g_aload_n 1 dX10_streetOf_0 rfl rfl ?_
  refine g_iload_n 2 dX10_streetOf_1 rfl rfl ?_
  refine o_V 5 0 0 [Iv s] [] dX10_streetOf_2 cvX10_156 mwX10_isStreet kd_40 (by decide) rfl (Nat.le_of_ble_eq_true rfl) rfl rfl rfl (c_X10_isStreet (by omega) hI) (fun h1 => ?_) (fun h1 => ?_)
  · refine g_if_ne 14 8 dX10_streetOf_5 (by decide) (by decide) rfl (fun _ => ?_) (fun z => absurd z (by decide))
    refine g_iload_n 15 dX10_streetOf_14 rfl rfl ?_
    by_cases h2 : w = 0
    · refine g_tabIn 56 41 dX10_streetOf_15 (by omega) (by omega) (by omega) (by rw [h2]; rfl) (by decide) ?_
      refine g_aload_n 57 dX10_streetOf_56 rfl rfl ?_
      refine g_getC 60 dX10_streetOf_57 fgX10_33 kd_40 ly_40_16 rfl ?_
      refine g_iload_n 61 dX10_streetOf_60 rfl rfl ?_
      refine r_iald 62 ((s).toNat) (κ 57 ((s).toNat)) dX10_streetOf_61 kd_57 (by decide) (by omega) (rfl) rfl (rfl) (fun r3 => ?_)
      refine g_iret dX10_streetOf_62 rfl ?_
      unfold M_streetOf
      (repeat' split) <;> first | (exfalso; omega) | exact ⟨rfl, rfl, rfl⟩ | exact ⟨congrArg (fun x => some (Iv x)) (by omega), rfl, rfl⟩
    by_cases h4 : w = 1
    · refine g_tabIn 63 48 dX10_streetOf_15 (by omega) (by omega) (by omega) (by rw [h4]; rfl) (by decide) ?_
      refine g_aload_n 64 dX10_streetOf_63 rfl rfl ?_
      refine g_getC 67 dX10_streetOf_64 fgX10_39 kd_40 ly_40_18 rfl ?_
      refine g_iload_n 68 dX10_streetOf_67 rfl rfl ?_
      refine r_iald 69 ((s).toNat) (κ 59 ((s).toNat)) dX10_streetOf_68 kd_59 (by decide) (by omega) (rfl) rfl (rfl) (fun r5 => ?_)
      refine g_iret dX10_streetOf_69 rfl ?_
      unfold M_streetOf
      (repeat' split) <;> first | (exfalso; omega) | exact ⟨rfl, rfl, rfl⟩ | exact ⟨congrArg (fun x => some (Iv x)) (by omega), rfl, rfl⟩
    by_cases h6 : w = 2
    · refine g_tabIn 70 55 dX10_streetOf_15 (by omega) (by omega) (by omega) (by rw [h6]; rfl) (by decide) ?_
      refine g_aload_n 71 dX10_streetOf_70 rfl rfl ?_
      refine g_iload_n 72 dX10_streetOf_71 rfl rfl ?_
      refine e_V 75 0 0 [Iv s] [] dX10_streetOf_72 cvX10_212 mwX10_dripOf kd_40 (by decide) rfl (Nat.le_of_ble_eq_true rfl) rfl rfl rfl (c_X10_dripOf (by omega) hI) ?_
      refine g_iret dX10_streetOf_75 rfl ?_
      unfold M_streetOf
      (repeat' split) <;> first | (exfalso; omega) | exact ⟨rfl, rfl, rfl⟩ | exact ⟨congrArg (fun x => some (Iv x)) (by omega), rfl, rfl⟩
    by_cases h7 : w = 3
    · refine g_tabIn 76 61 dX10_streetOf_15 (by omega) (by omega) (by omega) (by rw [h7]; rfl) (by decide) ?_
      refine g_aload_n 77 dX10_streetOf_76 rfl rfl ?_
      refine g_getC 80 dX10_streetOf_77 fgX10_29 kd_40 ly_40_15 rfl ?_
      refine g_iload_n 81 dX10_streetOf_80 rfl rfl ?_
      refine r_zald 82 ((s).toNat) (κ 56 ((s).toNat)) dX10_streetOf_81 kd_56 (by decide) (by omega) (rfl) rfl (rfl) (fun r8 => ?_)
      refine g_if_eq 89 85 dX10_streetOf_82 (by first | assumption | omega) (by decide) rfl (fun h9 => ?_) (fun h9 => ?_)
      · refine g_iconst 90 dX10_streetOf_89 (by decide) rfl ?_
        refine g_iret dX10_streetOf_90 rfl ?_
        unfold M_streetOf
        (repeat' split) <;> first | (exfalso; omega) | exact ⟨rfl, rfl, rfl⟩ | exact ⟨congrArg (fun x => some (Iv x)) (by omega), rfl, rfl⟩
      refine g_iconst 86 dX10_streetOf_85 (by decide) rfl ?_
      refine g_goto 90 dX10_streetOf_86 (by decide) ?_
      refine g_iret dX10_streetOf_90 rfl ?_
      unfold M_streetOf
      (repeat' split) <;> first | (exfalso; omega) | exact ⟨rfl, rfl, rfl⟩ | exact ⟨congrArg (fun x => some (Iv x)) (by omega), rfl, rfl⟩
    by_cases h10 : w = 4
    · refine g_tabIn 91 76 dX10_streetOf_15 (by omega) (by omega) (by omega) (by rw [h10]; rfl) (by decide) ?_
      refine g_aload_n 92 dX10_streetOf_91 rfl rfl ?_
      refine g_getC 95 dX10_streetOf_92 fgX10_19 kd_40 ly_40_12 rfl ?_
      refine g_iload_n 96 dX10_streetOf_95 rfl rfl ?_
      refine r_iald 97 ((s).toNat) (κ 53 ((s).toNat)) dX10_streetOf_96 kd_53 (by decide) (by omega) (rfl) rfl (rfl) (fun r11 => ?_)
      refine g_if_ge 105 100 dX10_streetOf_97 (by first | assumption | omega) (by decide) rfl (fun h12 => ?_) (fun h12 => ?_)
      · refine g_aload_n 106 dX10_streetOf_105 rfl rfl ?_
        refine g_getC 109 dX10_streetOf_106 fgX10_19 kd_40 ly_40_12 rfl ?_
        refine g_iload_n 110 dX10_streetOf_109 rfl rfl ?_
        refine r_iald 111 ((s).toNat) (κ 53 ((s).toNat)) dX10_streetOf_110 kd_53 (by decide) (by omega) (rfl) rfl (rfl) (fun r13 => ?_)
        refine g_iret dX10_streetOf_111 rfl ?_
        unfold M_streetOf
        (repeat' split) <;> first | (exfalso; omega) | exact ⟨rfl, rfl, rfl⟩ | exact ⟨congrArg (fun x => some (Iv x)) (by omega), rfl, rfl⟩
      refine g_bipush 102 dX10_streetOf_100 (by decide) rfl ?_
      refine g_goto 111 dX10_streetOf_102 (by decide) ?_
      refine g_iret dX10_streetOf_111 rfl ?_
      unfold M_streetOf
      (repeat' split) <;> first | (exfalso; omega) | exact ⟨rfl, rfl, rfl⟩ | exact ⟨congrArg (fun x => some (Iv x)) (by omega), rfl, rfl⟩
    by_cases h14 : w = 5
    · refine g_tabIn 112 97 dX10_streetOf_15 (by omega) (by omega) (by omega) (by rw [h14]; rfl) (by decide) ?_
      refine g_aload_n 113 dX10_streetOf_112 rfl rfl ?_
      refine g_getC 116 dX10_streetOf_113 fgX10_42 kd_40 ly_40_19 rfl ?_
      refine g_iload_n 117 dX10_streetOf_116 rfl rfl ?_
      refine r_zald 118 ((s).toNat) (κ 60 ((s).toNat)) dX10_streetOf_117 kd_60 (by decide) (by omega) (rfl) rfl (rfl) (fun r15 => ?_)
      refine g_if_eq 125 121 dX10_streetOf_118 (by first | assumption | omega) (by decide) rfl (fun h16 => ?_) (fun h16 => ?_)
      · refine g_iconst 126 dX10_streetOf_125 (by decide) rfl ?_
        refine g_iret dX10_streetOf_126 rfl ?_
        unfold M_streetOf
        (repeat' split) <;> first | (exfalso; omega) | exact ⟨rfl, rfl, rfl⟩ | exact ⟨congrArg (fun x => some (Iv x)) (by omega), rfl, rfl⟩
      refine g_iconst 122 dX10_streetOf_121 (by decide) rfl ?_
      refine g_goto 126 dX10_streetOf_122 (by decide) ?_
      refine g_iret dX10_streetOf_126 rfl ?_
      unfold M_streetOf
      (repeat' split) <;> first | (exfalso; omega) | exact ⟨rfl, rfl, rfl⟩ | exact ⟨congrArg (fun x => some (Iv x)) (by omega), rfl, rfl⟩
    by_cases h17 : w = 6
    · refine g_tabIn 127 112 dX10_streetOf_15 (by omega) (by omega) (by omega) (by rw [h17]; rfl) (by decide) ?_
      refine g_aload_n 128 dX10_streetOf_127 rfl rfl ?_
      refine g_iload_n 129 dX10_streetOf_128 rfl rfl ?_
      refine e_V 132 0 0 [Iv s] [] dX10_streetOf_129 cvX10_248 mwX10_needOf kd_40 (by decide) rfl (Nat.le_of_ble_eq_true rfl) rfl rfl rfl (c_X10_needOf (by omega) hI) ?_
      refine g_iret dX10_streetOf_132 rfl ?_
      unfold M_streetOf
      (repeat' split) <;> first | (exfalso; omega) | exact ⟨rfl, rfl, rfl⟩ | exact ⟨congrArg (fun x => some (Iv x)) (by omega), rfl, rfl⟩
    refine g_tabOut 133 dX10_streetOf_15 (by omega) (by omega) (by decide) ?_
    refine g_aload_n 134 dX10_streetOf_133 rfl rfl ?_
    refine g_bipush 136 dX10_streetOf_134 (by decide) rfl ?_
    refine e_V 139 0 0 [Iv (-2)] [] dX10_streetOf_136 cvX10_145 mwX10_refuse kd_40 (by decide) rfl (Nat.le_of_ble_eq_true rfl) rfl rfl rfl (c_X10_refuse 2 (by decide) (by decide)) ?_
    refine g_iret dX10_streetOf_139 rfl ?_
    unfold M_streetOf
    (repeat' split) <;> first | (exfalso; omega) | exact ⟨rfl, rfl, rfl⟩ | exact ⟨congrArg (fun x => some (Iv x)) (by omega), rfl, rfl⟩
  refine g_if_ne 14 8 dX10_streetOf_5 (by decide) (by decide) rfl (fun z => absurd z (by decide)) (fun _ => ?_)
  refine g_aload_n 9 dX10_streetOf_8 rfl rfl ?_
  refine g_iconst 10 dX10_streetOf_9 (by decide) rfl ?_
  refine e_V 13 0 0 [Iv (-1)] [] dX10_streetOf_10 cvX10_145 mwX10_refuse kd_40 (by decide) rfl (Nat.le_of_ble_eq_true rfl) rfl rfl rfl (c_X10_refuse 1 (by decide) (by decide)) ?_
  refine g_iret dX10_streetOf_13 rfl ?_
  unfold M_streetOf
  (repeat' split) <;> first | (exfalso; omega) | exact ⟨rfl, rfl, rfl⟩ | exact ⟨congrArg (fun x => some (Iv x)) (by omega), rfl, rfl⟩
set_option maxHeartbeats 4000000 in
set_option maxRecDepth 20000 in
theorem c_X10_rate {B : Bs} {n0 : Nat} {V : Vs} {κ : Ks} {h d : Int} (r_h : inR h) (r_d : inR d) (hI : MI κ) : Ct (XR B n0) mX10_rate 3 0 0 [Rf 40, Iv h, Iv d] V κ (PM (M_rate κ h d) V) := by
  obtain ⟨⟨i0, i1, i2, i3, i4, i5, i6, i7, i8, i9⟩, iS, iH, iR, iT, iC, iG, iL, iZ⟩ := id hI
  refine Ct.of (L := [some (Rf 40), some (Iv h), some (Iv d), none, none]) 2 (by decide +kernel) rfl rfl ?_
  have lp : ∀ (m : Nat) (l k : Int), 0 ≤ k ∧ k ≤ κ 40 41 → (m : Int) = κ 40 41 - k → l = lawM κ d k.toNat → -1 ≤ l ∧ l < κ 40 41 → (0 ≤ h ∧ h < κ 40 20) ∧ 0 ≤ d ∧ d ≤ 300 → G (XR B n0) mX10_rate 3 (PM (M_rate κ h d) V) V 0 0 44 [some (Rf 40), some (Iv h), some (Iv d), some (Iv l), some (Iv k)] [] V κ := by
    intro m
    induction m using Nat.strongRecOn with
    | ind m ih =>
      intro l k hk hm hl hlr hc
      refine g_iload 46 dX10_rate_44 rfl rfl ?_
      refine g_aload_n 47 dX10_rate_46 rfl rfl ?_
      refine r_getI 50 (κ 40 41) dX10_rate_47 fgX10_257 kd_40 ly_40_41 rfl (rfl) (fun r101 => ?_)
      refine g_icmp_ge 97 53 dX10_rate_50 (by first | assumption | omega) (by first | assumption | omega) (by decide) rfl (fun h102 => ?_) (fun h102 => ?_)
      · refine g_iload_n 98 dX10_rate_97 rfl rfl ?_
        refine g_if_ge 105 101 dX10_rate_98 (by first | assumption | omega) (by decide) rfl (fun h103 => ?_) (fun h103 => ?_)
        · refine g_aload_n 106 dX10_rate_105 rfl rfl ?_
          refine g_getC 109 dX10_rate_106 fgX10_99 kd_40 ly_40_42 rfl ?_
          refine g_iload_n 110 dX10_rate_109 rfl rfl ?_
          refine r_iald 111 ((l).toNat) (κ 83 ((l).toNat)) dX10_rate_110 kd_83 (by decide) (by omega) (rfl) rfl (rfl) (fun r104 => ?_)
          refine g_aload_n 112 dX10_rate_111 rfl rfl ?_
          refine g_getC 115 dX10_rate_112 fgX10_102 kd_40 ly_40_43 rfl ?_
          refine g_iload_n 116 dX10_rate_115 rfl rfl ?_
          refine r_iald 117 ((l).toNat) (κ 84 ((l).toNat)) dX10_rate_116 kd_84 (by decide) (by omega) (rfl) rfl (rfl) (fun r105 => ?_)
          refine g_aload_n 118 dX10_rate_117 rfl rfl ?_
          refine g_getC 121 dX10_rate_118 fgX10_51 kd_40 ly_40_23 rfl ?_
          refine g_iload_n 122 dX10_rate_121 rfl rfl ?_
          refine r_iald 123 ((h).toNat) (κ 64 ((h).toNat)) dX10_rate_122 kd_64 (by decide) (by omega) (rfl) rfl (rfl) (fun r106 => ?_)
          have ih2 := iH h.toNat (by omega)
          have il := iL l.toNat (by omega)
          refine g_imul 124 dX10_rate_123 rfl ?_
          refine g_iadd 125 dX10_rate_124 rfl ?_
          refine g_aload_n 126 dX10_rate_125 rfl rfl ?_
          refine g_getC 129 dX10_rate_126 fgX10_105 kd_40 ly_40_44 rfl ?_
          refine g_iload_n 130 dX10_rate_129 rfl rfl ?_
          refine r_iald 131 ((l).toNat) (κ 85 ((l).toNat)) dX10_rate_130 kd_85 (by decide) (by omega) (rfl) rfl (rfl) (fun r107 => ?_)
          refine g_aload_n 132 dX10_rate_131 rfl rfl ?_
          refine g_getC 135 dX10_rate_132 fgX10_48 kd_40 ly_40_22 rfl ?_
          refine g_iload_n 136 dX10_rate_135 rfl rfl ?_
          refine r_iald 137 ((h).toNat) (κ 63 ((h).toNat)) dX10_rate_136 kd_63 (by decide) (by omega) (rfl) rfl (rfl) (fun r108 => ?_)
          refine g_bipush 139 dX10_rate_137 (by decide) rfl ?_
          refine g_idiv 140 dX10_rate_139 (by omega) (by omega) rfl ?_
          refine g_imul 141 dX10_rate_140 rfl ?_
          refine g_iadd 142 dX10_rate_141 rfl ?_
          refine g_iret dX10_rate_142 rfl ?_
          have ek : k = κ 40 41 := by omega
          subst ek
          unfold M_rate rateM
          rw [if_neg (by omega), if_neg (by omega), if_neg (by omega), ← hl]
          rw [if_neg (by omega)]
          exact ⟨rfl, rfl, rfl⟩
        refine g_iconst 102 dX10_rate_101 (by decide) rfl ?_
        refine g_goto 142 dX10_rate_102 (by decide) ?_
        refine g_iret dX10_rate_142 rfl ?_
        have ek : k = κ 40 41 := by omega
        subst ek
        unfold M_rate rateM
        rw [if_neg (by omega), if_neg (by omega), if_neg (by omega), ← hl]
        rw [if_pos (by omega)]
        exact ⟨rfl, rfl, rfl⟩
      refine g_aload_n 54 dX10_rate_53 rfl rfl ?_
      refine g_getC 57 dX10_rate_54 fgX10_108 kd_40 ly_40_45 rfl ?_
      refine g_iload 59 dX10_rate_57 rfl rfl ?_
      refine r_iald 60 ((k).toNat) (κ 86 ((k).toNat)) dX10_rate_59 kd_86 (by decide) (by omega) (rfl) rfl (rfl) (fun r109 => ?_)
      refine g_iload_n 61 dX10_rate_60 rfl rfl ?_
      refine g_icmp_gt 89 64 dX10_rate_61 (by first | assumption | omega) (by first | assumption | omega) (by decide) rfl (fun h110 => ?_) (fun h110 => ?_)
      · refine g_iload_n 90 dX10_rate_89 rfl rfl ?_
        refine g_istore_n (L' := [some (Rf 40), some (Iv h), some (Iv d), some (Iv l), some (Iv k)]) 91 dX10_rate_90 rfl (by decide) rfl ?_
        refine g_iinc (L' := [some (Rf 40), some (Iv h), some (Iv d), some (Iv l), some (Iv (k + 1))]) 94 dX10_rate_91 rfl rfl (by decide) rfl ?_
        refine g_goto 44 dX10_rate_94 (by decide) ?_
        refine ih (m - 1) (by omega) _ (k + 1) (by omega) (by omega) ?_ (by omega) hc
        rw [show (k + 1).toNat = k.toNat + 1 by omega]
        unfold lawM
        rw [← hl]
        first | (rw [if_pos (by omega)]; omega) | (rw [if_neg (by omega)])
      refine g_iload_n 65 dX10_rate_64 rfl rfl ?_
      refine g_if_lt 84 68 dX10_rate_65 (by first | assumption | omega) (by decide) rfl (fun h111 => ?_) (fun h111 => ?_)
      · refine g_iload 86 dX10_rate_84 rfl rfl ?_
        refine g_goto 90 dX10_rate_86 (by decide) ?_
        refine g_istore_n (L' := [some (Rf 40), some (Iv h), some (Iv d), some (Iv k), some (Iv k)]) 91 dX10_rate_90 rfl (by decide) rfl ?_
        refine g_iinc (L' := [some (Rf 40), some (Iv h), some (Iv d), some (Iv k), some (Iv (k + 1))]) 94 dX10_rate_91 rfl rfl (by decide) rfl ?_
        refine g_goto 44 dX10_rate_94 (by decide) ?_
        refine ih (m - 1) (by omega) _ (k + 1) (by omega) (by omega) ?_ (by omega) hc
        rw [show (k + 1).toNat = k.toNat + 1 by omega]
        unfold lawM
        rw [← hl]
        first | (rw [if_pos (by omega)]; omega) | (rw [if_neg (by omega)])
      refine g_aload_n 69 dX10_rate_68 rfl rfl ?_
      refine g_getC 72 dX10_rate_69 fgX10_108 kd_40 ly_40_45 rfl ?_
      refine g_iload 74 dX10_rate_72 rfl rfl ?_
      refine r_iald 75 ((k).toNat) (κ 86 ((k).toNat)) dX10_rate_74 kd_86 (by decide) (by omega) (rfl) rfl (rfl) (fun r112 => ?_)
      refine g_aload_n 76 dX10_rate_75 rfl rfl ?_
      refine g_getC 79 dX10_rate_76 fgX10_108 kd_40 ly_40_45 rfl ?_
      refine g_iload_n 80 dX10_rate_79 rfl rfl ?_
      refine r_iald 81 ((l).toNat) (κ 86 ((l).toNat)) dX10_rate_80 kd_86 (by decide) (by omega) (rfl) rfl (rfl) (fun r113 => ?_)
      refine g_icmp_lt 89 84 dX10_rate_81 (by first | assumption | omega) (by first | assumption | omega) (by decide) rfl (fun h114 => ?_) (fun h114 => ?_)
      · refine g_iload_n 90 dX10_rate_89 rfl rfl ?_
        refine g_istore_n (L' := [some (Rf 40), some (Iv h), some (Iv d), some (Iv l), some (Iv k)]) 91 dX10_rate_90 rfl (by decide) rfl ?_
        refine g_iinc (L' := [some (Rf 40), some (Iv h), some (Iv d), some (Iv l), some (Iv (k + 1))]) 94 dX10_rate_91 rfl rfl (by decide) rfl ?_
        refine g_goto 44 dX10_rate_94 (by decide) ?_
        refine ih (m - 1) (by omega) _ (k + 1) (by omega) (by omega) ?_ (by omega) hc
        rw [show (k + 1).toNat = k.toNat + 1 by omega]
        unfold lawM
        rw [← hl]
        first | (rw [if_pos (by omega)]; omega) | (rw [if_neg (by omega)])
      refine g_iload 86 dX10_rate_84 rfl rfl ?_
      refine g_goto 90 dX10_rate_86 (by decide) ?_
      refine g_istore_n (L' := [some (Rf 40), some (Iv h), some (Iv d), some (Iv k), some (Iv k)]) 91 dX10_rate_90 rfl (by decide) rfl ?_
      refine g_iinc (L' := [some (Rf 40), some (Iv h), some (Iv d), some (Iv k), some (Iv (k + 1))]) 94 dX10_rate_91 rfl rfl (by decide) rfl ?_
      refine g_goto 44 dX10_rate_94 (by decide) ?_
      refine ih (m - 1) (by omega) _ (k + 1) (by omega) (by omega) ?_ (by omega) hc
      rw [show (k + 1).toNat = k.toNat + 1 by omega]
      unfold lawM
      rw [← hl]
      first | (rw [if_pos (by omega)]; omega) | (rw [if_neg (by omega)])
  refine g_aload_n 1 dX10_rate_0 rfl rfl ?_
  refine g_iload_n 2 dX10_rate_1 rfl rfl ?_
  refine o_V 5 0 0 [Iv h] [] dX10_rate_2 cvX10_160 mwX10_isHouse kd_40 (by decide) rfl (Nat.le_of_ble_eq_true rfl) rfl rfl rfl (c_X10_isHouse (by omega) hI) (fun h1 => ?_) (fun h1 => ?_)
  · refine g_if_ne 14 8 dX10_rate_5 (by decide) (by decide) rfl (fun _ => ?_) (fun z => absurd z (by decide))
    refine g_iload_n 15 dX10_rate_14 rfl rfl ?_
    refine g_if_ge 25 18 dX10_rate_15 (by first | assumption | omega) (by decide) rfl (fun h2 => ?_) (fun h2 => ?_)
    · refine g_iload_n 26 dX10_rate_25 rfl rfl ?_
      refine g_sipush 29 dX10_rate_26 (by decide) rfl ?_
      refine g_icmp_le 39 32 dX10_rate_29 (by first | assumption | omega) (by decide) (by decide) rfl (fun h3 => ?_) (fun h3 => ?_)
      · refine g_iconst 40 dX10_rate_39 (by decide) rfl ?_
        refine g_istore_n (L' := [some (Rf 40), some (Iv h), some (Iv d), some (Iv (-1)), none]) 41 dX10_rate_40 rfl (by decide) rfl ?_
        refine g_iconst 42 dX10_rate_41 (by decide) rfl ?_
        refine g_istore (L' := [some (Rf 40), some (Iv h), some (Iv d), some (Iv (-1)), some (Iv 0)]) 44 dX10_rate_42 rfl (by decide) rfl ?_
        exact lp (κ 40 41).toNat (-1) 0 (by omega) (by omega) rfl (by omega) (by omega)
      refine g_aload_n 33 dX10_rate_32 rfl rfl ?_
      refine g_bipush 35 dX10_rate_33 (by decide) rfl ?_
      refine e_V 38 0 0 [Iv (-6)] [] dX10_rate_35 cvX10_145 mwX10_refuse kd_40 (by decide) rfl (Nat.le_of_ble_eq_true rfl) rfl rfl rfl (c_X10_refuse 6 (by decide) (by decide)) ?_
      refine g_iret dX10_rate_38 rfl ?_
      unfold M_rate
      (repeat' split) <;> first | (exfalso; omega) | exact ⟨rfl, rfl, rfl⟩ | exact ⟨congrArg (fun x => some (Iv x)) (by omega), rfl, rfl⟩
    refine g_aload_n 19 dX10_rate_18 rfl rfl ?_
    refine g_bipush 21 dX10_rate_19 (by decide) rfl ?_
    refine e_V 24 0 0 [Iv (-4)] [] dX10_rate_21 cvX10_145 mwX10_refuse kd_40 (by decide) rfl (Nat.le_of_ble_eq_true rfl) rfl rfl rfl (c_X10_refuse 4 (by decide) (by decide)) ?_
    refine g_iret dX10_rate_24 rfl ?_
    unfold M_rate
    (repeat' split) <;> first | (exfalso; omega) | exact ⟨rfl, rfl, rfl⟩ | exact ⟨congrArg (fun x => some (Iv x)) (by omega), rfl, rfl⟩
  refine g_if_ne 14 8 dX10_rate_5 (by decide) (by decide) rfl (fun z => absurd z (by decide)) (fun _ => ?_)
  refine g_aload_n 9 dX10_rate_8 rfl rfl ?_
  refine g_iconst 10 dX10_rate_9 (by decide) rfl ?_
  refine e_V 13 0 0 [Iv (-1)] [] dX10_rate_10 cvX10_145 mwX10_refuse kd_40 (by decide) rfl (Nat.le_of_ble_eq_true rfl) rfl rfl rfl (c_X10_refuse 1 (by decide) (by decide)) ?_
  refine g_iret dX10_rate_13 rfl ?_
  unfold M_rate
  (repeat' split) <;> first | (exfalso; omega) | exact ⟨rfl, rfl, rfl⟩ | exact ⟨congrArg (fun x => some (Iv x)) (by omega), rfl, rfl⟩
set_option maxHeartbeats 4000000 in
set_option maxRecDepth 20000 in
theorem c_X10_span {B : Bs} {n0 : Nat} {V : Vs} {κ : Ks} {s w : Int} (r_s : inR s) (r_w : inR w) (hI : MI κ) : Ct (XR B n0) mX10_span 3 0 0 [Rf 40, Iv s, Iv w] V κ (PM (M_span κ s w) V) := by
  obtain ⟨⟨i0, i1, i2, i3, i4, i5, i6, i7, i8, i9⟩, iS, iH, iR, iT, iC, iG, iL, iZ⟩ := id hI
  refine Ct.of (L := [some (Rf 40), some (Iv s), some (Iv w), none, none, none]) 3 (by decide +kernel) rfl rfl ?_
  have lp : ∀ (m : Nat) (a b k : Int), 0 ≤ k ∧ k ≤ κ 40 37 → (m : Int) = κ 40 37 - k → a = lowM κ s k.toNat → b = highM κ s k.toNat → 0 ≤ a ∧ a ≤ 5000 ∧ -5050 ≤ b ∧ b ≤ 5000 → (0 ≤ s ∧ s < κ 40 11) ∧ 0 ≤ w ∧ w ≤ 1 → G (XR B n0) mX10_span 3 (PM (M_span κ s w) V) V 0 0 40 [some (Rf 40), some (Iv s), some (Iv w), some (Iv a), some (Iv b), some (Iv k)] [] V κ := by
    intro m
    induction m using Nat.strongRecOn with
    | ind m ih =>
      intro a b k hk hm ha hb hab hc
      refine g_iload 42 dX10_span_40 rfl rfl ?_
      refine g_aload_n 43 dX10_span_42 rfl rfl ?_
      refine r_getI 46 (κ 40 37) dX10_span_43 fgX10_227 kd_40 ly_40_37 rfl (rfl) (fun r101 => ?_)
      refine g_icmp_ge 127 49 dX10_span_46 (by first | assumption | omega) (by first | assumption | omega) (by decide) rfl (fun h102 => ?_) (fun h102 => ?_)
      · refine g_iload_n 128 dX10_span_127 rfl rfl ?_
        refine g_iload 130 dX10_span_128 rfl rfl ?_
        refine g_icmp_le 138 133 dX10_span_130 (by first | assumption | omega) (by first | assumption | omega) (by decide) rfl (fun h103 => ?_) (fun h103 => ?_)
        · refine g_iload_n 139 dX10_span_138 rfl rfl ?_
          refine g_if_ne 146 142 dX10_span_139 (by first | assumption | omega) (by decide) rfl (fun h104 => ?_) (fun h104 => ?_)
          · refine g_iload 148 dX10_span_146 rfl rfl ?_
            refine g_iret dX10_span_148 rfl ?_
            have ek : k = κ 40 37 := by omega
            subst ek
            unfold M_span
            rw [if_neg (by omega), if_neg (by omega), ← ha, ← hb]
            refine ⟨congrArg (fun x => some (Iv x)) ?_, rfl, rfl⟩
            show _ = if b < a then (-9 : Int) else if w = 0 then a else b
            (repeat' split) <;> omega
          refine g_iload_n 143 dX10_span_142 rfl rfl ?_
          refine g_goto 148 dX10_span_143 (by decide) ?_
          refine g_iret dX10_span_148 rfl ?_
          have ek : k = κ 40 37 := by omega
          subst ek
          unfold M_span
          rw [if_neg (by omega), if_neg (by omega), ← ha, ← hb]
          refine ⟨congrArg (fun x => some (Iv x)) ?_, rfl, rfl⟩
          show _ = if b < a then (-9 : Int) else if w = 0 then a else b
          (repeat' split) <;> omega
        refine g_bipush 135 dX10_span_133 (by decide) rfl ?_
        refine g_goto 148 dX10_span_135 (by decide) ?_
        refine g_iret dX10_span_148 rfl ?_
        have ek : k = κ 40 37 := by omega
        subst ek
        unfold M_span
        rw [if_neg (by omega), if_neg (by omega), ← ha, ← hb]
        refine ⟨congrArg (fun x => some (Iv x)) ?_, rfl, rfl⟩
        show _ = if b < a then (-9 : Int) else if w = 0 then a else b
        (repeat' split) <;> omega
      refine g_aload_n 50 dX10_span_49 rfl rfl ?_
      refine g_getC 53 dX10_span_50 fgX10_90 kd_40 ly_40_38 rfl ?_
      refine g_iload 55 dX10_span_53 rfl rfl ?_
      have ig := iG k.toNat (by omega)
      refine r_iald 56 ((k).toNat) (κ 79 ((k).toNat)) dX10_span_55 kd_79 (by decide) (by omega) (rfl) rfl (rfl) (fun r105 => ?_)
      refine g_iload_n 57 dX10_span_56 rfl rfl ?_
      refine g_icmp_ne 121 60 dX10_span_57 (by first | assumption | omega) (by first | assumption | omega) (by decide) rfl (fun h106 => ?_) (fun h106 => ?_)
      · refine g_iinc (L' := [some (Rf 40), some (Iv s), some (Iv w), some (Iv a), some (Iv b), some (Iv (k + 1))]) 124 dX10_span_121 rfl rfl (by decide) rfl ?_
        refine g_goto 40 dX10_span_124 (by decide) ?_
        refine ih (m - 1) (by omega) _ _ (k + 1) (by omega) (by omega) ?_ ?_ (by omega) hc
        · rw [show (k + 1).toNat = k.toNat + 1 by omega]
          unfold lowM
          rw [← ha]
          first | (rw [if_pos (by omega)]; omega) | (rw [if_neg (by omega)])
        · rw [show (k + 1).toNat = k.toNat + 1 by omega]
          unfold highM
          rw [← hb]
          first | (rw [if_pos (by omega)]) | (rw [if_neg (by omega)])
      refine g_aload_n 61 dX10_span_60 rfl rfl ?_
      refine g_getC 64 dX10_span_61 fgX10_93 kd_40 ly_40_39 rfl ?_
      refine g_iload 66 dX10_span_64 rfl rfl ?_
      refine r_iald 67 ((k).toNat) (κ 80 ((k).toNat)) dX10_span_66 kd_80 (by decide) (by omega) (rfl) rfl (rfl) (fun r107 => ?_)
      refine g_aload_n 68 dX10_span_67 rfl rfl ?_
      refine g_getC 71 dX10_span_68 fgX10_96 kd_40 ly_40_40 rfl ?_
      refine g_iload 73 dX10_span_71 rfl rfl ?_
      refine r_iald 74 ((k).toNat) (κ 81 ((k).toNat)) dX10_span_73 kd_81 (by decide) (by omega) (rfl) rfl (rfl) (fun r108 => ?_)
      refine g_isub 75 dX10_span_74 rfl ?_
      refine g_iload_n 76 dX10_span_75 rfl rfl ?_
      refine g_icmp_le 97 79 dX10_span_76 (by first | assumption | omega) (by first | assumption | omega) (by decide) rfl (fun h109 => ?_) (fun h109 => ?_)
      · refine g_iload_n 98 dX10_span_97 rfl rfl ?_
        refine g_istore_n (L' := [some (Rf 40), some (Iv s), some (Iv w), some (Iv a), some (Iv b), some (Iv k)]) 99 dX10_span_98 rfl (by decide) rfl ?_
        refine g_iload 101 dX10_span_99 rfl rfl ?_
        refine g_aload_n 102 dX10_span_101 rfl rfl ?_
        refine g_getC 105 dX10_span_102 fgX10_93 kd_40 ly_40_39 rfl ?_
        refine g_iload 107 dX10_span_105 rfl rfl ?_
        refine r_iald 108 ((k).toNat) (κ 80 ((k).toNat)) dX10_span_107 kd_80 (by decide) (by omega) (rfl) rfl (rfl) (fun r110 => ?_)
        refine g_aload_n 109 dX10_span_108 rfl rfl ?_
        refine g_getC 112 dX10_span_109 fgX10_96 kd_40 ly_40_40 rfl ?_
        refine g_iload 114 dX10_span_112 rfl rfl ?_
        refine r_iald 115 ((k).toNat) (κ 81 ((k).toNat)) dX10_span_114 kd_81 (by decide) (by omega) (rfl) rfl (rfl) (fun r111 => ?_)
        refine g_iadd 116 dX10_span_115 rfl ?_
        refine e_S 119 0 0 [Iv b, Iv ((κ 80 ((k).toNat)) + (κ 81 ((k).toNat)))] [] dX10_span_116 csX10_187 mwX10_least (by decide) rfl (Nat.le_of_ble_eq_true rfl) rfl rfl rfl (c_X10_least (by omega) (by omega)) ?_
        refine g_istore (L' := [some (Rf 40), some (Iv s), some (Iv w), some (Iv a), some (Iv (min b ((κ 80 ((k).toNat)) + (κ 81 ((k).toNat))))), some (Iv k)]) 121 dX10_span_119 rfl (by decide) rfl ?_
        refine g_iinc (L' := [some (Rf 40), some (Iv s), some (Iv w), some (Iv a), some (Iv (min b ((κ 80 ((k).toNat)) + (κ 81 ((k).toNat))))), some (Iv (k + 1))]) 124 dX10_span_121 rfl rfl (by decide) rfl ?_
        refine g_goto 40 dX10_span_124 (by decide) ?_
        refine ih (m - 1) (by omega) _ _ (k + 1) (by omega) (by omega) ?_ ?_ (by omega) hc
        · rw [show (k + 1).toNat = k.toNat + 1 by omega]
          unfold lowM
          rw [← ha]
          first | (rw [if_pos (by omega)]; omega) | (rw [if_neg (by omega)])
        · rw [show (k + 1).toNat = k.toNat + 1 by omega]
          unfold highM
          rw [← hb]
          first | (rw [if_pos (by omega)]) | (rw [if_neg (by omega)])
      refine g_aload_n 80 dX10_span_79 rfl rfl ?_
      refine g_getC 83 dX10_span_80 fgX10_93 kd_40 ly_40_39 rfl ?_
      refine g_iload 85 dX10_span_83 rfl rfl ?_
      refine r_iald 86 ((k).toNat) (κ 80 ((k).toNat)) dX10_span_85 kd_80 (by decide) (by omega) (rfl) rfl (rfl) (fun r112 => ?_)
      refine g_aload_n 87 dX10_span_86 rfl rfl ?_
      refine g_getC 90 dX10_span_87 fgX10_96 kd_40 ly_40_40 rfl ?_
      refine g_iload 92 dX10_span_90 rfl rfl ?_
      refine r_iald 93 ((k).toNat) (κ 81 ((k).toNat)) dX10_span_92 kd_81 (by decide) (by omega) (rfl) rfl (rfl) (fun r113 => ?_)
      refine g_isub 94 dX10_span_93 rfl ?_
      refine g_goto 98 dX10_span_94 (by decide) ?_
      refine g_istore_n (L' := [some (Rf 40), some (Iv s), some (Iv w), some (Iv ((κ 80 ((k).toNat)) - (κ 81 ((k).toNat)))), some (Iv b), some (Iv k)]) 99 dX10_span_98 rfl (by decide) rfl ?_
      refine g_iload 101 dX10_span_99 rfl rfl ?_
      refine g_aload_n 102 dX10_span_101 rfl rfl ?_
      refine g_getC 105 dX10_span_102 fgX10_93 kd_40 ly_40_39 rfl ?_
      refine g_iload 107 dX10_span_105 rfl rfl ?_
      refine r_iald 108 ((k).toNat) (κ 80 ((k).toNat)) dX10_span_107 kd_80 (by decide) (by omega) (rfl) rfl (rfl) (fun r114 => ?_)
      refine g_aload_n 109 dX10_span_108 rfl rfl ?_
      refine g_getC 112 dX10_span_109 fgX10_96 kd_40 ly_40_40 rfl ?_
      refine g_iload 114 dX10_span_112 rfl rfl ?_
      refine r_iald 115 ((k).toNat) (κ 81 ((k).toNat)) dX10_span_114 kd_81 (by decide) (by omega) (rfl) rfl (rfl) (fun r115 => ?_)
      refine g_iadd 116 dX10_span_115 rfl ?_
      refine e_S 119 0 0 [Iv b, Iv ((κ 80 ((k).toNat)) + (κ 81 ((k).toNat)))] [] dX10_span_116 csX10_187 mwX10_least (by decide) rfl (Nat.le_of_ble_eq_true rfl) rfl rfl rfl (c_X10_least (by omega) (by omega)) ?_
      refine g_istore (L' := [some (Rf 40), some (Iv s), some (Iv w), some (Iv ((κ 80 ((k).toNat)) - (κ 81 ((k).toNat)))), some (Iv (min b ((κ 80 ((k).toNat)) + (κ 81 ((k).toNat))))), some (Iv k)]) 121 dX10_span_119 rfl (by decide) rfl ?_
      refine g_iinc (L' := [some (Rf 40), some (Iv s), some (Iv w), some (Iv ((κ 80 ((k).toNat)) - (κ 81 ((k).toNat)))), some (Iv (min b ((κ 80 ((k).toNat)) + (κ 81 ((k).toNat))))), some (Iv (k + 1))]) 124 dX10_span_121 rfl rfl (by decide) rfl ?_
      refine g_goto 40 dX10_span_124 (by decide) ?_
      refine ih (m - 1) (by omega) _ _ (k + 1) (by omega) (by omega) ?_ ?_ (by omega) hc
      · rw [show (k + 1).toNat = k.toNat + 1 by omega]
        unfold lowM
        rw [← ha]
        first | (rw [if_pos (by omega)]; omega) | (rw [if_neg (by omega)])
      · rw [show (k + 1).toNat = k.toNat + 1 by omega]
        unfold highM
        rw [← hb]
        first | (rw [if_pos (by omega)]) | (rw [if_neg (by omega)])
  refine g_aload_n 1 dX10_span_0 rfl rfl ?_
  refine g_iload_n 2 dX10_span_1 rfl rfl ?_
  refine o_V 5 0 0 [Iv s] [] dX10_span_2 cvX10_156 mwX10_isStreet kd_40 (by decide) rfl (Nat.le_of_ble_eq_true rfl) rfl rfl rfl (c_X10_isStreet (by omega) hI) (fun h1 => ?_) (fun h1 => ?_)
  · refine g_if_ne 14 8 dX10_span_5 (by decide) (by decide) rfl (fun _ => ?_) (fun z => absurd z (by decide))
    refine g_iload_n 15 dX10_span_14 rfl rfl ?_
    refine g_iconst 16 dX10_span_15 (by decide) rfl ?_
    refine g_iconst 17 dX10_span_16 (by decide) rfl ?_
    refine o_S 20 0 0 [Iv w, Iv 0, Iv 1] [] dX10_span_17 csX10_138 mwX10_in (by decide) rfl (Nat.le_of_ble_eq_true rfl) rfl rfl rfl (c_X10_in (by omega) (by omega) (by omega)) (fun h2 => ?_) (fun h2 => ?_)
    · refine g_if_ne 30 23 dX10_span_20 (by decide) (by decide) rfl (fun _ => ?_) (fun z => absurd z (by decide))
      refine g_iconst 31 dX10_span_30 (by decide) rfl ?_
      refine g_istore_n (L' := [some (Rf 40), some (Iv s), some (Iv w), some (Iv 0), none, none]) 32 dX10_span_31 rfl (by decide) rfl ?_
      refine g_sipush 35 dX10_span_32 (by decide) rfl ?_
      refine g_istore (L' := [some (Rf 40), some (Iv s), some (Iv w), some (Iv 0), some (Iv 5000), none]) 37 dX10_span_35 rfl (by decide) rfl ?_
      refine g_iconst 38 dX10_span_37 (by decide) rfl ?_
      refine g_istore (L' := [some (Rf 40), some (Iv s), some (Iv w), some (Iv 0), some (Iv 5000), some (Iv 0)]) 40 dX10_span_38 rfl (by decide) rfl ?_
      exact lp (κ 40 37).toNat 0 5000 0 (by omega) (by omega) rfl rfl (by omega) (by omega)
    refine g_if_ne 30 23 dX10_span_20 (by decide) (by decide) rfl (fun z => absurd z (by decide)) (fun _ => ?_)
    refine g_aload_n 24 dX10_span_23 rfl rfl ?_
    refine g_bipush 26 dX10_span_24 (by decide) rfl ?_
    refine e_V 29 0 0 [Iv (-2)] [] dX10_span_26 cvX10_145 mwX10_refuse kd_40 (by decide) rfl (Nat.le_of_ble_eq_true rfl) rfl rfl rfl (c_X10_refuse 2 (by decide) (by decide)) ?_
    refine g_iret dX10_span_29 rfl ?_
    unfold M_span
    (repeat' split) <;> first | (exfalso; omega) | exact ⟨rfl, rfl, rfl⟩ | exact ⟨congrArg (fun x => some (Iv x)) (by omega), rfl, rfl⟩
  refine g_if_ne 14 8 dX10_span_5 (by decide) (by decide) rfl (fun z => absurd z (by decide)) (fun _ => ?_)
  refine g_aload_n 9 dX10_span_8 rfl rfl ?_
  refine g_iconst 10 dX10_span_9 (by decide) rfl ?_
  refine e_V 13 0 0 [Iv (-1)] [] dX10_span_10 cvX10_145 mwX10_refuse kd_40 (by decide) rfl (Nat.le_of_ble_eq_true rfl) rfl rfl rfl (c_X10_refuse 1 (by decide) (by decide)) ?_
  refine g_iret dX10_span_13 rfl ?_
  unfold M_span
  (repeat' split) <;> first | (exfalso; omega) | exact ⟨rfl, rfl, rfl⟩ | exact ⟨congrArg (fun x => some (Iv x)) (by omega), rfl, rfl⟩
