/-! the reference: fire, iron (printed by wip/whole/gen22.py) -/
theorem pow_R {n : Nat} (h : n ≤ 10) : (1 : Int) ≤ 2 ^ n ∧ (2 : Int) ^ n ≤ 1024 := by
  have : ∀ n : Nat, n < 11 → (1 : Int) ≤ 2 ^ n ∧ (2 : Int) ^ n ≤ 1024 := by decide
  exact this n (by omega)
theorem bst_s (κ : Ks) (sum : Int) (k : Nat) : bst κ sum (k + 1) = if bstC κ sum ((k : Int) + 1) (bst κ sum k) then (worM κ ((k : Int) + 1) (κ 40 11).toNat, (k : Int) + 1) else bst κ sum k := rfl
theorem pow_c (n : Nat) : ((2 ^ n : Nat) : Int) = 2 ^ n := by norm_cast
set_option maxHeartbeats 4000000 in
set_option maxRecDepth 20000 in
theorem c_X10_fire {B : Bs} {n0 : Nat} {V : Vs} {κ : Ks} {s w : Int} (r_s : inR s) (r_w : inR w) (hI : MI κ) : Ct (XR B n0) mX10_fire 3 0 0 [Rf 40, Iv s, Iv w] V κ (PM (M_fire κ s w) V) := by
  obtain ⟨⟨i0, i1, i2, i3, i4, i5, i6, i7, i8, i9⟩, iS, iH, iR, iT, iC, iG, iL, iZ⟩ := id hI
  refine Ct.of (L := [some (Rf 40), some (Iv s), some (Iv w), none, none, none, none, none, none, none]) 7 (by decide +kernel) rfl rfl ?_
  have sg0 : ∀ (far near n : Int) (l : List Int) (a6 a7 a8 a9 : Option Av), (0 ≤ s ∧ s < κ 40 11) ∧ κ 57 s.toNat = 1 ∧ 0 ≤ w ∧ w ≤ 2 → l = shM κ s → far = l.headD (-1) → near = l.getLastD (-1) → n = (l.length : Int) → n ≤ 10 → (-1 ≤ far ∧ far < κ 40 11) ∧ (-1 ≤ near ∧ near < κ 40 11) → n = 0 → G (XR B n0) mX10_fire 3 (PM (M_fire κ s w) V) V 0 0 120 [some (Rf 40), some (Iv s), some (Iv w), some (Iv far), some (Iv near), some (Iv 0), a6, a7, a8, a9] [] V κ := by
    intro far near n l a6 a7 a8 a9 hc hl hf hn hm hlen hr hz
    refine g_iconst 121 dX10_fire_120 (by decide) rfl ?_
    refine g_istore (L' := [some (Rf 40), some (Iv s), some (Iv w), some (Iv far), some (Iv near), some (Iv 0), some (Iv (-1)), a7, a8, a9]) 123 dX10_fire_121 rfl (by decide) rfl ?_
    refine g_iconst 124 dX10_fire_123 (by decide) rfl ?_
    refine g_istore (L' := [some (Rf 40), some (Iv s), some (Iv w), some (Iv far), some (Iv near), some (Iv 0), some (Iv (-1)), some (Iv 0), a8, a9]) 126 dX10_fire_124 rfl (by decide) rfl ?_
    refine g_iconst 127 dX10_fire_126 (by decide) rfl ?_
    refine g_istore (L' := [some (Rf 40), some (Iv s), some (Iv w), some (Iv far), some (Iv near), some (Iv 0), some (Iv (-1)), some (Iv 0), some (Iv 0), a9]) 129 dX10_fire_127 rfl (by decide) rfl ?_
    refine g_iload 131 dX10_fire_129 rfl rfl ?_
    refine g_iconst 132 dX10_fire_131 (by decide) rfl ?_
    refine g_icmp_ge 208 135 dX10_fire_132 (by decide) (by decide) (by decide) rfl (fun z => absurd z (by decide)) (fun _ => ?_)
    refine g_iload 137 dX10_fire_135 rfl rfl ?_
    refine g_if_ne 144 140 dX10_fire_137 (by decide) (by decide) rfl (fun z => absurd z (by decide)) (fun _ => ?_)
    refine g_iconst 141 dX10_fire_140 (by decide) rfl ?_
    refine g_goto 180 dX10_fire_141 (by decide) ?_
    refine G.eqi (show 0 = wkM κ l 0 by unfold wkM; rw [if_pos (by omega)]) ?_
    have wk0 := wk_R κ l 0
    refine g_istore (L' := [some (Rf 40), some (Iv s), some (Iv w), some (Iv far), some (Iv near), some (Iv 0), some (Iv (-1)), some (Iv 0), some (Iv 0), some (Iv (wkM κ l 0))]) 182 dX10_fire_180 rfl (by decide) rfl ?_
    refine g_iload 184 dX10_fire_182 rfl rfl ?_
    refine g_if_lt 194 187 dX10_fire_184 (by decide) (by decide) rfl (fun _ => ?_) (fun z => absurd z (by decide))
    refine g_iload 196 dX10_fire_194 rfl rfl ?_
    refine g_istore (L' := [some (Rf 40), some (Iv s), some (Iv w), some (Iv far), some (Iv near), some (Iv 0), some (Iv (wkM κ l 0)), some (Iv 0), some (Iv 0), some (Iv (wkM κ l 0))]) 198 dX10_fire_196 rfl (by decide) rfl ?_
    refine g_iload 200 dX10_fire_198 rfl rfl ?_
    refine g_istore (L' := [some (Rf 40), some (Iv s), some (Iv w), some (Iv far), some (Iv near), some (Iv 0), some (Iv (wkM κ l 0)), some (Iv 0), some (Iv 0), some (Iv (wkM κ l 0))]) 202 dX10_fire_200 rfl (by decide) rfl ?_
    refine g_iinc (L' := [some (Rf 40), some (Iv s), some (Iv w), some (Iv far), some (Iv near), some (Iv 0), some (Iv (wkM κ l 0)), some (Iv 0), some (Iv 1), some (Iv (wkM κ l 0))]) 205 dX10_fire_202 rfl rfl (by decide) rfl ?_
    refine g_goto 129 dX10_fire_205 (by decide) ?_
    refine g_iload 131 dX10_fire_129 rfl rfl ?_
    refine g_iconst 132 dX10_fire_131 (by decide) rfl ?_
    refine g_icmp_ge 208 135 dX10_fire_132 (by decide) (by decide) (by decide) rfl (fun z => absurd z (by decide)) (fun _ => ?_)
    refine g_iload 137 dX10_fire_135 rfl rfl ?_
    refine g_if_ne 144 140 dX10_fire_137 (by decide) (by decide) rfl (fun z => absurd z (by decide)) (fun _ => ?_)
    refine g_iconst 141 dX10_fire_140 (by decide) rfl ?_
    refine g_goto 180 dX10_fire_141 (by decide) ?_
    refine G.eqi (show 0 = wkM κ l 1 by unfold wkM; rw [if_pos (by omega)]) ?_
    have wk1 := wk_R κ l 1
    refine g_istore (L' := [some (Rf 40), some (Iv s), some (Iv w), some (Iv far), some (Iv near), some (Iv 0), some (Iv (wkM κ l 0)), some (Iv 0), some (Iv 1), some (Iv (wkM κ l 1))]) 182 dX10_fire_180 rfl (by decide) rfl ?_
    refine g_iload 184 dX10_fire_182 rfl rfl ?_
    refine g_if_lt 194 187 dX10_fire_184 (by omega) (by decide) rfl (fun z => absurd z (by omega)) (fun _ => ?_)
    refine g_iload 189 dX10_fire_187 rfl rfl ?_
    refine g_iload 191 dX10_fire_189 rfl rfl ?_
    refine g_icmp_ge 202 194 dX10_fire_191 (by first | assumption | omega) (by first | assumption | omega) (by decide) rfl (fun h151 => ?_) (fun h151 => ?_)
    · refine g_iinc (L' := [some (Rf 40), some (Iv s), some (Iv w), some (Iv far), some (Iv near), some (Iv 0), some (Iv (wkM κ l 0)), some (Iv 0), some (Iv 2), some (Iv (wkM κ l 1))]) 205 dX10_fire_202 rfl rfl (by decide) rfl ?_
      refine g_goto 129 dX10_fire_205 (by decide) ?_
      refine g_iload 131 dX10_fire_129 rfl rfl ?_
      refine g_iconst 132 dX10_fire_131 (by decide) rfl ?_
      refine g_icmp_ge 208 135 dX10_fire_132 (by decide) (by decide) (by decide) rfl (fun z => absurd z (by decide)) (fun _ => ?_)
      refine g_iload 137 dX10_fire_135 rfl rfl ?_
      refine g_if_ne 144 140 dX10_fire_137 (by decide) (by decide) rfl (fun z => absurd z (by decide)) (fun _ => ?_)
      refine g_iconst 141 dX10_fire_140 (by decide) rfl ?_
      refine g_goto 180 dX10_fire_141 (by decide) ?_
      refine G.eqi (show 0 = wkM κ l 2 by unfold wkM; rw [if_pos (by omega)]) ?_
      have wk2 := wk_R κ l 2
      refine g_istore (L' := [some (Rf 40), some (Iv s), some (Iv w), some (Iv far), some (Iv near), some (Iv 0), some (Iv (wkM κ l 0)), some (Iv 0), some (Iv 2), some (Iv (wkM κ l 2))]) 182 dX10_fire_180 rfl (by decide) rfl ?_
      refine g_iload 184 dX10_fire_182 rfl rfl ?_
      refine g_if_lt 194 187 dX10_fire_184 (by omega) (by decide) rfl (fun z => absurd z (by omega)) (fun _ => ?_)
      refine g_iload 189 dX10_fire_187 rfl rfl ?_
      refine g_iload 191 dX10_fire_189 rfl rfl ?_
      refine g_icmp_ge 202 194 dX10_fire_191 (by first | assumption | omega) (by first | assumption | omega) (by decide) rfl (fun h152 => ?_) (fun h152 => ?_)
      · refine g_iinc (L' := [some (Rf 40), some (Iv s), some (Iv w), some (Iv far), some (Iv near), some (Iv 0), some (Iv (wkM κ l 0)), some (Iv 0), some (Iv 3), some (Iv (wkM κ l 2))]) 205 dX10_fire_202 rfl rfl (by decide) rfl ?_
        refine g_goto 129 dX10_fire_205 (by decide) ?_
        refine g_iload 131 dX10_fire_129 rfl rfl ?_
        refine g_iconst 132 dX10_fire_131 (by decide) rfl ?_
        refine g_icmp_ge 208 135 dX10_fire_132 (by decide) (by decide) (by decide) rfl (fun _ => ?_) (fun z => absurd z (by decide))
        refine g_iload_n 209 dX10_fire_208 rfl rfl ?_
        refine g_if_ne 224 212 dX10_fire_209 (by first | assumption | omega) (by decide) rfl (fun h153 => ?_) (fun h153 => ?_)
        · refine g_iload_n 225 dX10_fire_224 rfl rfl ?_
          refine g_iconst 226 dX10_fire_225 (by decide) rfl ?_
          refine g_icmp_ne 234 229 dX10_fire_226 (by first | assumption | omega) (by decide) (by decide) rfl (fun h154 => ?_) (fun h154 => ?_)
          · refine g_iload 236 dX10_fire_234 rfl rfl ?_
            refine g_iret dX10_fire_236 rfl ?_
            unfold M_fire fireA
            rw [if_neg (by omega), if_neg (by omega), if_neg (by omega), ← hl]
            refine ⟨congrArg (fun x => some (Iv x)) ?_, rfl, rfl⟩
            show _ = if w = 0 then 4 * wkM κ l (whoM κ l) + 2 * (l.length : Int) else if w = 1 then (whoM κ l : Int) else (l.length : Int)
            unfold whoM
            (repeat' split) <;> first | (exfalso; omega) | omega
          refine g_iload 231 dX10_fire_229 rfl rfl ?_
          refine g_goto 236 dX10_fire_231 (by decide) ?_
          refine g_iret dX10_fire_236 rfl ?_
          unfold M_fire fireA
          rw [if_neg (by omega), if_neg (by omega), if_neg (by omega), ← hl]
          refine ⟨congrArg (fun x => some (Iv x)) ?_, rfl, rfl⟩
          show _ = if w = 0 then 4 * wkM κ l (whoM κ l) + 2 * (l.length : Int) else if w = 1 then (whoM κ l : Int) else (l.length : Int)
          unfold whoM
          (repeat' split) <;> first | (exfalso; omega) | omega
        refine g_iconst 213 dX10_fire_212 (by decide) rfl ?_
        refine g_iload 215 dX10_fire_213 rfl rfl ?_
        refine g_imul 216 dX10_fire_215 rfl ?_
        refine g_iconst 217 dX10_fire_216 (by decide) rfl ?_
        refine g_iload 219 dX10_fire_217 rfl rfl ?_
        refine g_imul 220 dX10_fire_219 rfl ?_
        refine g_iadd 221 dX10_fire_220 rfl ?_
        refine g_goto 236 dX10_fire_221 (by decide) ?_
        refine g_iret dX10_fire_236 rfl ?_
        unfold M_fire fireA
        rw [if_neg (by omega), if_neg (by omega), if_neg (by omega), ← hl]
        refine ⟨congrArg (fun x => some (Iv x)) ?_, rfl, rfl⟩
        show _ = if w = 0 then 4 * wkM κ l (whoM κ l) + 2 * (l.length : Int) else if w = 1 then (whoM κ l : Int) else (l.length : Int)
        unfold whoM
        (repeat' split) <;> first | (exfalso; omega) | omega
      refine g_iload 196 dX10_fire_194 rfl rfl ?_
      refine g_istore (L' := [some (Rf 40), some (Iv s), some (Iv w), some (Iv far), some (Iv near), some (Iv 0), some (Iv (wkM κ l 2)), some (Iv 0), some (Iv 2), some (Iv (wkM κ l 2))]) 198 dX10_fire_196 rfl (by decide) rfl ?_
      refine g_iload 200 dX10_fire_198 rfl rfl ?_
      refine g_istore (L' := [some (Rf 40), some (Iv s), some (Iv w), some (Iv far), some (Iv near), some (Iv 0), some (Iv (wkM κ l 2)), some (Iv 2), some (Iv 2), some (Iv (wkM κ l 2))]) 202 dX10_fire_200 rfl (by decide) rfl ?_
      refine g_iinc (L' := [some (Rf 40), some (Iv s), some (Iv w), some (Iv far), some (Iv near), some (Iv 0), some (Iv (wkM κ l 2)), some (Iv 2), some (Iv 3), some (Iv (wkM κ l 2))]) 205 dX10_fire_202 rfl rfl (by decide) rfl ?_
      refine g_goto 129 dX10_fire_205 (by decide) ?_
      refine g_iload 131 dX10_fire_129 rfl rfl ?_
      refine g_iconst 132 dX10_fire_131 (by decide) rfl ?_
      refine g_icmp_ge 208 135 dX10_fire_132 (by decide) (by decide) (by decide) rfl (fun _ => ?_) (fun z => absurd z (by decide))
      refine g_iload_n 209 dX10_fire_208 rfl rfl ?_
      refine g_if_ne 224 212 dX10_fire_209 (by first | assumption | omega) (by decide) rfl (fun h155 => ?_) (fun h155 => ?_)
      · refine g_iload_n 225 dX10_fire_224 rfl rfl ?_
        refine g_iconst 226 dX10_fire_225 (by decide) rfl ?_
        refine g_icmp_ne 234 229 dX10_fire_226 (by first | assumption | omega) (by decide) (by decide) rfl (fun h156 => ?_) (fun h156 => ?_)
        · refine g_iload 236 dX10_fire_234 rfl rfl ?_
          refine g_iret dX10_fire_236 rfl ?_
          unfold M_fire fireA
          rw [if_neg (by omega), if_neg (by omega), if_neg (by omega), ← hl]
          refine ⟨congrArg (fun x => some (Iv x)) ?_, rfl, rfl⟩
          show _ = if w = 0 then 4 * wkM κ l (whoM κ l) + 2 * (l.length : Int) else if w = 1 then (whoM κ l : Int) else (l.length : Int)
          unfold whoM
          (repeat' split) <;> first | (exfalso; omega) | omega
        refine g_iload 231 dX10_fire_229 rfl rfl ?_
        refine g_goto 236 dX10_fire_231 (by decide) ?_
        refine g_iret dX10_fire_236 rfl ?_
        unfold M_fire fireA
        rw [if_neg (by omega), if_neg (by omega), if_neg (by omega), ← hl]
        refine ⟨congrArg (fun x => some (Iv x)) ?_, rfl, rfl⟩
        show _ = if w = 0 then 4 * wkM κ l (whoM κ l) + 2 * (l.length : Int) else if w = 1 then (whoM κ l : Int) else (l.length : Int)
        unfold whoM
        (repeat' split) <;> first | (exfalso; omega) | omega
      refine g_iconst 213 dX10_fire_212 (by decide) rfl ?_
      refine g_iload 215 dX10_fire_213 rfl rfl ?_
      refine g_imul 216 dX10_fire_215 rfl ?_
      refine g_iconst 217 dX10_fire_216 (by decide) rfl ?_
      refine g_iload 219 dX10_fire_217 rfl rfl ?_
      refine g_imul 220 dX10_fire_219 rfl ?_
      refine g_iadd 221 dX10_fire_220 rfl ?_
      refine g_goto 236 dX10_fire_221 (by decide) ?_
      refine g_iret dX10_fire_236 rfl ?_
      unfold M_fire fireA
      rw [if_neg (by omega), if_neg (by omega), if_neg (by omega), ← hl]
      refine ⟨congrArg (fun x => some (Iv x)) ?_, rfl, rfl⟩
      show _ = if w = 0 then 4 * wkM κ l (whoM κ l) + 2 * (l.length : Int) else if w = 1 then (whoM κ l : Int) else (l.length : Int)
      unfold whoM
      (repeat' split) <;> first | (exfalso; omega) | omega
    refine g_iload 196 dX10_fire_194 rfl rfl ?_
    refine g_istore (L' := [some (Rf 40), some (Iv s), some (Iv w), some (Iv far), some (Iv near), some (Iv 0), some (Iv (wkM κ l 1)), some (Iv 0), some (Iv 1), some (Iv (wkM κ l 1))]) 198 dX10_fire_196 rfl (by decide) rfl ?_
    refine g_iload 200 dX10_fire_198 rfl rfl ?_
    refine g_istore (L' := [some (Rf 40), some (Iv s), some (Iv w), some (Iv far), some (Iv near), some (Iv 0), some (Iv (wkM κ l 1)), some (Iv 1), some (Iv 1), some (Iv (wkM κ l 1))]) 202 dX10_fire_200 rfl (by decide) rfl ?_
    refine g_iinc (L' := [some (Rf 40), some (Iv s), some (Iv w), some (Iv far), some (Iv near), some (Iv 0), some (Iv (wkM κ l 1)), some (Iv 1), some (Iv 2), some (Iv (wkM κ l 1))]) 205 dX10_fire_202 rfl rfl (by decide) rfl ?_
    refine g_goto 129 dX10_fire_205 (by decide) ?_
    refine g_iload 131 dX10_fire_129 rfl rfl ?_
    refine g_iconst 132 dX10_fire_131 (by decide) rfl ?_
    refine g_icmp_ge 208 135 dX10_fire_132 (by decide) (by decide) (by decide) rfl (fun z => absurd z (by decide)) (fun _ => ?_)
    refine g_iload 137 dX10_fire_135 rfl rfl ?_
    refine g_if_ne 144 140 dX10_fire_137 (by decide) (by decide) rfl (fun z => absurd z (by decide)) (fun _ => ?_)
    refine g_iconst 141 dX10_fire_140 (by decide) rfl ?_
    refine g_goto 180 dX10_fire_141 (by decide) ?_
    refine G.eqi (show 0 = wkM κ l 2 by unfold wkM; rw [if_pos (by omega)]) ?_
    have wk2 := wk_R κ l 2
    refine g_istore (L' := [some (Rf 40), some (Iv s), some (Iv w), some (Iv far), some (Iv near), some (Iv 0), some (Iv (wkM κ l 1)), some (Iv 1), some (Iv 2), some (Iv (wkM κ l 2))]) 182 dX10_fire_180 rfl (by decide) rfl ?_
    refine g_iload 184 dX10_fire_182 rfl rfl ?_
    refine g_if_lt 194 187 dX10_fire_184 (by omega) (by decide) rfl (fun z => absurd z (by omega)) (fun _ => ?_)
    refine g_iload 189 dX10_fire_187 rfl rfl ?_
    refine g_iload 191 dX10_fire_189 rfl rfl ?_
    refine g_icmp_ge 202 194 dX10_fire_191 (by first | assumption | omega) (by first | assumption | omega) (by decide) rfl (fun h157 => ?_) (fun h157 => ?_)
    · refine g_iinc (L' := [some (Rf 40), some (Iv s), some (Iv w), some (Iv far), some (Iv near), some (Iv 0), some (Iv (wkM κ l 1)), some (Iv 1), some (Iv 3), some (Iv (wkM κ l 2))]) 205 dX10_fire_202 rfl rfl (by decide) rfl ?_
      refine g_goto 129 dX10_fire_205 (by decide) ?_
      refine g_iload 131 dX10_fire_129 rfl rfl ?_
      refine g_iconst 132 dX10_fire_131 (by decide) rfl ?_
      refine g_icmp_ge 208 135 dX10_fire_132 (by decide) (by decide) (by decide) rfl (fun _ => ?_) (fun z => absurd z (by decide))
      refine g_iload_n 209 dX10_fire_208 rfl rfl ?_
      refine g_if_ne 224 212 dX10_fire_209 (by first | assumption | omega) (by decide) rfl (fun h158 => ?_) (fun h158 => ?_)
      · refine g_iload_n 225 dX10_fire_224 rfl rfl ?_
        refine g_iconst 226 dX10_fire_225 (by decide) rfl ?_
        refine g_icmp_ne 234 229 dX10_fire_226 (by first | assumption | omega) (by decide) (by decide) rfl (fun h159 => ?_) (fun h159 => ?_)
        · refine g_iload 236 dX10_fire_234 rfl rfl ?_
          refine g_iret dX10_fire_236 rfl ?_
          unfold M_fire fireA
          rw [if_neg (by omega), if_neg (by omega), if_neg (by omega), ← hl]
          refine ⟨congrArg (fun x => some (Iv x)) ?_, rfl, rfl⟩
          show _ = if w = 0 then 4 * wkM κ l (whoM κ l) + 2 * (l.length : Int) else if w = 1 then (whoM κ l : Int) else (l.length : Int)
          unfold whoM
          (repeat' split) <;> first | (exfalso; omega) | omega
        refine g_iload 231 dX10_fire_229 rfl rfl ?_
        refine g_goto 236 dX10_fire_231 (by decide) ?_
        refine g_iret dX10_fire_236 rfl ?_
        unfold M_fire fireA
        rw [if_neg (by omega), if_neg (by omega), if_neg (by omega), ← hl]
        refine ⟨congrArg (fun x => some (Iv x)) ?_, rfl, rfl⟩
        show _ = if w = 0 then 4 * wkM κ l (whoM κ l) + 2 * (l.length : Int) else if w = 1 then (whoM κ l : Int) else (l.length : Int)
        unfold whoM
        (repeat' split) <;> first | (exfalso; omega) | omega
      refine g_iconst 213 dX10_fire_212 (by decide) rfl ?_
      refine g_iload 215 dX10_fire_213 rfl rfl ?_
      refine g_imul 216 dX10_fire_215 rfl ?_
      refine g_iconst 217 dX10_fire_216 (by decide) rfl ?_
      refine g_iload 219 dX10_fire_217 rfl rfl ?_
      refine g_imul 220 dX10_fire_219 rfl ?_
      refine g_iadd 221 dX10_fire_220 rfl ?_
      refine g_goto 236 dX10_fire_221 (by decide) ?_
      refine g_iret dX10_fire_236 rfl ?_
      unfold M_fire fireA
      rw [if_neg (by omega), if_neg (by omega), if_neg (by omega), ← hl]
      refine ⟨congrArg (fun x => some (Iv x)) ?_, rfl, rfl⟩
      show _ = if w = 0 then 4 * wkM κ l (whoM κ l) + 2 * (l.length : Int) else if w = 1 then (whoM κ l : Int) else (l.length : Int)
      unfold whoM
      (repeat' split) <;> first | (exfalso; omega) | omega
    refine g_iload 196 dX10_fire_194 rfl rfl ?_
    refine g_istore (L' := [some (Rf 40), some (Iv s), some (Iv w), some (Iv far), some (Iv near), some (Iv 0), some (Iv (wkM κ l 2)), some (Iv 1), some (Iv 2), some (Iv (wkM κ l 2))]) 198 dX10_fire_196 rfl (by decide) rfl ?_
    refine g_iload 200 dX10_fire_198 rfl rfl ?_
    refine g_istore (L' := [some (Rf 40), some (Iv s), some (Iv w), some (Iv far), some (Iv near), some (Iv 0), some (Iv (wkM κ l 2)), some (Iv 2), some (Iv 2), some (Iv (wkM κ l 2))]) 202 dX10_fire_200 rfl (by decide) rfl ?_
    refine g_iinc (L' := [some (Rf 40), some (Iv s), some (Iv w), some (Iv far), some (Iv near), some (Iv 0), some (Iv (wkM κ l 2)), some (Iv 2), some (Iv 3), some (Iv (wkM κ l 2))]) 205 dX10_fire_202 rfl rfl (by decide) rfl ?_
    refine g_goto 129 dX10_fire_205 (by decide) ?_
    refine g_iload 131 dX10_fire_129 rfl rfl ?_
    refine g_iconst 132 dX10_fire_131 (by decide) rfl ?_
    refine g_icmp_ge 208 135 dX10_fire_132 (by decide) (by decide) (by decide) rfl (fun _ => ?_) (fun z => absurd z (by decide))
    refine g_iload_n 209 dX10_fire_208 rfl rfl ?_
    refine g_if_ne 224 212 dX10_fire_209 (by first | assumption | omega) (by decide) rfl (fun h160 => ?_) (fun h160 => ?_)
    · refine g_iload_n 225 dX10_fire_224 rfl rfl ?_
      refine g_iconst 226 dX10_fire_225 (by decide) rfl ?_
      refine g_icmp_ne 234 229 dX10_fire_226 (by first | assumption | omega) (by decide) (by decide) rfl (fun h161 => ?_) (fun h161 => ?_)
      · refine g_iload 236 dX10_fire_234 rfl rfl ?_
        refine g_iret dX10_fire_236 rfl ?_
        unfold M_fire fireA
        rw [if_neg (by omega), if_neg (by omega), if_neg (by omega), ← hl]
        refine ⟨congrArg (fun x => some (Iv x)) ?_, rfl, rfl⟩
        show _ = if w = 0 then 4 * wkM κ l (whoM κ l) + 2 * (l.length : Int) else if w = 1 then (whoM κ l : Int) else (l.length : Int)
        unfold whoM
        (repeat' split) <;> first | (exfalso; omega) | omega
      refine g_iload 231 dX10_fire_229 rfl rfl ?_
      refine g_goto 236 dX10_fire_231 (by decide) ?_
      refine g_iret dX10_fire_236 rfl ?_
      unfold M_fire fireA
      rw [if_neg (by omega), if_neg (by omega), if_neg (by omega), ← hl]
      refine ⟨congrArg (fun x => some (Iv x)) ?_, rfl, rfl⟩
      show _ = if w = 0 then 4 * wkM κ l (whoM κ l) + 2 * (l.length : Int) else if w = 1 then (whoM κ l : Int) else (l.length : Int)
      unfold whoM
      (repeat' split) <;> first | (exfalso; omega) | omega
    refine g_iconst 213 dX10_fire_212 (by decide) rfl ?_
    refine g_iload 215 dX10_fire_213 rfl rfl ?_
    refine g_imul 216 dX10_fire_215 rfl ?_
    refine g_iconst 217 dX10_fire_216 (by decide) rfl ?_
    refine g_iload 219 dX10_fire_217 rfl rfl ?_
    refine g_imul 220 dX10_fire_219 rfl ?_
    refine g_iadd 221 dX10_fire_220 rfl ?_
    refine g_goto 236 dX10_fire_221 (by decide) ?_
    refine g_iret dX10_fire_236 rfl ?_
    unfold M_fire fireA
    rw [if_neg (by omega), if_neg (by omega), if_neg (by omega), ← hl]
    refine ⟨congrArg (fun x => some (Iv x)) ?_, rfl, rfl⟩
    show _ = if w = 0 then 4 * wkM κ l (whoM κ l) + 2 * (l.length : Int) else if w = 1 then (whoM κ l : Int) else (l.length : Int)
    unfold whoM
    (repeat' split) <;> first | (exfalso; omega) | omega
  have sgn : ∀ (far near n : Int) (l : List Int) (a6 a7 a8 a9 : Option Av), (0 ≤ s ∧ s < κ 40 11) ∧ κ 57 s.toNat = 1 ∧ 0 ≤ w ∧ w ≤ 2 → l = shM κ s → far = l.headD (-1) → near = l.getLastD (-1) → n = (l.length : Int) → n ≤ 10 → (-1 ≤ far ∧ far < κ 40 11) ∧ (-1 ≤ near ∧ near < κ 40 11) → 1 ≤ n → G (XR B n0) mX10_fire 3 (PM (M_fire κ s w) V) V 0 0 120 [some (Rf 40), some (Iv s), some (Iv w), some (Iv far), some (Iv near), some (Iv n), a6, a7, a8, a9] [] V κ := by
    intro far near n l a6 a7 a8 a9 hc hl hf hn hm hlen hr hz
    have c0 := iC 0 (by decide)
    have c1 := iC 1 (by decide)
    have c2 := iC 2 (by decide)
    have w0 := way_R (κ := κ) far near
    have w1 := way_R (κ := κ) (κ 77 0) far
    have w2 := way_R (κ := κ) (κ 77 0) near
    have w3 := way_R (κ := κ) (κ 77 1) far
    have w4 := way_R (κ := κ) (κ 77 1) near
    have w5 := way_R (κ := κ) (κ 77 2) far
    have w6 := way_R (κ := κ) (κ 77 2) near
    refine g_iconst 121 dX10_fire_120 (by decide) rfl ?_
    refine g_istore (L' := [some (Rf 40), some (Iv s), some (Iv w), some (Iv far), some (Iv near), some (Iv n), some (Iv (-1)), a7, a8, a9]) 123 dX10_fire_121 rfl (by decide) rfl ?_
    refine g_iconst 124 dX10_fire_123 (by decide) rfl ?_
    refine g_istore (L' := [some (Rf 40), some (Iv s), some (Iv w), some (Iv far), some (Iv near), some (Iv n), some (Iv (-1)), some (Iv 0), a8, a9]) 126 dX10_fire_124 rfl (by decide) rfl ?_
    refine g_iconst 127 dX10_fire_126 (by decide) rfl ?_
    refine g_istore (L' := [some (Rf 40), some (Iv s), some (Iv w), some (Iv far), some (Iv near), some (Iv n), some (Iv (-1)), some (Iv 0), some (Iv 0), a9]) 129 dX10_fire_127 rfl (by decide) rfl ?_
    refine g_iload 131 dX10_fire_129 rfl rfl ?_
    refine g_iconst 132 dX10_fire_131 (by decide) rfl ?_
    refine g_icmp_ge 208 135 dX10_fire_132 (by decide) (by decide) (by decide) rfl (fun z => absurd z (by decide)) (fun _ => ?_)
    refine g_iload 137 dX10_fire_135 rfl rfl ?_
    refine g_if_ne 144 140 dX10_fire_137 (by omega) (by decide) rfl (fun _ => ?_) (fun z => absurd z (by omega))
    refine g_aload_n 145 dX10_fire_144 rfl rfl ?_
    refine g_iload_n 146 dX10_fire_145 rfl rfl ?_
    refine g_iload 148 dX10_fire_146 rfl rfl ?_
    refine e_V 151 0 0 [Iv far, Iv near] [] dX10_fire_148 cvX10_177 mwX10_wayOf kd_40 (by decide) rfl (Nat.le_of_ble_eq_true rfl) rfl rfl rfl (c_X10_wayOf (by omega) (by omega) hI) ?_
    refine g_aload_n 152 dX10_fire_151 rfl rfl ?_
    refine g_aload_n 153 dX10_fire_152 rfl rfl ?_
    refine g_getC 156 dX10_fire_153 fgX10_87 kd_40 ly_40_36 rfl ?_
    refine g_iload 158 dX10_fire_156 rfl rfl ?_
    refine r_iald 159 0 (κ 77 0) dX10_fire_158 kd_77 (by decide) (by omega) (rfl) rfl (rfl) (fun r151 => ?_)
    refine g_iload_n 160 dX10_fire_159 rfl rfl ?_
    refine e_V 163 0 0 [Iv (κ 77 0), Iv far] [Iv (wayM κ far near)] dX10_fire_160 cvX10_177 mwX10_wayOf kd_40 (by decide) rfl (Nat.le_of_ble_eq_true rfl) rfl rfl rfl (c_X10_wayOf (by omega) (by omega) hI) ?_
    refine g_aload_n 164 dX10_fire_163 rfl rfl ?_
    refine g_aload_n 165 dX10_fire_164 rfl rfl ?_
    refine g_getC 168 dX10_fire_165 fgX10_87 kd_40 ly_40_36 rfl ?_
    refine g_iload 170 dX10_fire_168 rfl rfl ?_
    refine r_iald 171 0 (κ 77 0) dX10_fire_170 kd_77 (by decide) (by omega) (rfl) rfl (rfl) (fun r152 => ?_)
    refine g_iload 173 dX10_fire_171 rfl rfl ?_
    refine e_V 176 0 0 [Iv (κ 77 0), Iv near] [Iv (wayM κ (κ 77 0) far), Iv (wayM κ far near)] dX10_fire_173 cvX10_177 mwX10_wayOf kd_40 (by decide) rfl (Nat.le_of_ble_eq_true rfl) rfl rfl rfl (c_X10_wayOf (by omega) (by omega) hI) ?_
    refine e_S 179 0 0 [Iv (wayM κ (κ 77 0) far), Iv (wayM κ (κ 77 0) near)] [Iv (wayM κ far near)] dX10_fire_176 csX10_187 mwX10_least (by decide) rfl (Nat.le_of_ble_eq_true rfl) rfl rfl rfl (c_X10_least (by omega) (by omega)) ?_
    refine g_iadd 180 dX10_fire_179 rfl ?_
    refine G.eqi (show ((wayM κ far near) + (min (wayM κ (κ 77 0) far) (wayM κ (κ 77 0) near))) = wkM κ l 0 by unfold wkM; rw [if_neg (by omega), ← hf, ← hn]) ?_
    have wk0 := wk_R κ l 0
    refine g_istore (L' := [some (Rf 40), some (Iv s), some (Iv w), some (Iv far), some (Iv near), some (Iv n), some (Iv (-1)), some (Iv 0), some (Iv 0), some (Iv (wkM κ l 0))]) 182 dX10_fire_180 rfl (by decide) rfl ?_
    refine g_iload 184 dX10_fire_182 rfl rfl ?_
    refine g_if_lt 194 187 dX10_fire_184 (by decide) (by decide) rfl (fun _ => ?_) (fun z => absurd z (by decide))
    refine g_iload 196 dX10_fire_194 rfl rfl ?_
    refine g_istore (L' := [some (Rf 40), some (Iv s), some (Iv w), some (Iv far), some (Iv near), some (Iv n), some (Iv (wkM κ l 0)), some (Iv 0), some (Iv 0), some (Iv (wkM κ l 0))]) 198 dX10_fire_196 rfl (by decide) rfl ?_
    refine g_iload 200 dX10_fire_198 rfl rfl ?_
    refine g_istore (L' := [some (Rf 40), some (Iv s), some (Iv w), some (Iv far), some (Iv near), some (Iv n), some (Iv (wkM κ l 0)), some (Iv 0), some (Iv 0), some (Iv (wkM κ l 0))]) 202 dX10_fire_200 rfl (by decide) rfl ?_
    refine g_iinc (L' := [some (Rf 40), some (Iv s), some (Iv w), some (Iv far), some (Iv near), some (Iv n), some (Iv (wkM κ l 0)), some (Iv 0), some (Iv 1), some (Iv (wkM κ l 0))]) 205 dX10_fire_202 rfl rfl (by decide) rfl ?_
    refine g_goto 129 dX10_fire_205 (by decide) ?_
    refine g_iload 131 dX10_fire_129 rfl rfl ?_
    refine g_iconst 132 dX10_fire_131 (by decide) rfl ?_
    refine g_icmp_ge 208 135 dX10_fire_132 (by decide) (by decide) (by decide) rfl (fun z => absurd z (by decide)) (fun _ => ?_)
    refine g_iload 137 dX10_fire_135 rfl rfl ?_
    refine g_if_ne 144 140 dX10_fire_137 (by omega) (by decide) rfl (fun _ => ?_) (fun z => absurd z (by omega))
    refine g_aload_n 145 dX10_fire_144 rfl rfl ?_
    refine g_iload_n 146 dX10_fire_145 rfl rfl ?_
    refine g_iload 148 dX10_fire_146 rfl rfl ?_
    refine e_V 151 0 0 [Iv far, Iv near] [] dX10_fire_148 cvX10_177 mwX10_wayOf kd_40 (by decide) rfl (Nat.le_of_ble_eq_true rfl) rfl rfl rfl (c_X10_wayOf (by omega) (by omega) hI) ?_
    refine g_aload_n 152 dX10_fire_151 rfl rfl ?_
    refine g_aload_n 153 dX10_fire_152 rfl rfl ?_
    refine g_getC 156 dX10_fire_153 fgX10_87 kd_40 ly_40_36 rfl ?_
    refine g_iload 158 dX10_fire_156 rfl rfl ?_
    refine r_iald 159 1 (κ 77 1) dX10_fire_158 kd_77 (by decide) (by omega) (rfl) rfl (rfl) (fun r153 => ?_)
    refine g_iload_n 160 dX10_fire_159 rfl rfl ?_
    refine e_V 163 0 0 [Iv (κ 77 1), Iv far] [Iv (wayM κ far near)] dX10_fire_160 cvX10_177 mwX10_wayOf kd_40 (by decide) rfl (Nat.le_of_ble_eq_true rfl) rfl rfl rfl (c_X10_wayOf (by omega) (by omega) hI) ?_
    refine g_aload_n 164 dX10_fire_163 rfl rfl ?_
    refine g_aload_n 165 dX10_fire_164 rfl rfl ?_
    refine g_getC 168 dX10_fire_165 fgX10_87 kd_40 ly_40_36 rfl ?_
    refine g_iload 170 dX10_fire_168 rfl rfl ?_
    refine r_iald 171 1 (κ 77 1) dX10_fire_170 kd_77 (by decide) (by omega) (rfl) rfl (rfl) (fun r154 => ?_)
    refine g_iload 173 dX10_fire_171 rfl rfl ?_
    refine e_V 176 0 0 [Iv (κ 77 1), Iv near] [Iv (wayM κ (κ 77 1) far), Iv (wayM κ far near)] dX10_fire_173 cvX10_177 mwX10_wayOf kd_40 (by decide) rfl (Nat.le_of_ble_eq_true rfl) rfl rfl rfl (c_X10_wayOf (by omega) (by omega) hI) ?_
    refine e_S 179 0 0 [Iv (wayM κ (κ 77 1) far), Iv (wayM κ (κ 77 1) near)] [Iv (wayM κ far near)] dX10_fire_176 csX10_187 mwX10_least (by decide) rfl (Nat.le_of_ble_eq_true rfl) rfl rfl rfl (c_X10_least (by omega) (by omega)) ?_
    refine g_iadd 180 dX10_fire_179 rfl ?_
    refine G.eqi (show ((wayM κ far near) + (min (wayM κ (κ 77 1) far) (wayM κ (κ 77 1) near))) = wkM κ l 1 by unfold wkM; rw [if_neg (by omega), ← hf, ← hn]) ?_
    have wk1 := wk_R κ l 1
    refine g_istore (L' := [some (Rf 40), some (Iv s), some (Iv w), some (Iv far), some (Iv near), some (Iv n), some (Iv (wkM κ l 0)), some (Iv 0), some (Iv 1), some (Iv (wkM κ l 1))]) 182 dX10_fire_180 rfl (by decide) rfl ?_
    refine g_iload 184 dX10_fire_182 rfl rfl ?_
    refine g_if_lt 194 187 dX10_fire_184 (by omega) (by decide) rfl (fun z => absurd z (by omega)) (fun _ => ?_)
    refine g_iload 189 dX10_fire_187 rfl rfl ?_
    refine g_iload 191 dX10_fire_189 rfl rfl ?_
    refine g_icmp_ge 202 194 dX10_fire_191 (by first | assumption | omega) (by first | assumption | omega) (by decide) rfl (fun h155 => ?_) (fun h155 => ?_)
    · refine g_iinc (L' := [some (Rf 40), some (Iv s), some (Iv w), some (Iv far), some (Iv near), some (Iv n), some (Iv (wkM κ l 0)), some (Iv 0), some (Iv 2), some (Iv (wkM κ l 1))]) 205 dX10_fire_202 rfl rfl (by decide) rfl ?_
      refine g_goto 129 dX10_fire_205 (by decide) ?_
      refine g_iload 131 dX10_fire_129 rfl rfl ?_
      refine g_iconst 132 dX10_fire_131 (by decide) rfl ?_
      refine g_icmp_ge 208 135 dX10_fire_132 (by decide) (by decide) (by decide) rfl (fun z => absurd z (by decide)) (fun _ => ?_)
      refine g_iload 137 dX10_fire_135 rfl rfl ?_
      refine g_if_ne 144 140 dX10_fire_137 (by omega) (by decide) rfl (fun _ => ?_) (fun z => absurd z (by omega))
      refine g_aload_n 145 dX10_fire_144 rfl rfl ?_
      refine g_iload_n 146 dX10_fire_145 rfl rfl ?_
      refine g_iload 148 dX10_fire_146 rfl rfl ?_
      refine e_V 151 0 0 [Iv far, Iv near] [] dX10_fire_148 cvX10_177 mwX10_wayOf kd_40 (by decide) rfl (Nat.le_of_ble_eq_true rfl) rfl rfl rfl (c_X10_wayOf (by omega) (by omega) hI) ?_
      refine g_aload_n 152 dX10_fire_151 rfl rfl ?_
      refine g_aload_n 153 dX10_fire_152 rfl rfl ?_
      refine g_getC 156 dX10_fire_153 fgX10_87 kd_40 ly_40_36 rfl ?_
      refine g_iload 158 dX10_fire_156 rfl rfl ?_
      refine r_iald 159 2 (κ 77 2) dX10_fire_158 kd_77 (by decide) (by omega) (rfl) rfl (rfl) (fun r156 => ?_)
      refine g_iload_n 160 dX10_fire_159 rfl rfl ?_
      refine e_V 163 0 0 [Iv (κ 77 2), Iv far] [Iv (wayM κ far near)] dX10_fire_160 cvX10_177 mwX10_wayOf kd_40 (by decide) rfl (Nat.le_of_ble_eq_true rfl) rfl rfl rfl (c_X10_wayOf (by omega) (by omega) hI) ?_
      refine g_aload_n 164 dX10_fire_163 rfl rfl ?_
      refine g_aload_n 165 dX10_fire_164 rfl rfl ?_
      refine g_getC 168 dX10_fire_165 fgX10_87 kd_40 ly_40_36 rfl ?_
      refine g_iload 170 dX10_fire_168 rfl rfl ?_
      refine r_iald 171 2 (κ 77 2) dX10_fire_170 kd_77 (by decide) (by omega) (rfl) rfl (rfl) (fun r157 => ?_)
      refine g_iload 173 dX10_fire_171 rfl rfl ?_
      refine e_V 176 0 0 [Iv (κ 77 2), Iv near] [Iv (wayM κ (κ 77 2) far), Iv (wayM κ far near)] dX10_fire_173 cvX10_177 mwX10_wayOf kd_40 (by decide) rfl (Nat.le_of_ble_eq_true rfl) rfl rfl rfl (c_X10_wayOf (by omega) (by omega) hI) ?_
      refine e_S 179 0 0 [Iv (wayM κ (κ 77 2) far), Iv (wayM κ (κ 77 2) near)] [Iv (wayM κ far near)] dX10_fire_176 csX10_187 mwX10_least (by decide) rfl (Nat.le_of_ble_eq_true rfl) rfl rfl rfl (c_X10_least (by omega) (by omega)) ?_
      refine g_iadd 180 dX10_fire_179 rfl ?_
      refine G.eqi (show ((wayM κ far near) + (min (wayM κ (κ 77 2) far) (wayM κ (κ 77 2) near))) = wkM κ l 2 by unfold wkM; rw [if_neg (by omega), ← hf, ← hn]) ?_
      have wk2 := wk_R κ l 2
      refine g_istore (L' := [some (Rf 40), some (Iv s), some (Iv w), some (Iv far), some (Iv near), some (Iv n), some (Iv (wkM κ l 0)), some (Iv 0), some (Iv 2), some (Iv (wkM κ l 2))]) 182 dX10_fire_180 rfl (by decide) rfl ?_
      refine g_iload 184 dX10_fire_182 rfl rfl ?_
      refine g_if_lt 194 187 dX10_fire_184 (by omega) (by decide) rfl (fun z => absurd z (by omega)) (fun _ => ?_)
      refine g_iload 189 dX10_fire_187 rfl rfl ?_
      refine g_iload 191 dX10_fire_189 rfl rfl ?_
      refine g_icmp_ge 202 194 dX10_fire_191 (by first | assumption | omega) (by first | assumption | omega) (by decide) rfl (fun h158 => ?_) (fun h158 => ?_)
      · refine g_iinc (L' := [some (Rf 40), some (Iv s), some (Iv w), some (Iv far), some (Iv near), some (Iv n), some (Iv (wkM κ l 0)), some (Iv 0), some (Iv 3), some (Iv (wkM κ l 2))]) 205 dX10_fire_202 rfl rfl (by decide) rfl ?_
        refine g_goto 129 dX10_fire_205 (by decide) ?_
        refine g_iload 131 dX10_fire_129 rfl rfl ?_
        refine g_iconst 132 dX10_fire_131 (by decide) rfl ?_
        refine g_icmp_ge 208 135 dX10_fire_132 (by decide) (by decide) (by decide) rfl (fun _ => ?_) (fun z => absurd z (by decide))
        refine g_iload_n 209 dX10_fire_208 rfl rfl ?_
        refine g_if_ne 224 212 dX10_fire_209 (by first | assumption | omega) (by decide) rfl (fun h159 => ?_) (fun h159 => ?_)
        · refine g_iload_n 225 dX10_fire_224 rfl rfl ?_
          refine g_iconst 226 dX10_fire_225 (by decide) rfl ?_
          refine g_icmp_ne 234 229 dX10_fire_226 (by first | assumption | omega) (by decide) (by decide) rfl (fun h160 => ?_) (fun h160 => ?_)
          · refine g_iload 236 dX10_fire_234 rfl rfl ?_
            refine g_iret dX10_fire_236 rfl ?_
            unfold M_fire fireA
            rw [if_neg (by omega), if_neg (by omega), if_neg (by omega), ← hl]
            refine ⟨congrArg (fun x => some (Iv x)) ?_, rfl, rfl⟩
            show _ = if w = 0 then 4 * wkM κ l (whoM κ l) + 2 * (l.length : Int) else if w = 1 then (whoM κ l : Int) else (l.length : Int)
            unfold whoM
            (repeat' split) <;> first | (exfalso; omega) | omega
          refine g_iload 231 dX10_fire_229 rfl rfl ?_
          refine g_goto 236 dX10_fire_231 (by decide) ?_
          refine g_iret dX10_fire_236 rfl ?_
          unfold M_fire fireA
          rw [if_neg (by omega), if_neg (by omega), if_neg (by omega), ← hl]
          refine ⟨congrArg (fun x => some (Iv x)) ?_, rfl, rfl⟩
          show _ = if w = 0 then 4 * wkM κ l (whoM κ l) + 2 * (l.length : Int) else if w = 1 then (whoM κ l : Int) else (l.length : Int)
          unfold whoM
          (repeat' split) <;> first | (exfalso; omega) | omega
        refine g_iconst 213 dX10_fire_212 (by decide) rfl ?_
        refine g_iload 215 dX10_fire_213 rfl rfl ?_
        refine g_imul 216 dX10_fire_215 rfl ?_
        refine g_iconst 217 dX10_fire_216 (by decide) rfl ?_
        refine g_iload 219 dX10_fire_217 rfl rfl ?_
        refine g_imul 220 dX10_fire_219 rfl ?_
        refine g_iadd 221 dX10_fire_220 rfl ?_
        refine g_goto 236 dX10_fire_221 (by decide) ?_
        refine g_iret dX10_fire_236 rfl ?_
        unfold M_fire fireA
        rw [if_neg (by omega), if_neg (by omega), if_neg (by omega), ← hl]
        refine ⟨congrArg (fun x => some (Iv x)) ?_, rfl, rfl⟩
        show _ = if w = 0 then 4 * wkM κ l (whoM κ l) + 2 * (l.length : Int) else if w = 1 then (whoM κ l : Int) else (l.length : Int)
        unfold whoM
        (repeat' split) <;> first | (exfalso; omega) | omega
      refine g_iload 196 dX10_fire_194 rfl rfl ?_
      refine g_istore (L' := [some (Rf 40), some (Iv s), some (Iv w), some (Iv far), some (Iv near), some (Iv n), some (Iv (wkM κ l 2)), some (Iv 0), some (Iv 2), some (Iv (wkM κ l 2))]) 198 dX10_fire_196 rfl (by decide) rfl ?_
      refine g_iload 200 dX10_fire_198 rfl rfl ?_
      refine g_istore (L' := [some (Rf 40), some (Iv s), some (Iv w), some (Iv far), some (Iv near), some (Iv n), some (Iv (wkM κ l 2)), some (Iv 2), some (Iv 2), some (Iv (wkM κ l 2))]) 202 dX10_fire_200 rfl (by decide) rfl ?_
      refine g_iinc (L' := [some (Rf 40), some (Iv s), some (Iv w), some (Iv far), some (Iv near), some (Iv n), some (Iv (wkM κ l 2)), some (Iv 2), some (Iv 3), some (Iv (wkM κ l 2))]) 205 dX10_fire_202 rfl rfl (by decide) rfl ?_
      refine g_goto 129 dX10_fire_205 (by decide) ?_
      refine g_iload 131 dX10_fire_129 rfl rfl ?_
      refine g_iconst 132 dX10_fire_131 (by decide) rfl ?_
      refine g_icmp_ge 208 135 dX10_fire_132 (by decide) (by decide) (by decide) rfl (fun _ => ?_) (fun z => absurd z (by decide))
      refine g_iload_n 209 dX10_fire_208 rfl rfl ?_
      refine g_if_ne 224 212 dX10_fire_209 (by first | assumption | omega) (by decide) rfl (fun h161 => ?_) (fun h161 => ?_)
      · refine g_iload_n 225 dX10_fire_224 rfl rfl ?_
        refine g_iconst 226 dX10_fire_225 (by decide) rfl ?_
        refine g_icmp_ne 234 229 dX10_fire_226 (by first | assumption | omega) (by decide) (by decide) rfl (fun h162 => ?_) (fun h162 => ?_)
        · refine g_iload 236 dX10_fire_234 rfl rfl ?_
          refine g_iret dX10_fire_236 rfl ?_
          unfold M_fire fireA
          rw [if_neg (by omega), if_neg (by omega), if_neg (by omega), ← hl]
          refine ⟨congrArg (fun x => some (Iv x)) ?_, rfl, rfl⟩
          show _ = if w = 0 then 4 * wkM κ l (whoM κ l) + 2 * (l.length : Int) else if w = 1 then (whoM κ l : Int) else (l.length : Int)
          unfold whoM
          (repeat' split) <;> first | (exfalso; omega) | omega
        refine g_iload 231 dX10_fire_229 rfl rfl ?_
        refine g_goto 236 dX10_fire_231 (by decide) ?_
        refine g_iret dX10_fire_236 rfl ?_
        unfold M_fire fireA
        rw [if_neg (by omega), if_neg (by omega), if_neg (by omega), ← hl]
        refine ⟨congrArg (fun x => some (Iv x)) ?_, rfl, rfl⟩
        show _ = if w = 0 then 4 * wkM κ l (whoM κ l) + 2 * (l.length : Int) else if w = 1 then (whoM κ l : Int) else (l.length : Int)
        unfold whoM
        (repeat' split) <;> first | (exfalso; omega) | omega
      refine g_iconst 213 dX10_fire_212 (by decide) rfl ?_
      refine g_iload 215 dX10_fire_213 rfl rfl ?_
      refine g_imul 216 dX10_fire_215 rfl ?_
      refine g_iconst 217 dX10_fire_216 (by decide) rfl ?_
      refine g_iload 219 dX10_fire_217 rfl rfl ?_
      refine g_imul 220 dX10_fire_219 rfl ?_
      refine g_iadd 221 dX10_fire_220 rfl ?_
      refine g_goto 236 dX10_fire_221 (by decide) ?_
      refine g_iret dX10_fire_236 rfl ?_
      unfold M_fire fireA
      rw [if_neg (by omega), if_neg (by omega), if_neg (by omega), ← hl]
      refine ⟨congrArg (fun x => some (Iv x)) ?_, rfl, rfl⟩
      show _ = if w = 0 then 4 * wkM κ l (whoM κ l) + 2 * (l.length : Int) else if w = 1 then (whoM κ l : Int) else (l.length : Int)
      unfold whoM
      (repeat' split) <;> first | (exfalso; omega) | omega
    refine g_iload 196 dX10_fire_194 rfl rfl ?_
    refine g_istore (L' := [some (Rf 40), some (Iv s), some (Iv w), some (Iv far), some (Iv near), some (Iv n), some (Iv (wkM κ l 1)), some (Iv 0), some (Iv 1), some (Iv (wkM κ l 1))]) 198 dX10_fire_196 rfl (by decide) rfl ?_
    refine g_iload 200 dX10_fire_198 rfl rfl ?_
    refine g_istore (L' := [some (Rf 40), some (Iv s), some (Iv w), some (Iv far), some (Iv near), some (Iv n), some (Iv (wkM κ l 1)), some (Iv 1), some (Iv 1), some (Iv (wkM κ l 1))]) 202 dX10_fire_200 rfl (by decide) rfl ?_
    refine g_iinc (L' := [some (Rf 40), some (Iv s), some (Iv w), some (Iv far), some (Iv near), some (Iv n), some (Iv (wkM κ l 1)), some (Iv 1), some (Iv 2), some (Iv (wkM κ l 1))]) 205 dX10_fire_202 rfl rfl (by decide) rfl ?_
    refine g_goto 129 dX10_fire_205 (by decide) ?_
    refine g_iload 131 dX10_fire_129 rfl rfl ?_
    refine g_iconst 132 dX10_fire_131 (by decide) rfl ?_
    refine g_icmp_ge 208 135 dX10_fire_132 (by decide) (by decide) (by decide) rfl (fun z => absurd z (by decide)) (fun _ => ?_)
    refine g_iload 137 dX10_fire_135 rfl rfl ?_
    refine g_if_ne 144 140 dX10_fire_137 (by omega) (by decide) rfl (fun _ => ?_) (fun z => absurd z (by omega))
    refine g_aload_n 145 dX10_fire_144 rfl rfl ?_
    refine g_iload_n 146 dX10_fire_145 rfl rfl ?_
    refine g_iload 148 dX10_fire_146 rfl rfl ?_
    refine e_V 151 0 0 [Iv far, Iv near] [] dX10_fire_148 cvX10_177 mwX10_wayOf kd_40 (by decide) rfl (Nat.le_of_ble_eq_true rfl) rfl rfl rfl (c_X10_wayOf (by omega) (by omega) hI) ?_
    refine g_aload_n 152 dX10_fire_151 rfl rfl ?_
    refine g_aload_n 153 dX10_fire_152 rfl rfl ?_
    refine g_getC 156 dX10_fire_153 fgX10_87 kd_40 ly_40_36 rfl ?_
    refine g_iload 158 dX10_fire_156 rfl rfl ?_
    refine r_iald 159 2 (κ 77 2) dX10_fire_158 kd_77 (by decide) (by omega) (rfl) rfl (rfl) (fun r163 => ?_)
    refine g_iload_n 160 dX10_fire_159 rfl rfl ?_
    refine e_V 163 0 0 [Iv (κ 77 2), Iv far] [Iv (wayM κ far near)] dX10_fire_160 cvX10_177 mwX10_wayOf kd_40 (by decide) rfl (Nat.le_of_ble_eq_true rfl) rfl rfl rfl (c_X10_wayOf (by omega) (by omega) hI) ?_
    refine g_aload_n 164 dX10_fire_163 rfl rfl ?_
    refine g_aload_n 165 dX10_fire_164 rfl rfl ?_
    refine g_getC 168 dX10_fire_165 fgX10_87 kd_40 ly_40_36 rfl ?_
    refine g_iload 170 dX10_fire_168 rfl rfl ?_
    refine r_iald 171 2 (κ 77 2) dX10_fire_170 kd_77 (by decide) (by omega) (rfl) rfl (rfl) (fun r164 => ?_)
    refine g_iload 173 dX10_fire_171 rfl rfl ?_
    refine e_V 176 0 0 [Iv (κ 77 2), Iv near] [Iv (wayM κ (κ 77 2) far), Iv (wayM κ far near)] dX10_fire_173 cvX10_177 mwX10_wayOf kd_40 (by decide) rfl (Nat.le_of_ble_eq_true rfl) rfl rfl rfl (c_X10_wayOf (by omega) (by omega) hI) ?_
    refine e_S 179 0 0 [Iv (wayM κ (κ 77 2) far), Iv (wayM κ (κ 77 2) near)] [Iv (wayM κ far near)] dX10_fire_176 csX10_187 mwX10_least (by decide) rfl (Nat.le_of_ble_eq_true rfl) rfl rfl rfl (c_X10_least (by omega) (by omega)) ?_
    refine g_iadd 180 dX10_fire_179 rfl ?_
    refine G.eqi (show ((wayM κ far near) + (min (wayM κ (κ 77 2) far) (wayM κ (κ 77 2) near))) = wkM κ l 2 by unfold wkM; rw [if_neg (by omega), ← hf, ← hn]) ?_
    have wk2 := wk_R κ l 2
    refine g_istore (L' := [some (Rf 40), some (Iv s), some (Iv w), some (Iv far), some (Iv near), some (Iv n), some (Iv (wkM κ l 1)), some (Iv 1), some (Iv 2), some (Iv (wkM κ l 2))]) 182 dX10_fire_180 rfl (by decide) rfl ?_
    refine g_iload 184 dX10_fire_182 rfl rfl ?_
    refine g_if_lt 194 187 dX10_fire_184 (by omega) (by decide) rfl (fun z => absurd z (by omega)) (fun _ => ?_)
    refine g_iload 189 dX10_fire_187 rfl rfl ?_
    refine g_iload 191 dX10_fire_189 rfl rfl ?_
    refine g_icmp_ge 202 194 dX10_fire_191 (by first | assumption | omega) (by first | assumption | omega) (by decide) rfl (fun h165 => ?_) (fun h165 => ?_)
    · refine g_iinc (L' := [some (Rf 40), some (Iv s), some (Iv w), some (Iv far), some (Iv near), some (Iv n), some (Iv (wkM κ l 1)), some (Iv 1), some (Iv 3), some (Iv (wkM κ l 2))]) 205 dX10_fire_202 rfl rfl (by decide) rfl ?_
      refine g_goto 129 dX10_fire_205 (by decide) ?_
      refine g_iload 131 dX10_fire_129 rfl rfl ?_
      refine g_iconst 132 dX10_fire_131 (by decide) rfl ?_
      refine g_icmp_ge 208 135 dX10_fire_132 (by decide) (by decide) (by decide) rfl (fun _ => ?_) (fun z => absurd z (by decide))
      refine g_iload_n 209 dX10_fire_208 rfl rfl ?_
      refine g_if_ne 224 212 dX10_fire_209 (by first | assumption | omega) (by decide) rfl (fun h166 => ?_) (fun h166 => ?_)
      · refine g_iload_n 225 dX10_fire_224 rfl rfl ?_
        refine g_iconst 226 dX10_fire_225 (by decide) rfl ?_
        refine g_icmp_ne 234 229 dX10_fire_226 (by first | assumption | omega) (by decide) (by decide) rfl (fun h167 => ?_) (fun h167 => ?_)
        · refine g_iload 236 dX10_fire_234 rfl rfl ?_
          refine g_iret dX10_fire_236 rfl ?_
          unfold M_fire fireA
          rw [if_neg (by omega), if_neg (by omega), if_neg (by omega), ← hl]
          refine ⟨congrArg (fun x => some (Iv x)) ?_, rfl, rfl⟩
          show _ = if w = 0 then 4 * wkM κ l (whoM κ l) + 2 * (l.length : Int) else if w = 1 then (whoM κ l : Int) else (l.length : Int)
          unfold whoM
          (repeat' split) <;> first | (exfalso; omega) | omega
        refine g_iload 231 dX10_fire_229 rfl rfl ?_
        refine g_goto 236 dX10_fire_231 (by decide) ?_
        refine g_iret dX10_fire_236 rfl ?_
        unfold M_fire fireA
        rw [if_neg (by omega), if_neg (by omega), if_neg (by omega), ← hl]
        refine ⟨congrArg (fun x => some (Iv x)) ?_, rfl, rfl⟩
        show _ = if w = 0 then 4 * wkM κ l (whoM κ l) + 2 * (l.length : Int) else if w = 1 then (whoM κ l : Int) else (l.length : Int)
        unfold whoM
        (repeat' split) <;> first | (exfalso; omega) | omega
      refine g_iconst 213 dX10_fire_212 (by decide) rfl ?_
      refine g_iload 215 dX10_fire_213 rfl rfl ?_
      refine g_imul 216 dX10_fire_215 rfl ?_
      refine g_iconst 217 dX10_fire_216 (by decide) rfl ?_
      refine g_iload 219 dX10_fire_217 rfl rfl ?_
      refine g_imul 220 dX10_fire_219 rfl ?_
      refine g_iadd 221 dX10_fire_220 rfl ?_
      refine g_goto 236 dX10_fire_221 (by decide) ?_
      refine g_iret dX10_fire_236 rfl ?_
      unfold M_fire fireA
      rw [if_neg (by omega), if_neg (by omega), if_neg (by omega), ← hl]
      refine ⟨congrArg (fun x => some (Iv x)) ?_, rfl, rfl⟩
      show _ = if w = 0 then 4 * wkM κ l (whoM κ l) + 2 * (l.length : Int) else if w = 1 then (whoM κ l : Int) else (l.length : Int)
      unfold whoM
      (repeat' split) <;> first | (exfalso; omega) | omega
    refine g_iload 196 dX10_fire_194 rfl rfl ?_
    refine g_istore (L' := [some (Rf 40), some (Iv s), some (Iv w), some (Iv far), some (Iv near), some (Iv n), some (Iv (wkM κ l 2)), some (Iv 1), some (Iv 2), some (Iv (wkM κ l 2))]) 198 dX10_fire_196 rfl (by decide) rfl ?_
    refine g_iload 200 dX10_fire_198 rfl rfl ?_
    refine g_istore (L' := [some (Rf 40), some (Iv s), some (Iv w), some (Iv far), some (Iv near), some (Iv n), some (Iv (wkM κ l 2)), some (Iv 2), some (Iv 2), some (Iv (wkM κ l 2))]) 202 dX10_fire_200 rfl (by decide) rfl ?_
    refine g_iinc (L' := [some (Rf 40), some (Iv s), some (Iv w), some (Iv far), some (Iv near), some (Iv n), some (Iv (wkM κ l 2)), some (Iv 2), some (Iv 3), some (Iv (wkM κ l 2))]) 205 dX10_fire_202 rfl rfl (by decide) rfl ?_
    refine g_goto 129 dX10_fire_205 (by decide) ?_
    refine g_iload 131 dX10_fire_129 rfl rfl ?_
    refine g_iconst 132 dX10_fire_131 (by decide) rfl ?_
    refine g_icmp_ge 208 135 dX10_fire_132 (by decide) (by decide) (by decide) rfl (fun _ => ?_) (fun z => absurd z (by decide))
    refine g_iload_n 209 dX10_fire_208 rfl rfl ?_
    refine g_if_ne 224 212 dX10_fire_209 (by first | assumption | omega) (by decide) rfl (fun h168 => ?_) (fun h168 => ?_)
    · refine g_iload_n 225 dX10_fire_224 rfl rfl ?_
      refine g_iconst 226 dX10_fire_225 (by decide) rfl ?_
      refine g_icmp_ne 234 229 dX10_fire_226 (by first | assumption | omega) (by decide) (by decide) rfl (fun h169 => ?_) (fun h169 => ?_)
      · refine g_iload 236 dX10_fire_234 rfl rfl ?_
        refine g_iret dX10_fire_236 rfl ?_
        unfold M_fire fireA
        rw [if_neg (by omega), if_neg (by omega), if_neg (by omega), ← hl]
        refine ⟨congrArg (fun x => some (Iv x)) ?_, rfl, rfl⟩
        show _ = if w = 0 then 4 * wkM κ l (whoM κ l) + 2 * (l.length : Int) else if w = 1 then (whoM κ l : Int) else (l.length : Int)
        unfold whoM
        (repeat' split) <;> first | (exfalso; omega) | omega
      refine g_iload 231 dX10_fire_229 rfl rfl ?_
      refine g_goto 236 dX10_fire_231 (by decide) ?_
      refine g_iret dX10_fire_236 rfl ?_
      unfold M_fire fireA
      rw [if_neg (by omega), if_neg (by omega), if_neg (by omega), ← hl]
      refine ⟨congrArg (fun x => some (Iv x)) ?_, rfl, rfl⟩
      show _ = if w = 0 then 4 * wkM κ l (whoM κ l) + 2 * (l.length : Int) else if w = 1 then (whoM κ l : Int) else (l.length : Int)
      unfold whoM
      (repeat' split) <;> first | (exfalso; omega) | omega
    refine g_iconst 213 dX10_fire_212 (by decide) rfl ?_
    refine g_iload 215 dX10_fire_213 rfl rfl ?_
    refine g_imul 216 dX10_fire_215 rfl ?_
    refine g_iconst 217 dX10_fire_216 (by decide) rfl ?_
    refine g_iload 219 dX10_fire_217 rfl rfl ?_
    refine g_imul 220 dX10_fire_219 rfl ?_
    refine g_iadd 221 dX10_fire_220 rfl ?_
    refine g_goto 236 dX10_fire_221 (by decide) ?_
    refine g_iret dX10_fire_236 rfl ?_
    unfold M_fire fireA
    rw [if_neg (by omega), if_neg (by omega), if_neg (by omega), ← hl]
    refine ⟨congrArg (fun x => some (Iv x)) ?_, rfl, rfl⟩
    show _ = if w = 0 then 4 * wkM κ l (whoM κ l) + 2 * (l.length : Int) else if w = 1 then (whoM κ l : Int) else (l.length : Int)
    unfold whoM
    (repeat' split) <;> first | (exfalso; omega) | omega
  have lp : ∀ (m : Nat) (far near n x : Int) (pre : List Int), (0 ≤ s ∧ s < κ 40 11) ∧ κ 57 s.toNat = 1 ∧ 0 ≤ w ∧ w ≤ 2 → -1 ≤ x ∧ x < κ 40 11 → (m : Int) = x + 1 → shM κ s = pre ++ shL κ (κ 40 0 % 168) (x + 1).toNat x → far = pre.headD (-1) → near = pre.getLastD (-1) → n = (pre.length : Int) → n + x ≤ 9 → (-1 ≤ far ∧ far < κ 40 11) ∧ (-1 ≤ near ∧ near < κ 40 11) → ∀ a7 a8 a9 : Option Av, G (XR B n0) mX10_fire 3 (PM (M_fire κ s w) V) V 0 0 67 [some (Rf 40), some (Iv s), some (Iv w), some (Iv far), some (Iv near), some (Iv n), some (Iv x), a7, a8, a9] [] V κ := by
    intro m
    induction m using Nat.strongRecOn with
    | ind m ih =>
      intro far near n x pre hc hx hm hl hf hn hk hlen hr a7 a8 a9
      refine g_iload 69 dX10_fire_67 rfl rfl ?_
      refine g_if_lt 120 72 dX10_fire_69 (by first | assumption | omega) (by decide) rfl (fun h101 => ?_) (fun h101 => ?_)
      · by_cases hz : n = 0
        · subst hz
          exact sg0 far near 0 pre _ _ _ _ hc (by rw [hl, shL_neg (by omega), List.append_nil]) hf hn hk (by omega) hr rfl
        · exact sgn far near n pre _ _ _ _ hc (by rw [hl, shL_neg (by omega), List.append_nil]) hf hn hk (by omega) hr (by omega)
      refine g_aload_n 73 dX10_fire_72 rfl rfl ?_
      refine g_iload 75 dX10_fire_73 rfl rfl ?_
      refine g_aload_n 76 dX10_fire_75 rfl rfl ?_
      refine r_getI 79 (κ 40 0) dX10_fire_76 fgX10_149 kd_40 ly_40_0 rfl (rfl) (fun r102 => ?_)
      refine g_sipush 82 dX10_fire_79 (by decide) rfl ?_
      refine g_irem 83 dX10_fire_82 (by omega) (by omega) rfl ?_
      refine o_V 86 0 0 [Iv x, Iv ((κ 40 0) % 168)] [] dX10_fire_83 cvX10_167 mwX10_isLet kd_40 (by decide) rfl (Nat.le_of_ble_eq_true rfl) rfl rfl rfl (c_X10_isLet (by first | assumption | omega) (by omega) hI) (fun h103 => ?_) (fun h103 => ?_)
      · have hlet := h103
        refine g_if_ne 108 89 dX10_fire_86 (by decide) (by decide) rfl (fun _ => ?_) (fun z => absurd z (by decide))
        refine g_aload_n 109 dX10_fire_108 rfl rfl ?_
        refine g_getC 112 dX10_fire_109 fgX10_19 kd_40 ly_40_12 rfl ?_
        refine g_iload 114 dX10_fire_112 rfl rfl ?_
        refine r_iald 115 ((x).toNat) (κ 53 ((x).toNat)) dX10_fire_114 kd_53 (by decide) (by omega) (rfl) rfl (rfl) (fun r104 => ?_)
        refine g_istore (L' := [some (Rf 40), some (Iv s), some (Iv w), some (Iv far), some (Iv near), some (Iv n), some (Iv (κ 53 ((x).toNat))), a7, a8, a9]) 117 dX10_fire_115 rfl (by decide) rfl ?_
        refine g_goto 67 dX10_fire_117 (by decide) ?_
        have ix := (iS x.toNat (by omega)).1
        have fu : shL κ (κ 40 0 % 168) x.toNat (κ 53 x.toNat) = shL κ (κ 40 0 % 168) (κ 53 x.toNat + 1).toNat (κ 53 x.toNat) := shL_fuel iS _ _ _ (by omega) (by omega) (by omega) (by omega)
        exact ih (κ 53 x.toNat + 1).toNat (by omega) far near n _ pre hc (by omega) (by omega) (by rw [hl, show (x + 1).toNat = x.toNat + 1 by omega, shL_s, if_neg (by omega), if_pos (letB_iff.mpr hlet), fu]) hf hn hk (by omega) hr a7 a8 a9
      have hlet := h103
      refine g_if_ne 108 89 dX10_fire_86 (by decide) (by decide) rfl (fun z => absurd z (by decide)) (fun _ => ?_)
      refine g_iload 91 dX10_fire_89 rfl rfl ?_
      refine g_if_ne 99 94 dX10_fire_91 (by first | assumption | omega) (by decide) rfl (fun h105 => ?_) (fun h105 => ?_)
      · refine g_iload_n 100 dX10_fire_99 rfl rfl ?_
        refine g_istore_n (L' := [some (Rf 40), some (Iv s), some (Iv w), some (Iv far), some (Iv near), some (Iv n), some (Iv x), a7, a8, a9]) 101 dX10_fire_100 rfl (by decide) rfl ?_
        refine g_iload 103 dX10_fire_101 rfl rfl ?_
        refine g_istore (L' := [some (Rf 40), some (Iv s), some (Iv w), some (Iv far), some (Iv x), some (Iv n), some (Iv x), a7, a8, a9]) 105 dX10_fire_103 rfl (by decide) rfl ?_
        refine g_iinc (L' := [some (Rf 40), some (Iv s), some (Iv w), some (Iv far), some (Iv x), some (Iv (n + 1)), some (Iv x), a7, a8, a9]) 108 dX10_fire_105 rfl rfl (by decide) rfl ?_
        refine g_aload_n 109 dX10_fire_108 rfl rfl ?_
        refine g_getC 112 dX10_fire_109 fgX10_19 kd_40 ly_40_12 rfl ?_
        refine g_iload 114 dX10_fire_112 rfl rfl ?_
        refine r_iald 115 ((x).toNat) (κ 53 ((x).toNat)) dX10_fire_114 kd_53 (by decide) (by omega) (rfl) rfl (rfl) (fun r106 => ?_)
        refine g_istore (L' := [some (Rf 40), some (Iv s), some (Iv w), some (Iv far), some (Iv x), some (Iv (n + 1)), some (Iv (κ 53 ((x).toNat))), a7, a8, a9]) 117 dX10_fire_115 rfl (by decide) rfl ?_
        refine g_goto 67 dX10_fire_117 (by decide) ?_
        have ix := (iS x.toNat (by omega)).1
        have fu : shL κ (κ 40 0 % 168) x.toNat (κ 53 x.toNat) = shL κ (κ 40 0 % 168) (κ 53 x.toNat + 1).toNat (κ 53 x.toNat) := shL_fuel iS _ _ _ (by omega) (by omega) (by omega) (by omega)
        refine ih (κ 53 x.toNat + 1).toNat (by omega) _ _ _ _ (pre ++ [x]) hc (by omega) (by omega) (by rw [hl, show (x + 1).toNat = x.toNat + 1 by omega, shL_s, if_neg (by omega), if_neg (fun z => hlet (letB_iff.mp z)), fu, List.append_assoc]; rfl) ?_ (by rw [List.getLastD_concat]) (by rw [List.length_append, hk]; rfl) (by omega) (by omega) a7 a8 a9
        cases pre with
        | nil => exact absurd hk (by rw [List.length_nil]; omega)
        | cons p q => exact hf
      refine g_iload 96 dX10_fire_94 rfl rfl ?_
      refine g_goto 100 dX10_fire_96 (by decide) ?_
      refine g_istore_n (L' := [some (Rf 40), some (Iv s), some (Iv w), some (Iv x), some (Iv near), some (Iv n), some (Iv x), a7, a8, a9]) 101 dX10_fire_100 rfl (by decide) rfl ?_
      refine g_iload 103 dX10_fire_101 rfl rfl ?_
      refine g_istore (L' := [some (Rf 40), some (Iv s), some (Iv w), some (Iv x), some (Iv x), some (Iv n), some (Iv x), a7, a8, a9]) 105 dX10_fire_103 rfl (by decide) rfl ?_
      refine g_iinc (L' := [some (Rf 40), some (Iv s), some (Iv w), some (Iv x), some (Iv x), some (Iv (n + 1)), some (Iv x), a7, a8, a9]) 108 dX10_fire_105 rfl rfl (by decide) rfl ?_
      refine g_aload_n 109 dX10_fire_108 rfl rfl ?_
      refine g_getC 112 dX10_fire_109 fgX10_19 kd_40 ly_40_12 rfl ?_
      refine g_iload 114 dX10_fire_112 rfl rfl ?_
      refine r_iald 115 ((x).toNat) (κ 53 ((x).toNat)) dX10_fire_114 kd_53 (by decide) (by omega) (rfl) rfl (rfl) (fun r107 => ?_)
      refine g_istore (L' := [some (Rf 40), some (Iv s), some (Iv w), some (Iv x), some (Iv x), some (Iv (n + 1)), some (Iv (κ 53 ((x).toNat))), a7, a8, a9]) 117 dX10_fire_115 rfl (by decide) rfl ?_
      refine g_goto 67 dX10_fire_117 (by decide) ?_
      have ix := (iS x.toNat (by omega)).1
      have fu : shL κ (κ 40 0 % 168) x.toNat (κ 53 x.toNat) = shL κ (κ 40 0 % 168) (κ 53 x.toNat + 1).toNat (κ 53 x.toNat) := shL_fuel iS _ _ _ (by omega) (by omega) (by omega) (by omega)
      refine ih (κ 53 x.toNat + 1).toNat (by omega) _ _ _ _ (pre ++ [x]) hc (by omega) (by omega) (by rw [hl, show (x + 1).toNat = x.toNat + 1 by omega, shL_s, if_neg (by omega), if_neg (fun z => hlet (letB_iff.mp z)), fu, List.append_assoc]; rfl) ?_ (by rw [List.getLastD_concat]) (by rw [List.length_append, hk]; rfl) (by omega) (by omega) a7 a8 a9
      cases pre with
      | nil => rfl
      | cons p q => exact absurd hk (by rw [List.length_cons]; omega)
  refine g_aload_n 1 dX10_fire_0 rfl rfl ?_
  refine g_iload_n 2 dX10_fire_1 rfl rfl ?_
  refine o_V 5 0 0 [Iv s] [] dX10_fire_2 cvX10_156 mwX10_isStreet kd_40 (by decide) rfl (Nat.le_of_ble_eq_true rfl) rfl rfl rfl (c_X10_isStreet (by omega) hI) (fun h1 => ?_) (fun h1 => ?_)
  · refine g_if_ne 14 8 dX10_fire_5 (by decide) (by decide) rfl (fun _ => ?_) (fun z => absurd z (by decide))
    refine g_aload_n 15 dX10_fire_14 rfl rfl ?_
    refine g_getC 18 dX10_fire_15 fgX10_33 kd_40 ly_40_16 rfl ?_
    refine g_iload_n 19 dX10_fire_18 rfl rfl ?_
    have is := iS s.toNat (by omega)
    refine r_iald 20 ((s).toNat) (κ 57 ((s).toNat)) dX10_fire_19 kd_57 (by decide) (by omega) (rfl) rfl (rfl) (fun r2 => ?_)
    refine g_if_ne 30 23 dX10_fire_20 (by first | assumption | omega) (by decide) rfl (fun h3 => ?_) (fun h3 => ?_)
    · refine g_aload_n 31 dX10_fire_30 rfl rfl ?_
      refine g_getC 34 dX10_fire_31 fgX10_33 kd_40 ly_40_16 rfl ?_
      refine g_iload_n 35 dX10_fire_34 rfl rfl ?_
      refine r_iald 36 ((s).toNat) (κ 57 ((s).toNat)) dX10_fire_35 kd_57 (by decide) (by omega) (rfl) rfl (rfl) (fun r4 => ?_)
      refine g_iconst 37 dX10_fire_36 (by decide) rfl ?_
      refine g_icmp_eq 49 40 dX10_fire_37 (by first | assumption | omega) (by decide) (by decide) rfl (fun h5 => ?_) (fun h5 => ?_)
      · refine g_aload_n 50 dX10_fire_49 rfl rfl ?_
        refine g_bipush 52 dX10_fire_50 (by decide) rfl ?_
        refine e_V 55 0 0 [Iv (-2)] [] dX10_fire_52 cvX10_145 mwX10_refuse kd_40 (by decide) rfl (Nat.le_of_ble_eq_true rfl) rfl rfl rfl (c_X10_refuse 2 (by decide) (by decide)) ?_
        refine g_iret dX10_fire_55 rfl ?_
        unfold M_fire
        (repeat' split) <;> first | (exfalso; omega) | exact ⟨rfl, rfl, rfl⟩ | exact ⟨congrArg (fun x => some (Iv x)) (by omega), rfl, rfl⟩
      refine g_iload_n 41 dX10_fire_40 rfl rfl ?_
      refine g_iconst 42 dX10_fire_41 (by decide) rfl ?_
      refine g_iconst 43 dX10_fire_42 (by decide) rfl ?_
      refine o_S 46 0 0 [Iv w, Iv 0, Iv 2] [] dX10_fire_43 csX10_138 mwX10_in (by decide) rfl (Nat.le_of_ble_eq_true rfl) rfl rfl rfl (c_X10_in (by omega) (by omega) (by omega)) (fun h6 => ?_) (fun h6 => ?_)
      · refine g_if_ne 56 49 dX10_fire_46 (by decide) (by decide) rfl (fun _ => ?_) (fun z => absurd z (by decide))
        refine g_iconst 57 dX10_fire_56 (by decide) rfl ?_
        refine g_istore_n (L' := [some (Rf 40), some (Iv s), some (Iv w), some (Iv (-1)), none, none, none, none, none, none]) 58 dX10_fire_57 rfl (by decide) rfl ?_
        refine g_iconst 59 dX10_fire_58 (by decide) rfl ?_
        refine g_istore (L' := [some (Rf 40), some (Iv s), some (Iv w), some (Iv (-1)), some (Iv (-1)), none, none, none, none, none]) 61 dX10_fire_59 rfl (by decide) rfl ?_
        refine g_iconst 62 dX10_fire_61 (by decide) rfl ?_
        refine g_istore (L' := [some (Rf 40), some (Iv s), some (Iv w), some (Iv (-1)), some (Iv (-1)), some (Iv 0), none, none, none, none]) 64 dX10_fire_62 rfl (by decide) rfl ?_
        refine g_iload_n 65 dX10_fire_64 rfl rfl ?_
        refine g_istore (L' := [some (Rf 40), some (Iv s), some (Iv w), some (Iv (-1)), some (Iv (-1)), some (Iv 0), some (Iv s), none, none, none]) 67 dX10_fire_65 rfl (by decide) rfl ?_
        exact lp (s + 1).toNat (-1) (-1) 0 s [] (by omega) (by omega) (by omega) rfl rfl rfl rfl (by omega) (by omega) none none none
      refine g_if_ne 56 49 dX10_fire_46 (by decide) (by decide) rfl (fun z => absurd z (by decide)) (fun _ => ?_)
      refine g_aload_n 50 dX10_fire_49 rfl rfl ?_
      refine g_bipush 52 dX10_fire_50 (by decide) rfl ?_
      refine e_V 55 0 0 [Iv (-2)] [] dX10_fire_52 cvX10_145 mwX10_refuse kd_40 (by decide) rfl (Nat.le_of_ble_eq_true rfl) rfl rfl rfl (c_X10_refuse 2 (by decide) (by decide)) ?_
      refine g_iret dX10_fire_55 rfl ?_
      unfold M_fire
      (repeat' split) <;> first | (exfalso; omega) | exact ⟨rfl, rfl, rfl⟩ | exact ⟨congrArg (fun x => some (Iv x)) (by omega), rfl, rfl⟩
    refine g_aload_n 24 dX10_fire_23 rfl rfl ?_
    refine g_bipush 26 dX10_fire_24 (by decide) rfl ?_
    refine e_V 29 0 0 [Iv (-5)] [] dX10_fire_26 cvX10_145 mwX10_refuse kd_40 (by decide) rfl (Nat.le_of_ble_eq_true rfl) rfl rfl rfl (c_X10_refuse 5 (by decide) (by decide)) ?_
    refine g_iret dX10_fire_29 rfl ?_
    unfold M_fire
    (repeat' split) <;> first | (exfalso; omega) | exact ⟨rfl, rfl, rfl⟩ | exact ⟨congrArg (fun x => some (Iv x)) (by omega), rfl, rfl⟩
  refine g_if_ne 14 8 dX10_fire_5 (by decide) (by decide) rfl (fun z => absurd z (by decide)) (fun _ => ?_)
  refine g_aload_n 9 dX10_fire_8 rfl rfl ?_
  refine g_iconst 10 dX10_fire_9 (by decide) rfl ?_
  refine e_V 13 0 0 [Iv (-1)] [] dX10_fire_10 cvX10_145 mwX10_refuse kd_40 (by decide) rfl (Nat.le_of_ble_eq_true rfl) rfl rfl rfl (c_X10_refuse 1 (by decide) (by decide)) ?_
  refine g_iret dX10_fire_13 rfl ?_
  unfold M_fire
  (repeat' split) <;> first | (exfalso; omega) | exact ⟨rfl, rfl, rfl⟩ | exact ⟨congrArg (fun x => some (Iv x)) (by omega), rfl, rfl⟩
set_option maxHeartbeats 4000000 in
set_option maxRecDepth 20000 in
theorem c_X10_worthOf {B : Bs} {n0 : Nat} {V : Vs} {κ : Ks} {s : Int} (h_s : 0 ≤ s ∧ s < κ 40 11) (hI : MI κ) : Ct (XR B n0) mX10_worthOf 3 0 0 [Rf 40, Iv s] V κ (Ex (some (Iv (worthM κ s.toNat))) V κ) := by
  obtain ⟨⟨i0, i1, i2, i3, i4, i5, i6, i7, i8, i9⟩, iS, iH, iR, iT, iC, iG, iL, iZ⟩ := id hI
  refine Ct.of (L := [some (Rf 40), some (Iv s), none, none]) 2 (by decide +kernel) rfl rfl ?_
  have lp : ∀ (m : Nat) (n h : Int), 0 ≤ h ∧ h ≤ 168 → (m : Int) = 168 - h → n = cntO κ s h.toNat → G (XR B n0) mX10_worthOf 3 (Ex (some (Iv (worthM κ s.toNat))) V κ) V 0 0 4 [some (Rf 40), some (Iv s), some (Iv n), some (Iv h)] [] V κ := by
    intro m
    induction m using Nat.strongRecOn with
    | ind m ih =>
      intro n h hh hm hn
      refine g_iload_n 5 dX10_worthOf_4 rfl rfl ?_
      refine g_sipush 8 dX10_worthOf_5 (by decide) rfl ?_
      refine g_icmp_ge 34 11 dX10_worthOf_8 (by first | assumption | omega) (by decide) (by decide) rfl (fun h101 => ?_) (fun h101 => ?_)
      · refine g_iload_n 35 dX10_worthOf_34 rfl rfl ?_
        refine g_aload_n 36 dX10_worthOf_35 rfl rfl ?_
        refine g_iload_n 37 dX10_worthOf_36 rfl rfl ?_
        refine e_V 40 0 0 [Iv s] [Iv n] dX10_worthOf_37 cvX10_212 mwX10_dripOf kd_40 (by decide) rfl (Nat.le_of_ble_eq_true rfl) rfl rfl rfl (c_X10_dripOf (by omega) hI) ?_
        refine g_imul 41 dX10_worthOf_40 rfl ?_
        refine g_iret dX10_worthOf_41 rfl ?_
        have eh : h = 168 := by omega
        subst eh
        refine ⟨congrArg (fun x => some (Iv x)) ?_, rfl, rfl⟩
        unfold worthM
        rw [hn, show ((s.toNat : Nat) : Int) = s by omega]
        rfl
      refine g_iload_n 12 dX10_worthOf_11 rfl rfl ?_
      refine g_aload_n 13 dX10_worthOf_12 rfl rfl ?_
      refine g_iload_n 14 dX10_worthOf_13 rfl rfl ?_
      refine g_iload_n 15 dX10_worthOf_14 rfl rfl ?_
      refine o_V 18 0 0 [Iv s, Iv h] [Iv n] dX10_worthOf_15 cvX10_171 mwX10_isOpen kd_40 (by decide) rfl (Nat.le_of_ble_eq_true rfl) rfl rfl rfl (c_X10_isOpen (by omega) (by omega) hI) (fun h102 => ?_) (fun h102 => ?_)
      · have ho := h102
        have cr := cntO_R κ s h.toNat
        refine g_if_eq 25 21 dX10_worthOf_18 (by decide) (by decide) rfl (fun z => absurd z (by decide)) (fun _ => ?_)
        refine g_iconst 22 dX10_worthOf_21 (by decide) rfl ?_
        refine g_goto 26 dX10_worthOf_22 (by decide) ?_
        refine g_iadd 27 dX10_worthOf_26 rfl ?_
        refine g_istore_n (L' := [some (Rf 40), some (Iv s), some (Iv (n + 1)), some (Iv h)]) 28 dX10_worthOf_27 rfl (by decide) rfl ?_
        refine g_iinc (L' := [some (Rf 40), some (Iv s), some (Iv (n + 1)), some (Iv (h + 1))]) 31 dX10_worthOf_28 rfl rfl (by decide) rfl ?_
        refine g_goto 4 dX10_worthOf_31 (by decide) ?_
        refine ih (m - 1) (by omega) _ (h + 1) (by omega) (by omega) ?_
        rw [show (h + 1).toNat = h.toNat + 1 by omega]
        unfold cntO
        rw [hn, show ((h.toNat : Nat) : Int) = h by omega]
        rw [if_pos ((openB_iff iS (by omega) (by omega)).mpr ho)]
      have ho := h102
      have cr := cntO_R κ s h.toNat
      refine g_if_eq 25 21 dX10_worthOf_18 (by decide) (by decide) rfl (fun _ => ?_) (fun z => absurd z (by decide))
      refine g_iconst 26 dX10_worthOf_25 (by decide) rfl ?_
      refine g_iadd 27 dX10_worthOf_26 rfl ?_
      refine g_istore_n (L' := [some (Rf 40), some (Iv s), some (Iv (n + 0)), some (Iv h)]) 28 dX10_worthOf_27 rfl (by decide) rfl ?_
      refine g_iinc (L' := [some (Rf 40), some (Iv s), some (Iv (n + 0)), some (Iv (h + 1))]) 31 dX10_worthOf_28 rfl rfl (by decide) rfl ?_
      refine g_goto 4 dX10_worthOf_31 (by decide) ?_
      refine ih (m - 1) (by omega) _ (h + 1) (by omega) (by omega) ?_
      rw [show (h + 1).toNat = h.toNat + 1 by omega]
      unfold cntO
      rw [hn, show ((h.toNat : Nat) : Int) = h by omega]
      rw [if_neg (fun z => ho ((openB_iff iS (by omega) (by omega)).mp z))]
  refine g_iconst 1 dX10_worthOf_0 (by decide) rfl ?_
  refine g_istore_n (L' := [some (Rf 40), some (Iv s), some (Iv 0), none]) 2 dX10_worthOf_1 rfl (by decide) rfl ?_
  refine g_iconst 3 dX10_worthOf_2 (by decide) rfl ?_
  refine g_istore_n (L' := [some (Rf 40), some (Iv s), some (Iv 0), some (Iv 0)]) 4 dX10_worthOf_3 rfl (by decide) rfl ?_
  exact lp 168 0 0 (by omega) (by omega) rfl
set_option maxHeartbeats 4000000 in
set_option maxRecDepth 20000 in
theorem c_X10_ones {B : Bs} {n0 : Nat} {V : Vs} {κ : Ks} {b : Int} (h_b : 0 ≤ b ∧ b < 2147483648) : Ct (XR B n0) mX10_ones 1 0 0 [Iv b] V κ (Ex (some (Iv (pc2 32 b))) V κ) := by
  have p32 : (2 : Int) ^ 32 = 4294967296 := by decide
  refine Ct.of (L := [some (Iv b), none, none]) 2 (by decide +kernel) rfl rfl ?_
  have lp : ∀ (m : Nat) (n x : Int), 0 ≤ x ∧ x < 2147483648 → x < 2 ^ m → 0 ≤ n → n + pc2 m x = pc2 32 b → G (XR B n0) mX10_ones 1 (Ex (some (Iv (pc2 32 b))) V κ) V 0 0 4 [some (Iv b), some (Iv n), some (Iv x)] [] V κ := by
    intro m
    induction m using Nat.strongRecOn with
    | ind m ih =>
      intro n x hx hx2 hn hm
      have pr := pc2_R m x
      have pr2 := pc2_R 32 b
      refine g_iload_n 5 dX10_ones_4 rfl rfl ?_
      refine g_if_le 21 8 dX10_ones_5 (by first | assumption | omega) (by decide) rfl (fun h101 => ?_) (fun h101 => ?_)
      · refine g_iload_n 22 dX10_ones_21 rfl rfl ?_
        refine g_iret dX10_ones_22 rfl ?_
        have ex : x = 0 := by omega
        subst ex
        rw [pc2_0] at hm
        exact ⟨congrArg (fun x => some (Iv x)) (by omega), rfl, rfl⟩
      refine g_iload_n 9 dX10_ones_8 rfl rfl ?_
      refine g_iload_n 10 dX10_ones_9 rfl rfl ?_
      refine g_iconst 11 dX10_ones_10 (by decide) rfl ?_
      refine g_irem 12 dX10_ones_11 (by omega) (by omega) rfl ?_
      refine g_iadd 13 dX10_ones_12 rfl ?_
      refine g_istore_n (L' := [some (Iv b), some (Iv (n + (x % 2))), some (Iv x)]) 14 dX10_ones_13 rfl (by decide) rfl ?_
      refine g_iload_n 15 dX10_ones_14 rfl rfl ?_
      refine g_iconst 16 dX10_ones_15 (by decide) rfl ?_
      refine g_idiv 17 dX10_ones_16 (by omega) (by omega) rfl ?_
      refine g_istore_n (L' := [some (Iv b), some (Iv (n + (x % 2))), some (Iv (x / 2))]) 18 dX10_ones_17 rfl (by decide) rfl ?_
      refine g_goto 4 dX10_ones_18 (by decide) ?_
      obtain ⟨k, rfl⟩ : ∃ k, m = k + 1 := ⟨m - 1, by cases m with | zero => simp at hx2; omega | succ k => rfl⟩
      rw [pc2_s] at hm
      exact ih k (by omega) _ _ (by omega) (by rw [Int.pow_succ] at hx2; omega) (by omega) (by omega)
  refine g_iconst 1 dX10_ones_0 (by decide) rfl ?_
  refine g_istore_n (L' := [some (Iv b), some (Iv 0), none]) 2 dX10_ones_1 rfl (by decide) rfl ?_
  refine g_iload_n 3 dX10_ones_2 rfl rfl ?_
  refine g_istore_n (L' := [some (Iv b), some (Iv 0), some (Iv b)]) 4 dX10_ones_3 rfl (by decide) rfl ?_
  exact lp 32 0 b h_b (by rw [p32]; omega) (by omega) (by omega)
set_option maxHeartbeats 4000000 in
set_option maxRecDepth 20000 in
theorem c_X10_findBest {B : Bs} {n0 : Nat} {V : Vs} {κ : Ks} {u : Int} (h_u : 0 ≤ u ∧ u ≤ 10000) (hI : MI κ) : Ct (XR B n0) mX10_findBest 4 0 0 [Rf 40, Iv u] V κ (fun r V1 κ1 => r = none ∧ V1 = V ∧ scr κ κ1 ∧ κ1 40 50 = (bestM κ u).2 ∧ κ1 40 51 = (bestM κ u).1) := by
  obtain ⟨⟨i0, i1, i2, i3, i4, i5, i6, i7, i8, i9⟩, iS, iH, iR, iT, iC, iG, iL, iZ⟩ := id hI
  obtain ⟨N, hN⟩ : ∃ N : Int, N = 2 ^ (κ 40 11).toNat := ⟨_, rfl⟩
  have hNR : 1 ≤ N ∧ N ≤ 1024 := by rw [hN]; exact pow_R (by omega)
  refine Ct.of (L := [some (Rf 40), some (Iv u), none, none, none, none, none, none]) 6 (by decide +kernel) rfl rfl ?_
  have lpS : ∀ (m : Nat) (set : Int) (κ2 : Ks), MI κ2 → scr κ κ2 → (∀ u : Nat, (u : Int) < κ 40 11 → κ2 90 u = worthM κ u) → 1 ≤ set ∧ set ≤ N → (m : Int) = N - set → κ2 40 50 = (bst κ u (set - 1).toNat).2 ∧ κ2 40 51 = (bst κ u (set - 1).toNat).1 → ∀ a3 a4 a5 a6 a7 : Option Av, G (XR B n0) mX10_findBest 4 (fun r V1 κ1 => r = none ∧ V1 = V ∧ scr κ κ1 ∧ κ1 40 50 = (bestM κ u).2 ∧ κ1 40 51 = (bestM κ u).1) V 0 0 39 [some (Rf 40), some (Iv u), some (Iv set), a3, a4, a5, a6, a7] [] V κ2 := by
    intro m
    induction m using Nat.strongRecOn with
    | ind m ih0 =>
      intro set κ2 hI2 hS2 hw hset hm0 hb a3 a4 a5 a6 a7
      obtain ⟨⟨j0, j1, j2, j3, j4, j5, j6, j7, j8, j9⟩, jS, jH, jR, jT, jC, jG, jL, jZ⟩ := id hI2
      have e11 : κ2 40 11 = κ 40 11 := hS2.1 11 (by decide) (by decide) (by decide)
      have e3 : κ2 40 3 = κ 40 3 := hS2.1 3 (by decide) (by decide) (by decide)
      have e54 : κ2 54 = κ 54 := hS2.2 54 (by decide) (by decide) (by decide) (by decide) (by decide) (by decide) (by decide)
      have e56 : κ2 56 = κ 56 := hS2.2 56 (by decide) (by decide) (by decide) (by decide) (by decide) (by decide) (by decide)
      have br := bst_R hI u (set - 1).toNat
      have lpI : ∀ (k : Nat) (co wo wd s : Int), 0 ≤ s ∧ s ≤ κ 40 11 → (k : Int) = κ 40 11 - s → co = costM κ set s.toNat → wo = worM κ set s.toNat → wd = wdM κ set s.toNat → wd = 0 ∨ wd = 1 → set < N → ∀ a7 : Option Av, G (XR B n0) mX10_findBest 4 (fun r V1 κ1 => r = none ∧ V1 = V ∧ scr κ κ1 ∧ κ1 40 50 = (bestM κ u).2 ∧ κ1 40 51 = (bestM κ u).1) V 0 0 60 [some (Rf 40), some (Iv u), some (Iv set), some (Iv co), some (Iv wo), some (Iv wd), some (Iv s), a7] [] V κ2 := by
        intro k
        induction k using Nat.strongRecOn with
        | ind k ihk =>
          intro co wo wd s hs hm hco hwo hwd h01 hset2 a7
          refine g_iload 62 dX10_findBest_60 rfl rfl ?_
          refine g_aload_n 63 dX10_findBest_62 rfl rfl ?_
          refine r_getI 66 (κ2 40 11) dX10_findBest_63 fgX10_135 kd_40 ly_40_11 rfl (rfl) (fun r301 => ?_)
          refine g_icmp_ge 164 69 dX10_findBest_66 (by first | assumption | omega) (by first | assumption | omega) (by decide) rfl (fun h302 => ?_) (fun h302 => ?_)
          · have cr := cost_R hI set s.toNat (by omega)
            have wr := wor_R hI set s.toNat (by omega)
            have pr1 := pc2_R 32 set
            have pr2 := pc2_R 32 (κ2 40 50)
            refine g_iload 166 dX10_findBest_164 rfl rfl ?_
            refine g_if_eq 217 169 dX10_findBest_166 (by first | assumption | omega) (by decide) rfl (fun h303 => ?_) (fun h303 => ?_)
            · refine g_iinc (L' := [some (Rf 40), some (Iv u), some (Iv (set + 1)), some (Iv co), some (Iv wo), some (Iv wd), some (Iv s), a7]) 220 dX10_findBest_217 rfl rfl (by decide) rfl ?_
              refine g_goto 39 dX10_findBest_220 (by decide) ?_
              have en : s = κ 40 11 := by omega
              subst en
              have es : bst κ u (set + 1 - 1).toNat = if bstC κ u set (bst κ u (set - 1).toNat) then (worM κ set (κ 40 11).toNat, set) else bst κ u (set - 1).toNat := by
                rw [show (set + 1 - 1).toNat = (set - 1).toNat + 1 by omega]
                rw [bst_s, show (((set - 1).toNat : Nat) : Int) + 1 = set by omega]
              rw [if_neg (show ¬ bstC κ u set (bst κ u (set - 1).toNat) by intro z; obtain ⟨z1, z2, z3⟩ := z; rw [← hb.1, ← hb.2] at z3; omega)] at es
              exact ih0 (m - 1) (by omega) (set + 1) _ hI2 hS2 hw (by omega) (by omega) (by rw [es]; exact hb) _ _ _ _ _
            refine g_iload_n 170 dX10_findBest_169 rfl rfl ?_
            refine g_iload_n 171 dX10_findBest_170 rfl rfl ?_
            refine g_icmp_gt 217 174 dX10_findBest_171 (by first | assumption | omega) (by first | assumption | omega) (by decide) rfl (fun h304 => ?_) (fun h304 => ?_)
            · refine g_iinc (L' := [some (Rf 40), some (Iv u), some (Iv (set + 1)), some (Iv co), some (Iv wo), some (Iv wd), some (Iv s), a7]) 220 dX10_findBest_217 rfl rfl (by decide) rfl ?_
              refine g_goto 39 dX10_findBest_220 (by decide) ?_
              have en : s = κ 40 11 := by omega
              subst en
              have es : bst κ u (set + 1 - 1).toNat = if bstC κ u set (bst κ u (set - 1).toNat) then (worM κ set (κ 40 11).toNat, set) else bst κ u (set - 1).toNat := by
                rw [show (set + 1 - 1).toNat = (set - 1).toNat + 1 by omega]
                rw [bst_s, show (((set - 1).toNat : Nat) : Int) + 1 = set by omega]
              rw [if_neg (show ¬ bstC κ u set (bst κ u (set - 1).toNat) by intro z; obtain ⟨z1, z2, z3⟩ := z; rw [← hb.1, ← hb.2] at z3; omega)] at es
              exact ih0 (m - 1) (by omega) (set + 1) _ hI2 hS2 hw (by omega) (by omega) (by rw [es]; exact hb) _ _ _ _ _
            refine g_iload 176 dX10_findBest_174 rfl rfl ?_
            refine g_aload_n 177 dX10_findBest_176 rfl rfl ?_
            refine r_getI 180 (κ2 40 51) dX10_findBest_177 fgX10_236 kd_40 ly_40_51 rfl (rfl) (fun r305 => ?_)
            refine g_icmp_gt 206 183 dX10_findBest_180 (by first | assumption | omega) (by first | assumption | omega) (by decide) rfl (fun h306 => ?_) (fun h306 => ?_)
            · refine g_aload_n 207 dX10_findBest_206 rfl rfl ?_
              refine g_iload 209 dX10_findBest_207 rfl rfl ?_
              refine g_putI 212 dX10_findBest_209 fpX10_236 (fun h => (nomatch h)) kd_40 ly_40_51 (by omega) rfl ?_
              refine g_aload_n 213 dX10_findBest_212 rfl rfl ?_
              refine g_iload_n 214 dX10_findBest_213 rfl rfl ?_
              refine g_putI 217 dX10_findBest_214 fpX10_233 (fun h => (nomatch h)) kd_40 ly_40_50 (by omega) rfl ?_
              refine g_iinc (L' := [some (Rf 40), some (Iv u), some (Iv (set + 1)), some (Iv co), some (Iv wo), some (Iv wd), some (Iv s), a7]) 220 dX10_findBest_217 rfl rfl (by decide) rfl ?_
              refine g_goto 39 dX10_findBest_220 (by decide) ?_
              have en : s = κ 40 11 := by omega
              subst en
              have es : bst κ u (set + 1 - 1).toNat = if bstC κ u set (bst κ u (set - 1).toNat) then (worM κ set (κ 40 11).toNat, set) else bst κ u (set - 1).toNat := by
                rw [show (set + 1 - 1).toNat = (set - 1).toNat + 1 by omega]
                rw [bst_s, show (((set - 1).toNat : Nat) : Int) + 1 = set by omega]
              rw [if_pos (show bstC κ u set (bst κ u (set - 1).toNat) by refine ⟨by omega, by omega, ?_⟩; rw [← hb.1, ← hb.2]; omega)] at es
              exact ih0 (m - 1) (by omega) (set + 1) _ ((hI2.scr (scr.s40 _ (by decide))).scr (scr.s40 _ (by decide))) ((hS2.tr (scr.s40 _ (by decide))).tr (scr.s40 _ (by decide))) (fun u hu => rd_t (by decide) (rd_t (by decide) (hw u hu))) (by omega) (by omega) (by rw [es]; exact ⟨rd_s rfl rfl rfl, rd_j (by decide) (rd_s rfl rfl hwo)⟩) _ _ _ _ _
            refine g_iload 185 dX10_findBest_183 rfl rfl ?_
            refine g_aload_n 186 dX10_findBest_185 rfl rfl ?_
            refine r_getI 189 (κ2 40 51) dX10_findBest_186 fgX10_236 kd_40 ly_40_51 rfl (rfl) (fun r307 => ?_)
            refine g_icmp_ne 217 192 dX10_findBest_189 (by first | assumption | omega) (by first | assumption | omega) (by decide) rfl (fun h308 => ?_) (fun h308 => ?_)
            · refine g_iinc (L' := [some (Rf 40), some (Iv u), some (Iv (set + 1)), some (Iv co), some (Iv wo), some (Iv wd), some (Iv s), a7]) 220 dX10_findBest_217 rfl rfl (by decide) rfl ?_
              refine g_goto 39 dX10_findBest_220 (by decide) ?_
              have en : s = κ 40 11 := by omega
              subst en
              have es : bst κ u (set + 1 - 1).toNat = if bstC κ u set (bst κ u (set - 1).toNat) then (worM κ set (κ 40 11).toNat, set) else bst κ u (set - 1).toNat := by
                rw [show (set + 1 - 1).toNat = (set - 1).toNat + 1 by omega]
                rw [bst_s, show (((set - 1).toNat : Nat) : Int) + 1 = set by omega]
              rw [if_neg (show ¬ bstC κ u set (bst κ u (set - 1).toNat) by intro z; obtain ⟨z1, z2, z3⟩ := z; rw [← hb.1, ← hb.2] at z3; omega)] at es
              exact ih0 (m - 1) (by omega) (set + 1) _ hI2 hS2 hw (by omega) (by omega) (by rw [es]; exact hb) _ _ _ _ _
            refine g_iload_n 193 dX10_findBest_192 rfl rfl ?_
            refine e_S 196 0 0 [Iv set] [] dX10_findBest_193 csX10_239 mwX10_ones (by decide) rfl (Nat.le_of_ble_eq_true rfl) rfl rfl rfl (c_X10_ones (by omega)) ?_
            refine g_aload_n 197 dX10_findBest_196 rfl rfl ?_
            refine r_getI 200 (κ2 40 50) dX10_findBest_197 fgX10_233 kd_40 ly_40_50 rfl (rfl) (fun r309 => ?_)
            refine e_S 203 0 0 [Iv (κ2 40 50)] [Iv (pc2 32 set)] dX10_findBest_200 csX10_239 mwX10_ones (by decide) rfl (Nat.le_of_ble_eq_true rfl) rfl rfl rfl (c_X10_ones (by omega)) ?_
            refine g_icmp_ge 217 206 dX10_findBest_203 (by first | assumption | omega) (by first | assumption | omega) (by decide) rfl (fun h310 => ?_) (fun h310 => ?_)
            · refine g_iinc (L' := [some (Rf 40), some (Iv u), some (Iv (set + 1)), some (Iv co), some (Iv wo), some (Iv wd), some (Iv s), a7]) 220 dX10_findBest_217 rfl rfl (by decide) rfl ?_
              refine g_goto 39 dX10_findBest_220 (by decide) ?_
              have en : s = κ 40 11 := by omega
              subst en
              have es : bst κ u (set + 1 - 1).toNat = if bstC κ u set (bst κ u (set - 1).toNat) then (worM κ set (κ 40 11).toNat, set) else bst κ u (set - 1).toNat := by
                rw [show (set + 1 - 1).toNat = (set - 1).toNat + 1 by omega]
                rw [bst_s, show (((set - 1).toNat : Nat) : Int) + 1 = set by omega]
              rw [if_neg (show ¬ bstC κ u set (bst κ u (set - 1).toNat) by intro z; obtain ⟨z1, z2, z3⟩ := z; rw [← hb.1, ← hb.2] at z3; omega)] at es
              exact ih0 (m - 1) (by omega) (set + 1) _ hI2 hS2 hw (by omega) (by omega) (by rw [es]; exact hb) _ _ _ _ _
            refine g_aload_n 207 dX10_findBest_206 rfl rfl ?_
            refine g_iload 209 dX10_findBest_207 rfl rfl ?_
            refine g_putI 212 dX10_findBest_209 fpX10_236 (fun h => (nomatch h)) kd_40 ly_40_51 (by omega) rfl ?_
            refine g_aload_n 213 dX10_findBest_212 rfl rfl ?_
            refine g_iload_n 214 dX10_findBest_213 rfl rfl ?_
            refine g_putI 217 dX10_findBest_214 fpX10_233 (fun h => (nomatch h)) kd_40 ly_40_50 (by omega) rfl ?_
            refine g_iinc (L' := [some (Rf 40), some (Iv u), some (Iv (set + 1)), some (Iv co), some (Iv wo), some (Iv wd), some (Iv s), a7]) 220 dX10_findBest_217 rfl rfl (by decide) rfl ?_
            refine g_goto 39 dX10_findBest_220 (by decide) ?_
            have en : s = κ 40 11 := by omega
            subst en
            have es : bst κ u (set + 1 - 1).toNat = if bstC κ u set (bst κ u (set - 1).toNat) then (worM κ set (κ 40 11).toNat, set) else bst κ u (set - 1).toNat := by
              rw [show (set + 1 - 1).toNat = (set - 1).toNat + 1 by omega]
              rw [bst_s, show (((set - 1).toNat : Nat) : Int) + 1 = set by omega]
            rw [if_pos (show bstC κ u set (bst κ u (set - 1).toNat) by refine ⟨by omega, by omega, ?_⟩; rw [← hb.1, ← hb.2]; omega)] at es
            exact ih0 (m - 1) (by omega) (set + 1) _ ((hI2.scr (scr.s40 _ (by decide))).scr (scr.s40 _ (by decide))) ((hS2.tr (scr.s40 _ (by decide))).tr (scr.s40 _ (by decide))) (fun u hu => rd_t (by decide) (rd_t (by decide) (hw u hu))) (by omega) (by omega) (by rw [es]; exact ⟨rd_s rfl rfl rfl, rd_j (by decide) (rd_s rfl rfl hwo)⟩) _ _ _ _ _
          refine g_iload_n 70 dX10_findBest_69 rfl rfl ?_
          refine g_iload 72 dX10_findBest_70 rfl rfl ?_
          refine g_ishr 73 dX10_findBest_72 rfl ?_
          refine g_iconst 74 dX10_findBest_73 (by decide) rfl ?_
          refine g_iand 75 dX10_findBest_74 rfl ?_
          refine G.eqi (bit_I (by omega) (by omega)) ?_
          have b01 := bitI_01 set s.toNat
          have cr := cost_R hI set s.toNat (by omega)
          have wr := wor_R hI set s.toNat (by omega)
          have wr2 := worth_R hI (s := s.toNat) (by omega)
          have hws := hw s.toNat (by omega)
          have js := jS s.toNat (by omega)
          have p1 : 0 ≤ κ2 54 s.toNat * κ2 40 3 := Int.mul_nonneg (by omega) (by omega)
          have p2 : κ2 54 s.toNat * κ2 40 3 ≤ 50 * 99 := Int.mul_le_mul (by omega) (by omega) (by omega) (by omega)
          refine g_iconst 76 dX10_findBest_75 (by decide) rfl ?_
          refine g_icmp_ne 83 79 dX10_findBest_76 (by first | assumption | omega) (by decide) (by decide) rfl (fun h311 => ?_) (fun h311 => ?_)
          · refine g_iconst 84 dX10_findBest_83 (by decide) rfl ?_
            refine g_istore (L' := [some (Rf 40), some (Iv u), some (Iv set), some (Iv co), some (Iv wo), some (Iv wd), some (Iv s), some (Iv 0)]) 86 dX10_findBest_84 rfl (by decide) rfl ?_
            refine g_iload 88 dX10_findBest_86 rfl rfl ?_
            refine g_if_eq 110 91 dX10_findBest_88 (by first | assumption | omega) (by decide) rfl (fun h312 => ?_) (fun h312 => ?_)
            · refine g_iconst 111 dX10_findBest_110 (by decide) rfl ?_
              refine g_istore (L' := [some (Rf 40), some (Iv u), some (Iv set), some (Iv co), some (Iv wo), some (Iv 0), some (Iv s), some (Iv 0)]) 113 dX10_findBest_111 rfl (by decide) rfl ?_
              refine g_iload_n 114 dX10_findBest_113 rfl rfl ?_
              refine g_iload 116 dX10_findBest_114 rfl rfl ?_
              refine g_if_eq 134 119 dX10_findBest_116 (by decide) (by decide) rfl (fun _ => ?_) (fun z => absurd z (by decide))
              refine g_iconst 135 dX10_findBest_134 (by decide) rfl ?_
              refine g_iadd 136 dX10_findBest_135 rfl ?_
              refine g_istore_n (L' := [some (Rf 40), some (Iv u), some (Iv set), some (Iv (co + 0)), some (Iv wo), some (Iv 0), some (Iv s), some (Iv 0)]) 137 dX10_findBest_136 rfl (by decide) rfl ?_
              refine g_iload 139 dX10_findBest_137 rfl rfl ?_
              refine g_iload 141 dX10_findBest_139 rfl rfl ?_
              refine g_if_eq 154 144 dX10_findBest_141 (by decide) (by decide) rfl (fun _ => ?_) (fun z => absurd z (by decide))
              refine g_iconst 155 dX10_findBest_154 (by decide) rfl ?_
              refine g_iadd 156 dX10_findBest_155 rfl ?_
              refine g_istore (L' := [some (Rf 40), some (Iv u), some (Iv set), some (Iv (co + 0)), some (Iv (wo + 0)), some (Iv 0), some (Iv s), some (Iv 0)]) 158 dX10_findBest_156 rfl (by decide) rfl ?_
              refine g_iinc (L' := [some (Rf 40), some (Iv u), some (Iv set), some (Iv (co + 0)), some (Iv (wo + 0)), some (Iv 0), some (Iv (s + 1)), some (Iv 0)]) 161 dX10_findBest_158 rfl rfl (by decide) rfl ?_
              refine g_goto 60 dX10_findBest_161 (by decide) ?_
              refine ihk (k - 1) (by omega) _ _ _ (s + 1) (by omega) (by omega) ?_ ?_ ?_ (by omega) hset2 _
              · rw [show (s + 1).toNat = s.toNat + 1 by omega]
                unfold costM
                rw [hco, ← e54, ← e3]
                first | (rw [if_pos (by omega)]) | (rw [if_neg (by omega)])
              · rw [show (s + 1).toNat = s.toNat + 1 by omega]
                unfold worM
                rw [hwo]
                first | (rw [if_pos (by omega), hws]) | (rw [if_neg (by omega)])
              · rw [show (s + 1).toNat = s.toNat + 1 by omega]
                unfold wdM
                rw [← hwd, ← e56]
                first | (rw [if_pos (by omega)]) | (rw [if_neg (by omega)])
            refine g_iload 93 dX10_findBest_91 rfl rfl ?_
            refine g_if_eq 106 96 dX10_findBest_93 (by decide) (by decide) rfl (fun _ => ?_) (fun z => absurd z (by decide))
            refine g_iconst 107 dX10_findBest_106 (by decide) rfl ?_
            refine g_goto 111 dX10_findBest_107 (by decide) ?_
            refine g_istore (L' := [some (Rf 40), some (Iv u), some (Iv set), some (Iv co), some (Iv wo), some (Iv 1), some (Iv s), some (Iv 0)]) 113 dX10_findBest_111 rfl (by decide) rfl ?_
            refine g_iload_n 114 dX10_findBest_113 rfl rfl ?_
            refine g_iload 116 dX10_findBest_114 rfl rfl ?_
            refine g_if_eq 134 119 dX10_findBest_116 (by decide) (by decide) rfl (fun _ => ?_) (fun z => absurd z (by decide))
            refine g_iconst 135 dX10_findBest_134 (by decide) rfl ?_
            refine g_iadd 136 dX10_findBest_135 rfl ?_
            refine g_istore_n (L' := [some (Rf 40), some (Iv u), some (Iv set), some (Iv (co + 0)), some (Iv wo), some (Iv 1), some (Iv s), some (Iv 0)]) 137 dX10_findBest_136 rfl (by decide) rfl ?_
            refine g_iload 139 dX10_findBest_137 rfl rfl ?_
            refine g_iload 141 dX10_findBest_139 rfl rfl ?_
            refine g_if_eq 154 144 dX10_findBest_141 (by decide) (by decide) rfl (fun _ => ?_) (fun z => absurd z (by decide))
            refine g_iconst 155 dX10_findBest_154 (by decide) rfl ?_
            refine g_iadd 156 dX10_findBest_155 rfl ?_
            refine g_istore (L' := [some (Rf 40), some (Iv u), some (Iv set), some (Iv (co + 0)), some (Iv (wo + 0)), some (Iv 1), some (Iv s), some (Iv 0)]) 158 dX10_findBest_156 rfl (by decide) rfl ?_
            refine g_iinc (L' := [some (Rf 40), some (Iv u), some (Iv set), some (Iv (co + 0)), some (Iv (wo + 0)), some (Iv 1), some (Iv (s + 1)), some (Iv 0)]) 161 dX10_findBest_158 rfl rfl (by decide) rfl ?_
            refine g_goto 60 dX10_findBest_161 (by decide) ?_
            refine ihk (k - 1) (by omega) _ _ _ (s + 1) (by omega) (by omega) ?_ ?_ ?_ (by omega) hset2 _
            · rw [show (s + 1).toNat = s.toNat + 1 by omega]
              unfold costM
              rw [hco, ← e54, ← e3]
              first | (rw [if_pos (by omega)]) | (rw [if_neg (by omega)])
            · rw [show (s + 1).toNat = s.toNat + 1 by omega]
              unfold worM
              rw [hwo]
              first | (rw [if_pos (by omega), hws]) | (rw [if_neg (by omega)])
            · rw [show (s + 1).toNat = s.toNat + 1 by omega]
              unfold wdM
              rw [← hwd, ← e56]
              first | (rw [if_pos (by omega)]) | (rw [if_neg (by omega)])
          refine g_iconst 80 dX10_findBest_79 (by decide) rfl ?_
          refine g_goto 84 dX10_findBest_80 (by decide) ?_
          refine g_istore (L' := [some (Rf 40), some (Iv u), some (Iv set), some (Iv co), some (Iv wo), some (Iv wd), some (Iv s), some (Iv 1)]) 86 dX10_findBest_84 rfl (by decide) rfl ?_
          refine g_iload 88 dX10_findBest_86 rfl rfl ?_
          refine g_if_eq 110 91 dX10_findBest_88 (by first | assumption | omega) (by decide) rfl (fun h313 => ?_) (fun h313 => ?_)
          · refine g_iconst 111 dX10_findBest_110 (by decide) rfl ?_
            refine g_istore (L' := [some (Rf 40), some (Iv u), some (Iv set), some (Iv co), some (Iv wo), some (Iv 0), some (Iv s), some (Iv 1)]) 113 dX10_findBest_111 rfl (by decide) rfl ?_
            refine g_iload_n 114 dX10_findBest_113 rfl rfl ?_
            refine g_iload 116 dX10_findBest_114 rfl rfl ?_
            refine g_if_eq 134 119 dX10_findBest_116 (by decide) (by decide) rfl (fun z => absurd z (by decide)) (fun _ => ?_)
            refine g_aload_n 120 dX10_findBest_119 rfl rfl ?_
            refine g_getC 123 dX10_findBest_120 fgX10_23 kd_40 ly_40_13 rfl ?_
            refine g_iload 125 dX10_findBest_123 rfl rfl ?_
            refine r_iald 126 ((s).toNat) (κ2 54 ((s).toNat)) dX10_findBest_125 kd_54 (by decide) (by omega) (rfl) rfl (rfl) (fun r314 => ?_)
            refine g_aload_n 127 dX10_findBest_126 rfl rfl ?_
            refine r_getI 130 (κ2 40 3) dX10_findBest_127 fgX10_16 kd_40 ly_40_3 rfl (rfl) (fun r315 => ?_)
            refine g_imul 131 dX10_findBest_130 rfl ?_
            refine g_goto 135 dX10_findBest_131 (by decide) ?_
            refine g_iadd 136 dX10_findBest_135 rfl ?_
            refine g_istore_n (L' := [some (Rf 40), some (Iv u), some (Iv set), some (Iv (co + ((κ2 54 ((s).toNat)) * (κ2 40 3)))), some (Iv wo), some (Iv 0), some (Iv s), some (Iv 1)]) 137 dX10_findBest_136 rfl (by decide) rfl ?_
            refine g_iload 139 dX10_findBest_137 rfl rfl ?_
            refine g_iload 141 dX10_findBest_139 rfl rfl ?_
            refine g_if_eq 154 144 dX10_findBest_141 (by decide) (by decide) rfl (fun z => absurd z (by decide)) (fun _ => ?_)
            refine g_aload_n 145 dX10_findBest_144 rfl rfl ?_
            refine g_getC 148 dX10_findBest_145 fgX10_117 kd_40 ly_40_49 rfl ?_
            refine g_iload 150 dX10_findBest_148 rfl rfl ?_
            refine r_iald 151 ((s).toNat) (κ2 90 ((s).toNat)) dX10_findBest_150 kd_90 (by decide) (by omega) (rfl) rfl (rfl) (fun r316 => ?_)
            refine g_goto 155 dX10_findBest_151 (by decide) ?_
            refine g_iadd 156 dX10_findBest_155 rfl ?_
            refine g_istore (L' := [some (Rf 40), some (Iv u), some (Iv set), some (Iv (co + ((κ2 54 ((s).toNat)) * (κ2 40 3)))), some (Iv (wo + (κ2 90 ((s).toNat)))), some (Iv 0), some (Iv s), some (Iv 1)]) 158 dX10_findBest_156 rfl (by decide) rfl ?_
            refine g_iinc (L' := [some (Rf 40), some (Iv u), some (Iv set), some (Iv (co + ((κ2 54 ((s).toNat)) * (κ2 40 3)))), some (Iv (wo + (κ2 90 ((s).toNat)))), some (Iv 0), some (Iv (s + 1)), some (Iv 1)]) 161 dX10_findBest_158 rfl rfl (by decide) rfl ?_
            refine g_goto 60 dX10_findBest_161 (by decide) ?_
            refine ihk (k - 1) (by omega) _ _ _ (s + 1) (by omega) (by omega) ?_ ?_ ?_ (by omega) hset2 _
            · rw [show (s + 1).toNat = s.toNat + 1 by omega]
              unfold costM
              rw [hco, ← e54, ← e3]
              first | (rw [if_pos (by omega)]) | (rw [if_neg (by omega)])
            · rw [show (s + 1).toNat = s.toNat + 1 by omega]
              unfold worM
              rw [hwo]
              first | (rw [if_pos (by omega), hws]) | (rw [if_neg (by omega)])
            · rw [show (s + 1).toNat = s.toNat + 1 by omega]
              unfold wdM
              rw [← hwd, ← e56]
              first | (rw [if_pos (by omega)]) | (rw [if_neg (by omega)])
          refine g_iload 93 dX10_findBest_91 rfl rfl ?_
          refine g_if_eq 106 96 dX10_findBest_93 (by decide) (by decide) rfl (fun z => absurd z (by decide)) (fun _ => ?_)
          refine g_aload_n 97 dX10_findBest_96 rfl rfl ?_
          refine g_getC 100 dX10_findBest_97 fgX10_29 kd_40 ly_40_15 rfl ?_
          refine g_iload 102 dX10_findBest_100 rfl rfl ?_
          refine r_zald 103 ((s).toNat) (κ2 56 ((s).toNat)) dX10_findBest_102 kd_56 (by decide) (by omega) (rfl) rfl (rfl) (fun r317 => ?_)
          refine g_if_ne 110 106 dX10_findBest_103 (by first | assumption | omega) (by decide) rfl (fun h318 => ?_) (fun h318 => ?_)
          · refine g_iconst 111 dX10_findBest_110 (by decide) rfl ?_
            refine g_istore (L' := [some (Rf 40), some (Iv u), some (Iv set), some (Iv co), some (Iv wo), some (Iv 0), some (Iv s), some (Iv 1)]) 113 dX10_findBest_111 rfl (by decide) rfl ?_
            refine g_iload_n 114 dX10_findBest_113 rfl rfl ?_
            refine g_iload 116 dX10_findBest_114 rfl rfl ?_
            refine g_if_eq 134 119 dX10_findBest_116 (by decide) (by decide) rfl (fun z => absurd z (by decide)) (fun _ => ?_)
            refine g_aload_n 120 dX10_findBest_119 rfl rfl ?_
            refine g_getC 123 dX10_findBest_120 fgX10_23 kd_40 ly_40_13 rfl ?_
            refine g_iload 125 dX10_findBest_123 rfl rfl ?_
            refine r_iald 126 ((s).toNat) (κ2 54 ((s).toNat)) dX10_findBest_125 kd_54 (by decide) (by omega) (rfl) rfl (rfl) (fun r319 => ?_)
            refine g_aload_n 127 dX10_findBest_126 rfl rfl ?_
            refine r_getI 130 (κ2 40 3) dX10_findBest_127 fgX10_16 kd_40 ly_40_3 rfl (rfl) (fun r320 => ?_)
            refine g_imul 131 dX10_findBest_130 rfl ?_
            refine g_goto 135 dX10_findBest_131 (by decide) ?_
            refine g_iadd 136 dX10_findBest_135 rfl ?_
            refine g_istore_n (L' := [some (Rf 40), some (Iv u), some (Iv set), some (Iv (co + ((κ2 54 ((s).toNat)) * (κ2 40 3)))), some (Iv wo), some (Iv 0), some (Iv s), some (Iv 1)]) 137 dX10_findBest_136 rfl (by decide) rfl ?_
            refine g_iload 139 dX10_findBest_137 rfl rfl ?_
            refine g_iload 141 dX10_findBest_139 rfl rfl ?_
            refine g_if_eq 154 144 dX10_findBest_141 (by decide) (by decide) rfl (fun z => absurd z (by decide)) (fun _ => ?_)
            refine g_aload_n 145 dX10_findBest_144 rfl rfl ?_
            refine g_getC 148 dX10_findBest_145 fgX10_117 kd_40 ly_40_49 rfl ?_
            refine g_iload 150 dX10_findBest_148 rfl rfl ?_
            refine r_iald 151 ((s).toNat) (κ2 90 ((s).toNat)) dX10_findBest_150 kd_90 (by decide) (by omega) (rfl) rfl (rfl) (fun r321 => ?_)
            refine g_goto 155 dX10_findBest_151 (by decide) ?_
            refine g_iadd 156 dX10_findBest_155 rfl ?_
            refine g_istore (L' := [some (Rf 40), some (Iv u), some (Iv set), some (Iv (co + ((κ2 54 ((s).toNat)) * (κ2 40 3)))), some (Iv (wo + (κ2 90 ((s).toNat)))), some (Iv 0), some (Iv s), some (Iv 1)]) 158 dX10_findBest_156 rfl (by decide) rfl ?_
            refine g_iinc (L' := [some (Rf 40), some (Iv u), some (Iv set), some (Iv (co + ((κ2 54 ((s).toNat)) * (κ2 40 3)))), some (Iv (wo + (κ2 90 ((s).toNat)))), some (Iv 0), some (Iv (s + 1)), some (Iv 1)]) 161 dX10_findBest_158 rfl rfl (by decide) rfl ?_
            refine g_goto 60 dX10_findBest_161 (by decide) ?_
            refine ihk (k - 1) (by omega) _ _ _ (s + 1) (by omega) (by omega) ?_ ?_ ?_ (by omega) hset2 _
            · rw [show (s + 1).toNat = s.toNat + 1 by omega]
              unfold costM
              rw [hco, ← e54, ← e3]
              first | (rw [if_pos (by omega)]) | (rw [if_neg (by omega)])
            · rw [show (s + 1).toNat = s.toNat + 1 by omega]
              unfold worM
              rw [hwo]
              first | (rw [if_pos (by omega), hws]) | (rw [if_neg (by omega)])
            · rw [show (s + 1).toNat = s.toNat + 1 by omega]
              unfold wdM
              rw [← hwd, ← e56]
              first | (rw [if_pos (by omega)]) | (rw [if_neg (by omega)])
          refine g_iconst 107 dX10_findBest_106 (by decide) rfl ?_
          refine g_goto 111 dX10_findBest_107 (by decide) ?_
          refine g_istore (L' := [some (Rf 40), some (Iv u), some (Iv set), some (Iv co), some (Iv wo), some (Iv 1), some (Iv s), some (Iv 1)]) 113 dX10_findBest_111 rfl (by decide) rfl ?_
          refine g_iload_n 114 dX10_findBest_113 rfl rfl ?_
          refine g_iload 116 dX10_findBest_114 rfl rfl ?_
          refine g_if_eq 134 119 dX10_findBest_116 (by decide) (by decide) rfl (fun z => absurd z (by decide)) (fun _ => ?_)
          refine g_aload_n 120 dX10_findBest_119 rfl rfl ?_
          refine g_getC 123 dX10_findBest_120 fgX10_23 kd_40 ly_40_13 rfl ?_
          refine g_iload 125 dX10_findBest_123 rfl rfl ?_
          refine r_iald 126 ((s).toNat) (κ2 54 ((s).toNat)) dX10_findBest_125 kd_54 (by decide) (by omega) (rfl) rfl (rfl) (fun r322 => ?_)
          refine g_aload_n 127 dX10_findBest_126 rfl rfl ?_
          refine r_getI 130 (κ2 40 3) dX10_findBest_127 fgX10_16 kd_40 ly_40_3 rfl (rfl) (fun r323 => ?_)
          refine g_imul 131 dX10_findBest_130 rfl ?_
          refine g_goto 135 dX10_findBest_131 (by decide) ?_
          refine g_iadd 136 dX10_findBest_135 rfl ?_
          refine g_istore_n (L' := [some (Rf 40), some (Iv u), some (Iv set), some (Iv (co + ((κ2 54 ((s).toNat)) * (κ2 40 3)))), some (Iv wo), some (Iv 1), some (Iv s), some (Iv 1)]) 137 dX10_findBest_136 rfl (by decide) rfl ?_
          refine g_iload 139 dX10_findBest_137 rfl rfl ?_
          refine g_iload 141 dX10_findBest_139 rfl rfl ?_
          refine g_if_eq 154 144 dX10_findBest_141 (by decide) (by decide) rfl (fun z => absurd z (by decide)) (fun _ => ?_)
          refine g_aload_n 145 dX10_findBest_144 rfl rfl ?_
          refine g_getC 148 dX10_findBest_145 fgX10_117 kd_40 ly_40_49 rfl ?_
          refine g_iload 150 dX10_findBest_148 rfl rfl ?_
          refine r_iald 151 ((s).toNat) (κ2 90 ((s).toNat)) dX10_findBest_150 kd_90 (by decide) (by omega) (rfl) rfl (rfl) (fun r324 => ?_)
          refine g_goto 155 dX10_findBest_151 (by decide) ?_
          refine g_iadd 156 dX10_findBest_155 rfl ?_
          refine g_istore (L' := [some (Rf 40), some (Iv u), some (Iv set), some (Iv (co + ((κ2 54 ((s).toNat)) * (κ2 40 3)))), some (Iv (wo + (κ2 90 ((s).toNat)))), some (Iv 1), some (Iv s), some (Iv 1)]) 158 dX10_findBest_156 rfl (by decide) rfl ?_
          refine g_iinc (L' := [some (Rf 40), some (Iv u), some (Iv set), some (Iv (co + ((κ2 54 ((s).toNat)) * (κ2 40 3)))), some (Iv (wo + (κ2 90 ((s).toNat)))), some (Iv 1), some (Iv (s + 1)), some (Iv 1)]) 161 dX10_findBest_158 rfl rfl (by decide) rfl ?_
          refine g_goto 60 dX10_findBest_161 (by decide) ?_
          refine ihk (k - 1) (by omega) _ _ _ (s + 1) (by omega) (by omega) ?_ ?_ ?_ (by omega) hset2 _
          · rw [show (s + 1).toNat = s.toNat + 1 by omega]
            unfold costM
            rw [hco, ← e54, ← e3]
            first | (rw [if_pos (by omega)]) | (rw [if_neg (by omega)])
          · rw [show (s + 1).toNat = s.toNat + 1 by omega]
            unfold worM
            rw [hwo]
            first | (rw [if_pos (by omega), hws]) | (rw [if_neg (by omega)])
          · rw [show (s + 1).toNat = s.toNat + 1 by omega]
            unfold wdM
            rw [← hwd, ← e56]
            first | (rw [if_pos (by omega)]) | (rw [if_neg (by omega)])
      refine g_iload_n 40 dX10_findBest_39 rfl rfl ?_
      refine g_iconst 41 dX10_findBest_40 (by decide) rfl ?_
      refine g_aload_n 42 dX10_findBest_41 rfl rfl ?_
      refine r_getI 45 (κ2 40 11) dX10_findBest_42 fgX10_135 kd_40 ly_40_11 rfl (rfl) (fun r301 => ?_)
      refine g_ishl 46 dX10_findBest_45 rfl ?_
      refine G.eqi (show bShl 1 (κ2 40 11) = N by rw [pow_I (by omega), e11]; exact hN.symm) ?_
      refine g_icmp_ge 223 49 dX10_findBest_46 (by first | assumption | omega) (by first | assumption | omega) (by decide) rfl (fun h302 => ?_) (fun h302 => ?_)
      · refine g_vret dX10_findBest_223 rfl ?_
        have en : set = N := by omega
        subst en
        refine ⟨rfl, rfl, hS2, ?_, ?_⟩
        · unfold bestM
          rw [show 2 ^ (κ 40 11).toNat - 1 = (set - 1).toNat by rw [hN]; have := pow_c (κ 40 11).toNat; omega]
          exact hb.1
        · unfold bestM
          rw [show 2 ^ (κ 40 11).toNat - 1 = (set - 1).toNat by rw [hN]; have := pow_c (κ 40 11).toNat; omega]
          exact hb.2
      refine g_iconst 50 dX10_findBest_49 (by decide) rfl ?_
      refine g_istore_n (L' := [some (Rf 40), some (Iv u), some (Iv set), some (Iv 0), a4, a5, a6, a7]) 51 dX10_findBest_50 rfl (by decide) rfl ?_
      refine g_iconst 52 dX10_findBest_51 (by decide) rfl ?_
      refine g_istore (L' := [some (Rf 40), some (Iv u), some (Iv set), some (Iv 0), some (Iv 0), a5, a6, a7]) 54 dX10_findBest_52 rfl (by decide) rfl ?_
      refine g_iconst 55 dX10_findBest_54 (by decide) rfl ?_
      refine g_istore (L' := [some (Rf 40), some (Iv u), some (Iv set), some (Iv 0), some (Iv 0), some (Iv 1), a6, a7]) 57 dX10_findBest_55 rfl (by decide) rfl ?_
      refine g_iconst 58 dX10_findBest_57 (by decide) rfl ?_
      refine g_istore (L' := [some (Rf 40), some (Iv u), some (Iv set), some (Iv 0), some (Iv 0), some (Iv 1), some (Iv 0), a7]) 60 dX10_findBest_58 rfl (by decide) rfl ?_
      exact lpI (κ 40 11).toNat 0 0 1 0 (by omega) (by omega) rfl rfl rfl (by omega) (by omega) _
  have lpW : ∀ (m : Nat) (s : Int) (κ2 : Ks), MI κ2 → scr κ κ2 → (∀ v : Nat, (v : Int) < s → κ2 90 v = worthM κ v) → 0 ≤ s ∧ s ≤ κ 40 11 → (m : Int) = κ 40 11 - s → ∀ a3 a4 a5 a6 a7 : Option Av, G (XR B n0) mX10_findBest 4 (fun r V1 κ1 => r = none ∧ V1 = V ∧ scr κ κ1 ∧ κ1 40 50 = (bestM κ u).2 ∧ κ1 40 51 = (bestM κ u).1) V 0 0 2 [some (Rf 40), some (Iv u), some (Iv s), a3, a4, a5, a6, a7] [] V κ2 := by
    intro m
    induction m using Nat.strongRecOn with
    | ind m ih =>
      intro s κ2 hI2 hS2 hw hs hm a3 a4 a5 a6 a7
      obtain ⟨⟨j0, j1, j2, j3, j4, j5, j6, j7, j8, j9⟩, jS, jH, jR, jT, jC, jG, jL, jZ⟩ := id hI2
      have e11 : κ2 40 11 = κ 40 11 := hS2.1 11 (by decide) (by decide) (by decide)
      have e3 : κ2 40 3 = κ 40 3 := hS2.1 3 (by decide) (by decide) (by decide)
      have e54 : κ2 54 = κ 54 := hS2.2 54 (by decide) (by decide) (by decide) (by decide) (by decide) (by decide) (by decide)
      have e56 : κ2 56 = κ 56 := hS2.2 56 (by decide) (by decide) (by decide) (by decide) (by decide) (by decide) (by decide)
      refine g_iload_n 3 dX10_findBest_2 rfl rfl ?_
      refine g_aload_n 4 dX10_findBest_3 rfl rfl ?_
      refine r_getI 7 (κ2 40 11) dX10_findBest_4 fgX10_135 kd_40 ly_40_11 rfl (rfl) (fun r101 => ?_)
      refine g_icmp_ge 27 10 dX10_findBest_7 (by first | assumption | omega) (by first | assumption | omega) (by decide) rfl (fun h102 => ?_) (fun h102 => ?_)
      · refine g_aload_n 28 dX10_findBest_27 rfl rfl ?_
        refine g_iconst 29 dX10_findBest_28 (by decide) rfl ?_
        refine g_putI 32 dX10_findBest_29 fpX10_233 (fun h => (nomatch h)) kd_40 ly_40_50 (by omega) rfl ?_
        refine g_aload_n 33 dX10_findBest_32 rfl rfl ?_
        refine g_iconst 34 dX10_findBest_33 (by decide) rfl ?_
        refine g_putI 37 dX10_findBest_34 fpX10_236 (fun h => (nomatch h)) kd_40 ly_40_51 (by omega) rfl ?_
        refine g_iconst 38 dX10_findBest_37 (by decide) rfl ?_
        refine g_istore_n (L' := [some (Rf 40), some (Iv u), some (Iv 1), a3, a4, a5, a6, a7]) 39 dX10_findBest_38 rfl (by decide) rfl ?_
        exact lpS (N - 1).toNat 1 _ ((hI2.scr (scr.s40 _ (by decide))).scr (scr.s40 _ (by decide))) ((hS2.tr (scr.s40 _ (by decide))).tr (scr.s40 _ (by decide))) (fun v hv => rd_t (by decide) (rd_t (by decide) (hw v (by omega)))) (by omega) (by omega) ⟨rd_j (by decide) (rd_s rfl rfl rfl), rd_s rfl rfl rfl⟩ a3 a4 a5 a6 a7
      refine g_aload_n 11 dX10_findBest_10 rfl rfl ?_
      refine g_getC 14 dX10_findBest_11 fgX10_117 kd_40 ly_40_49 rfl ?_
      refine g_iload_n 15 dX10_findBest_14 rfl rfl ?_
      refine g_aload_n 16 dX10_findBest_15 rfl rfl ?_
      refine g_iload_n 17 dX10_findBest_16 rfl rfl ?_
      refine e_V 20 0 0 [Iv s] [Iv s, Rf 90] dX10_findBest_17 cvX10_230 mwX10_worthOf kd_40 (by decide) rfl (Nat.le_of_ble_eq_true rfl) rfl rfl rfl (c_X10_worthOf (by omega) hI2) ?_
      have wr2 := worth_R hI2 (s := s.toNat) (by omega)
      refine r_iast 21 ((s).toNat) dX10_findBest_20 kd_90 (by decide) ly_90 (by omega) (rfl) (by omega) rfl ?_
      refine g_iinc (L' := [some (Rf 40), some (Iv u), some (Iv (s + 1)), a3, a4, a5, a6, a7]) 24 dX10_findBest_21 rfl rfl (by decide) rfl ?_
      refine g_goto 2 dX10_findBest_24 (by decide) ?_
      exact ih (m - 1) (by omega) (s + 1) _ (hI2.scr (scr.sT _ (by decide))) (hS2.tr (scr.sT _ (by decide))) (fun v hv => by
        by_cases hvs : v = s.toNat
        · subst hvs
          rw [st2_s]
          exact worth_sm hS2.sm _
        · rw [st2_j hvs]
          exact hw v (by omega)) (by omega) (by omega) a3 a4 a5 a6 a7
  refine g_iconst 1 dX10_findBest_0 (by decide) rfl ?_
  refine g_istore_n (L' := [some (Rf 40), some (Iv u), some (Iv 0), none, none, none, none, none]) 2 dX10_findBest_1 rfl (by decide) rfl ?_
  exact lpW (κ 40 11).toNat 0 κ hI (scr.rf κ) (fun v hv => by omega) (by omega) (by omega) none none none none none
set_option maxHeartbeats 4000000 in
set_option maxRecDepth 20000 in
theorem c_X10_best {B : Bs} {n0 : Nat} {V : Vs} {κ : Ks} {u : Int} (r_u : inR u) (hI : MI κ) : Ct (XR B n0) mX10_best 5 0 0 [Rf 40, Iv u] V κ (PS (M_best κ u) V) := by
  obtain ⟨⟨i0, i1, i2, i3, i4, i5, i6, i7, i8, i9⟩, iS, iH, iR, iT, iC, iG, iL, iZ⟩ := id hI
  refine Ct.of (L := [some (Rf 40), some (Iv u)]) 0 (by decide +kernel) rfl rfl ?_
  refine g_iload_n 1 dX10_best_0 rfl rfl ?_
  refine g_if_ge 11 4 dX10_best_1 (by first | assumption | omega) (by decide) rfl (fun h1 => ?_) (fun h1 => ?_)
  · refine g_iload_n 12 dX10_best_11 rfl rfl ?_
    refine g_sipush 15 dX10_best_12 (by decide) rfl ?_
    refine g_icmp_le 25 18 dX10_best_15 (by first | assumption | omega) (by decide) (by decide) rfl (fun h2 => ?_) (fun h2 => ?_)
    · refine g_aload_n 26 dX10_best_25 rfl rfl ?_
      refine g_iload_n 27 dX10_best_26 rfl rfl ?_
      refine p_V 30 0 0 [Iv u] [] dX10_best_27 cvX10_242 mwX10_findBest kd_40 (by decide) rfl (Nat.le_of_ble_eq_true rfl) rfl rfl rfl (c_X10_findBest (by omega) hI) ?_
      rintro r V1 κ1 ⟨rfl, rfl, hs1, hb1, hb2⟩
      refine ⟨[], rfl, ?_⟩
      refine g_aload_n 31 dX10_best_30 rfl rfl ?_
      refine r_getI 34 (κ1 40 50) dX10_best_31 fgX10_233 kd_40 ly_40_50 rfl (rfl) (fun r3 => ?_)
      refine g_iret dX10_best_34 rfl ?_
      unfold M_best
      rw [if_neg (by omega), if_neg (by omega)]
      exact ⟨congrArg (fun x => some (Iv x)) hb1, rfl, hs1⟩
    refine g_aload_n 19 dX10_best_18 rfl rfl ?_
    refine g_bipush 21 dX10_best_19 (by decide) rfl ?_
    refine e_V 24 0 0 [Iv (-6)] [] dX10_best_21 cvX10_145 mwX10_refuse kd_40 (by decide) rfl (Nat.le_of_ble_eq_true rfl) rfl rfl rfl (c_X10_refuse 6 (by decide) (by decide)) ?_
    refine g_iret dX10_best_24 rfl ?_
    unfold M_best
    (repeat' split) <;> first | (exfalso; omega) | exact ⟨rfl, rfl, scr.rf _⟩
  refine g_aload_n 5 dX10_best_4 rfl rfl ?_
  refine g_bipush 7 dX10_best_5 (by decide) rfl ?_
  refine e_V 10 0 0 [Iv (-4)] [] dX10_best_7 cvX10_145 mwX10_refuse kd_40 (by decide) rfl (Nat.le_of_ble_eq_true rfl) rfl rfl rfl (c_X10_refuse 4 (by decide) (by decide)) ?_
  refine g_iret dX10_best_10 rfl ?_
  unfold M_best
  (repeat' split) <;> first | (exfalso; omega) | exact ⟨rfl, rfl, scr.rf _⟩
set_option maxHeartbeats 4000000 in
set_option maxRecDepth 20000 in
theorem c_X10_bestWorth {B : Bs} {n0 : Nat} {V : Vs} {κ : Ks} {u : Int} (r_u : inR u) (hI : MI κ) : Ct (XR B n0) mX10_bestWorth 5 0 0 [Rf 40, Iv u] V κ (PS (M_bestWorth κ u) V) := by
  obtain ⟨⟨i0, i1, i2, i3, i4, i5, i6, i7, i8, i9⟩, iS, iH, iR, iT, iC, iG, iL, iZ⟩ := id hI
  refine Ct.of (L := [some (Rf 40), some (Iv u)]) 0 (by decide +kernel) rfl rfl ?_
  refine g_iload_n 1 dX10_bestWorth_0 rfl rfl ?_
  refine g_if_ge 11 4 dX10_bestWorth_1 (by first | assumption | omega) (by decide) rfl (fun h1 => ?_) (fun h1 => ?_)
  · refine g_iload_n 12 dX10_bestWorth_11 rfl rfl ?_
    refine g_sipush 15 dX10_bestWorth_12 (by decide) rfl ?_
    refine g_icmp_le 25 18 dX10_bestWorth_15 (by first | assumption | omega) (by decide) (by decide) rfl (fun h2 => ?_) (fun h2 => ?_)
    · refine g_aload_n 26 dX10_bestWorth_25 rfl rfl ?_
      refine g_iload_n 27 dX10_bestWorth_26 rfl rfl ?_
      refine p_V 30 0 0 [Iv u] [] dX10_bestWorth_27 cvX10_242 mwX10_findBest kd_40 (by decide) rfl (Nat.le_of_ble_eq_true rfl) rfl rfl rfl (c_X10_findBest (by omega) hI) ?_
      rintro r V1 κ1 ⟨rfl, rfl, hs1, hb1, hb2⟩
      refine ⟨[], rfl, ?_⟩
      refine g_aload_n 31 dX10_bestWorth_30 rfl rfl ?_
      refine r_getI 34 (κ1 40 51) dX10_bestWorth_31 fgX10_236 kd_40 ly_40_51 rfl (rfl) (fun r3 => ?_)
      refine g_iret dX10_bestWorth_34 rfl ?_
      unfold M_bestWorth
      rw [if_neg (by omega), if_neg (by omega)]
      exact ⟨congrArg (fun x => some (Iv x)) hb2, rfl, hs1⟩
    refine g_aload_n 19 dX10_bestWorth_18 rfl rfl ?_
    refine g_bipush 21 dX10_bestWorth_19 (by decide) rfl ?_
    refine e_V 24 0 0 [Iv (-6)] [] dX10_bestWorth_21 cvX10_145 mwX10_refuse kd_40 (by decide) rfl (Nat.le_of_ble_eq_true rfl) rfl rfl rfl (c_X10_refuse 6 (by decide) (by decide)) ?_
    refine g_iret dX10_bestWorth_24 rfl ?_
    unfold M_bestWorth
    (repeat' split) <;> first | (exfalso; omega) | exact ⟨rfl, rfl, scr.rf _⟩
  refine g_aload_n 5 dX10_bestWorth_4 rfl rfl ?_
  refine g_bipush 7 dX10_bestWorth_5 (by decide) rfl ?_
  refine e_V 10 0 0 [Iv (-4)] [] dX10_bestWorth_7 cvX10_145 mwX10_refuse kd_40 (by decide) rfl (Nat.le_of_ble_eq_true rfl) rfl rfl rfl (c_X10_refuse 4 (by decide) (by decide)) ?_
  refine g_iret dX10_bestWorth_10 rfl ?_
  unfold M_bestWorth
  (repeat' split) <;> first | (exfalso; omega) | exact ⟨rfl, rfl, scr.rf _⟩
