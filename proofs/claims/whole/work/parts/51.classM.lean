/-! the class: fire (printed by wip/whole/gen51.py) -/
theorem pw10 {t : Nat} (h : t < 10) : (t = 0 ∧ (2 : Int) ^ t = 1) ∨ (t = 1 ∧ (2 : Int) ^ t = 2) ∨ (t = 2 ∧ (2 : Int) ^ t = 4) ∨ (t = 3 ∧ (2 : Int) ^ t = 8) ∨ (t = 4 ∧ (2 : Int) ^ t = 16) ∨ (t = 5 ∧ (2 : Int) ^ t = 32) ∨ (t = 6 ∧ (2 : Int) ^ t = 64) ∨ (t = 7 ∧ (2 : Int) ^ t = 128) ∨ (t = 8 ∧ (2 : Int) ^ t = 256) ∨ (t = 9 ∧ (2 : Int) ^ t = 512) := by
  rcases (show t = 0 ∨ t = 1 ∨ t = 2 ∨ t = 3 ∨ t = 4 ∨ t = 5 ∨ t = 6 ∨ t = 7 ∨ t = 8 ∨ t = 9 by omega) with rfl | rfl | rfl | rfl | rfl | rfl | rfl | rfl | rfl | rfl <;> decide
def pth (κ : Ks) : Nat → Int → List Int
  | 0, _ => []
  | f + 1, x => if x < 0 then [] else x :: pth κ f (κ 53 x.toNat)
theorem pth_s (κ : Ks) (f : Nat) (x : Int) : pth κ (f + 1) x = if x < 0 then [] else x :: pth κ f (κ 53 x.toNat) := rfl
theorem pth_neg {κ : Ks} {x : Int} (hx : x < 0) : ∀ f : Nat, pth κ f x = []
  | 0 => rfl
  | f + 1 => by rw [pth_s, if_pos hx]
theorem mem_sh (κ : Ks) (h y : Int) : ∀ (f : Nat) (x : Int), y ∈ shL κ h f x ↔ y ∈ pth κ f x ∧ ¬ LetB κ y h = true
  | 0, x => ⟨fun z => (nomatch z), fun z => (nomatch z.1)⟩
  | f + 1, x => by
    rw [shL_s, pth_s]
    have q := mem_sh κ h y f (κ 53 x.toNat)
    by_cases hx : x < 0
    · rw [if_pos hx, if_pos hx]
      exact ⟨fun z => (nomatch z), fun z => (nomatch z.1)⟩
    · rw [if_neg hx, if_neg hx, List.mem_cons]
      by_cases hL : LetB κ x h = true
      · rw [if_pos hL, q]
        exact ⟨fun z => ⟨Or.inr z.1, z.2⟩, fun z => ⟨z.1.resolve_left (fun e => z.2 (e ▸ hL)), z.2⟩⟩
      · rw [if_neg hL, List.mem_cons, q]
        exact ⟨fun z => z.elim (fun e => ⟨Or.inl e, e ▸ hL⟩) (fun e => ⟨Or.inr e.1, e.2⟩), fun z => z.1.elim Or.inl (fun e => Or.inr ⟨e, z.2⟩)⟩
theorem shL_dec {κ : Ks} (hS : MIst κ) (h : Int) : ∀ (f : Nat) (x : Int), x < κ 40 11 → decL (x + 1) (shL κ h f x)
  | 0, x, _ => trivial
  | f + 1, x, hx => by
    rw [shL_s]
    by_cases h0 : x < 0
    · rw [if_pos h0]
      trivial
    · rw [if_neg h0]
      have a := (hS x.toNat (by omega)).1
      have q := shL_dec hS h f (κ 53 x.toNat) (by omega)
      split
      · exact decL_mono _ q (by omega)
      · exact ⟨by omega, decL_mono _ q (by omega)⟩
theorem sh_dec {κ : Ks} (hI : MI κ) {s : Int} (hs : s < κ 40 11) : decL (κ 40 11) (shM κ s) := decL_mono _ (shL_dec hI.2.1 _ _ _ hs) (by omega)
theorem sh_bit {κ : Ks} (hI : MI κ) {s : Int} (hs : 0 ≤ s ∧ s < κ 40 11) {O : Int} {y : Nat} (hb : (bitI O y = 1 ∨ (y : Int) ∈ ([] : List Int)) ↔ (y : Int) ∈ pth κ 10 s) : (if bitI O y = 1 ∧ (if LetB κ y (κ 40 0 % 168) = true then (1 : Int) else 0) = 0 then (1 : Int) else 0) = if (y : Int) ∈ shM κ s then 1 else 0 := by
  have i5 := hI.1.2.2.2.2.2.1
  unfold shM
  rw [shL_fuel hI.2.1 (s + 1).toNat 10 s (by omega) (by omega) (by omega) (by omega)]
  have q := mem_sh κ (κ 40 0 % 168) y 10 s
  by_cases e : bitI O y = 1
  · have e2 := hb.mp (Or.inl e)
    by_cases g : LetB κ y (κ 40 0 % 168) = true
    · rw [if_pos g, if_neg (by omega), if_neg (fun z => (q.mp z).2 g)]
    · rw [if_neg g, if_pos ⟨e, rfl⟩, if_pos (q.mpr ⟨e2, g⟩)]
  · rw [if_neg (fun z => e z.1), if_neg (fun z => (hb.mpr (q.mp z).1).elim e (fun v => (nomatch v)))]
theorem way_sym {κ : Ks} {a b : Int} : wayM κ a b = wayM κ b a := stp_sym κ 20 a b
theorem who_R (κ : Ks) (l : List Int) : whoM κ l < 3 := by
  unfold whoM
  (repeat' split) <;> omega
theorem fire_0 (κ : Ks) {w : Int} (hw : 0 ≤ w ∧ w ≤ 2) : fireA κ [] w = 0 := by
  have e : ∀ c, wkM κ [] c = 0 := fun c => rfl
  have e2 : whoM κ [] = 0 := rfl
  unfold fireA
  rw [e2, e]
  (repeat' split) <;> rfl
set_option maxHeartbeats 4000000 in
set_option maxRecDepth 20000 in
theorem c_J6_numberOfTrailingZeros_0f7a4 {B : Bs} {n0 : Nat} {V : Vs} {κ : Ks} {x : Int} {t : Nat} (h_x : 0 ≤ x ∧ x < 1024) (h_t : t < 10) (h_1 : bitI x t = 1) (h_2 : ∀ s, s < t → bitI x s = 0) : Ct (XR B n0) mJ6_numberOfTrailingZeros_0f7a4 1 0 0 [Iv x] V κ (Ex (some (Iv (t : Int))) V κ) := by
  obtain ⟨y, hy⟩ : ∃ y : Int, y = 2 ^ t - 1 := ⟨_, rfl⟩
  have hp := pw10 h_t
  refine Ct.of (L := [some (Iv x), none]) 1 (by decide +kernel) rfl rfl ?_
  refine g_iload_n 1 dJ6_numberOfTrailingZeros_0f7a4_0 rfl rfl ?_
  refine g_iconst 2 dJ6_numberOfTrailingZeros_0f7a4_1 (by decide) rfl ?_
  refine g_ixor 3 dJ6_numberOfTrailingZeros_0f7a4_2 rfl ?_
  refine g_iload_n 4 dJ6_numberOfTrailingZeros_0f7a4_3 rfl rfl ?_
  refine g_iconst 5 dJ6_numberOfTrailingZeros_0f7a4_4 (by decide) rfl ?_
  refine g_isub 6 dJ6_numberOfTrailingZeros_0f7a4_5 rfl ?_
  refine g_iand 7 dJ6_numberOfTrailingZeros_0f7a4_6 rfl ?_
  refine G.eqi (show bAnd (bXor x (-1)) (x - 1) = y from (tz_I h_x h_t h_1 h_2).trans hy.symm) ?_
  refine g_istore_n (L' := [some (Iv y), none]) 8 dJ6_numberOfTrailingZeros_0f7a4_7 rfl (by decide) rfl ?_
  refine g_iload_n 9 dJ6_numberOfTrailingZeros_0f7a4_8 rfl rfl ?_
  refine g_if_gt 17 12 dJ6_numberOfTrailingZeros_0f7a4_9 (by first | assumption | omega) (by decide) rfl (fun h1 => ?_) (fun h1 => ?_)
  · refine g_iconst 18 dJ6_numberOfTrailingZeros_0f7a4_17 (by decide) rfl ?_
    refine g_istore_n (L' := [some (Iv y), some (Iv 1)]) 19 dJ6_numberOfTrailingZeros_0f7a4_18 rfl (by decide) rfl ?_
    refine g_iload_n 20 dJ6_numberOfTrailingZeros_0f7a4_19 rfl rfl ?_
    refine g_ldcw (n := 65536) 23 dJ6_numberOfTrailingZeros_0f7a4_20 kcJ6_264 (by decide) rfl ?_
    refine g_icmp_le 34 26 dJ6_numberOfTrailingZeros_0f7a4_23 (by first | assumption | omega) (by decide) (by decide) rfl (fun h2 => ?_) (fun h2 => ?_)
    · refine g_iload_n 35 dJ6_numberOfTrailingZeros_0f7a4_34 rfl rfl ?_
      refine g_sipush 38 dJ6_numberOfTrailingZeros_0f7a4_35 (by decide) rfl ?_
      refine g_icmp_le 49 41 dJ6_numberOfTrailingZeros_0f7a4_38 (by first | assumption | omega) (by decide) (by decide) rfl (fun h3 => ?_) (fun h3 => ?_)
      · refine g_iload_n 50 dJ6_numberOfTrailingZeros_0f7a4_49 rfl rfl ?_
        refine g_bipush 52 dJ6_numberOfTrailingZeros_0f7a4_50 (by decide) rfl ?_
        refine g_icmp_le 62 55 dJ6_numberOfTrailingZeros_0f7a4_52 (by first | assumption | omega) (by decide) (by decide) rfl (fun h4 => ?_) (fun h4 => ?_)
        · refine g_iload_n 63 dJ6_numberOfTrailingZeros_0f7a4_62 rfl rfl ?_
          refine g_iconst 64 dJ6_numberOfTrailingZeros_0f7a4_63 (by decide) rfl ?_
          refine g_icmp_le 74 67 dJ6_numberOfTrailingZeros_0f7a4_64 (by first | assumption | omega) (by decide) (by decide) rfl (fun h5 => ?_) (fun h5 => ?_)
          · refine g_iload_n 75 dJ6_numberOfTrailingZeros_0f7a4_74 rfl rfl ?_
            refine g_iload_n 76 dJ6_numberOfTrailingZeros_0f7a4_75 rfl rfl ?_
            refine g_iconst 77 dJ6_numberOfTrailingZeros_0f7a4_76 (by decide) rfl ?_
            refine g_iushr 78 dJ6_numberOfTrailingZeros_0f7a4_77 rfl ?_
            refine G.eqi (ush_I (x := y) (by omega)).2.2.2.2 ?_
            refine g_iadd 79 dJ6_numberOfTrailingZeros_0f7a4_78 rfl ?_
            refine g_iret dJ6_numberOfTrailingZeros_0f7a4_79 rfl ?_
            exact ⟨congrArg (fun x => some (Iv x)) (by omega), rfl, rfl⟩
          refine g_iinc (L' := [some (Iv y), some (Iv 3)]) 70 dJ6_numberOfTrailingZeros_0f7a4_67 rfl rfl (by decide) rfl ?_
          refine g_iload_n 71 dJ6_numberOfTrailingZeros_0f7a4_70 rfl rfl ?_
          refine g_iconst 72 dJ6_numberOfTrailingZeros_0f7a4_71 (by decide) rfl ?_
          refine g_iushr 73 dJ6_numberOfTrailingZeros_0f7a4_72 rfl ?_
          refine G.eqi (ush_I (x := y) (by omega)).2.2.2.1 ?_
          refine g_istore_n (L' := [some (Iv (y / 4)), some (Iv 3)]) 74 dJ6_numberOfTrailingZeros_0f7a4_73 rfl (by decide) rfl ?_
          refine g_iload_n 75 dJ6_numberOfTrailingZeros_0f7a4_74 rfl rfl ?_
          refine g_iload_n 76 dJ6_numberOfTrailingZeros_0f7a4_75 rfl rfl ?_
          refine g_iconst 77 dJ6_numberOfTrailingZeros_0f7a4_76 (by decide) rfl ?_
          refine g_iushr 78 dJ6_numberOfTrailingZeros_0f7a4_77 rfl ?_
          refine G.eqi (ush_I (x := (y / 4)) (by omega)).2.2.2.2 ?_
          refine g_iadd 79 dJ6_numberOfTrailingZeros_0f7a4_78 rfl ?_
          refine g_iret dJ6_numberOfTrailingZeros_0f7a4_79 rfl ?_
          exact ⟨congrArg (fun x => some (Iv x)) (by omega), rfl, rfl⟩
        refine g_iinc (L' := [some (Iv y), some (Iv 5)]) 58 dJ6_numberOfTrailingZeros_0f7a4_55 rfl rfl (by decide) rfl ?_
        refine g_iload_n 59 dJ6_numberOfTrailingZeros_0f7a4_58 rfl rfl ?_
        refine g_iconst 60 dJ6_numberOfTrailingZeros_0f7a4_59 (by decide) rfl ?_
        refine g_iushr 61 dJ6_numberOfTrailingZeros_0f7a4_60 rfl ?_
        refine G.eqi (ush_I (x := y) (by omega)).2.2.1 ?_
        refine g_istore_n (L' := [some (Iv (y / 16)), some (Iv 5)]) 62 dJ6_numberOfTrailingZeros_0f7a4_61 rfl (by decide) rfl ?_
        refine g_iload_n 63 dJ6_numberOfTrailingZeros_0f7a4_62 rfl rfl ?_
        refine g_iconst 64 dJ6_numberOfTrailingZeros_0f7a4_63 (by decide) rfl ?_
        refine g_icmp_le 74 67 dJ6_numberOfTrailingZeros_0f7a4_64 (by first | assumption | omega) (by decide) (by decide) rfl (fun h6 => ?_) (fun h6 => ?_)
        · refine g_iload_n 75 dJ6_numberOfTrailingZeros_0f7a4_74 rfl rfl ?_
          refine g_iload_n 76 dJ6_numberOfTrailingZeros_0f7a4_75 rfl rfl ?_
          refine g_iconst 77 dJ6_numberOfTrailingZeros_0f7a4_76 (by decide) rfl ?_
          refine g_iushr 78 dJ6_numberOfTrailingZeros_0f7a4_77 rfl ?_
          refine G.eqi (ush_I (x := (y / 16)) (by omega)).2.2.2.2 ?_
          refine g_iadd 79 dJ6_numberOfTrailingZeros_0f7a4_78 rfl ?_
          refine g_iret dJ6_numberOfTrailingZeros_0f7a4_79 rfl ?_
          exact ⟨congrArg (fun x => some (Iv x)) (by omega), rfl, rfl⟩
        refine g_iinc (L' := [some (Iv (y / 16)), some (Iv 7)]) 70 dJ6_numberOfTrailingZeros_0f7a4_67 rfl rfl (by decide) rfl ?_
        refine g_iload_n 71 dJ6_numberOfTrailingZeros_0f7a4_70 rfl rfl ?_
        refine g_iconst 72 dJ6_numberOfTrailingZeros_0f7a4_71 (by decide) rfl ?_
        refine g_iushr 73 dJ6_numberOfTrailingZeros_0f7a4_72 rfl ?_
        refine G.eqi (ush_I (x := (y / 16)) (by omega)).2.2.2.1 ?_
        refine g_istore_n (L' := [some (Iv ((y / 16) / 4)), some (Iv 7)]) 74 dJ6_numberOfTrailingZeros_0f7a4_73 rfl (by decide) rfl ?_
        refine g_iload_n 75 dJ6_numberOfTrailingZeros_0f7a4_74 rfl rfl ?_
        refine g_iload_n 76 dJ6_numberOfTrailingZeros_0f7a4_75 rfl rfl ?_
        refine g_iconst 77 dJ6_numberOfTrailingZeros_0f7a4_76 (by decide) rfl ?_
        refine g_iushr 78 dJ6_numberOfTrailingZeros_0f7a4_77 rfl ?_
        refine G.eqi (ush_I (x := ((y / 16) / 4)) (by omega)).2.2.2.2 ?_
        refine g_iadd 79 dJ6_numberOfTrailingZeros_0f7a4_78 rfl ?_
        refine g_iret dJ6_numberOfTrailingZeros_0f7a4_79 rfl ?_
        exact ⟨congrArg (fun x => some (Iv x)) (by omega), rfl, rfl⟩
      refine g_iinc (L' := [some (Iv y), some (Iv 9)]) 44 dJ6_numberOfTrailingZeros_0f7a4_41 rfl rfl (by decide) rfl ?_
      refine g_iload_n 45 dJ6_numberOfTrailingZeros_0f7a4_44 rfl rfl ?_
      refine g_bipush 47 dJ6_numberOfTrailingZeros_0f7a4_45 (by decide) rfl ?_
      refine g_iushr 48 dJ6_numberOfTrailingZeros_0f7a4_47 rfl ?_
      refine G.eqi (ush_I (x := y) (by omega)).2.1 ?_
      refine g_istore_n (L' := [some (Iv (y / 256)), some (Iv 9)]) 49 dJ6_numberOfTrailingZeros_0f7a4_48 rfl (by decide) rfl ?_
      refine g_iload_n 50 dJ6_numberOfTrailingZeros_0f7a4_49 rfl rfl ?_
      refine g_bipush 52 dJ6_numberOfTrailingZeros_0f7a4_50 (by decide) rfl ?_
      refine g_icmp_le 62 55 dJ6_numberOfTrailingZeros_0f7a4_52 (by first | assumption | omega) (by decide) (by decide) rfl (fun h7 => ?_) (fun h7 => ?_)
      · refine g_iload_n 63 dJ6_numberOfTrailingZeros_0f7a4_62 rfl rfl ?_
        refine g_iconst 64 dJ6_numberOfTrailingZeros_0f7a4_63 (by decide) rfl ?_
        refine g_icmp_le 74 67 dJ6_numberOfTrailingZeros_0f7a4_64 (by first | assumption | omega) (by decide) (by decide) rfl (fun h8 => ?_) (fun h8 => ?_)
        · refine g_iload_n 75 dJ6_numberOfTrailingZeros_0f7a4_74 rfl rfl ?_
          refine g_iload_n 76 dJ6_numberOfTrailingZeros_0f7a4_75 rfl rfl ?_
          refine g_iconst 77 dJ6_numberOfTrailingZeros_0f7a4_76 (by decide) rfl ?_
          refine g_iushr 78 dJ6_numberOfTrailingZeros_0f7a4_77 rfl ?_
          refine G.eqi (ush_I (x := (y / 256)) (by omega)).2.2.2.2 ?_
          refine g_iadd 79 dJ6_numberOfTrailingZeros_0f7a4_78 rfl ?_
          refine g_iret dJ6_numberOfTrailingZeros_0f7a4_79 rfl ?_
          exact ⟨congrArg (fun x => some (Iv x)) (by omega), rfl, rfl⟩
        refine g_iinc (L' := [some (Iv (y / 256)), some (Iv 11)]) 70 dJ6_numberOfTrailingZeros_0f7a4_67 rfl rfl (by decide) rfl ?_
        refine g_iload_n 71 dJ6_numberOfTrailingZeros_0f7a4_70 rfl rfl ?_
        refine g_iconst 72 dJ6_numberOfTrailingZeros_0f7a4_71 (by decide) rfl ?_
        refine g_iushr 73 dJ6_numberOfTrailingZeros_0f7a4_72 rfl ?_
        refine G.eqi (ush_I (x := (y / 256)) (by omega)).2.2.2.1 ?_
        refine g_istore_n (L' := [some (Iv ((y / 256) / 4)), some (Iv 11)]) 74 dJ6_numberOfTrailingZeros_0f7a4_73 rfl (by decide) rfl ?_
        refine g_iload_n 75 dJ6_numberOfTrailingZeros_0f7a4_74 rfl rfl ?_
        refine g_iload_n 76 dJ6_numberOfTrailingZeros_0f7a4_75 rfl rfl ?_
        refine g_iconst 77 dJ6_numberOfTrailingZeros_0f7a4_76 (by decide) rfl ?_
        refine g_iushr 78 dJ6_numberOfTrailingZeros_0f7a4_77 rfl ?_
        refine G.eqi (ush_I (x := ((y / 256) / 4)) (by omega)).2.2.2.2 ?_
        refine g_iadd 79 dJ6_numberOfTrailingZeros_0f7a4_78 rfl ?_
        refine g_iret dJ6_numberOfTrailingZeros_0f7a4_79 rfl ?_
        exact ⟨congrArg (fun x => some (Iv x)) (by omega), rfl, rfl⟩
      refine g_iinc (L' := [some (Iv (y / 256)), some (Iv 13)]) 58 dJ6_numberOfTrailingZeros_0f7a4_55 rfl rfl (by decide) rfl ?_
      refine g_iload_n 59 dJ6_numberOfTrailingZeros_0f7a4_58 rfl rfl ?_
      refine g_iconst 60 dJ6_numberOfTrailingZeros_0f7a4_59 (by decide) rfl ?_
      refine g_iushr 61 dJ6_numberOfTrailingZeros_0f7a4_60 rfl ?_
      refine G.eqi (ush_I (x := (y / 256)) (by omega)).2.2.1 ?_
      refine g_istore_n (L' := [some (Iv ((y / 256) / 16)), some (Iv 13)]) 62 dJ6_numberOfTrailingZeros_0f7a4_61 rfl (by decide) rfl ?_
      refine g_iload_n 63 dJ6_numberOfTrailingZeros_0f7a4_62 rfl rfl ?_
      refine g_iconst 64 dJ6_numberOfTrailingZeros_0f7a4_63 (by decide) rfl ?_
      refine g_icmp_le 74 67 dJ6_numberOfTrailingZeros_0f7a4_64 (by first | assumption | omega) (by decide) (by decide) rfl (fun h9 => ?_) (fun h9 => ?_)
      · refine g_iload_n 75 dJ6_numberOfTrailingZeros_0f7a4_74 rfl rfl ?_
        refine g_iload_n 76 dJ6_numberOfTrailingZeros_0f7a4_75 rfl rfl ?_
        refine g_iconst 77 dJ6_numberOfTrailingZeros_0f7a4_76 (by decide) rfl ?_
        refine g_iushr 78 dJ6_numberOfTrailingZeros_0f7a4_77 rfl ?_
        refine G.eqi (ush_I (x := ((y / 256) / 16)) (by omega)).2.2.2.2 ?_
        refine g_iadd 79 dJ6_numberOfTrailingZeros_0f7a4_78 rfl ?_
        refine g_iret dJ6_numberOfTrailingZeros_0f7a4_79 rfl ?_
        exact ⟨congrArg (fun x => some (Iv x)) (by omega), rfl, rfl⟩
      refine g_iinc (L' := [some (Iv ((y / 256) / 16)), some (Iv 15)]) 70 dJ6_numberOfTrailingZeros_0f7a4_67 rfl rfl (by decide) rfl ?_
      refine g_iload_n 71 dJ6_numberOfTrailingZeros_0f7a4_70 rfl rfl ?_
      refine g_iconst 72 dJ6_numberOfTrailingZeros_0f7a4_71 (by decide) rfl ?_
      refine g_iushr 73 dJ6_numberOfTrailingZeros_0f7a4_72 rfl ?_
      refine G.eqi (ush_I (x := ((y / 256) / 16)) (by omega)).2.2.2.1 ?_
      refine g_istore_n (L' := [some (Iv (((y / 256) / 16) / 4)), some (Iv 15)]) 74 dJ6_numberOfTrailingZeros_0f7a4_73 rfl (by decide) rfl ?_
      refine g_iload_n 75 dJ6_numberOfTrailingZeros_0f7a4_74 rfl rfl ?_
      refine g_iload_n 76 dJ6_numberOfTrailingZeros_0f7a4_75 rfl rfl ?_
      refine g_iconst 77 dJ6_numberOfTrailingZeros_0f7a4_76 (by decide) rfl ?_
      refine g_iushr 78 dJ6_numberOfTrailingZeros_0f7a4_77 rfl ?_
      refine G.eqi (ush_I (x := (((y / 256) / 16) / 4)) (by omega)).2.2.2.2 ?_
      refine g_iadd 79 dJ6_numberOfTrailingZeros_0f7a4_78 rfl ?_
      refine g_iret dJ6_numberOfTrailingZeros_0f7a4_79 rfl ?_
      exact ⟨congrArg (fun x => some (Iv x)) (by omega), rfl, rfl⟩
    refine g_iinc (L' := [some (Iv y), some (Iv 17)]) 29 dJ6_numberOfTrailingZeros_0f7a4_26 rfl rfl (by decide) rfl ?_
    refine g_iload_n 30 dJ6_numberOfTrailingZeros_0f7a4_29 rfl rfl ?_
    refine g_bipush 32 dJ6_numberOfTrailingZeros_0f7a4_30 (by decide) rfl ?_
    refine g_iushr 33 dJ6_numberOfTrailingZeros_0f7a4_32 rfl ?_
    refine G.eqi (ush_I (x := y) (by omega)).1 ?_
    refine g_istore_n (L' := [some (Iv (y / 65536)), some (Iv 17)]) 34 dJ6_numberOfTrailingZeros_0f7a4_33 rfl (by decide) rfl ?_
    refine g_iload_n 35 dJ6_numberOfTrailingZeros_0f7a4_34 rfl rfl ?_
    refine g_sipush 38 dJ6_numberOfTrailingZeros_0f7a4_35 (by decide) rfl ?_
    refine g_icmp_le 49 41 dJ6_numberOfTrailingZeros_0f7a4_38 (by first | assumption | omega) (by decide) (by decide) rfl (fun h10 => ?_) (fun h10 => ?_)
    · refine g_iload_n 50 dJ6_numberOfTrailingZeros_0f7a4_49 rfl rfl ?_
      refine g_bipush 52 dJ6_numberOfTrailingZeros_0f7a4_50 (by decide) rfl ?_
      refine g_icmp_le 62 55 dJ6_numberOfTrailingZeros_0f7a4_52 (by first | assumption | omega) (by decide) (by decide) rfl (fun h11 => ?_) (fun h11 => ?_)
      · refine g_iload_n 63 dJ6_numberOfTrailingZeros_0f7a4_62 rfl rfl ?_
        refine g_iconst 64 dJ6_numberOfTrailingZeros_0f7a4_63 (by decide) rfl ?_
        refine g_icmp_le 74 67 dJ6_numberOfTrailingZeros_0f7a4_64 (by first | assumption | omega) (by decide) (by decide) rfl (fun h12 => ?_) (fun h12 => ?_)
        · refine g_iload_n 75 dJ6_numberOfTrailingZeros_0f7a4_74 rfl rfl ?_
          refine g_iload_n 76 dJ6_numberOfTrailingZeros_0f7a4_75 rfl rfl ?_
          refine g_iconst 77 dJ6_numberOfTrailingZeros_0f7a4_76 (by decide) rfl ?_
          refine g_iushr 78 dJ6_numberOfTrailingZeros_0f7a4_77 rfl ?_
          refine G.eqi (ush_I (x := (y / 65536)) (by omega)).2.2.2.2 ?_
          refine g_iadd 79 dJ6_numberOfTrailingZeros_0f7a4_78 rfl ?_
          refine g_iret dJ6_numberOfTrailingZeros_0f7a4_79 rfl ?_
          exact ⟨congrArg (fun x => some (Iv x)) (by omega), rfl, rfl⟩
        refine g_iinc (L' := [some (Iv (y / 65536)), some (Iv 19)]) 70 dJ6_numberOfTrailingZeros_0f7a4_67 rfl rfl (by decide) rfl ?_
        refine g_iload_n 71 dJ6_numberOfTrailingZeros_0f7a4_70 rfl rfl ?_
        refine g_iconst 72 dJ6_numberOfTrailingZeros_0f7a4_71 (by decide) rfl ?_
        refine g_iushr 73 dJ6_numberOfTrailingZeros_0f7a4_72 rfl ?_
        refine G.eqi (ush_I (x := (y / 65536)) (by omega)).2.2.2.1 ?_
        refine g_istore_n (L' := [some (Iv ((y / 65536) / 4)), some (Iv 19)]) 74 dJ6_numberOfTrailingZeros_0f7a4_73 rfl (by decide) rfl ?_
        refine g_iload_n 75 dJ6_numberOfTrailingZeros_0f7a4_74 rfl rfl ?_
        refine g_iload_n 76 dJ6_numberOfTrailingZeros_0f7a4_75 rfl rfl ?_
        refine g_iconst 77 dJ6_numberOfTrailingZeros_0f7a4_76 (by decide) rfl ?_
        refine g_iushr 78 dJ6_numberOfTrailingZeros_0f7a4_77 rfl ?_
        refine G.eqi (ush_I (x := ((y / 65536) / 4)) (by omega)).2.2.2.2 ?_
        refine g_iadd 79 dJ6_numberOfTrailingZeros_0f7a4_78 rfl ?_
        refine g_iret dJ6_numberOfTrailingZeros_0f7a4_79 rfl ?_
        exact ⟨congrArg (fun x => some (Iv x)) (by omega), rfl, rfl⟩
      refine g_iinc (L' := [some (Iv (y / 65536)), some (Iv 21)]) 58 dJ6_numberOfTrailingZeros_0f7a4_55 rfl rfl (by decide) rfl ?_
      refine g_iload_n 59 dJ6_numberOfTrailingZeros_0f7a4_58 rfl rfl ?_
      refine g_iconst 60 dJ6_numberOfTrailingZeros_0f7a4_59 (by decide) rfl ?_
      refine g_iushr 61 dJ6_numberOfTrailingZeros_0f7a4_60 rfl ?_
      refine G.eqi (ush_I (x := (y / 65536)) (by omega)).2.2.1 ?_
      refine g_istore_n (L' := [some (Iv ((y / 65536) / 16)), some (Iv 21)]) 62 dJ6_numberOfTrailingZeros_0f7a4_61 rfl (by decide) rfl ?_
      refine g_iload_n 63 dJ6_numberOfTrailingZeros_0f7a4_62 rfl rfl ?_
      refine g_iconst 64 dJ6_numberOfTrailingZeros_0f7a4_63 (by decide) rfl ?_
      refine g_icmp_le 74 67 dJ6_numberOfTrailingZeros_0f7a4_64 (by first | assumption | omega) (by decide) (by decide) rfl (fun h13 => ?_) (fun h13 => ?_)
      · refine g_iload_n 75 dJ6_numberOfTrailingZeros_0f7a4_74 rfl rfl ?_
        refine g_iload_n 76 dJ6_numberOfTrailingZeros_0f7a4_75 rfl rfl ?_
        refine g_iconst 77 dJ6_numberOfTrailingZeros_0f7a4_76 (by decide) rfl ?_
        refine g_iushr 78 dJ6_numberOfTrailingZeros_0f7a4_77 rfl ?_
        refine G.eqi (ush_I (x := ((y / 65536) / 16)) (by omega)).2.2.2.2 ?_
        refine g_iadd 79 dJ6_numberOfTrailingZeros_0f7a4_78 rfl ?_
        refine g_iret dJ6_numberOfTrailingZeros_0f7a4_79 rfl ?_
        exact ⟨congrArg (fun x => some (Iv x)) (by omega), rfl, rfl⟩
      refine g_iinc (L' := [some (Iv ((y / 65536) / 16)), some (Iv 23)]) 70 dJ6_numberOfTrailingZeros_0f7a4_67 rfl rfl (by decide) rfl ?_
      refine g_iload_n 71 dJ6_numberOfTrailingZeros_0f7a4_70 rfl rfl ?_
      refine g_iconst 72 dJ6_numberOfTrailingZeros_0f7a4_71 (by decide) rfl ?_
      refine g_iushr 73 dJ6_numberOfTrailingZeros_0f7a4_72 rfl ?_
      refine G.eqi (ush_I (x := ((y / 65536) / 16)) (by omega)).2.2.2.1 ?_
      refine g_istore_n (L' := [some (Iv (((y / 65536) / 16) / 4)), some (Iv 23)]) 74 dJ6_numberOfTrailingZeros_0f7a4_73 rfl (by decide) rfl ?_
      refine g_iload_n 75 dJ6_numberOfTrailingZeros_0f7a4_74 rfl rfl ?_
      refine g_iload_n 76 dJ6_numberOfTrailingZeros_0f7a4_75 rfl rfl ?_
      refine g_iconst 77 dJ6_numberOfTrailingZeros_0f7a4_76 (by decide) rfl ?_
      refine g_iushr 78 dJ6_numberOfTrailingZeros_0f7a4_77 rfl ?_
      refine G.eqi (ush_I (x := (((y / 65536) / 16) / 4)) (by omega)).2.2.2.2 ?_
      refine g_iadd 79 dJ6_numberOfTrailingZeros_0f7a4_78 rfl ?_
      refine g_iret dJ6_numberOfTrailingZeros_0f7a4_79 rfl ?_
      exact ⟨congrArg (fun x => some (Iv x)) (by omega), rfl, rfl⟩
    refine g_iinc (L' := [some (Iv (y / 65536)), some (Iv 25)]) 44 dJ6_numberOfTrailingZeros_0f7a4_41 rfl rfl (by decide) rfl ?_
    refine g_iload_n 45 dJ6_numberOfTrailingZeros_0f7a4_44 rfl rfl ?_
    refine g_bipush 47 dJ6_numberOfTrailingZeros_0f7a4_45 (by decide) rfl ?_
    refine g_iushr 48 dJ6_numberOfTrailingZeros_0f7a4_47 rfl ?_
    refine G.eqi (ush_I (x := (y / 65536)) (by omega)).2.1 ?_
    refine g_istore_n (L' := [some (Iv ((y / 65536) / 256)), some (Iv 25)]) 49 dJ6_numberOfTrailingZeros_0f7a4_48 rfl (by decide) rfl ?_
    refine g_iload_n 50 dJ6_numberOfTrailingZeros_0f7a4_49 rfl rfl ?_
    refine g_bipush 52 dJ6_numberOfTrailingZeros_0f7a4_50 (by decide) rfl ?_
    refine g_icmp_le 62 55 dJ6_numberOfTrailingZeros_0f7a4_52 (by first | assumption | omega) (by decide) (by decide) rfl (fun h14 => ?_) (fun h14 => ?_)
    · refine g_iload_n 63 dJ6_numberOfTrailingZeros_0f7a4_62 rfl rfl ?_
      refine g_iconst 64 dJ6_numberOfTrailingZeros_0f7a4_63 (by decide) rfl ?_
      refine g_icmp_le 74 67 dJ6_numberOfTrailingZeros_0f7a4_64 (by first | assumption | omega) (by decide) (by decide) rfl (fun h15 => ?_) (fun h15 => ?_)
      · refine g_iload_n 75 dJ6_numberOfTrailingZeros_0f7a4_74 rfl rfl ?_
        refine g_iload_n 76 dJ6_numberOfTrailingZeros_0f7a4_75 rfl rfl ?_
        refine g_iconst 77 dJ6_numberOfTrailingZeros_0f7a4_76 (by decide) rfl ?_
        refine g_iushr 78 dJ6_numberOfTrailingZeros_0f7a4_77 rfl ?_
        refine G.eqi (ush_I (x := ((y / 65536) / 256)) (by omega)).2.2.2.2 ?_
        refine g_iadd 79 dJ6_numberOfTrailingZeros_0f7a4_78 rfl ?_
        refine g_iret dJ6_numberOfTrailingZeros_0f7a4_79 rfl ?_
        exact ⟨congrArg (fun x => some (Iv x)) (by omega), rfl, rfl⟩
      refine g_iinc (L' := [some (Iv ((y / 65536) / 256)), some (Iv 27)]) 70 dJ6_numberOfTrailingZeros_0f7a4_67 rfl rfl (by decide) rfl ?_
      refine g_iload_n 71 dJ6_numberOfTrailingZeros_0f7a4_70 rfl rfl ?_
      refine g_iconst 72 dJ6_numberOfTrailingZeros_0f7a4_71 (by decide) rfl ?_
      refine g_iushr 73 dJ6_numberOfTrailingZeros_0f7a4_72 rfl ?_
      refine G.eqi (ush_I (x := ((y / 65536) / 256)) (by omega)).2.2.2.1 ?_
      refine g_istore_n (L' := [some (Iv (((y / 65536) / 256) / 4)), some (Iv 27)]) 74 dJ6_numberOfTrailingZeros_0f7a4_73 rfl (by decide) rfl ?_
      refine g_iload_n 75 dJ6_numberOfTrailingZeros_0f7a4_74 rfl rfl ?_
      refine g_iload_n 76 dJ6_numberOfTrailingZeros_0f7a4_75 rfl rfl ?_
      refine g_iconst 77 dJ6_numberOfTrailingZeros_0f7a4_76 (by decide) rfl ?_
      refine g_iushr 78 dJ6_numberOfTrailingZeros_0f7a4_77 rfl ?_
      refine G.eqi (ush_I (x := (((y / 65536) / 256) / 4)) (by omega)).2.2.2.2 ?_
      refine g_iadd 79 dJ6_numberOfTrailingZeros_0f7a4_78 rfl ?_
      refine g_iret dJ6_numberOfTrailingZeros_0f7a4_79 rfl ?_
      exact ⟨congrArg (fun x => some (Iv x)) (by omega), rfl, rfl⟩
    refine g_iinc (L' := [some (Iv ((y / 65536) / 256)), some (Iv 29)]) 58 dJ6_numberOfTrailingZeros_0f7a4_55 rfl rfl (by decide) rfl ?_
    refine g_iload_n 59 dJ6_numberOfTrailingZeros_0f7a4_58 rfl rfl ?_
    refine g_iconst 60 dJ6_numberOfTrailingZeros_0f7a4_59 (by decide) rfl ?_
    refine g_iushr 61 dJ6_numberOfTrailingZeros_0f7a4_60 rfl ?_
    refine G.eqi (ush_I (x := ((y / 65536) / 256)) (by omega)).2.2.1 ?_
    refine g_istore_n (L' := [some (Iv (((y / 65536) / 256) / 16)), some (Iv 29)]) 62 dJ6_numberOfTrailingZeros_0f7a4_61 rfl (by decide) rfl ?_
    refine g_iload_n 63 dJ6_numberOfTrailingZeros_0f7a4_62 rfl rfl ?_
    refine g_iconst 64 dJ6_numberOfTrailingZeros_0f7a4_63 (by decide) rfl ?_
    refine g_icmp_le 74 67 dJ6_numberOfTrailingZeros_0f7a4_64 (by first | assumption | omega) (by decide) (by decide) rfl (fun h16 => ?_) (fun h16 => ?_)
    · refine g_iload_n 75 dJ6_numberOfTrailingZeros_0f7a4_74 rfl rfl ?_
      refine g_iload_n 76 dJ6_numberOfTrailingZeros_0f7a4_75 rfl rfl ?_
      refine g_iconst 77 dJ6_numberOfTrailingZeros_0f7a4_76 (by decide) rfl ?_
      refine g_iushr 78 dJ6_numberOfTrailingZeros_0f7a4_77 rfl ?_
      refine G.eqi (ush_I (x := (((y / 65536) / 256) / 16)) (by omega)).2.2.2.2 ?_
      refine g_iadd 79 dJ6_numberOfTrailingZeros_0f7a4_78 rfl ?_
      refine g_iret dJ6_numberOfTrailingZeros_0f7a4_79 rfl ?_
      exact ⟨congrArg (fun x => some (Iv x)) (by omega), rfl, rfl⟩
    refine g_iinc (L' := [some (Iv (((y / 65536) / 256) / 16)), some (Iv 31)]) 70 dJ6_numberOfTrailingZeros_0f7a4_67 rfl rfl (by decide) rfl ?_
    refine g_iload_n 71 dJ6_numberOfTrailingZeros_0f7a4_70 rfl rfl ?_
    refine g_iconst 72 dJ6_numberOfTrailingZeros_0f7a4_71 (by decide) rfl ?_
    refine g_iushr 73 dJ6_numberOfTrailingZeros_0f7a4_72 rfl ?_
    refine G.eqi (ush_I (x := (((y / 65536) / 256) / 16)) (by omega)).2.2.2.1 ?_
    refine g_istore_n (L' := [some (Iv ((((y / 65536) / 256) / 16) / 4)), some (Iv 31)]) 74 dJ6_numberOfTrailingZeros_0f7a4_73 rfl (by decide) rfl ?_
    refine g_iload_n 75 dJ6_numberOfTrailingZeros_0f7a4_74 rfl rfl ?_
    refine g_iload_n 76 dJ6_numberOfTrailingZeros_0f7a4_75 rfl rfl ?_
    refine g_iconst 77 dJ6_numberOfTrailingZeros_0f7a4_76 (by decide) rfl ?_
    refine g_iushr 78 dJ6_numberOfTrailingZeros_0f7a4_77 rfl ?_
    refine G.eqi (ush_I (x := ((((y / 65536) / 256) / 16) / 4)) (by omega)).2.2.2.2 ?_
    refine g_iadd 79 dJ6_numberOfTrailingZeros_0f7a4_78 rfl ?_
    refine g_iret dJ6_numberOfTrailingZeros_0f7a4_79 rfl ?_
    exact ⟨congrArg (fun x => some (Iv x)) (by omega), rfl, rfl⟩
  refine g_iload_n 13 dJ6_numberOfTrailingZeros_0f7a4_12 rfl rfl ?_
  refine g_bipush 15 dJ6_numberOfTrailingZeros_0f7a4_13 (by decide) rfl ?_
  refine g_iand 16 dJ6_numberOfTrailingZeros_0f7a4_15 rfl ?_
  refine g_iret dJ6_numberOfTrailingZeros_0f7a4_16 rfl ?_
  exact ⟨congrArg (fun x => some (Iv x)) (by rw [show y = 0 by omega, show bAnd 0 32 = 0 by decide]; omega), rfl, rfl⟩
set_option maxHeartbeats 4000000 in
set_option maxRecDepth 20000 in
theorem c_J6_numberOfLeadingZeros_0f7a4 {B : Bs} {n0 : Nat} {V : Vs} {κ : Ks} {x : Int} {t : Nat} (h_x : 0 ≤ x ∧ x < 1024) (h_t : t < 10) (h_1 : bitI x t = 1) (h_2 : ∀ s, t < s → s < 10 → bitI x s = 0) : Ct (XR B n0) mJ6_numberOfLeadingZeros_0f7a4 1 0 0 [Iv x] V κ (Ex (some (Iv (31 - (t : Int)))) V κ) := by
  have hp := pw10 h_t
  have hh := hi_I h_x h_t h_1 h_2
  refine Ct.of (L := [some (Iv x), none]) 1 (by decide +kernel) rfl rfl ?_
  refine g_iload_n 1 dJ6_numberOfLeadingZeros_0f7a4_0 rfl rfl ?_
  refine g_if_gt 15 4 dJ6_numberOfLeadingZeros_0f7a4_1 (by first | assumption | omega) (by decide) rfl (fun h1 => ?_) (fun h1 => ?_)
  · refine g_bipush 17 dJ6_numberOfLeadingZeros_0f7a4_15 (by decide) rfl ?_
    refine g_istore_n (L' := [some (Iv x), some (Iv 31)]) 18 dJ6_numberOfLeadingZeros_0f7a4_17 rfl (by decide) rfl ?_
    refine g_iload_n 19 dJ6_numberOfLeadingZeros_0f7a4_18 rfl rfl ?_
    refine g_ldcw (n := 65536) 22 dJ6_numberOfLeadingZeros_0f7a4_19 kcJ6_264 (by decide) rfl ?_
    refine g_icmp_lt 33 25 dJ6_numberOfLeadingZeros_0f7a4_22 (by first | assumption | omega) (by decide) (by decide) rfl (fun h2 => ?_) (fun h2 => ?_)
    · refine g_iload_n 34 dJ6_numberOfLeadingZeros_0f7a4_33 rfl rfl ?_
      refine g_sipush 37 dJ6_numberOfLeadingZeros_0f7a4_34 (by decide) rfl ?_
      refine g_icmp_lt 48 40 dJ6_numberOfLeadingZeros_0f7a4_37 (by first | assumption | omega) (by decide) (by decide) rfl (fun h3 => ?_) (fun h3 => ?_)
      · refine g_iload_n 49 dJ6_numberOfLeadingZeros_0f7a4_48 rfl rfl ?_
        refine g_bipush 51 dJ6_numberOfLeadingZeros_0f7a4_49 (by decide) rfl ?_
        refine g_icmp_lt 61 54 dJ6_numberOfLeadingZeros_0f7a4_51 (by first | assumption | omega) (by decide) (by decide) rfl (fun h4 => ?_) (fun h4 => ?_)
        · refine g_iload_n 62 dJ6_numberOfLeadingZeros_0f7a4_61 rfl rfl ?_
          refine g_iconst 63 dJ6_numberOfLeadingZeros_0f7a4_62 (by decide) rfl ?_
          refine g_icmp_lt 73 66 dJ6_numberOfLeadingZeros_0f7a4_63 (by first | assumption | omega) (by decide) (by decide) rfl (fun h5 => ?_) (fun h5 => ?_)
          · refine g_iload_n 74 dJ6_numberOfLeadingZeros_0f7a4_73 rfl rfl ?_
            refine g_iload_n 75 dJ6_numberOfLeadingZeros_0f7a4_74 rfl rfl ?_
            refine g_iconst 76 dJ6_numberOfLeadingZeros_0f7a4_75 (by decide) rfl ?_
            refine g_iushr 77 dJ6_numberOfLeadingZeros_0f7a4_76 rfl ?_
            refine G.eqi (ush_I (x := x) (by omega)).2.2.2.2 ?_
            refine g_isub 78 dJ6_numberOfLeadingZeros_0f7a4_77 rfl ?_
            refine g_iret dJ6_numberOfLeadingZeros_0f7a4_78 rfl ?_
            exact ⟨congrArg (fun x => some (Iv x)) (by omega), rfl, rfl⟩
          refine g_iinc (L' := [some (Iv x), some (Iv 29)]) 69 dJ6_numberOfLeadingZeros_0f7a4_66 rfl rfl (by decide) rfl ?_
          refine g_iload_n 70 dJ6_numberOfLeadingZeros_0f7a4_69 rfl rfl ?_
          refine g_iconst 71 dJ6_numberOfLeadingZeros_0f7a4_70 (by decide) rfl ?_
          refine g_iushr 72 dJ6_numberOfLeadingZeros_0f7a4_71 rfl ?_
          refine G.eqi (ush_I (x := x) (by omega)).2.2.2.1 ?_
          refine g_istore_n (L' := [some (Iv (x / 4)), some (Iv 29)]) 73 dJ6_numberOfLeadingZeros_0f7a4_72 rfl (by decide) rfl ?_
          refine g_iload_n 74 dJ6_numberOfLeadingZeros_0f7a4_73 rfl rfl ?_
          refine g_iload_n 75 dJ6_numberOfLeadingZeros_0f7a4_74 rfl rfl ?_
          refine g_iconst 76 dJ6_numberOfLeadingZeros_0f7a4_75 (by decide) rfl ?_
          refine g_iushr 77 dJ6_numberOfLeadingZeros_0f7a4_76 rfl ?_
          refine G.eqi (ush_I (x := (x / 4)) (by omega)).2.2.2.2 ?_
          refine g_isub 78 dJ6_numberOfLeadingZeros_0f7a4_77 rfl ?_
          refine g_iret dJ6_numberOfLeadingZeros_0f7a4_78 rfl ?_
          exact ⟨congrArg (fun x => some (Iv x)) (by omega), rfl, rfl⟩
        refine g_iinc (L' := [some (Iv x), some (Iv 27)]) 57 dJ6_numberOfLeadingZeros_0f7a4_54 rfl rfl (by decide) rfl ?_
        refine g_iload_n 58 dJ6_numberOfLeadingZeros_0f7a4_57 rfl rfl ?_
        refine g_iconst 59 dJ6_numberOfLeadingZeros_0f7a4_58 (by decide) rfl ?_
        refine g_iushr 60 dJ6_numberOfLeadingZeros_0f7a4_59 rfl ?_
        refine G.eqi (ush_I (x := x) (by omega)).2.2.1 ?_
        refine g_istore_n (L' := [some (Iv (x / 16)), some (Iv 27)]) 61 dJ6_numberOfLeadingZeros_0f7a4_60 rfl (by decide) rfl ?_
        refine g_iload_n 62 dJ6_numberOfLeadingZeros_0f7a4_61 rfl rfl ?_
        refine g_iconst 63 dJ6_numberOfLeadingZeros_0f7a4_62 (by decide) rfl ?_
        refine g_icmp_lt 73 66 dJ6_numberOfLeadingZeros_0f7a4_63 (by first | assumption | omega) (by decide) (by decide) rfl (fun h6 => ?_) (fun h6 => ?_)
        · refine g_iload_n 74 dJ6_numberOfLeadingZeros_0f7a4_73 rfl rfl ?_
          refine g_iload_n 75 dJ6_numberOfLeadingZeros_0f7a4_74 rfl rfl ?_
          refine g_iconst 76 dJ6_numberOfLeadingZeros_0f7a4_75 (by decide) rfl ?_
          refine g_iushr 77 dJ6_numberOfLeadingZeros_0f7a4_76 rfl ?_
          refine G.eqi (ush_I (x := (x / 16)) (by omega)).2.2.2.2 ?_
          refine g_isub 78 dJ6_numberOfLeadingZeros_0f7a4_77 rfl ?_
          refine g_iret dJ6_numberOfLeadingZeros_0f7a4_78 rfl ?_
          exact ⟨congrArg (fun x => some (Iv x)) (by omega), rfl, rfl⟩
        refine g_iinc (L' := [some (Iv (x / 16)), some (Iv 25)]) 69 dJ6_numberOfLeadingZeros_0f7a4_66 rfl rfl (by decide) rfl ?_
        refine g_iload_n 70 dJ6_numberOfLeadingZeros_0f7a4_69 rfl rfl ?_
        refine g_iconst 71 dJ6_numberOfLeadingZeros_0f7a4_70 (by decide) rfl ?_
        refine g_iushr 72 dJ6_numberOfLeadingZeros_0f7a4_71 rfl ?_
        refine G.eqi (ush_I (x := (x / 16)) (by omega)).2.2.2.1 ?_
        refine g_istore_n (L' := [some (Iv ((x / 16) / 4)), some (Iv 25)]) 73 dJ6_numberOfLeadingZeros_0f7a4_72 rfl (by decide) rfl ?_
        refine g_iload_n 74 dJ6_numberOfLeadingZeros_0f7a4_73 rfl rfl ?_
        refine g_iload_n 75 dJ6_numberOfLeadingZeros_0f7a4_74 rfl rfl ?_
        refine g_iconst 76 dJ6_numberOfLeadingZeros_0f7a4_75 (by decide) rfl ?_
        refine g_iushr 77 dJ6_numberOfLeadingZeros_0f7a4_76 rfl ?_
        refine G.eqi (ush_I (x := ((x / 16) / 4)) (by omega)).2.2.2.2 ?_
        refine g_isub 78 dJ6_numberOfLeadingZeros_0f7a4_77 rfl ?_
        refine g_iret dJ6_numberOfLeadingZeros_0f7a4_78 rfl ?_
        exact ⟨congrArg (fun x => some (Iv x)) (by omega), rfl, rfl⟩
      refine g_iinc (L' := [some (Iv x), some (Iv 23)]) 43 dJ6_numberOfLeadingZeros_0f7a4_40 rfl rfl (by decide) rfl ?_
      refine g_iload_n 44 dJ6_numberOfLeadingZeros_0f7a4_43 rfl rfl ?_
      refine g_bipush 46 dJ6_numberOfLeadingZeros_0f7a4_44 (by decide) rfl ?_
      refine g_iushr 47 dJ6_numberOfLeadingZeros_0f7a4_46 rfl ?_
      refine G.eqi (ush_I (x := x) (by omega)).2.1 ?_
      refine g_istore_n (L' := [some (Iv (x / 256)), some (Iv 23)]) 48 dJ6_numberOfLeadingZeros_0f7a4_47 rfl (by decide) rfl ?_
      refine g_iload_n 49 dJ6_numberOfLeadingZeros_0f7a4_48 rfl rfl ?_
      refine g_bipush 51 dJ6_numberOfLeadingZeros_0f7a4_49 (by decide) rfl ?_
      refine g_icmp_lt 61 54 dJ6_numberOfLeadingZeros_0f7a4_51 (by first | assumption | omega) (by decide) (by decide) rfl (fun h7 => ?_) (fun h7 => ?_)
      · refine g_iload_n 62 dJ6_numberOfLeadingZeros_0f7a4_61 rfl rfl ?_
        refine g_iconst 63 dJ6_numberOfLeadingZeros_0f7a4_62 (by decide) rfl ?_
        refine g_icmp_lt 73 66 dJ6_numberOfLeadingZeros_0f7a4_63 (by first | assumption | omega) (by decide) (by decide) rfl (fun h8 => ?_) (fun h8 => ?_)
        · refine g_iload_n 74 dJ6_numberOfLeadingZeros_0f7a4_73 rfl rfl ?_
          refine g_iload_n 75 dJ6_numberOfLeadingZeros_0f7a4_74 rfl rfl ?_
          refine g_iconst 76 dJ6_numberOfLeadingZeros_0f7a4_75 (by decide) rfl ?_
          refine g_iushr 77 dJ6_numberOfLeadingZeros_0f7a4_76 rfl ?_
          refine G.eqi (ush_I (x := (x / 256)) (by omega)).2.2.2.2 ?_
          refine g_isub 78 dJ6_numberOfLeadingZeros_0f7a4_77 rfl ?_
          refine g_iret dJ6_numberOfLeadingZeros_0f7a4_78 rfl ?_
          exact ⟨congrArg (fun x => some (Iv x)) (by omega), rfl, rfl⟩
        refine g_iinc (L' := [some (Iv (x / 256)), some (Iv 21)]) 69 dJ6_numberOfLeadingZeros_0f7a4_66 rfl rfl (by decide) rfl ?_
        refine g_iload_n 70 dJ6_numberOfLeadingZeros_0f7a4_69 rfl rfl ?_
        refine g_iconst 71 dJ6_numberOfLeadingZeros_0f7a4_70 (by decide) rfl ?_
        refine g_iushr 72 dJ6_numberOfLeadingZeros_0f7a4_71 rfl ?_
        refine G.eqi (ush_I (x := (x / 256)) (by omega)).2.2.2.1 ?_
        refine g_istore_n (L' := [some (Iv ((x / 256) / 4)), some (Iv 21)]) 73 dJ6_numberOfLeadingZeros_0f7a4_72 rfl (by decide) rfl ?_
        refine g_iload_n 74 dJ6_numberOfLeadingZeros_0f7a4_73 rfl rfl ?_
        refine g_iload_n 75 dJ6_numberOfLeadingZeros_0f7a4_74 rfl rfl ?_
        refine g_iconst 76 dJ6_numberOfLeadingZeros_0f7a4_75 (by decide) rfl ?_
        refine g_iushr 77 dJ6_numberOfLeadingZeros_0f7a4_76 rfl ?_
        refine G.eqi (ush_I (x := ((x / 256) / 4)) (by omega)).2.2.2.2 ?_
        refine g_isub 78 dJ6_numberOfLeadingZeros_0f7a4_77 rfl ?_
        refine g_iret dJ6_numberOfLeadingZeros_0f7a4_78 rfl ?_
        exact ⟨congrArg (fun x => some (Iv x)) (by omega), rfl, rfl⟩
      refine g_iinc (L' := [some (Iv (x / 256)), some (Iv 19)]) 57 dJ6_numberOfLeadingZeros_0f7a4_54 rfl rfl (by decide) rfl ?_
      refine g_iload_n 58 dJ6_numberOfLeadingZeros_0f7a4_57 rfl rfl ?_
      refine g_iconst 59 dJ6_numberOfLeadingZeros_0f7a4_58 (by decide) rfl ?_
      refine g_iushr 60 dJ6_numberOfLeadingZeros_0f7a4_59 rfl ?_
      refine G.eqi (ush_I (x := (x / 256)) (by omega)).2.2.1 ?_
      refine g_istore_n (L' := [some (Iv ((x / 256) / 16)), some (Iv 19)]) 61 dJ6_numberOfLeadingZeros_0f7a4_60 rfl (by decide) rfl ?_
      refine g_iload_n 62 dJ6_numberOfLeadingZeros_0f7a4_61 rfl rfl ?_
      refine g_iconst 63 dJ6_numberOfLeadingZeros_0f7a4_62 (by decide) rfl ?_
      refine g_icmp_lt 73 66 dJ6_numberOfLeadingZeros_0f7a4_63 (by first | assumption | omega) (by decide) (by decide) rfl (fun h9 => ?_) (fun h9 => ?_)
      · refine g_iload_n 74 dJ6_numberOfLeadingZeros_0f7a4_73 rfl rfl ?_
        refine g_iload_n 75 dJ6_numberOfLeadingZeros_0f7a4_74 rfl rfl ?_
        refine g_iconst 76 dJ6_numberOfLeadingZeros_0f7a4_75 (by decide) rfl ?_
        refine g_iushr 77 dJ6_numberOfLeadingZeros_0f7a4_76 rfl ?_
        refine G.eqi (ush_I (x := ((x / 256) / 16)) (by omega)).2.2.2.2 ?_
        refine g_isub 78 dJ6_numberOfLeadingZeros_0f7a4_77 rfl ?_
        refine g_iret dJ6_numberOfLeadingZeros_0f7a4_78 rfl ?_
        exact ⟨congrArg (fun x => some (Iv x)) (by omega), rfl, rfl⟩
      refine g_iinc (L' := [some (Iv ((x / 256) / 16)), some (Iv 17)]) 69 dJ6_numberOfLeadingZeros_0f7a4_66 rfl rfl (by decide) rfl ?_
      refine g_iload_n 70 dJ6_numberOfLeadingZeros_0f7a4_69 rfl rfl ?_
      refine g_iconst 71 dJ6_numberOfLeadingZeros_0f7a4_70 (by decide) rfl ?_
      refine g_iushr 72 dJ6_numberOfLeadingZeros_0f7a4_71 rfl ?_
      refine G.eqi (ush_I (x := ((x / 256) / 16)) (by omega)).2.2.2.1 ?_
      refine g_istore_n (L' := [some (Iv (((x / 256) / 16) / 4)), some (Iv 17)]) 73 dJ6_numberOfLeadingZeros_0f7a4_72 rfl (by decide) rfl ?_
      refine g_iload_n 74 dJ6_numberOfLeadingZeros_0f7a4_73 rfl rfl ?_
      refine g_iload_n 75 dJ6_numberOfLeadingZeros_0f7a4_74 rfl rfl ?_
      refine g_iconst 76 dJ6_numberOfLeadingZeros_0f7a4_75 (by decide) rfl ?_
      refine g_iushr 77 dJ6_numberOfLeadingZeros_0f7a4_76 rfl ?_
      refine G.eqi (ush_I (x := (((x / 256) / 16) / 4)) (by omega)).2.2.2.2 ?_
      refine g_isub 78 dJ6_numberOfLeadingZeros_0f7a4_77 rfl ?_
      refine g_iret dJ6_numberOfLeadingZeros_0f7a4_78 rfl ?_
      exact ⟨congrArg (fun x => some (Iv x)) (by omega), rfl, rfl⟩
    refine g_iinc (L' := [some (Iv x), some (Iv 15)]) 28 dJ6_numberOfLeadingZeros_0f7a4_25 rfl rfl (by decide) rfl ?_
    refine g_iload_n 29 dJ6_numberOfLeadingZeros_0f7a4_28 rfl rfl ?_
    refine g_bipush 31 dJ6_numberOfLeadingZeros_0f7a4_29 (by decide) rfl ?_
    refine g_iushr 32 dJ6_numberOfLeadingZeros_0f7a4_31 rfl ?_
    refine G.eqi (ush_I (x := x) (by omega)).1 ?_
    refine g_istore_n (L' := [some (Iv (x / 65536)), some (Iv 15)]) 33 dJ6_numberOfLeadingZeros_0f7a4_32 rfl (by decide) rfl ?_
    refine g_iload_n 34 dJ6_numberOfLeadingZeros_0f7a4_33 rfl rfl ?_
    refine g_sipush 37 dJ6_numberOfLeadingZeros_0f7a4_34 (by decide) rfl ?_
    refine g_icmp_lt 48 40 dJ6_numberOfLeadingZeros_0f7a4_37 (by first | assumption | omega) (by decide) (by decide) rfl (fun h10 => ?_) (fun h10 => ?_)
    · refine g_iload_n 49 dJ6_numberOfLeadingZeros_0f7a4_48 rfl rfl ?_
      refine g_bipush 51 dJ6_numberOfLeadingZeros_0f7a4_49 (by decide) rfl ?_
      refine g_icmp_lt 61 54 dJ6_numberOfLeadingZeros_0f7a4_51 (by first | assumption | omega) (by decide) (by decide) rfl (fun h11 => ?_) (fun h11 => ?_)
      · refine g_iload_n 62 dJ6_numberOfLeadingZeros_0f7a4_61 rfl rfl ?_
        refine g_iconst 63 dJ6_numberOfLeadingZeros_0f7a4_62 (by decide) rfl ?_
        refine g_icmp_lt 73 66 dJ6_numberOfLeadingZeros_0f7a4_63 (by first | assumption | omega) (by decide) (by decide) rfl (fun h12 => ?_) (fun h12 => ?_)
        · refine g_iload_n 74 dJ6_numberOfLeadingZeros_0f7a4_73 rfl rfl ?_
          refine g_iload_n 75 dJ6_numberOfLeadingZeros_0f7a4_74 rfl rfl ?_
          refine g_iconst 76 dJ6_numberOfLeadingZeros_0f7a4_75 (by decide) rfl ?_
          refine g_iushr 77 dJ6_numberOfLeadingZeros_0f7a4_76 rfl ?_
          refine G.eqi (ush_I (x := (x / 65536)) (by omega)).2.2.2.2 ?_
          refine g_isub 78 dJ6_numberOfLeadingZeros_0f7a4_77 rfl ?_
          refine g_iret dJ6_numberOfLeadingZeros_0f7a4_78 rfl ?_
          exact ⟨congrArg (fun x => some (Iv x)) (by omega), rfl, rfl⟩
        refine g_iinc (L' := [some (Iv (x / 65536)), some (Iv 13)]) 69 dJ6_numberOfLeadingZeros_0f7a4_66 rfl rfl (by decide) rfl ?_
        refine g_iload_n 70 dJ6_numberOfLeadingZeros_0f7a4_69 rfl rfl ?_
        refine g_iconst 71 dJ6_numberOfLeadingZeros_0f7a4_70 (by decide) rfl ?_
        refine g_iushr 72 dJ6_numberOfLeadingZeros_0f7a4_71 rfl ?_
        refine G.eqi (ush_I (x := (x / 65536)) (by omega)).2.2.2.1 ?_
        refine g_istore_n (L' := [some (Iv ((x / 65536) / 4)), some (Iv 13)]) 73 dJ6_numberOfLeadingZeros_0f7a4_72 rfl (by decide) rfl ?_
        refine g_iload_n 74 dJ6_numberOfLeadingZeros_0f7a4_73 rfl rfl ?_
        refine g_iload_n 75 dJ6_numberOfLeadingZeros_0f7a4_74 rfl rfl ?_
        refine g_iconst 76 dJ6_numberOfLeadingZeros_0f7a4_75 (by decide) rfl ?_
        refine g_iushr 77 dJ6_numberOfLeadingZeros_0f7a4_76 rfl ?_
        refine G.eqi (ush_I (x := ((x / 65536) / 4)) (by omega)).2.2.2.2 ?_
        refine g_isub 78 dJ6_numberOfLeadingZeros_0f7a4_77 rfl ?_
        refine g_iret dJ6_numberOfLeadingZeros_0f7a4_78 rfl ?_
        exact ⟨congrArg (fun x => some (Iv x)) (by omega), rfl, rfl⟩
      refine g_iinc (L' := [some (Iv (x / 65536)), some (Iv 11)]) 57 dJ6_numberOfLeadingZeros_0f7a4_54 rfl rfl (by decide) rfl ?_
      refine g_iload_n 58 dJ6_numberOfLeadingZeros_0f7a4_57 rfl rfl ?_
      refine g_iconst 59 dJ6_numberOfLeadingZeros_0f7a4_58 (by decide) rfl ?_
      refine g_iushr 60 dJ6_numberOfLeadingZeros_0f7a4_59 rfl ?_
      refine G.eqi (ush_I (x := (x / 65536)) (by omega)).2.2.1 ?_
      refine g_istore_n (L' := [some (Iv ((x / 65536) / 16)), some (Iv 11)]) 61 dJ6_numberOfLeadingZeros_0f7a4_60 rfl (by decide) rfl ?_
      refine g_iload_n 62 dJ6_numberOfLeadingZeros_0f7a4_61 rfl rfl ?_
      refine g_iconst 63 dJ6_numberOfLeadingZeros_0f7a4_62 (by decide) rfl ?_
      refine g_icmp_lt 73 66 dJ6_numberOfLeadingZeros_0f7a4_63 (by first | assumption | omega) (by decide) (by decide) rfl (fun h13 => ?_) (fun h13 => ?_)
      · refine g_iload_n 74 dJ6_numberOfLeadingZeros_0f7a4_73 rfl rfl ?_
        refine g_iload_n 75 dJ6_numberOfLeadingZeros_0f7a4_74 rfl rfl ?_
        refine g_iconst 76 dJ6_numberOfLeadingZeros_0f7a4_75 (by decide) rfl ?_
        refine g_iushr 77 dJ6_numberOfLeadingZeros_0f7a4_76 rfl ?_
        refine G.eqi (ush_I (x := ((x / 65536) / 16)) (by omega)).2.2.2.2 ?_
        refine g_isub 78 dJ6_numberOfLeadingZeros_0f7a4_77 rfl ?_
        refine g_iret dJ6_numberOfLeadingZeros_0f7a4_78 rfl ?_
        exact ⟨congrArg (fun x => some (Iv x)) (by omega), rfl, rfl⟩
      refine g_iinc (L' := [some (Iv ((x / 65536) / 16)), some (Iv 9)]) 69 dJ6_numberOfLeadingZeros_0f7a4_66 rfl rfl (by decide) rfl ?_
      refine g_iload_n 70 dJ6_numberOfLeadingZeros_0f7a4_69 rfl rfl ?_
      refine g_iconst 71 dJ6_numberOfLeadingZeros_0f7a4_70 (by decide) rfl ?_
      refine g_iushr 72 dJ6_numberOfLeadingZeros_0f7a4_71 rfl ?_
      refine G.eqi (ush_I (x := ((x / 65536) / 16)) (by omega)).2.2.2.1 ?_
      refine g_istore_n (L' := [some (Iv (((x / 65536) / 16) / 4)), some (Iv 9)]) 73 dJ6_numberOfLeadingZeros_0f7a4_72 rfl (by decide) rfl ?_
      refine g_iload_n 74 dJ6_numberOfLeadingZeros_0f7a4_73 rfl rfl ?_
      refine g_iload_n 75 dJ6_numberOfLeadingZeros_0f7a4_74 rfl rfl ?_
      refine g_iconst 76 dJ6_numberOfLeadingZeros_0f7a4_75 (by decide) rfl ?_
      refine g_iushr 77 dJ6_numberOfLeadingZeros_0f7a4_76 rfl ?_
      refine G.eqi (ush_I (x := (((x / 65536) / 16) / 4)) (by omega)).2.2.2.2 ?_
      refine g_isub 78 dJ6_numberOfLeadingZeros_0f7a4_77 rfl ?_
      refine g_iret dJ6_numberOfLeadingZeros_0f7a4_78 rfl ?_
      exact ⟨congrArg (fun x => some (Iv x)) (by omega), rfl, rfl⟩
    refine g_iinc (L' := [some (Iv (x / 65536)), some (Iv 7)]) 43 dJ6_numberOfLeadingZeros_0f7a4_40 rfl rfl (by decide) rfl ?_
    refine g_iload_n 44 dJ6_numberOfLeadingZeros_0f7a4_43 rfl rfl ?_
    refine g_bipush 46 dJ6_numberOfLeadingZeros_0f7a4_44 (by decide) rfl ?_
    refine g_iushr 47 dJ6_numberOfLeadingZeros_0f7a4_46 rfl ?_
    refine G.eqi (ush_I (x := (x / 65536)) (by omega)).2.1 ?_
    refine g_istore_n (L' := [some (Iv ((x / 65536) / 256)), some (Iv 7)]) 48 dJ6_numberOfLeadingZeros_0f7a4_47 rfl (by decide) rfl ?_
    refine g_iload_n 49 dJ6_numberOfLeadingZeros_0f7a4_48 rfl rfl ?_
    refine g_bipush 51 dJ6_numberOfLeadingZeros_0f7a4_49 (by decide) rfl ?_
    refine g_icmp_lt 61 54 dJ6_numberOfLeadingZeros_0f7a4_51 (by first | assumption | omega) (by decide) (by decide) rfl (fun h14 => ?_) (fun h14 => ?_)
    · refine g_iload_n 62 dJ6_numberOfLeadingZeros_0f7a4_61 rfl rfl ?_
      refine g_iconst 63 dJ6_numberOfLeadingZeros_0f7a4_62 (by decide) rfl ?_
      refine g_icmp_lt 73 66 dJ6_numberOfLeadingZeros_0f7a4_63 (by first | assumption | omega) (by decide) (by decide) rfl (fun h15 => ?_) (fun h15 => ?_)
      · refine g_iload_n 74 dJ6_numberOfLeadingZeros_0f7a4_73 rfl rfl ?_
        refine g_iload_n 75 dJ6_numberOfLeadingZeros_0f7a4_74 rfl rfl ?_
        refine g_iconst 76 dJ6_numberOfLeadingZeros_0f7a4_75 (by decide) rfl ?_
        refine g_iushr 77 dJ6_numberOfLeadingZeros_0f7a4_76 rfl ?_
        refine G.eqi (ush_I (x := ((x / 65536) / 256)) (by omega)).2.2.2.2 ?_
        refine g_isub 78 dJ6_numberOfLeadingZeros_0f7a4_77 rfl ?_
        refine g_iret dJ6_numberOfLeadingZeros_0f7a4_78 rfl ?_
        exact ⟨congrArg (fun x => some (Iv x)) (by omega), rfl, rfl⟩
      refine g_iinc (L' := [some (Iv ((x / 65536) / 256)), some (Iv 5)]) 69 dJ6_numberOfLeadingZeros_0f7a4_66 rfl rfl (by decide) rfl ?_
      refine g_iload_n 70 dJ6_numberOfLeadingZeros_0f7a4_69 rfl rfl ?_
      refine g_iconst 71 dJ6_numberOfLeadingZeros_0f7a4_70 (by decide) rfl ?_
      refine g_iushr 72 dJ6_numberOfLeadingZeros_0f7a4_71 rfl ?_
      refine G.eqi (ush_I (x := ((x / 65536) / 256)) (by omega)).2.2.2.1 ?_
      refine g_istore_n (L' := [some (Iv (((x / 65536) / 256) / 4)), some (Iv 5)]) 73 dJ6_numberOfLeadingZeros_0f7a4_72 rfl (by decide) rfl ?_
      refine g_iload_n 74 dJ6_numberOfLeadingZeros_0f7a4_73 rfl rfl ?_
      refine g_iload_n 75 dJ6_numberOfLeadingZeros_0f7a4_74 rfl rfl ?_
      refine g_iconst 76 dJ6_numberOfLeadingZeros_0f7a4_75 (by decide) rfl ?_
      refine g_iushr 77 dJ6_numberOfLeadingZeros_0f7a4_76 rfl ?_
      refine G.eqi (ush_I (x := (((x / 65536) / 256) / 4)) (by omega)).2.2.2.2 ?_
      refine g_isub 78 dJ6_numberOfLeadingZeros_0f7a4_77 rfl ?_
      refine g_iret dJ6_numberOfLeadingZeros_0f7a4_78 rfl ?_
      exact ⟨congrArg (fun x => some (Iv x)) (by omega), rfl, rfl⟩
    refine g_iinc (L' := [some (Iv ((x / 65536) / 256)), some (Iv 3)]) 57 dJ6_numberOfLeadingZeros_0f7a4_54 rfl rfl (by decide) rfl ?_
    refine g_iload_n 58 dJ6_numberOfLeadingZeros_0f7a4_57 rfl rfl ?_
    refine g_iconst 59 dJ6_numberOfLeadingZeros_0f7a4_58 (by decide) rfl ?_
    refine g_iushr 60 dJ6_numberOfLeadingZeros_0f7a4_59 rfl ?_
    refine G.eqi (ush_I (x := ((x / 65536) / 256)) (by omega)).2.2.1 ?_
    refine g_istore_n (L' := [some (Iv (((x / 65536) / 256) / 16)), some (Iv 3)]) 61 dJ6_numberOfLeadingZeros_0f7a4_60 rfl (by decide) rfl ?_
    refine g_iload_n 62 dJ6_numberOfLeadingZeros_0f7a4_61 rfl rfl ?_
    refine g_iconst 63 dJ6_numberOfLeadingZeros_0f7a4_62 (by decide) rfl ?_
    refine g_icmp_lt 73 66 dJ6_numberOfLeadingZeros_0f7a4_63 (by first | assumption | omega) (by decide) (by decide) rfl (fun h16 => ?_) (fun h16 => ?_)
    · refine g_iload_n 74 dJ6_numberOfLeadingZeros_0f7a4_73 rfl rfl ?_
      refine g_iload_n 75 dJ6_numberOfLeadingZeros_0f7a4_74 rfl rfl ?_
      refine g_iconst 76 dJ6_numberOfLeadingZeros_0f7a4_75 (by decide) rfl ?_
      refine g_iushr 77 dJ6_numberOfLeadingZeros_0f7a4_76 rfl ?_
      refine G.eqi (ush_I (x := (((x / 65536) / 256) / 16)) (by omega)).2.2.2.2 ?_
      refine g_isub 78 dJ6_numberOfLeadingZeros_0f7a4_77 rfl ?_
      refine g_iret dJ6_numberOfLeadingZeros_0f7a4_78 rfl ?_
      exact ⟨congrArg (fun x => some (Iv x)) (by omega), rfl, rfl⟩
    refine g_iinc (L' := [some (Iv (((x / 65536) / 256) / 16)), some (Iv 1)]) 69 dJ6_numberOfLeadingZeros_0f7a4_66 rfl rfl (by decide) rfl ?_
    refine g_iload_n 70 dJ6_numberOfLeadingZeros_0f7a4_69 rfl rfl ?_
    refine g_iconst 71 dJ6_numberOfLeadingZeros_0f7a4_70 (by decide) rfl ?_
    refine g_iushr 72 dJ6_numberOfLeadingZeros_0f7a4_71 rfl ?_
    refine G.eqi (ush_I (x := (((x / 65536) / 256) / 16)) (by omega)).2.2.2.1 ?_
    refine g_istore_n (L' := [some (Iv ((((x / 65536) / 256) / 16) / 4)), some (Iv 1)]) 73 dJ6_numberOfLeadingZeros_0f7a4_72 rfl (by decide) rfl ?_
    refine g_iload_n 74 dJ6_numberOfLeadingZeros_0f7a4_73 rfl rfl ?_
    refine g_iload_n 75 dJ6_numberOfLeadingZeros_0f7a4_74 rfl rfl ?_
    refine g_iconst 76 dJ6_numberOfLeadingZeros_0f7a4_75 (by decide) rfl ?_
    refine g_iushr 77 dJ6_numberOfLeadingZeros_0f7a4_76 rfl ?_
    refine G.eqi (ush_I (x := ((((x / 65536) / 256) / 16) / 4)) (by omega)).2.2.2.2 ?_
    refine g_isub 78 dJ6_numberOfLeadingZeros_0f7a4_77 rfl ?_
    refine g_iret dJ6_numberOfLeadingZeros_0f7a4_78 rfl ?_
    exact ⟨congrArg (fun x => some (Iv x)) (by omega), rfl, rfl⟩
  refine g_iload_n 5 dJ6_numberOfLeadingZeros_0f7a4_4 rfl rfl ?_
  refine g_if_ne 13 8 dJ6_numberOfLeadingZeros_0f7a4_5 (by first | assumption | omega) (by decide) rfl (fun h17 => ?_) (fun h17 => ?_)
  · refine g_iconst 14 dJ6_numberOfLeadingZeros_0f7a4_13 (by decide) rfl ?_
    refine g_iret dJ6_numberOfLeadingZeros_0f7a4_14 rfl ?_
    exfalso
    omega
  refine g_bipush 10 dJ6_numberOfLeadingZeros_0f7a4_8 (by decide) rfl ?_
  refine g_goto 14 dJ6_numberOfLeadingZeros_0f7a4_10 (by decide) ?_
  refine g_iret dJ6_numberOfLeadingZeros_0f7a4_14 rfl ?_
  exfalso
  omega
set_option maxHeartbeats 4000000 in
set_option maxRecDepth 20000 in
theorem c_X9_shutUpTo {B : Bs} {n0 : Nat} {V : Vs} {κ : Ks} {s : Int} (h_s : 0 ≤ s ∧ s < κ 40 11) (hInv : Inv κ V) : Ct (XR B n0) mX9_shutUpTo 6 0 0 [Rf 1, Iv s] V κ (fun r V1 κ1 => ∃ A, r = some (Iv A) ∧ V1 = V ∧ κ1 = κ ∧ isSet A (shM κ s)) := by
  obtain ⟨hI, hC, hV⟩ := id hInv
  obtain ⟨cA, cB, cC, cD, cE, cF, cG, cS, cL, cH, cN, cT, cW, cK, cZ⟩ := id hC
  obtain ⟨⟨i0, i1, i2, i3, i4, i5, i6, i7, i8, i9⟩, iS, iH, iR, iT, iC, iG, iL, iZ⟩ := id hI
  obtain ⟨⟨cV0, cV1, cV2, cV4⟩, _⟩ := id hV
  obtain ⟨cA0, cA1, cA2⟩ := id cA
  obtain ⟨cB0, cB1, cB2⟩ := id cB
  obtain ⟨⟨⟨⟨z0, z1, z2⟩, z3, z4, z5⟩, z6, z7⟩, z8⟩ := id cZ
  have en0 : κ 2 2 = κ 40 11 := cG.1.2.2.1
  have en1 : κ 3 2 = κ 40 20 := cG.2.1.2.2.1
  have en2 : κ 4 2 = κ 40 31 := cG.2.2.1.2.2.1
  have en3 : κ 5 2 = κ 40 41 := cG.2.2.2.2.2.1
  refine Ct.of (L := [some (Rf 1), some (Iv s), none, none, none]) 3 (by decide +kernel) rfl rfl ?_
  have lp : ∀ (m : Nat) (O x i : Int), 0 ≤ O ∧ O < 1024 → -1 ≤ x ∧ x < κ 40 11 → 0 ≤ i ∧ i ≤ 10 → (m : Int) = 10 - i → (∀ y : Nat, y < 10 → ((bitI O y = 1 ∨ (y : Int) ∈ pth κ m x) ↔ (y : Int) ∈ pth κ 10 s)) → G (XR B n0) mX9_shutUpTo 6 (fun r V1 κ1 => ∃ A, r = some (Iv A) ∧ V1 = V ∧ κ1 = κ ∧ isSet A (shM κ s)) V 0 0 7 [some (Rf 1), some (Iv s), some (Iv O), some (Iv x), some (Iv i)] [] V κ := by
    intro m
    induction m using Nat.strongRecOn with
    | ind m ih =>
      intro O x i hO hx hi hm hb
      refine g_iload 9 dX9_shutUpTo_7 rfl rfl ?_
      refine g_bipush 11 dX9_shutUpTo_9 (by decide) rfl ?_
      refine g_icmp_ge 37 14 dX9_shutUpTo_11 (by first | assumption | omega) (by decide) (by decide) rfl (fun h101 => ?_) (fun h101 => ?_)
      · refine g_iload_n 38 dX9_shutUpTo_37 rfl rfl ?_
        refine g_aload_n 39 dX9_shutUpTo_38 rfl rfl ?_
        refine g_getC 42 dX9_shutUpTo_39 fgX9_44 kd_1 ly_1_8 rfl ?_
        refine g_aload_n 43 dX9_shutUpTo_42 rfl rfl ?_
        refine r_getI 46 (κ 1 12) dX9_shutUpTo_43 fgX9_201 kd_1 ly_1_12 rfl (rfl) (fun r102 => ?_)
        refine e_V 49 0 0 [Iv (κ 1 12)] [Iv O] dX9_shutUpTo_46 cvX9_181 mwX8_letStreets kd_10 (by decide) rfl (Nat.le_of_ble_eq_true rfl) rfl rfl rfl (c_X8_letStreets (by omega)) ?_
        refine g_iconst 50 dX9_shutUpTo_49 (by decide) rfl ?_
        refine g_ixor 51 dX9_shutUpTo_50 rfl ?_
        refine g_iand 52 dX9_shutUpTo_51 rfl ?_
        refine g_iret dX9_shutUpTo_52 rfl ?_
        have hk := (cK (κ 1 12 % 168).toNat (by omega)).1
        have an := and_not hO (y := κ 11 (κ 1 12 % 168).toNat) ⟨hk.1, hk.2.1⟩
        refine ⟨_, rfl, rfl, rfl, an.1, fun y hy => ?_⟩
        have hn : pth κ m x = [] := by
          rcases Nat.eq_zero_or_pos m with e0 | e0
          · rw [e0]; rfl
          · exact pth_neg (by omega) m
        have hb2 := hb y hy
        rw [hn] at hb2
        have k2 := hk.2.2 y hy
        rw [show (((κ 1 12 % 168).toNat : Nat) : Int) = κ 40 0 % 168 by omega] at k2
        rw [an.2 y hy, k2]
        exact sh_bit hI h_s hb2
      refine g_iload_n 15 dX9_shutUpTo_14 rfl rfl ?_
      refine g_iconst 16 dX9_shutUpTo_15 (by decide) rfl ?_
      refine g_icmp_eq 37 19 dX9_shutUpTo_16 (by first | assumption | omega) (by decide) (by decide) rfl (fun h103 => ?_) (fun h103 => ?_)
      · refine g_iload_n 38 dX9_shutUpTo_37 rfl rfl ?_
        refine g_aload_n 39 dX9_shutUpTo_38 rfl rfl ?_
        refine g_getC 42 dX9_shutUpTo_39 fgX9_44 kd_1 ly_1_8 rfl ?_
        refine g_aload_n 43 dX9_shutUpTo_42 rfl rfl ?_
        refine r_getI 46 (κ 1 12) dX9_shutUpTo_43 fgX9_201 kd_1 ly_1_12 rfl (rfl) (fun r104 => ?_)
        refine e_V 49 0 0 [Iv (κ 1 12)] [Iv O] dX9_shutUpTo_46 cvX9_181 mwX8_letStreets kd_10 (by decide) rfl (Nat.le_of_ble_eq_true rfl) rfl rfl rfl (c_X8_letStreets (by omega)) ?_
        refine g_iconst 50 dX9_shutUpTo_49 (by decide) rfl ?_
        refine g_ixor 51 dX9_shutUpTo_50 rfl ?_
        refine g_iand 52 dX9_shutUpTo_51 rfl ?_
        refine g_iret dX9_shutUpTo_52 rfl ?_
        have hk := (cK (κ 1 12 % 168).toNat (by omega)).1
        have an := and_not hO (y := κ 11 (κ 1 12 % 168).toNat) ⟨hk.1, hk.2.1⟩
        refine ⟨_, rfl, rfl, rfl, an.1, fun y hy => ?_⟩
        have hn : pth κ m x = [] := by
          rcases Nat.eq_zero_or_pos m with e0 | e0
          · rw [e0]; rfl
          · exact pth_neg (by omega) m
        have hb2 := hb y hy
        rw [hn] at hb2
        have k2 := hk.2.2 y hy
        rw [show (((κ 1 12 % 168).toNat : Nat) : Int) = κ 40 0 % 168 by omega] at k2
        rw [an.2 y hy, k2]
        exact sh_bit hI h_s hb2
      refine g_iload_n 20 dX9_shutUpTo_19 rfl rfl ?_
      refine g_iconst 21 dX9_shutUpTo_20 (by decide) rfl ?_
      refine g_iload_n 22 dX9_shutUpTo_21 rfl rfl ?_
      refine g_ishl 23 dX9_shutUpTo_22 rfl ?_
      refine G.eqi (pow_I (s := x) (by omega)) ?_
      refine g_ior 24 dX9_shutUpTo_23 rfl ?_
      have op := or_pow hO (k := x.toNat) (by omega)
      refine g_istore_n (L' := [some (Rf 1), some (Iv s), some (Iv (bOr O (2 ^ x.toNat))), some (Iv x), some (Iv i)]) 25 dX9_shutUpTo_24 rfl (by decide) rfl ?_
      refine g_aload_n 26 dX9_shutUpTo_25 rfl rfl ?_
      refine g_iload_n 27 dX9_shutUpTo_26 rfl rfl ?_
      refine e_V 30 0 0 [Iv x] [] dX9_shutUpTo_27 cvX9_345 mwX9_placeAheadOf kd_1 (by decide) rfl (Nat.le_of_ble_eq_true rfl) rfl rfl rfl (c_X9_placeAheadOf cG.1 (by omega) (by omega)) ?_
      refine G.eqi (show (if x < 0 then -1 else κ (100 + (x).toNat) 0) = κ 53 (x).toNat from by rw [if_neg (by omega)]; exact (cS (x).toNat (by omega)).1) ?_
      have ix := (iS (x).toNat (by omega)).1
      refine g_istore_n (L' := [some (Rf 1), some (Iv s), some (Iv (bOr O (2 ^ x.toNat))), some (Iv (κ 53 (x).toNat)), some (Iv i)]) 31 dX9_shutUpTo_30 rfl (by decide) rfl ?_
      refine g_iinc (L' := [some (Rf 1), some (Iv s), some (Iv (bOr O (2 ^ x.toNat))), some (Iv (κ 53 (x).toNat)), some (Iv (i + 1))]) 34 dX9_shutUpTo_31 rfl rfl (by decide) rfl ?_
      refine g_goto 7 dX9_shutUpTo_34 (by decide) ?_
      refine ih (m - 1) (by omega) _ _ _ op.1 (by omega) (by omega) (by omega) (fun y hy => ?_)
      rw [← hb y hy, show m = m - 1 + 1 by omega, pth_s, if_neg (by omega), op.2 y hy, List.mem_cons, show m - 1 + 1 - 1 = m - 1 by omega]
      by_cases e : y = x.toNat
      · rw [if_pos e]
        exact ⟨fun _ => Or.inr (Or.inl (by omega)), fun _ => Or.inl rfl⟩
      · rw [if_neg e]
        exact ⟨fun q => q.elim Or.inl (fun z => Or.inr (Or.inr z)), fun q => q.elim Or.inl (fun z => z.elim (fun v => absurd v (by omega)) Or.inr)⟩
  refine g_iconst 1 dX9_shutUpTo_0 (by decide) rfl ?_
  refine g_istore_n (L' := [some (Rf 1), some (Iv s), some (Iv 0), none, none]) 2 dX9_shutUpTo_1 rfl (by decide) rfl ?_
  refine g_iload_n 3 dX9_shutUpTo_2 rfl rfl ?_
  refine g_istore_n (L' := [some (Rf 1), some (Iv s), some (Iv 0), some (Iv s), none]) 4 dX9_shutUpTo_3 rfl (by decide) rfl ?_
  refine g_iconst 5 dX9_shutUpTo_4 (by decide) rfl ?_
  refine g_istore (L' := [some (Rf 1), some (Iv s), some (Iv 0), some (Iv s), some (Iv 0)]) 7 dX9_shutUpTo_5 rfl (by decide) rfl ?_
  exact lp 10 0 s 0 (by omega) (by omega) (by omega) (by omega) (fun y hy => ⟨fun q => q.elim (fun z => absurd z (by rw [bit_0]; omega)) id, Or.inr⟩)
set_option maxHeartbeats 4000000 in
set_option maxRecDepth 20000 in
theorem c_X9_walkLength {B : Bs} {n0 : Nat} {V : Vs} {κ : Ks} {c : Nat} {A : Int} {l : List Int} (h_c : c < 3) (hA : isSet A l) (hd : decL (κ 40 11) l) (hn : l ≠ []) (hInv : Inv κ V) : Ct (XR B n0) mX9_walkLength 7 0 0 [Rf 1, Iv (c : Int), Iv A] V κ (Ex (some (Iv (wkM κ l c))) V κ) := by
  obtain ⟨hI, hC, hV⟩ := id hInv
  obtain ⟨cA, cB, cC, cD, cE, cF, cG, cS, cL, cH, cN, cT, cW, cK, cZ⟩ := id hC
  obtain ⟨⟨i0, i1, i2, i3, i4, i5, i6, i7, i8, i9⟩, iS, iH, iR, iT, iC, iG, iL, iZ⟩ := id hI
  obtain ⟨⟨cV0, cV1, cV2, cV4⟩, _⟩ := id hV
  obtain ⟨cA0, cA1, cA2⟩ := id cA
  obtain ⟨cB0, cB1, cB2⟩ := id cB
  obtain ⟨⟨⟨⟨z0, z1, z2⟩, z3, z4, z5⟩, z6, z7⟩, z8⟩ := id cZ
  have en0 : κ 2 2 = κ 40 11 := cG.1.2.2.1
  have en1 : κ 3 2 = κ 40 20 := cG.2.1.2.2.1
  have en2 : κ 4 2 = κ 40 31 := cG.2.2.1.2.2.1
  have en3 : κ 5 2 = κ 40 41 := cG.2.2.2.2.2.1
  have lo := isSet_low hA (decL_mono l hd i5.2) hn
  have hi := isSet_high hA (decL_mono l hd i5.2) hn
  have lm := decL_mem l hd (getLastD_mem (d := -1) l hn)
  have hm := decL_mem l hd (headD_mem (d := -1) l hn)
  have cc := iC c h_c
  have w1 := way_R (κ := κ) (κ 77 c) (l.getLastD (-1))
  have w2 := way_R (κ := κ) (κ 77 c) (l.headD (-1))
  refine Ct.of (L := [some (Rf 1), some (Iv (c : Int)), some (Iv A), none, none, none, none]) 4 (by decide +kernel) rfl rfl ?_
  refine g_iload_n 1 dX9_walkLength_0 rfl rfl ?_
  refine e_S 4 0 0 [Iv A] [] dX9_walkLength_1 csX9_357 mwJ6_numberOfTrailingZeros_0f7a4 (by decide) rfl (Nat.le_of_ble_eq_true rfl) rfl rfl rfl (c_J6_numberOfTrailingZeros_0f7a4 hA.1 (by omega) lo.2.1 lo.2.2) ?_
  refine G.eqi (show (((l.getLastD (-1)).toNat : Nat) : Int) = l.getLastD (-1) by omega) ?_
  refine g_istore_n (L' := [some (Rf 1), some (Iv (c : Int)), some (Iv A), some (Iv (l.getLastD (-1))), none, none, none]) 5 dX9_walkLength_4 rfl (by decide) rfl ?_
  refine g_bipush 7 dX9_walkLength_5 (by decide) rfl ?_
  refine g_iload_n 8 dX9_walkLength_7 rfl rfl ?_
  refine e_S 11 0 0 [Iv A] [Iv 31] dX9_walkLength_8 csX9_360 mwJ6_numberOfLeadingZeros_0f7a4 (by decide) rfl (Nat.le_of_ble_eq_true rfl) rfl rfl rfl (c_J6_numberOfLeadingZeros_0f7a4 hA.1 (by omega) hi.2.1 hi.2.2) ?_
  refine g_isub 12 dX9_walkLength_11 rfl ?_
  refine G.eqi (show 31 - (31 - (((l.headD (-1)).toNat : Nat) : Int)) = l.headD (-1) by omega) ?_
  refine g_istore (L' := [some (Rf 1), some (Iv (c : Int)), some (Iv A), some (Iv (l.getLastD (-1))), some (Iv (l.headD (-1))), none, none]) 14 dX9_walkLength_12 rfl (by decide) rfl ?_
  refine g_aload_n 15 dX9_walkLength_14 rfl rfl ?_
  refine g_aload_n 16 dX9_walkLength_15 rfl rfl ?_
  refine g_getC 19 dX9_walkLength_16 fgX9_31 kd_1 ly_1_5 rfl ?_
  refine g_iload_n 20 dX9_walkLength_19 rfl rfl ?_
  refine r_iald 21 c (κ 77 c) dX9_walkLength_20 kd_7 (by decide) (by omega) (rfl) rfl (cC c h_c) (fun r1 => ?_)
  refine g_iload_n 22 dX9_walkLength_21 rfl rfl ?_
  refine e_V 25 0 0 [Iv (κ 77 c), Iv (l.getLastD (-1))] [] dX9_walkLength_22 cvX9_213 mwX9_stepsBetween kd_1 (by decide) rfl (Nat.le_of_ble_eq_true rfl) rfl rfl rfl (c_X9_stepsBetween (by omega) (by omega) hInv) ?_
  refine g_istore (L' := [some (Rf 1), some (Iv (c : Int)), some (Iv A), some (Iv (l.getLastD (-1))), some (Iv (l.headD (-1))), some (Iv (wayM κ (κ 77 c) (l.getLastD (-1)))), none]) 27 dX9_walkLength_25 rfl (by decide) rfl ?_
  refine g_aload_n 28 dX9_walkLength_27 rfl rfl ?_
  refine g_aload_n 29 dX9_walkLength_28 rfl rfl ?_
  refine g_getC 32 dX9_walkLength_29 fgX9_31 kd_1 ly_1_5 rfl ?_
  refine g_iload_n 33 dX9_walkLength_32 rfl rfl ?_
  refine r_iald 34 c (κ 77 c) dX9_walkLength_33 kd_7 (by decide) (by omega) (rfl) rfl (cC c h_c) (fun r2 => ?_)
  refine g_iload 36 dX9_walkLength_34 rfl rfl ?_
  refine e_V 39 0 0 [Iv (κ 77 c), Iv (l.headD (-1))] [] dX9_walkLength_36 cvX9_213 mwX9_stepsBetween kd_1 (by decide) rfl (Nat.le_of_ble_eq_true rfl) rfl rfl rfl (c_X9_stepsBetween (by omega) (by omega) hInv) ?_
  refine g_istore (L' := [some (Rf 1), some (Iv (c : Int)), some (Iv A), some (Iv (l.getLastD (-1))), some (Iv (l.headD (-1))), some (Iv (wayM κ (κ 77 c) (l.getLastD (-1)))), some (Iv (wayM κ (κ 77 c) (l.headD (-1))))]) 41 dX9_walkLength_39 rfl (by decide) rfl ?_
  refine g_iload 43 dX9_walkLength_41 rfl rfl ?_
  refine g_iload 45 dX9_walkLength_43 rfl rfl ?_
  refine e_S 48 0 0 [Iv (wayM κ (κ 77 c) (l.getLastD (-1))), Iv (wayM κ (κ 77 c) (l.headD (-1)))] [] dX9_walkLength_45 csX9_327 mwJ9_min_7cf53 (by decide) rfl (Nat.le_of_ble_eq_true rfl) rfl rfl rfl (c_J9_min_7cf53 (by omega) (by omega)) ?_
  refine g_aload_n 49 dX9_walkLength_48 rfl rfl ?_
  refine g_iload_n 50 dX9_walkLength_49 rfl rfl ?_
  refine g_iload 52 dX9_walkLength_50 rfl rfl ?_
  refine e_V 55 0 0 [Iv (l.getLastD (-1)), Iv (l.headD (-1))] [Iv (min (wayM κ (κ 77 c) (l.getLastD (-1))) (wayM κ (κ 77 c) (l.headD (-1))))] dX9_walkLength_52 cvX9_213 mwX9_stepsBetween kd_1 (by decide) rfl (Nat.le_of_ble_eq_true rfl) rfl rfl rfl (c_X9_stepsBetween (by omega) (by omega) hInv) ?_
  refine g_iadd 56 dX9_walkLength_55 rfl ?_
  refine g_iret dX9_walkLength_56 rfl ?_
  have e : wkM κ l c = wayM κ (l.headD (-1)) (l.getLastD (-1)) + min (wayM κ (κ 77 c) (l.headD (-1))) (wayM κ (κ 77 c) (l.getLastD (-1))) := by unfold wkM; rw [if_neg (fun z => hn (List.eq_nil_of_length_eq_zero z))]
  rw [e, way_sym (κ := κ) (a := l.headD (-1))]
  exact ⟨congrArg (fun x => some (Iv x)) (by omega), rfl, rfl⟩
set_option maxHeartbeats 4000000 in
set_option maxRecDepth 20000 in
theorem c_X9_quickestCock {B : Bs} {n0 : Nat} {V : Vs} {κ : Ks} {A : Int} {l : List Int} (hA : isSet A l) (hd : decL (κ 40 11) l) (hn : l ≠ []) (hInv : Inv κ V) : Ct (XR B n0) mX9_quickestCock 8 0 0 [Rf 1, Iv A] V κ (Ex (some (Iv ((whoM κ l : Nat) : Int))) V κ) := by
  have k0 := wk_R κ l 0
  have k1 := wk_R κ l 1
  have k2 := wk_R κ l 2
  refine Ct.of (L := [some (Rf 1), some (Iv A), none, none]) 2 (by decide +kernel) rfl rfl ?_
  refine g_iconst 1 dX9_quickestCock_0 (by decide) rfl ?_
  refine g_istore_n (L' := [some (Rf 1), some (Iv A), some (Iv 0), none]) 2 dX9_quickestCock_1 rfl (by decide) rfl ?_
  refine g_iconst 3 dX9_quickestCock_2 (by decide) rfl ?_
  refine g_istore_n (L' := [some (Rf 1), some (Iv A), some (Iv 0), some (Iv 1)]) 4 dX9_quickestCock_3 rfl (by decide) rfl ?_
  refine g_iload_n 5 dX9_quickestCock_4 rfl rfl ?_
  refine g_iconst 6 dX9_quickestCock_5 (by decide) rfl ?_
  refine g_icmp_ge 32 9 dX9_quickestCock_6 (by decide) (by decide) (by decide) rfl (fun z => absurd z (by decide)) (fun _ => ?_)
  refine g_aload_n 10 dX9_quickestCock_9 rfl rfl ?_
  refine g_iload_n 11 dX9_quickestCock_10 rfl rfl ?_
  refine g_iload_n 12 dX9_quickestCock_11 rfl rfl ?_
  refine e_V 15 0 0 [Iv 1, Iv A] [] dX9_quickestCock_12 cvX9_228 mwX9_walkLength kd_1 (by decide) rfl (Nat.le_of_ble_eq_true rfl) rfl rfl rfl (c_X9_walkLength (c := 1) (by omega) hA hd hn hInv) ?_
  refine g_aload_n 16 dX9_quickestCock_15 rfl rfl ?_
  refine g_iload_n 17 dX9_quickestCock_16 rfl rfl ?_
  refine g_iload_n 18 dX9_quickestCock_17 rfl rfl ?_
  refine e_V 21 0 0 [Iv 0, Iv A] [Iv (wkM κ l 1)] dX9_quickestCock_18 cvX9_228 mwX9_walkLength kd_1 (by decide) rfl (Nat.le_of_ble_eq_true rfl) rfl rfl rfl (c_X9_walkLength (c := 0) (by omega) hA hd hn hInv) ?_
  refine g_icmp_ge 26 24 dX9_quickestCock_21 (by first | assumption | omega) (by first | assumption | omega) (by decide) rfl (fun h1 => ?_) (fun h1 => ?_)
  · refine g_iinc (L' := [some (Rf 1), some (Iv A), some (Iv 0), some (Iv 2)]) 29 dX9_quickestCock_26 rfl rfl (by decide) rfl ?_
    refine g_goto 4 dX9_quickestCock_29 (by decide) ?_
    refine g_iload_n 5 dX9_quickestCock_4 rfl rfl ?_
    refine g_iconst 6 dX9_quickestCock_5 (by decide) rfl ?_
    refine g_icmp_ge 32 9 dX9_quickestCock_6 (by decide) (by decide) (by decide) rfl (fun z => absurd z (by decide)) (fun _ => ?_)
    refine g_aload_n 10 dX9_quickestCock_9 rfl rfl ?_
    refine g_iload_n 11 dX9_quickestCock_10 rfl rfl ?_
    refine g_iload_n 12 dX9_quickestCock_11 rfl rfl ?_
    refine e_V 15 0 0 [Iv 2, Iv A] [] dX9_quickestCock_12 cvX9_228 mwX9_walkLength kd_1 (by decide) rfl (Nat.le_of_ble_eq_true rfl) rfl rfl rfl (c_X9_walkLength (c := 2) (by omega) hA hd hn hInv) ?_
    refine g_aload_n 16 dX9_quickestCock_15 rfl rfl ?_
    refine g_iload_n 17 dX9_quickestCock_16 rfl rfl ?_
    refine g_iload_n 18 dX9_quickestCock_17 rfl rfl ?_
    refine e_V 21 0 0 [Iv 0, Iv A] [Iv (wkM κ l 2)] dX9_quickestCock_18 cvX9_228 mwX9_walkLength kd_1 (by decide) rfl (Nat.le_of_ble_eq_true rfl) rfl rfl rfl (c_X9_walkLength (c := 0) (by omega) hA hd hn hInv) ?_
    refine g_icmp_ge 26 24 dX9_quickestCock_21 (by first | assumption | omega) (by first | assumption | omega) (by decide) rfl (fun h2 => ?_) (fun h2 => ?_)
    · refine g_iinc (L' := [some (Rf 1), some (Iv A), some (Iv 0), some (Iv 3)]) 29 dX9_quickestCock_26 rfl rfl (by decide) rfl ?_
      refine g_goto 4 dX9_quickestCock_29 (by decide) ?_
      refine g_iload_n 5 dX9_quickestCock_4 rfl rfl ?_
      refine g_iconst 6 dX9_quickestCock_5 (by decide) rfl ?_
      refine g_icmp_ge 32 9 dX9_quickestCock_6 (by decide) (by decide) (by decide) rfl (fun _ => ?_) (fun z => absurd z (by decide))
      refine g_iload_n 33 dX9_quickestCock_32 rfl rfl ?_
      refine g_iret dX9_quickestCock_33 rfl ?_
      unfold whoM
      (repeat' split) <;> first | (exfalso; omega) | exact ⟨rfl, rfl, rfl⟩
    refine g_iload_n 25 dX9_quickestCock_24 rfl rfl ?_
    refine g_istore_n (L' := [some (Rf 1), some (Iv A), some (Iv 2), some (Iv 2)]) 26 dX9_quickestCock_25 rfl (by decide) rfl ?_
    refine g_iinc (L' := [some (Rf 1), some (Iv A), some (Iv 2), some (Iv 3)]) 29 dX9_quickestCock_26 rfl rfl (by decide) rfl ?_
    refine g_goto 4 dX9_quickestCock_29 (by decide) ?_
    refine g_iload_n 5 dX9_quickestCock_4 rfl rfl ?_
    refine g_iconst 6 dX9_quickestCock_5 (by decide) rfl ?_
    refine g_icmp_ge 32 9 dX9_quickestCock_6 (by decide) (by decide) (by decide) rfl (fun _ => ?_) (fun z => absurd z (by decide))
    refine g_iload_n 33 dX9_quickestCock_32 rfl rfl ?_
    refine g_iret dX9_quickestCock_33 rfl ?_
    unfold whoM
    (repeat' split) <;> first | (exfalso; omega) | exact ⟨rfl, rfl, rfl⟩
  refine g_iload_n 25 dX9_quickestCock_24 rfl rfl ?_
  refine g_istore_n (L' := [some (Rf 1), some (Iv A), some (Iv 1), some (Iv 1)]) 26 dX9_quickestCock_25 rfl (by decide) rfl ?_
  refine g_iinc (L' := [some (Rf 1), some (Iv A), some (Iv 1), some (Iv 2)]) 29 dX9_quickestCock_26 rfl rfl (by decide) rfl ?_
  refine g_goto 4 dX9_quickestCock_29 (by decide) ?_
  refine g_iload_n 5 dX9_quickestCock_4 rfl rfl ?_
  refine g_iconst 6 dX9_quickestCock_5 (by decide) rfl ?_
  refine g_icmp_ge 32 9 dX9_quickestCock_6 (by decide) (by decide) (by decide) rfl (fun z => absurd z (by decide)) (fun _ => ?_)
  refine g_aload_n 10 dX9_quickestCock_9 rfl rfl ?_
  refine g_iload_n 11 dX9_quickestCock_10 rfl rfl ?_
  refine g_iload_n 12 dX9_quickestCock_11 rfl rfl ?_
  refine e_V 15 0 0 [Iv 2, Iv A] [] dX9_quickestCock_12 cvX9_228 mwX9_walkLength kd_1 (by decide) rfl (Nat.le_of_ble_eq_true rfl) rfl rfl rfl (c_X9_walkLength (c := 2) (by omega) hA hd hn hInv) ?_
  refine g_aload_n 16 dX9_quickestCock_15 rfl rfl ?_
  refine g_iload_n 17 dX9_quickestCock_16 rfl rfl ?_
  refine g_iload_n 18 dX9_quickestCock_17 rfl rfl ?_
  refine e_V 21 0 0 [Iv 1, Iv A] [Iv (wkM κ l 2)] dX9_quickestCock_18 cvX9_228 mwX9_walkLength kd_1 (by decide) rfl (Nat.le_of_ble_eq_true rfl) rfl rfl rfl (c_X9_walkLength (c := 1) (by omega) hA hd hn hInv) ?_
  refine g_icmp_ge 26 24 dX9_quickestCock_21 (by first | assumption | omega) (by first | assumption | omega) (by decide) rfl (fun h3 => ?_) (fun h3 => ?_)
  · refine g_iinc (L' := [some (Rf 1), some (Iv A), some (Iv 1), some (Iv 3)]) 29 dX9_quickestCock_26 rfl rfl (by decide) rfl ?_
    refine g_goto 4 dX9_quickestCock_29 (by decide) ?_
    refine g_iload_n 5 dX9_quickestCock_4 rfl rfl ?_
    refine g_iconst 6 dX9_quickestCock_5 (by decide) rfl ?_
    refine g_icmp_ge 32 9 dX9_quickestCock_6 (by decide) (by decide) (by decide) rfl (fun _ => ?_) (fun z => absurd z (by decide))
    refine g_iload_n 33 dX9_quickestCock_32 rfl rfl ?_
    refine g_iret dX9_quickestCock_33 rfl ?_
    unfold whoM
    (repeat' split) <;> first | (exfalso; omega) | exact ⟨rfl, rfl, rfl⟩
  refine g_iload_n 25 dX9_quickestCock_24 rfl rfl ?_
  refine g_istore_n (L' := [some (Rf 1), some (Iv A), some (Iv 2), some (Iv 2)]) 26 dX9_quickestCock_25 rfl (by decide) rfl ?_
  refine g_iinc (L' := [some (Rf 1), some (Iv A), some (Iv 2), some (Iv 3)]) 29 dX9_quickestCock_26 rfl rfl (by decide) rfl ?_
  refine g_goto 4 dX9_quickestCock_29 (by decide) ?_
  refine g_iload_n 5 dX9_quickestCock_4 rfl rfl ?_
  refine g_iconst 6 dX9_quickestCock_5 (by decide) rfl ?_
  refine g_icmp_ge 32 9 dX9_quickestCock_6 (by decide) (by decide) (by decide) rfl (fun _ => ?_) (fun z => absurd z (by decide))
  refine g_iload_n 33 dX9_quickestCock_32 rfl rfl ?_
  refine g_iret dX9_quickestCock_33 rfl ?_
  unfold whoM
  (repeat' split) <;> first | (exfalso; omega) | exact ⟨rfl, rfl, rfl⟩
set_option maxHeartbeats 4000000 in
set_option maxRecDepth 20000 in
theorem c_X9_fire {B : Bs} {n0 : Nat} {V : Vs} {κ : Ks} {s w : Int} (r_s : inR s) (r_w : inR w)  (hInv : Inv κ V) : Ct (XR B n0) mX9_fire 9 0 0 [Rf 1, Iv s, Iv w] V κ (PC κ (M_fire κ s w)) := by
  obtain ⟨hI, hC, hV⟩ := id hInv
  obtain ⟨cA, cB, cC, cD, cE, cF, cG, cS, cL, cH, cN, cT, cW, cK, cZ⟩ := id hC
  obtain ⟨⟨i0, i1, i2, i3, i4, i5, i6, i7, i8, i9⟩, iS, iH, iR, iT, iC, iG, iL, iZ⟩ := id hI
  obtain ⟨⟨cV0, cV1, cV2, cV4⟩, _⟩ := id hV
  obtain ⟨cA0, cA1, cA2⟩ := id cA
  obtain ⟨cB0, cB1, cB2⟩ := id cB
  obtain ⟨⟨⟨⟨z0, z1, z2⟩, z3, z4, z5⟩, z6, z7⟩, z8⟩ := id cZ
  have en0 : κ 2 2 = κ 40 11 := cG.1.2.2.1
  have en1 : κ 3 2 = κ 40 20 := cG.2.1.2.2.1
  have en2 : κ 4 2 = κ 40 31 := cG.2.2.1.2.2.1
  have en3 : κ 5 2 = κ 40 41 := cG.2.2.2.2.2.1
  refine Ct.of (L := [some (Rf 1), some (Iv s), some (Iv w), none, none, none, none]) 4 (by decide +kernel) rfl rfl ?_
  refine g_aload_n 1 dX9_fire_0 rfl rfl ?_
  refine g_iload_n 2 dX9_fire_1 rfl rfl ?_
  refine o_V 5 0 0 [Iv s] [] dX9_fire_2 cvX9_105 mwX9_streetAt kd_1 (by decide) rfl (Nat.le_of_ble_eq_true rfl) rfl rfl rfl (c_X9_streetAt cG.1 (by omega) (by omega)) (fun h1 => ?_) (fun h1 => ?_)
  · have qS := cS (s).toNat (by omega)
    have qI := iS (s).toNat (by omega)
    refine g_astore_n (L' := [some (Rf 1), some (Iv s), some (Iv w), some (Rf (100 + (s).toNat)), none, none, none]) 6 dX9_fire_5 rfl (by decide) rfl ?_
    refine g_aload_n 7 dX9_fire_6 rfl rfl ?_
    refine r_ifnonnull_s 16 dX9_fire_7 (by decide) ?_
    refine g_aload_n 17 dX9_fire_16 rfl rfl ?_
    refine r_getI 20 (κ (100 + (s).toNat) 4) dX9_fire_17 fgX9_156 (kd_S (by omega)) (ly_S (by omega) 4) rfl (rfl) (fun r2 => ?_)
    refine g_if_ne 30 23 dX9_fire_20 (by first | assumption | omega) (by decide) rfl (fun h3 => ?_) (fun h3 => ?_)
    · refine g_aload_n 31 dX9_fire_30 rfl rfl ?_
      refine r_getI 34 (κ (100 + (s).toNat) 4) dX9_fire_31 fgX9_156 (kd_S (by omega)) (ly_S (by omega) 4) rfl (rfl) (fun r4 => ?_)
      refine g_iconst 35 dX9_fire_34 (by decide) rfl ?_
      refine g_icmp_eq 47 38 dX9_fire_35 (by first | assumption | omega) (by decide) (by decide) rfl (fun h5 => ?_) (fun h5 => ?_)
      · refine g_aload_n 48 dX9_fire_47 rfl rfl ?_
        refine g_bipush 50 dX9_fire_48 (by decide) rfl ?_
        refine e_V 53 0 0 [Iv (-2)] [] dX9_fire_50 cvX9_74 mwX9_refuse kd_1 (by decide) rfl (Nat.le_of_ble_eq_true rfl) rfl rfl rfl (c_X9_refuse 2 (by decide) (by decide)) ?_
        refine g_iret dX9_fire_53 rfl ?_
        unfold M_fire
        (repeat' split) <;> first | (exfalso; omega) | exact PC_ref hInv (by decide) (by omega) rfl | exact PC_same hInv (by omega)
      refine g_iload_n 39 dX9_fire_38 rfl rfl ?_
      refine g_if_lt 47 42 dX9_fire_39 (by first | assumption | omega) (by decide) rfl (fun h6 => ?_) (fun h6 => ?_)
      · refine g_aload_n 48 dX9_fire_47 rfl rfl ?_
        refine g_bipush 50 dX9_fire_48 (by decide) rfl ?_
        refine e_V 53 0 0 [Iv (-2)] [] dX9_fire_50 cvX9_74 mwX9_refuse kd_1 (by decide) rfl (Nat.le_of_ble_eq_true rfl) rfl rfl rfl (c_X9_refuse 2 (by decide) (by decide)) ?_
        refine g_iret dX9_fire_53 rfl ?_
        unfold M_fire
        (repeat' split) <;> first | (exfalso; omega) | exact PC_ref hInv (by decide) (by omega) rfl | exact PC_same hInv (by omega)
      refine g_iload_n 43 dX9_fire_42 rfl rfl ?_
      refine g_iconst 44 dX9_fire_43 (by decide) rfl ?_
      refine g_icmp_le 54 47 dX9_fire_44 (by first | assumption | omega) (by decide) (by decide) rfl (fun h7 => ?_) (fun h7 => ?_)
      · refine g_aload_n 55 dX9_fire_54 rfl rfl ?_
        refine g_iload_n 56 dX9_fire_55 rfl rfl ?_
        refine p_V 59 0 0 [Iv s] [] dX9_fire_56 cvX9_217 mwX9_shutUpTo kd_1 (by decide) rfl (Nat.le_of_ble_eq_true rfl) rfl rfl rfl (c_X9_shutUpTo (by omega) hInv) ?_
        intro r1 V1 κ1 hp
        obtain ⟨A, hr1, hv1, hk1, hA⟩ := hp
        subst hv1
        subst hr1
        subst hk1
        refine ⟨[Iv A], rfl, ?_⟩
        obtain ⟨l, el⟩ : ∃ l, l = shM κ1 s := ⟨_, rfl⟩
        rw [← el] at hA
        have hd : decL (κ1 40 11) l := by rw [el]; exact sh_dec hI (by omega)
        have hz := isSet_nil hA (decL_mono l hd i5.2)
        have hl := isSet_len hA (decL_mono l hd i5.2)
        have hlb := pc2_R 32 A
        have hA1 := hA.1
        have wl := who_R κ1 l
        have wr := wk_R κ1 l (whoM κ1 l)
        refine g_istore (L' := [some (Rf 1), some (Iv s), some (Iv w), some (Rf (100 + (s).toNat)), some (Iv A), none, none]) 61 dX9_fire_59 rfl (by decide) rfl ?_
        refine g_iload 63 dX9_fire_61 rfl rfl ?_
        refine g_if_ne 68 66 dX9_fire_63 (by first | assumption | omega) (by decide) rfl (fun h8 => ?_) (fun h8 => ?_)
        · have hn : l ≠ [] := fun z => absurd (hz.mpr z) (by omega)
          refine g_iload 70 dX9_fire_68 rfl rfl ?_
          refine e_S 73 0 0 [Iv A] [] dX9_fire_70 csX9_220 mwJ6_bitCount_0f7a4 (by decide) rfl (Nat.le_of_ble_eq_true rfl) rfl rfl rfl (c_J6_bitCount_0f7a4 hA.1) ?_
          refine g_istore (L' := [some (Rf 1), some (Iv s), some (Iv w), some (Rf (100 + (s).toNat)), some (Iv A), some (Iv (pc2 32 A)), none]) 75 dX9_fire_73 rfl (by decide) rfl ?_
          refine g_iload_n 76 dX9_fire_75 rfl rfl ?_
          refine g_iconst 77 dX9_fire_76 (by decide) rfl ?_
          refine g_icmp_ne 83 80 dX9_fire_77 (by first | assumption | omega) (by decide) (by decide) rfl (fun h9 => ?_) (fun h9 => ?_)
          · refine g_aload_n 84 dX9_fire_83 rfl rfl ?_
            refine g_iload 86 dX9_fire_84 rfl rfl ?_
            refine e_V 89 0 0 [Iv A] [] dX9_fire_86 cvX9_225 mwX9_quickestCock kd_1 (by decide) rfl (Nat.le_of_ble_eq_true rfl) rfl rfl rfl (c_X9_quickestCock hA hd hn hInv) ?_
            refine g_istore (L' := [some (Rf 1), some (Iv s), some (Iv w), some (Rf (100 + (s).toNat)), some (Iv A), some (Iv (pc2 32 A)), some (Iv ((whoM κ1 l : Nat) : Int))]) 91 dX9_fire_89 rfl (by decide) rfl ?_
            refine g_iload_n 92 dX9_fire_91 rfl rfl ?_
            refine g_iconst 93 dX9_fire_92 (by decide) rfl ?_
            refine g_icmp_ne 99 96 dX9_fire_93 (by first | assumption | omega) (by decide) (by decide) rfl (fun h10 => ?_) (fun h10 => ?_)
            · refine g_iconst 100 dX9_fire_99 (by decide) rfl ?_
              refine g_aload_n 101 dX9_fire_100 rfl rfl ?_
              refine g_iload 103 dX9_fire_101 rfl rfl ?_
              refine g_iload 105 dX9_fire_103 rfl rfl ?_
              refine e_V 108 0 0 [Iv ((whoM κ1 l : Nat) : Int), Iv A] [Iv 4] dX9_fire_105 cvX9_228 mwX9_walkLength kd_1 (by decide) rfl (Nat.le_of_ble_eq_true rfl) rfl rfl rfl (c_X9_walkLength (c := whoM κ1 l) (by omega) hA hd hn hInv) ?_
              refine g_imul 109 dX9_fire_108 rfl ?_
              refine g_iconst 110 dX9_fire_109 (by decide) rfl ?_
              refine g_iload 112 dX9_fire_110 rfl rfl ?_
              refine g_imul 113 dX9_fire_112 rfl ?_
              refine g_iadd 114 dX9_fire_113 rfl ?_
              refine g_iret dX9_fire_114 rfl ?_
              have ee : M_fire κ1 s w = (fireA κ1 l w, κ1) := by unfold M_fire; rw [if_neg (by omega), if_neg (by omega), if_neg (by omega), el]
              rw [ee]
              refine PC_same hInv ?_
              unfold fireA
              (repeat' split) <;> first | (exfalso; omega) | omega
            refine g_iload 98 dX9_fire_96 rfl rfl ?_
            refine g_iret dX9_fire_98 rfl ?_
            have ee : M_fire κ1 s w = (fireA κ1 l w, κ1) := by unfold M_fire; rw [if_neg (by omega), if_neg (by omega), if_neg (by omega), el]
            rw [ee]
            refine PC_same hInv ?_
            unfold fireA
            (repeat' split) <;> first | (exfalso; omega) | omega
          refine g_iload 82 dX9_fire_80 rfl rfl ?_
          refine g_iret dX9_fire_82 rfl ?_
          have ee : M_fire κ1 s w = (fireA κ1 l w, κ1) := by unfold M_fire; rw [if_neg (by omega), if_neg (by omega), if_neg (by omega), el]
          rw [ee]
          refine PC_same hInv ?_
          unfold fireA
          (repeat' split) <;> first | (exfalso; omega) | omega
        refine g_iconst 67 dX9_fire_66 (by decide) rfl ?_
        refine g_iret dX9_fire_67 rfl ?_
        have e0 : A = 0 := by omega
        have en := hz.mp e0
        have ee : M_fire κ1 s w = (fireA κ1 l w, κ1) := by unfold M_fire; rw [if_neg (by omega), if_neg (by omega), if_neg (by omega), el]
        rw [ee]
        refine PC_same hInv ?_
        rw [en]
        exact (fire_0 κ1 (by omega)).symm
      refine g_aload_n 48 dX9_fire_47 rfl rfl ?_
      refine g_bipush 50 dX9_fire_48 (by decide) rfl ?_
      refine e_V 53 0 0 [Iv (-2)] [] dX9_fire_50 cvX9_74 mwX9_refuse kd_1 (by decide) rfl (Nat.le_of_ble_eq_true rfl) rfl rfl rfl (c_X9_refuse 2 (by decide) (by decide)) ?_
      refine g_iret dX9_fire_53 rfl ?_
      unfold M_fire
      (repeat' split) <;> first | (exfalso; omega) | exact PC_ref hInv (by decide) (by omega) rfl | exact PC_same hInv (by omega)
    refine g_aload_n 24 dX9_fire_23 rfl rfl ?_
    refine g_bipush 26 dX9_fire_24 (by decide) rfl ?_
    refine e_V 29 0 0 [Iv (-5)] [] dX9_fire_26 cvX9_74 mwX9_refuse kd_1 (by decide) rfl (Nat.le_of_ble_eq_true rfl) rfl rfl rfl (c_X9_refuse 5 (by decide) (by decide)) ?_
    refine g_iret dX9_fire_29 rfl ?_
    unfold M_fire
    (repeat' split) <;> first | (exfalso; omega) | exact PC_ref hInv (by decide) (by omega) rfl | exact PC_same hInv (by omega)
  refine g_astore_n (L' := [some (Rf 1), some (Iv s), some (Iv w), some (Nl), none, none, none]) 6 dX9_fire_5 rfl (by decide) rfl ?_
  refine g_aload_n 7 dX9_fire_6 rfl rfl ?_
  refine r_ifnonnull_n 10 16 dX9_fire_7 (by decide) rfl ?_
  refine g_aload_n 11 dX9_fire_10 rfl rfl ?_
  refine g_iconst 12 dX9_fire_11 (by decide) rfl ?_
  refine e_V 15 0 0 [Iv (-1)] [] dX9_fire_12 cvX9_74 mwX9_refuse kd_1 (by decide) rfl (Nat.le_of_ble_eq_true rfl) rfl rfl rfl (c_X9_refuse 1 (by decide) (by decide)) ?_
  refine g_iret dX9_fire_15 rfl ?_
  unfold M_fire
  (repeat' split) <;> first | (exfalso; omega) | exact PC_ref hInv (by decide) (by omega) rfl | exact PC_same hInv (by omega)
