/-! one instruction that neither calls nor returns, on the machine -/
section Snd
variable {E : Fix} {p : Program} {l : Launch} {e : Env} {R : Room} {s : State} {m : MethodId} {args : Array Value} {below : List Frame} {meth : Method} {c : Code} {Q : State → Prop} {j : Nat}
theorem jto_ok {pc : Nat} {off : Int} (h : jok pc off) : (pc : Int) + off = (jto pc off : Nat) := by
  unfold jto jok at *
  omega
theorem cats {v : Value} (h : isL v = false) : v.category = 1 := cat_1 h
theorem nar_ref {ci k : Nat} (h : isR ci k = true) (r : Option Nat) : narrow (tyC ci k) (va_rf r) = va_rf r ∧ fits (tyC ci k) (va_rf r) = true := by
  unfold isR at h
  generalize tyC ci k = ty at h ⊢
  cases ty <;> simp at h <;> cases r <;> exact ⟨rfl, rfl⟩
set_option maxHeartbeats 4000000 in
theorem snd_next (X : Std E p s m args meth c j) (hRc : mcq j ≤ R.cells) (hRs : msq j ≤ R.slots) {K : Kt} (hK : ∀ pc L S G z cl sl, K pc L S G z cl sl → WA E p l e R s m args below meth c (mxL j) Q pc L S G z cl sl)
    {il : Instr × Nat} {pc : Nat} {L : Lo} {S : List Value} {G : Mem} {z cl sl : Nat} (hd : decode (cd j) pc = .ok il) {ps pc' L' S' G' z' cl' sl'} (h : inext j il pc L S G z cl sl = some (ps, pc', L', S', G', z', cl', sl')) (hc : cnd ps (K pc' L' S' G' z' cl' sl')) :
    WA E p l e R s m args below meth c (mxL j) Q pc L S G z cl sl := by
  have hx := X.1
  have hb := X.2.1
  have hown := X.2.2.2.2.1
  have hts := X.2.2.2.2.2.1
  have hkn := X.2.2.2.2.2.2.1
  have hfz := X.2.2.2.2.2.2.2.1
  have hfb := X.2.2.2.2.2.2.2.2.1
  intro H locs ls hz hh hl hS hL
  unfold inext at h
  split at h
  -- iconst bipush sipush lconst aconst_null
  · cases h; exact lv_iconst hx hb hd rfl (hK _ _ _ _ _ _ _ hc H locs ls hz hh hl hS hL)
  · cases h; exact lv_bipush hx hb hd rfl (hK _ _ _ _ _ _ _ hc H locs ls hz hh hl hS hL)
  · cases h; exact lv_sipush hx hb hd rfl (hK _ _ _ _ _ _ _ hc H locs ls hz hh hl hS hL)
  · cases h; exact lv_lconst hx hb hd rfl (hK _ _ _ _ _ _ _ hc H locs ls hz hh hl hS hL)
  · cases h; exact lv_null hx hb hd (hK _ _ _ _ _ _ _ hc H locs ls hz hh hl hS hL)
  -- ldc
  · split at h
    · rename_i hk
      cases h; exact lv_ldc hx hb hown (hts _ (kI_at hk)) hd (hK _ _ _ _ _ _ _ hc H locs ls hz hh hl hS hL)
    · split at h
      · rename_i q hk
        obtain ⟨e1, e2, e3⟩ := kS_at hk
        have hm := hl.2.2.2.1 q e2
        have hR := hkn.2.2.2.2 q e2
        rw [List.getD_eq_getElem?_getD, e3] at hR
        rw [e1] at hown
        cases h
        have hc := hK _ _ _ _ _ _ _ hc H locs ls hz hh hl hS hL
        rw [hm] at hc
        exact va_ldcS hx hb hown hR hd hc
      · cases h
  · split at h
    · rename_i hk
      cases h; exact lv_ldcw hx hb hown (hts _ (kI_at hk)) hd (hK _ _ _ _ _ _ _ hc H locs ls hz hh hl hS hL)
    · cases h
  · split at h
    · rename_i hk
      cases h; exact lv_ldc2 hx hb hown (hts _ (kL_at hk)) hd (hK _ _ _ _ _ _ _ hc H locs ls hz hh hl hS hL)
    · cases h
  -- loads
  · obtain ⟨x, hg, hP⟩ := ldI_s h
    cases hP; exact lv_iload_n hx hb hd rfl (hL.2.2 _ _ hg) (hK _ _ _ _ _ _ _ hc H locs ls hz hh hl hS hL)
  · obtain ⟨x, hg, hP⟩ := ldI_s h
    cases hP; exact lv_iload hx hb hd (hL.2.2 _ _ hg) (hK _ _ _ _ _ _ _ hc H locs ls hz hh hl hS hL)
  · obtain ⟨x, hg, hP⟩ := ldJ_s h
    cases hP; exact lv_lload_n hx hb hd rfl (hL.2.2 _ _ hg) (hK _ _ _ _ _ _ _ hc H locs ls hz hh hl hS hL)
  · obtain ⟨r, hg, hP⟩ := ldR_s h
    cases hP
    have hc := hK _ _ _ _ _ _ _ hc H locs ls hz hh hl hS hL
    cases r with
    | none => exact lv_aload_nN hx hb hd rfl (hL.2.2 _ _ hg) hc
    | some a => exact lv_aload_n hx hb hd rfl (hL.2.2 _ _ hg) hc
  · obtain ⟨r, hg, hP⟩ := ldR_s h
    cases hP
    have hc := hK _ _ _ _ _ _ _ hc H locs ls hz hh hl hS hL
    cases r with
    | none => exact lv_aloadN hx hb hd (hL.2.2 _ _ hg) hc
    | some a => exact lv_aload hx hb hd (hL.2.2 _ _ hg) hc
  -- stores
  · obtain ⟨x, T, rfl, hP⟩ := popI_s h
    cases hP
    obtain ⟨h1, h2, hc⟩ := hc
    exact lv_istore_n hx hb hd rfl hL.has h1 rfl (fun ls' hl' => hK _ _ _ _ _ _ _ hc H locs ls' hz hh hl hS (LOK.set1 hl' h2))
  · obtain ⟨x, T, rfl, hP⟩ := popI_s h
    cases hP
    obtain ⟨h1, h2, hc⟩ := hc
    exact lv_istore hx hb hd hL.has h1 rfl (fun ls' hl' => hK _ _ _ _ _ _ _ hc H locs ls' hz hh hl hS (LOK.set1 hl' h2))
  · obtain ⟨r, T, rfl, hP⟩ := popR_s h
    cases hP
    obtain ⟨h1, h2, hc⟩ := hc
    cases r with
    | none => exact lv_astore_nN hx hb hd rfl hL.has h1 rfl (fun ls' hl' => hK _ _ _ _ _ _ _ hc H locs ls' hz hh hl hS (LOK.set1 hl' h2))
    | some a => exact lv_astore_n hx hb hd rfl hL.has h1 rfl (fun ls' hl' => hK _ _ _ _ _ _ _ hc H locs ls' hz hh hl hS (LOK.set1 hl' h2))
  · obtain ⟨r, T, rfl, hP⟩ := popR_s h
    cases hP
    obtain ⟨h1, h2, hc⟩ := hc
    cases r with
    | none => exact lv_astoreN hx hb hd hL.has h1 rfl (fun ls' hl' => hK _ _ _ _ _ _ _ hc H locs ls' hz hh hl hS (LOK.set1 hl' h2))
    | some a => exact lv_astore hx hb hd hL.has h1 rfl (fun ls' hl' => hK _ _ _ _ _ _ _ hc H locs ls' hz hh hl hS (LOK.set1 hl' h2))
  · obtain ⟨x, T, rfl, hP⟩ := popJ_s h
    cases hP
    obtain ⟨h1, h2, hc⟩ := hc
    exact lv_lstore_n hx hb hd rfl hL.has h1 rfl (fun ls' hl' => hK _ _ _ _ _ _ _ hc H locs ls' hz hh hl hS (LOK.set2 hl' h2))
  · obtain ⟨x, hg, hP⟩ := ldI_s h
    cases hP
    obtain ⟨h1, h2, hc⟩ := hc
    obtain ⟨q, hq⟩ := List.getElem?_of_mem (mem_lz.mpr hg)
    exact lv_iinc hx hb hd hL.has hq rfl h1 rfl (fun ls' hl' => hK _ _ _ _ _ _ _ hc H locs ls' hz hh hl hS (LOK.set1 hl' h2))
  -- arithmetic: iadd isub imul idiv iand ior ixor ineg ishl ishr iushr i2b i2c i2l lor lshl lcmp
  · obtain ⟨y, T, rfl, hP⟩ := popI_s h
    obtain ⟨x, T2, rfl, hQ⟩ := popI_s hP
    cases hQ; exact lv_iadd hx hb hd (hK _ _ _ _ _ _ _ hc H locs ls hz hh hl hS hL)
  · obtain ⟨y, T, rfl, hP⟩ := popI_s h
    obtain ⟨x, T2, rfl, hQ⟩ := popI_s hP
    cases hQ; exact lv_isub hx hb hd (hK _ _ _ _ _ _ _ hc H locs ls hz hh hl hS hL)
  · obtain ⟨y, T, rfl, hP⟩ := popI_s h
    obtain ⟨x, T2, rfl, hQ⟩ := popI_s hP
    cases hQ; exact lv_imul hx hb hd (hK _ _ _ _ _ _ _ hc H locs ls hz hh hl hS hL)
  · obtain ⟨y, T, rfl, hP⟩ := popI_s h
    obtain ⟨x, T2, rfl, hQ⟩ := popI_s hP
    cases hQ; exact lv_idiv hx hb hd hc.1 (hK _ _ _ _ _ _ _ hc.2 H locs ls hz hh hl hS hL)
  · obtain ⟨y, T, rfl, hP⟩ := popI_s h
    obtain ⟨x, T2, rfl, hQ⟩ := popI_s hP
    cases hQ; exact lv_iand hx hb hd (hK _ _ _ _ _ _ _ hc H locs ls hz hh hl hS hL)
  · obtain ⟨y, T, rfl, hP⟩ := popI_s h
    obtain ⟨x, T2, rfl, hQ⟩ := popI_s hP
    cases hQ; exact lv_ior hx hb hd (hK _ _ _ _ _ _ _ hc H locs ls hz hh hl hS hL)
  · obtain ⟨y, T, rfl, hP⟩ := popI_s h
    obtain ⟨x, T2, rfl, hQ⟩ := popI_s hP
    cases hQ; exact lv_ixor hx hb hd (hK _ _ _ _ _ _ _ hc H locs ls hz hh hl hS hL)
  · obtain ⟨x, T, rfl, hP⟩ := popI_s h
    cases hP; exact lv_ineg hx hb hd (hK _ _ _ _ _ _ _ hc H locs ls hz hh hl hS hL)
  · obtain ⟨y, T, rfl, hP⟩ := popI_s h
    obtain ⟨x, T2, rfl, hQ⟩ := popI_s hP
    cases hQ; exact lv_ishl hx hb hd (hK _ _ _ _ _ _ _ hc H locs ls hz hh hl hS hL)
  · obtain ⟨y, T, rfl, hP⟩ := popI_s h
    obtain ⟨x, T2, rfl, hQ⟩ := popI_s hP
    cases hQ; exact lv_ishr hx hb hd (hK _ _ _ _ _ _ _ hc H locs ls hz hh hl hS hL)
  · obtain ⟨y, T, rfl, hP⟩ := popI_s h
    obtain ⟨x, T2, rfl, hQ⟩ := popI_s hP
    cases hQ; exact lv_iushr hx hb hd rfl (hK _ _ _ _ _ _ _ hc H locs ls hz hh hl hS hL)
  · obtain ⟨x, T, rfl, hP⟩ := popI_s h
    cases hP; exact lv_i2b hx hb hd rfl (hK _ _ _ _ _ _ _ hc H locs ls hz hh hl hS hL)
  · obtain ⟨x, T, rfl, hP⟩ := popI_s h
    cases hP; exact lv_i2c hx hb hd rfl (hK _ _ _ _ _ _ _ hc H locs ls hz hh hl hS hL)
  · obtain ⟨x, T, rfl, hP⟩ := popI_s h
    cases hP; exact lv_i2l hx hb hd rfl (hK _ _ _ _ _ _ _ hc H locs ls hz hh hl hS hL)
  · obtain ⟨y, T, rfl, hP⟩ := popJ_s h
    obtain ⟨x, T2, rfl, hQ⟩ := popJ_s hP
    cases hQ; exact lv_lor hx hb hd (hK _ _ _ _ _ _ _ hc H locs ls hz hh hl hS hL)
  · obtain ⟨y, T, rfl, hP⟩ := popI_s h
    obtain ⟨x, T2, rfl, hQ⟩ := popJ_s hP
    cases hQ; exact lv_lshl hx hb hd rfl (hK _ _ _ _ _ _ _ hc H locs ls hz hh hl hS hL)
  · obtain ⟨y, T, rfl, hP⟩ := popJ_s h
    obtain ⟨x, T2, rfl, hQ⟩ := popJ_s hP
    cases hQ; exact W.lcmp hx hb hd (hK _ _ _ _ _ _ _ hc H locs ls hz hh hl hS hL)
  -- dup dup2 pop
  · split at h
    · cases h; exact lv_dup hx hb hd (cat_1 hc.1) (hK _ _ _ _ _ _ _ hc.2 H locs ls hz hh hl hS hL)
    · cases h
  · split at h
    · cases h; exact lv_dup2_11 hx hb hd (cat_1 hc.1) (cat_1 hc.2.1) (hK _ _ _ _ _ _ _ hc.2.2 H locs ls hz hh hl hS hL)
    · cases h
  · split at h
    · cases h; exact lv_pop hx hb hd (cat_1 hc.1) (hK _ _ _ _ _ _ _ hc.2 H locs ls hz hh hl hS hL)
    · cases h
  -- goto ifs
  · cases h; exact lv_goto hx hb hd (jto_ok hc.1) (hK _ _ _ _ _ _ _ hc.2 H locs ls hz hh hl hS hL)
  · rename_i cc off
    obtain ⟨x, T, rfl, hP⟩ := popI_s h
    cases hP
    have hj := jto_ok hc.1
    have hc := hK _ _ _ _ _ _ _ hc.2 H locs ls hz hh hl hS hL
    cases cc with
    | eq => exact lv_if_eq hx hb hd hj (fun q => by simpa [cIf, q] using hc) (fun q => by simpa [cIf, q] using hc)
    | ne => exact lv_if_ne hx hb hd hj (fun q => by simpa [cIf, q] using hc) (fun q => by simpa [cIf, q] using hc)
    | lt => exact lv_if_lt hx hb hd hj (fun q => by simpa only [cIf, q, decide_true, decide_false, if_true, Bool.false_eq_true, if_false] using hc) (fun q => by simpa only [cIf, q, decide_true, decide_false, if_true, Bool.false_eq_true, if_false] using hc)
    | ge => exact lv_if_ge hx hb hd hj (fun q => by simpa only [cIf, q, decide_true, decide_false, if_true, Bool.false_eq_true, if_false] using hc) (fun q => by simpa only [cIf, q, decide_true, decide_false, if_true, Bool.false_eq_true, if_false] using hc)
    | gt => exact lv_if_gt hx hb hd hj (fun q => by simpa only [cIf, q, decide_true, decide_false, if_true, Bool.false_eq_true, if_false] using hc) (fun q => by simpa only [cIf, q, decide_true, decide_false, if_true, Bool.false_eq_true, if_false] using hc)
    | le => exact lv_if_le hx hb hd hj (fun q => by simpa only [cIf, q, decide_true, decide_false, if_true, Bool.false_eq_true, if_false] using hc) (fun q => by simpa only [cIf, q, decide_true, decide_false, if_true, Bool.false_eq_true, if_false] using hc)
  · rename_i cc off
    obtain ⟨y, T, rfl, hP⟩ := popI_s h
    obtain ⟨x, T2, rfl, hQ⟩ := popI_s hP
    cases hQ
    have hj := jto_ok hc.1
    have hc := hK _ _ _ _ _ _ _ hc.2 H locs ls hz hh hl hS hL
    cases cc with
    | eq => exact lv_icmp_eq hx hb hd hj (fun q => by simpa only [cIf, q, decide_true, decide_false, if_true, Bool.false_eq_true, if_false] using hc) (fun q => by simpa only [cIf, q, decide_true, decide_false, if_true, Bool.false_eq_true, if_false] using hc)
    | ne => exact lv_icmp_ne hx hb hd hj (fun q => by simpa only [cIf, q, not_true, not_false_iff, decide_true, decide_false, if_true, Bool.false_eq_true, if_false] using hc) (fun q => by simpa only [cIf, q, not_true, not_false_iff, decide_true, decide_false, if_true, Bool.false_eq_true, if_false] using hc)
    | lt => exact lv_icmp_lt hx hb hd hj (fun q => by simpa only [cIf, q, decide_true, decide_false, if_true, Bool.false_eq_true, if_false] using hc) (fun q => by simpa only [cIf, q, decide_true, decide_false, if_true, Bool.false_eq_true, if_false] using hc)
    | ge => exact lv_icmp_ge hx hb hd hj (fun q => by simpa only [cIf, q, decide_true, decide_false, if_true, Bool.false_eq_true, if_false] using hc) (fun q => by simpa only [cIf, q, decide_true, decide_false, if_true, Bool.false_eq_true, if_false] using hc)
    | gt => exact lv_icmp_gt hx hb hd hj (fun q => by simpa only [cIf, q, decide_true, decide_false, if_true, Bool.false_eq_true, if_false] using hc) (fun q => by simpa only [cIf, q, decide_true, decide_false, if_true, Bool.false_eq_true, if_false] using hc)
    | le => exact lv_icmp_le hx hb hd hj (fun q => by simpa only [cIf, q, decide_true, decide_false, if_true, Bool.false_eq_true, if_false] using hc) (fun q => by simpa only [cIf, q, decide_true, decide_false, if_true, Bool.false_eq_true, if_false] using hc)
  · obtain ⟨r, T, rfl, hP⟩ := popR_s h
    cases hP
    have hj := jto_ok hc.1
    have hc := hK _ _ _ _ _ _ _ hc.2 H locs ls hz hh hl hS hL
    cases r with
    | none => exact lv_ifnullN hx hb hd hj hc
    | some a => exact lv_ifnull hx hb hd hc
  · obtain ⟨r, T, rfl, hP⟩ := popR_s h
    cases hP
    have hj := jto_ok hc.1
    have hc := hK _ _ _ _ _ _ _ hc.2 H locs ls hz hh hl hS hL
    cases r with
    | none => exact lv_ifnonnullN hx hb hd hc
    | some a => exact lv_ifnonnull hx hb hd hj hc
  · obtain ⟨y, T, rfl, hP⟩ := popR_s h
    obtain ⟨x, T2, rfl, hQ⟩ := popR_s hP
    cases hQ
    have hj := jto_ok hc.1
    have hc := hK _ _ _ _ _ _ _ hc.2 H locs ls hz hh hl hS hL
    exact lv_acmp_eq hx hb hd hj (fun q => by rw [if_pos q] at hc; exact hc) (fun q => by rw [if_neg q] at hc; exact hc)
  · obtain ⟨y, T, rfl, hP⟩ := popR_s h
    obtain ⟨x, T2, rfl, hQ⟩ := popR_s hP
    cases hQ
    have hj := jto_ok hc.1
    have hc := hK _ _ _ _ _ _ _ hc.2 H locs ls hz hh hl hS hL
    exact lv_acmp_ne hx hb hd hj (fun q => by rw [if_neg q] at hc; exact hc) (fun q => by rw [if_pos q] at hc; exact hc)
  · rename_i dflt lo hi offs len
    obtain ⟨x, T, rfl, hP⟩ := popI_s h
    cases hP
    obtain ⟨h1, h2, hc⟩ := hc
    have hj := jto_ok h2
    have hc := hK _ _ _ _ _ _ _ hc H locs ls hz hh hl hS hL
    by_cases hq : x.toInt < lo ∨ hi < x.toInt
    · simp only [tsw, if_pos hq] at hj hc
      exact lv_tableOut hx hb hd hq hj hc
    · simp only [tsw, if_neg hq] at hj hc
      rcases h1 with h1 | h1 | h1
      · exact absurd (Or.inl h1) hq
      · exact absurd (Or.inr h1) hq
      · obtain ⟨off, ho⟩ := Option.isSome_iff_exists.mp h1
        rw [ho] at hj hc
        exact lv_tableIn hx hb hd (fun q => hq (Or.inl q)) (fun q => hq (Or.inr q)) ho hj hc
  -- getfield
  · split at h
    · rename_i ci k hf
      obtain ⟨a, T, rfl, hP⟩ := popA_s h
      by_cases hci : ci < 9
      · rw [if_pos hci] at hP
        split at hP
        · rename_i hk
          cases hP
          exact g_get X hd hf hci hk hc.1 hh (hK _ _ _ _ _ _ _ hc.2 H locs ls hz hh hl hS hL)
        · cases hP
      · rw [if_neg hci] at hP
        split at hP
        · rename_i hci
          subst hci
          split at hP
          · rename_i hk
            subst hk
            cases hP
            obtain ⟨i, i1, rfl, i3, i4⟩ := hl.2.1 a hc.1
            have hc := hK _ _ _ _ _ _ _ hc.2 H locs ls hz hh hl hS hL
            rw [i3] at hc
            exact vk_getf hx hb (hfz.1.1 i i1).2.2.1 hS hown (hts _ (fr_str hf)) (fun _ q => q) hd hc
          · split at hP
            · rename_i hk
              subst hk
              cases hP
              obtain ⟨i, i1, rfl, i3, i4⟩ := hl.2.1 a hc.1
              have hc := hK _ _ _ _ _ _ _ hc.2 H locs ls hz hh hl hS hL
              rw [i4] at hc
              exact vk_getf hx hb (hfz.1.1 i i1).2.1 hS hown (hts _ (fr_str hf)) (fun _ q => q) hd hc
            · cases hP
        · cases hP
    · cases h
  -- getstatic
  · split at h
    · rename_i hf
      cases h
      exact va_gets hx hb hfz.2.1 hS hown (hts _ (fr_sta hf)) (fun _ q => q) hd (hK _ _ _ _ _ _ _ hc H locs ls hz hh hl hS hL)
    · rename_i hf
      cases h
      have hc := hK _ _ _ _ _ _ _ hc H locs ls hz hh hl hS hL
      rw [hl.2.2.2.2] at hc
      exact va_gets hx hb hfz.2.2.1 hS hown (hts _ (fr_sta hf)) (fun _ q => q) hd hc
    · cases h
  -- putfield
  · split at h
    · rename_i ci k hf
      split at h
      · rename_i hck
        obtain ⟨hci, hk, hfn⟩ := hck
        split at h
        · rename_i hr
          obtain ⟨r, T, rfl, hP⟩ := popR_s h
          obtain ⟨a, T2, rfl, hQ⟩ := popA_s hP
          cases hQ
          obtain ⟨ha, hc⟩ := hc
          refine g_put X hd hf hci hk hfn ha (nar_ref hr r).1 (nar_ref hr r).2 hh hS fun H' locs' o1 o2 o3 o4 => hK _ _ _ _ _ _ _ hc H' locs' ls (o2.trans hz) (hh.upd (a := a) (fun _ => rfl) (fun _ => rfl) (fun _ _ _ _ => rfl) (fun b hb _ _ => ?_) (fun _ _ _ => rfl) (fun _ _ _ => rfl) o3 ⟨fun q => ⟨((hh a).1 q).1, ?_⟩, fun q => absurd q (by omega)⟩) (hl.upd (a := a) (by omega) (fun _ => rfl) (fun _ => rfl) (fun _ _ _ _ => rfl) (fun b c2 _ hc2 => ?_) (fun _ _ _ => rfl)) o4 hL
          · simp only [memS, hb, and_false, if_false]
          · rw [ha]
            refine o1.to fun k' hk' => ?_
            by_cases hkk : k' = k
            · subst hkk
              simp only [updV, fv, hr, if_true, memS, and_self]
            · simp only [updV, fv, hkk, memS, and_false, false_and, if_false]
          · simp only [memS, show ¬ c2 = ci by omega, false_and, if_false]
        · rename_i hr
          obtain ⟨v, T3, rfl, hR⟩ := popI_s h
          obtain ⟨a, T4, rfl, hS⟩ := popA_s hR
          cases hS
          obtain ⟨ha, hfo, hc⟩ := hc
          refine g_put X hd hf hci hk hfn ha hfo.1 hfo.2 hh hS fun H' locs' o1 o2 o3 o4 => hK _ _ _ _ _ _ _ hc H' locs' ls (o2.trans hz) (hh.upd (a := a) (fun _ => rfl) (fun _ => rfl) (fun b hb _ _ => ?_) (fun _ _ _ _ => rfl) (fun _ _ _ => rfl) (fun _ _ _ => rfl) o3 ⟨fun q => ⟨((hh a).1 q).1, ?_⟩, fun q => absurd q (by omega)⟩) (hl.upd (a := a) (by omega) (fun _ => rfl) (fun _ => rfl) (fun b c2 _ hc2 => ?_) (fun _ _ _ _ => rfl) (fun _ _ _ => rfl)) o4 hL
          · simp only [memS, hb, and_false, if_false]
          · rw [ha]
            refine o1.to fun k' hk' => ?_
            by_cases hkk : k' = k
            · subst hkk
              simp only [updV, fv, hr, if_true, memS, and_self]
              rfl
            · simp only [updV, fv, hkk, memS, and_false, false_and, if_false]
          · simp only [memS, show ¬ c2 = ci by omega, false_and, if_false]
      · cases h
    · cases h
  -- arrays: iaload baload aaload iastore bastore aastore arraylength
  · obtain ⟨i, T, rfl, hP⟩ := popI_s h
    obtain ⟨a, T2, rfl, hQ⟩ := popA_s hP
    cases hQ
    obtain ⟨ha, hin, hc⟩ := hc
    have hc := hK _ _ _ _ _ _ _ hc H locs ls hz hh hl hS hL
    rcases ha with ha | ha
    · exact g_iald X hd ha hin hh hc
    · obtain ⟨q1, q2, q3⟩ := hl.1 a ha
      subst q1
      rw [q2] at hin
      rw [q3] at hc
      exact va_sld hx hb hfz.2.2.2.1 hfz.2.2.2.2.2 (Nat.not_le.mpr hfz.2.2.2.2.1) hS hin hd hc
  · obtain ⟨i, T, rfl, hP⟩ := popI_s h
    obtain ⟨a, T2, rfl, hQ⟩ := popA_s hP
    cases hQ
    obtain ⟨ha, hin, hc⟩ := hc
    have hc := hK _ _ _ _ _ _ _ hc H locs ls hz hh hl hS hL
    rcases ha with ha | ha | ha
    · exact g_bald X hd (Or.inl ha) hin hh hc
    · exact g_bald X hd (Or.inr ha) hin hh hc
    · obtain ⟨q, q0, rfl, q2, q3⟩ := hl.2.2.1 a ha
      rw [q2] at hin
      exact va_tb hx hb (hfz.1.1 q q0).2.2.2 hS hin (by rw [q3]) hd hc
  · obtain ⟨i, T, rfl, hP⟩ := popI_s h
    obtain ⟨a, T2, rfl, hQ⟩ := popA_s hP
    cases hQ
    exact g_aald X hd hc.1 hc.2.1 hh (hK _ _ _ _ _ _ _ hc.2.2 H locs ls hz hh hl hS hL)
  · obtain ⟨x, T, rfl, hP⟩ := popI_s h
    obtain ⟨i, T2, rfl, hQ⟩ := popI_s hP
    obtain ⟨a, T3, rfl, hR⟩ := popA_s hQ
    cases hR
    obtain ⟨ha, hin, hc⟩ := hc
    refine g_iast X hd ha hin hh hS fun H' locs' o1 o2 o4 => hK _ _ _ _ _ _ _ hc H' locs' ls (o2.trans hz) o1 (hl.upd (a := a) (by omega) (fun _ => rfl) (fun _ => rfl) (fun _ _ _ _ => rfl) (fun _ _ _ _ => rfl) (fun b hb _ => ?_)) o4 hL
    simp only [memS, hb, false_and, if_false]
  · obtain ⟨x, T, rfl, hP⟩ := popI_s h
    obtain ⟨i, T2, rfl, hQ⟩ := popI_s hP
    obtain ⟨a, T3, rfl, hR⟩ := popA_s hQ
    cases hR
    obtain ⟨ha, hin, hc⟩ := hc
    refine g_bast X hd ha hin hh hS fun H' locs' o1 o2 o4 => hK _ _ _ _ _ _ _ hc H' locs' ls (o2.trans hz) o1 (hl.upd (a := a) (by omega) (fun _ => rfl) (fun _ => rfl) (fun _ _ _ _ => rfl) (fun _ _ _ _ => rfl) (fun b hb _ => ?_)) o4 hL
    simp only [memS, hb, false_and, if_false]
  · obtain ⟨r, T, rfl, hP⟩ := popR_s h
    obtain ⟨i, T2, rfl, hQ⟩ := popI_s hP
    obtain ⟨a, T3, rfl, hR⟩ := popA_s hQ
    cases hR
    obtain ⟨ha, hin, hc⟩ := hc
    exact g_aast X hd ha hin hh hS fun H' locs' o1 o2 o4 => hK _ _ _ _ _ _ _ hc H' locs' ls (o2.trans hz) o1 (hl.upd (a := a) (by omega) (fun _ => rfl) (fun _ => rfl) (fun _ _ _ _ => rfl) (fun _ _ _ _ => rfl) (fun _ _ _ => rfl)) o4 hL
  · obtain ⟨a, T, rfl, hP⟩ := popA_s h
    cases hP
    obtain ⟨ha, hc⟩ := hc
    have hc := hK _ _ _ _ _ _ _ hc H locs ls hz hh hl hS hL
    rcases (show mK G a ≤ 24 ∨ mK G a = 25 ∨ mK G a = 26 by omega) with q | q | q
    · exact g_alen X hd ⟨ha.1, q⟩ hh hc
    · obtain ⟨q1, q2, q3⟩ := hl.1 a q
      subst q1
      rw [q2] at hc
      exact va_slen hx hb hfz.2.2.2.1 hfz.2.2.2.2.2 (Nat.not_le.mpr hfz.2.2.2.2.1) hS hd hc
    · obtain ⟨i, i1, rfl, i3, i4⟩ := hl.2.2.1 a q
      rw [i3] at hc
      exact va_tlen hx hb (hfz.1.1 i i1).2.2.2 hS rfl hd hc
  -- newarray anewarray new
  · rename_i at_
    split at h
    · rename_i kd hkd
      obtain ⟨n, T, rfl, hP⟩ := popI_s h
      cases hP
      obtain ⟨h1, h2, h3, h4, hc⟩ := hc
      have hz0 : ¬ H.size = 0 := by have := hfz.2.2.2.2.1; have := hS.1; omega
      have fin : ∀ (ty : FieldType) (kd : Nat), 20 ≤ kd → kd < 23 → newarray.typeOf at_ = ty → defaultValue ty = .int 0 → Cond.arrayClass ty ∈ lwG → componentBytes ty ≤ 8 → va_RA s (fcy E kd) ty → (∀ nm, ty ≠ .object nm) → K (pc + 2) L (.ref z :: T) (nA G z kd n.toNatClampNeg) (z + 1) (cl + 1) (sl + n.toNatClampNeg) → W p l e R s m args below meth c H locs cl sl Q (F0 m pc ls (.int n :: T)) := by
        intro ty kd k1 k2 hty hdf hw hby hra hno hc
        subst hz
        refine va_newaK hx hb (by rw [hty]; exact hts _ hw) rfl hd rfl h1 rfl (by rw [hty]; exact Nat.le_trans (Nat.mul_le_mul h2 hby) (by decide)) (Nat.le_trans h3 hRc) (Nat.le_trans h4 hRs) rfl fun H' cA e1 z1 o1 har hfc => ?_
        have hcA : cA = fcy E kd := by
          rw [hty] at hfc
          unfold va_RA at hra
          split at hra
          · exact absurd rfl (hno _)
          · exact Option.some.inj (hfc.symm.trans hra)
        rw [hty, hdf] at e1
        refine hK _ _ _ _ _ _ _ hc H' locs ls z1 (g_newA X ⟨k1, by omega⟩ hcA hh hS (by rw [if_pos k2]; exact e1) o1) (hl.new (a := H.size) hz0 (by simp only [memS, if_true]; omega) (fun b hb => ?_) (fun b hb => ?_) (fun _ _ _ _ => rfl) (fun _ _ _ _ => rfl) (fun b hb _ => ?_) (fun q => ⟨q, rfl, rfl⟩)) (hS.grow z1 o1) hL <;> simp only [memS, hb, if_false]
      obtain ⟨q0, q1, q2, -, -⟩ := k_ar X
      cases at_ <;> simp only [akP] at hkd <;> cases hkd
      · exact fin .boolean 22 (by omega) (by omega) rfl rfl arr_ok.2.2 (by decide) q2.2 (fun _ q => by cases q) hc
      · exact fin .byte 21 (by omega) (by omega) rfl rfl arr_ok.2.1 (by decide) q1.2 (fun _ q => by cases q) hc
      · exact fin .int 20 (by omega) (by omega) rfl rfl arr_ok.1 (by decide) q0.2 (fun _ q => by cases q) hc
    · cases h
  · split at h
    · rename_i ci hci
      split at h
      · rename_i kd hkd
        obtain ⟨n, T, rfl, hP⟩ := popI_s h
        cases hP
        obtain ⟨h1, h2, h3, h4, hc⟩ := hc
        have hz0 : ¬ H.size = 0 := by have := hfz.2.2.2.2.1; have := hS.1; omega
        have fin : ∀ (C : String) (kd : Nat), 23 ≤ kd → kd ≤ 24 → ownN ci = C → va_AO C s → va_RA s (fcy E kd) (.object C) → K (pc + 3) L (.ref z :: T) (nA G z kd n.toNatClampNeg) (z + 1) (cl + 1) (sl + n.toNatClampNeg) → W p l e R s m args below meth c H locs cl sl Q (F0 m pc ls (.int n :: T)) := by
          intro C kd k1 k2 hC hao hra hc
          subst hz
          refine W.anew hx hb hown (hts _ (cr_at hci).1) (by rw [hC]; exact va_AO.use hao) rfl hd rfl h1 (Nat.le_trans (Nat.mul_le_mul_right 4 h2) (by decide)) (Nat.le_trans h3 hRc) (Nat.le_trans h4 hRs) fun cA kA comp f1 f2 f3 f4 => ?_
          generalize hH1 : H.push ({ cls := cA, slots := Array.replicate n.toNatClampNeg .null, vm := .none } : Cell) = H1
          have z1 : H1.size = H.size + 1 := by rw [← hH1, Array.size_push]
          have e1 : H1[H.size]? = some (arrV cA n.toNatClampNeg (fun _ => .null)) := by rw [← hH1, Array.getElem?_push_size, ← arrV_new]
          have o1 : ∀ q : Nat, q < H.size → H1[q]? = H[q]? := fun q hq => by rw [← hH1, Array.getElem?_push, if_neg (Nat.ne_of_lt hq)]
          have hcA : cA = fcy E kd := by
            rw [hC] at f1
            obtain ⟨_, _, -, -, -, r4⟩ := hra
            exact Option.some.inj (f1.symm.trans r4)
          refine hK _ _ _ _ _ _ _ hc H1 locs ls z1 (g_newA X ⟨by omega, k2⟩ hcA hh hS (by rw [if_neg (by omega)]; exact e1) o1) (hl.new (a := H.size) hz0 (by simp only [memS, if_true]; omega) (fun b hb => ?_) (fun b hb => ?_) (fun _ _ _ _ => rfl) (fun _ _ _ _ => rfl) (fun b hb _ => ?_) (fun q => ⟨q, rfl, rfl⟩)) (hS.grow z1 o1) hL <;> simp only [memS, hb, if_false]
        obtain ⟨-, -, -, q3, q4⟩ := k_ar X
        unfold akO at hkd
        split at hkd
        · cases hkd
          exact fin RX4 23 (by omega) (by omega) rfl hkn.2.1 q3.2 hc
        · cases hkd
          exact fin RX6 24 (by omega) (by omega) rfl hkn.2.2.1 q4.2 hc
        · cases hkd
      · cases h
    · cases h
  · split at h
    · rename_i ci hci
      split at h
      · cases h
        obtain ⟨h3, h4, hc⟩ := hc
        subst hz
        have hz0 : ¬ H.size = 0 := by have := hfz.2.2.2.2.1; have := hS.1; omega
        refine g_new X hd hci hh hS (Nat.le_trans h3 hRc) (Nat.le_trans h4 hRs) fun H' o1 z1 o4 => hK _ _ _ _ _ _ _ hc H' locs ls z1 o1 (hl.new (a := H.size) hz0 (by simp only [memS, if_true]; omega) (fun b hb => ?_) (fun _ _ => rfl) (fun b hb _ _ => ?_) (fun b hb _ _ => ?_) (fun _ _ _ => rfl) (fun q => by simp only [memS, if_true] at q; exact absurd q (by decide))) o4 hL <;> simp only [memS, hb, if_false]
      · cases h
    · cases h
  · cases h
end Snd
