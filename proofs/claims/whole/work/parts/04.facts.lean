/-! what the tables say, by their places in lw_tbl -/
def lwG : List Cond := lw_tbl.filter goodWord
theorem lwG_at (p : Nat) {w : Cond} (h : lw_tbl[p]? = some w) (hg : goodWord w = true) : w ∈ lwG := List.mem_filter.mpr ⟨List.mem_of_getElem? h, hg⟩
def frW (e : Nat × Nat × Nat × Nat × Nat) : Cond := match e with
  | (o, i, ci, k, _) => if ci < 9 then .fieldLink (ownN o) i (cT ci k).1 (cT ci k).2.1 (cT ci k).2.2.1
    else if ci = 30 then (if k = 0 then .fieldLink (ownN o) i "java/lang/String" "value" "[B" else .fieldLink (ownN o) i "java/lang/String" "coder" "B")
    else (if k = 0 then .fieldLink (ownN o) i "java/lang/String" "COMPACT_STRINGS" "Z" else .fieldLink (ownN o) i "jdk/internal/util/Preconditions" "SIOOBE_FORMATTER" "Ljava/util/function/BiFunction;")
set_option maxRecDepth 100000 in
theorem frL_ok : (frL.all fun e => decide (lw_tbl[e.2.2.2.2]? = some (frW e))) = true := by decide +kernel
def mrC (e : Nat × Nat × Nat × Nat × Nat × Nat × Nat × Nat) : Bool := match e with
  | (o, i, 0, j, p1, p2, p3, p4) => decide (j < 137) && decide (lw_tbl[p1]? = some (.methodLink (ownN o) i (my j))) && decide (lw_tbl[p2]? = some (.instanceMethod (my j))) && decide (lw_tbl[p3]? = some (.initialized (my j).cls)) && decide (lw_tbl[p4]? = some (.selects (my j).cls (my j) (my j)))
  | (o, i, 1, j, p1, p2, p3, _) => decide (j < 137) && decide (lw_tbl[p1]? = some (.methodLink (ownN o) i (my j))) && decide (lw_tbl[p2]? = some (.static (my j))) && decide (lw_tbl[p3]? = some (.initialized (my j).cls))
  | (o, i, 2, j, p1, p2, p3, _) => decide (j < 137) && decide (lw_tbl[p1]? = some (.methodLink (ownN o) i (my j))) && decide (lw_tbl[p2]? = some (.instanceMethod (my j))) && decide (lw_tbl[p3]? = some (.initialized (my j).cls)) && decide ((my j).name = "<init>") && decide (mrt j = none)
  | (o, i, 3, j, p1, p2, p3, _) => decide (j < 137) && decide (lw_tbl[p1]? = some (.methodLinkNest (ownN o) i (my j) "VarietyCircuit")) && decide (lw_tbl[p2]? = some (.static (my j))) && decide (lw_tbl[p3]? = some (.initialized (my j).cls))
  | (o, i, 4, _, p1, _, _, _) => decide (lw_tbl[p1]? = some (.methodLink (ownN o) i Lib.objectInit))
  | (o, i, 5, _, p1, _, _, _) => decide (lw_tbl[p1]? = some (.methodLink (ownN o) i Lib.Math.min.name))
  | (o, i, 6, _, p1, _, _, _) => decide (lw_tbl[p1]? = some (.methodLink (ownN o) i Lib.Math.abs.name))
  | _ => false
set_option maxRecDepth 100000 in
theorem mrL_ok : mrL.all mrC = true := by decide +kernel
def nmC (j : Nat) : Bool := plainName (my j).cls && decide ((my j).cls ≠ "java/lang/invoke/MethodHandle") && decide ((my j).cls ≠ "java/lang/invoke/VarHandle") && decide ((parseMethodDescriptor (my j).desc).map (fun d => d.parameters.length) = some (npq j)) && decide ((my j).cls = ownN (ow j)) && decide (mxL j ≤ 17) && (!isIni j || decide ((my j).name = "<init>")) && decide (mcq j ≤ 1000) && decide (msq j ≤ 100000)
set_option maxRecDepth 100000 in
theorem nm_ok : (List.range 137).all nmC = true := by decide +kernel
set_option maxRecDepth 100000 in
theorem lays_ok : ((List.range 9).all fun ci => (u_ws (ownN ci) (cT ci) (nF ci)).all fun w => decide (w ∈ lw_tbl) && goodWord w) = true := by decide +kernel
theorem tyC_ok : ((List.range 9).all fun ci => (List.range (nF ci)).all fun k => decide (parseFieldDescriptor (cT ci k).2.2.1 = some (tyC ci k)) && decide ((cT ci k).1 = ownN ci) && decide (defaultValue (tyC ci k) = if isR ci k = true then .null else .int 0)) = true := by decide +kernel
theorem nmD_ok : ((List.range 9).all fun ci => (List.range (nF ci)).all fun a => (List.range (nF ci)).all fun b => decide (a ≠ b → (cT ci a).2.1 ≠ (cT ci b).2.1)) = true := by decide +kernel
theorem vwCl_at : ∀ ci, ci < 9 → vwCl[ci]? = some (ownN ci, cT ci, nF ci) := by
  intro ci h
  match ci, h with
  | 0, _ => rfl
  | 1, _ => rfl
  | 2, _ => rfl
  | 3, _ => rfl
  | 4, _ => rfl
  | 5, _ => rfl
  | 6, _ => rfl
  | 7, _ => rfl
  | 8, _ => rfl
  | k + 9, h => omega
set_option maxRecDepth 100000 in
theorem ins_ok : ((List.range 9).all fun ci => decide (lw_tbl[((insP[ci]?).getD (0, 0)).1]? = some (.instantiable (ownN ci) (nF ci))) && decide (lw_tbl[((insP[ci]?).getD (0, 0)).2]? = some (.initialized (ownN ci)))) = true := by decide +kernel
set_option maxRecDepth 100000 in
theorem crL_ok : (crL.all fun e => decide (lw_tbl[e.2.2.2]? = some (.classLink (ownN e.1) e.2.1 (ownN e.2.2.1))) && decide (e.2.2.1 < 9)) = true := by decide +kernel
set_option maxRecDepth 100000 in
theorem kIL_ok : (kIL.all fun e => decide (lw_tbl[e.2.2.2]? = some (.constant (ownN e.1) e.2.1 e.2.2.1))) = true := by decide +kernel
set_option maxRecDepth 100000 in
theorem kLL_ok : (kLL.all fun e => decide (lw_tbl[e.2.2.2]? = some (.constantLong (ownN e.1) e.2.1 e.2.2.1))) = true := by decide +kernel
theorem kSL_ok : (kSL.all fun e => decide (e.1 = 3) && decide (e.2.2.1 < 10) && decide (sIx[e.2.2.1]? = some e.2.1)) = true := by decide +kernel
set_option maxRecDepth 100000 in
theorem obj_ok : Cond.instanceMethod Lib.objectInit ∈ lwG ∧ Cond.code Lib.objectInit ⟨#[0xb1]⟩ 1 none ∈ lwG := ⟨lwG_at 73 (by decide +kernel) rfl, lwG_at 74 rfl rfl⟩
set_option maxRecDepth 100000 in
theorem arr_ok : (Cond.arrayClass .int) ∈ lwG ∧ (Cond.arrayClass .byte) ∈ lwG ∧ (Cond.arrayClass .boolean) ∈ lwG := ⟨lwG_at 126 (by decide +kernel) rfl, lwG_at 95 (by decide +kernel) rfl, lwG_at 125 (by decide +kernel) rfl⟩
set_option maxRecDepth 100000 in
theorem math_ok : (Cond.static Lib.Math.min.name ∈ lwG ∧ Cond.code Lib.Math.min.name Lib.Math.min.code 2 (some .int) ∈ lwG) ∧ (Cond.static Lib.Math.abs.name ∈ lwG ∧ Cond.code Lib.Math.abs.name Lib.Math.abs.code 1 (some .int) ∈ lwG) ∧ Cond.initialized "java/lang/Math" ∈ lwG :=
  ⟨⟨lwG_at 280 (by decide +kernel) rfl, lwG_at 281 rfl rfl⟩, ⟨lwG_at 496 (by decide +kernel) rfl, lwG_at 497 rfl rfl⟩, lwG_at 59 (by decide +kernel) rfl⟩
set_option maxRecDepth 20000 in
theorem code_0 : Cond.code (my 0) (cd 0) (mxL 0) (mrt 0) ∈ lwG := lwG_at 100 rfl rfl
set_option maxRecDepth 20000 in
theorem code_1 : Cond.code (my 1) (cd 1) (mxL 1) (mrt 1) ∈ lwG := lwG_at 668 rfl rfl
set_option maxRecDepth 20000 in
theorem code_2 : Cond.code (my 2) (cd 2) (mxL 2) (mrt 2) ∈ lwG := lwG_at 617 rfl rfl
set_option maxRecDepth 20000 in
theorem code_3 : Cond.code (my 3) (cd 3) (mxL 3) (mrt 3) ∈ lwG := lwG_at 622 rfl rfl
set_option maxRecDepth 20000 in
theorem code_4 : Cond.code (my 4) (cd 4) (mxL 4) (mrt 4) ∈ lwG := lwG_at 630 rfl rfl
set_option maxRecDepth 20000 in
theorem code_5 : Cond.code (my 5) (cd 5) (mxL 5) (mrt 5) ∈ lwG := lwG_at 643 rfl rfl
set_option maxRecDepth 20000 in
theorem code_6 : Cond.code (my 6) (cd 6) (mxL 6) (mrt 6) ∈ lwG := lwG_at 647 rfl rfl
set_option maxRecDepth 20000 in
theorem code_7 : Cond.code (my 7) (cd 7) (mxL 7) (mrt 7) ∈ lwG := lwG_at 651 rfl rfl
set_option maxRecDepth 20000 in
theorem code_8 : Cond.code (my 8) (cd 8) (mxL 8) (mrt 8) ∈ lwG := lwG_at 655 rfl rfl
set_option maxRecDepth 20000 in
theorem code_9 : Cond.code (my 9) (cd 9) (mxL 9) (mrt 9) ∈ lwG := lwG_at 659 rfl rfl
set_option maxRecDepth 20000 in
theorem code_10 : Cond.code (my 10) (cd 10) (mxL 10) (mrt 10) ∈ lwG := lwG_at 664 rfl rfl
set_option maxRecDepth 20000 in
theorem code_11 : Cond.code (my 11) (cd 11) (mxL 11) (mrt 11) ∈ lwG := lwG_at 639 rfl rfl
set_option maxRecDepth 20000 in
theorem code_12 : Cond.code (my 12) (cd 12) (mxL 12) (mrt 12) ∈ lwG := lwG_at 83 rfl rfl
set_option maxRecDepth 20000 in
theorem code_13 : Cond.code (my 13) (cd 13) (mxL 13) (mrt 13) ∈ lwG := lwG_at 529 rfl rfl
set_option maxRecDepth 20000 in
theorem code_14 : Cond.code (my 14) (cd 14) (mxL 14) (mrt 14) ∈ lwG := lwG_at 537 rfl rfl
set_option maxRecDepth 20000 in
theorem code_15 : Cond.code (my 15) (cd 15) (mxL 15) (mrt 15) ∈ lwG := lwG_at 605 rfl rfl
set_option maxRecDepth 20000 in
theorem code_16 : Cond.code (my 16) (cd 16) (mxL 16) (mrt 16) ∈ lwG := lwG_at 556 rfl rfl
set_option maxRecDepth 20000 in
theorem code_17 : Cond.code (my 17) (cd 17) (mxL 17) (mrt 17) ∈ lwG := lwG_at 593 rfl rfl
set_option maxRecDepth 20000 in
theorem code_18 : Cond.code (my 18) (cd 18) (mxL 18) (mrt 18) ∈ lwG := lwG_at 601 rfl rfl
set_option maxRecDepth 20000 in
theorem code_19 : Cond.code (my 19) (cd 19) (mxL 19) (mrt 19) ∈ lwG := lwG_at 588 rfl rfl
set_option maxRecDepth 20000 in
theorem code_20 : Cond.code (my 20) (cd 20) (mxL 20) (mrt 20) ∈ lwG := lwG_at 533 rfl rfl
set_option maxRecDepth 20000 in
theorem code_21 : Cond.code (my 21) (cd 21) (mxL 21) (mrt 21) ∈ lwG := lwG_at 542 rfl rfl
set_option maxRecDepth 20000 in
theorem code_22 : Cond.code (my 22) (cd 22) (mxL 22) (mrt 22) ∈ lwG := lwG_at 430 rfl rfl
set_option maxRecDepth 20000 in
theorem code_23 : Cond.code (my 23) (cd 23) (mxL 23) (mrt 23) ∈ lwG := lwG_at 597 rfl rfl
set_option maxRecDepth 20000 in
theorem code_24 : Cond.code (my 24) (cd 24) (mxL 24) (mrt 24) ∈ lwG := lwG_at 501 rfl rfl
set_option maxRecDepth 20000 in
theorem code_25 : Cond.code (my 25) (cd 25) (mxL 25) (mrt 25) ∈ lwG := lwG_at 547 rfl rfl
set_option maxRecDepth 20000 in
theorem code_26 : Cond.code (my 26) (cd 26) (mxL 26) (mrt 26) ∈ lwG := lwG_at 513 rfl rfl
set_option maxRecDepth 20000 in
theorem code_27 : Cond.code (my 27) (cd 27) (mxL 27) (mrt 27) ∈ lwG := lwG_at 505 rfl rfl
set_option maxRecDepth 20000 in
theorem code_28 : Cond.code (my 28) (cd 28) (mxL 28) (mrt 28) ∈ lwG := lwG_at 277 rfl rfl
set_option maxRecDepth 20000 in
theorem code_29 : Cond.code (my 29) (cd 29) (mxL 29) (mrt 29) ∈ lwG := lwG_at 303 rfl rfl
set_option maxRecDepth 20000 in
theorem code_30 : Cond.code (my 30) (cd 30) (mxL 30) (mrt 30) ∈ lwG := lwG_at 328 rfl rfl
set_option maxRecDepth 20000 in
theorem code_31 : Cond.code (my 31) (cd 31) (mxL 31) (mrt 31) ∈ lwG := lwG_at 332 rfl rfl
set_option maxRecDepth 20000 in
theorem code_32 : Cond.code (my 32) (cd 32) (mxL 32) (mrt 32) ∈ lwG := lwG_at 393 rfl rfl
set_option maxRecDepth 20000 in
theorem code_33 : Cond.code (my 33) (cd 33) (mxL 33) (mrt 33) ∈ lwG := lwG_at 400 rfl rfl
set_option maxRecDepth 20000 in
theorem code_34 : Cond.code (my 34) (cd 34) (mxL 34) (mrt 34) ∈ lwG := lwG_at 307 rfl rfl
set_option maxRecDepth 20000 in
theorem code_35 : Cond.code (my 35) (cd 35) (mxL 35) (mrt 35) ∈ lwG := lwG_at 337 rfl rfl
set_option maxRecDepth 20000 in
theorem code_36 : Cond.code (my 36) (cd 36) (mxL 36) (mrt 36) ∈ lwG := lwG_at 315 rfl rfl
set_option maxRecDepth 20000 in
theorem code_37 : Cond.code (my 37) (cd 37) (mxL 37) (mrt 37) ∈ lwG := lwG_at 311 rfl rfl
set_option maxRecDepth 20000 in
theorem code_38 : Cond.code (my 38) (cd 38) (mxL 38) (mrt 38) ∈ lwG := lwG_at 319 rfl rfl
set_option maxRecDepth 20000 in
theorem code_39 : Cond.code (my 39) (cd 39) (mxL 39) (mrt 39) ∈ lwG := lwG_at 324 rfl rfl
set_option maxRecDepth 20000 in
theorem code_40 : Cond.code (my 40) (cd 40) (mxL 40) (mrt 40) ∈ lwG := lwG_at 235 rfl rfl
set_option maxRecDepth 20000 in
theorem code_41 : Cond.code (my 41) (cd 41) (mxL 41) (mrt 41) ∈ lwG := lwG_at 494 rfl rfl
set_option maxRecDepth 20000 in
theorem code_42 : Cond.code (my 42) (cd 42) (mxL 42) (mrt 42) ∈ lwG := lwG_at 407 rfl rfl
set_option maxRecDepth 20000 in
theorem code_43 : Cond.code (my 43) (cd 43) (mxL 43) (mrt 43) ∈ lwG := lwG_at 178 rfl rfl
set_option maxRecDepth 20000 in
theorem code_44 : Cond.code (my 44) (cd 44) (mxL 44) (mrt 44) ∈ lwG := lwG_at 486 rfl rfl
set_option maxRecDepth 20000 in
theorem code_45 : Cond.code (my 45) (cd 45) (mxL 45) (mrt 45) ∈ lwG := lwG_at 568 rfl rfl
set_option maxRecDepth 20000 in
theorem code_46 : Cond.code (my 46) (cd 46) (mxL 46) (mrt 46) ∈ lwG := lwG_at 551 rfl rfl
set_option maxRecDepth 20000 in
theorem code_47 : Cond.code (my 47) (cd 47) (mxL 47) (mrt 47) ∈ lwG := lwG_at 466 rfl rfl
set_option maxRecDepth 20000 in
theorem code_48 : Cond.code (my 48) (cd 48) (mxL 48) (mrt 48) ∈ lwG := lwG_at 71 rfl rfl
set_option maxRecDepth 20000 in
theorem code_49 : Cond.code (my 49) (cd 49) (mxL 49) (mrt 49) ∈ lwG := lwG_at 167 rfl rfl
set_option maxRecDepth 20000 in
theorem code_50 : Cond.code (my 50) (cd 50) (mxL 50) (mrt 50) ∈ lwG := lwG_at 171 rfl rfl
set_option maxRecDepth 20000 in
theorem code_51 : Cond.code (my 51) (cd 51) (mxL 51) (mrt 51) ∈ lwG := lwG_at 231 rfl rfl
set_option maxRecDepth 20000 in
theorem code_52 : Cond.code (my 52) (cd 52) (mxL 52) (mrt 52) ∈ lwG := lwG_at 257 rfl rfl
set_option maxRecDepth 20000 in
theorem code_53 : Cond.code (my 53) (cd 53) (mxL 53) (mrt 53) ∈ lwG := lwG_at 265 rfl rfl
set_option maxRecDepth 20000 in
theorem code_54 : Cond.code (my 54) (cd 54) (mxL 54) (mrt 54) ∈ lwG := lwG_at 455 rfl rfl
set_option maxRecDepth 20000 in
theorem code_55 : Cond.code (my 55) (cd 55) (mxL 55) (mrt 55) ∈ lwG := lwG_at 459 rfl rfl
set_option maxRecDepth 20000 in
theorem code_56 : Cond.code (my 56) (cd 56) (mxL 56) (mrt 56) ∈ lwG := lwG_at 470 rfl rfl
set_option maxRecDepth 20000 in
theorem code_57 : Cond.code (my 57) (cd 57) (mxL 57) (mrt 57) ∈ lwG := lwG_at 560 rfl rfl
set_option maxRecDepth 20000 in
theorem code_58 : Cond.code (my 58) (cd 58) (mxL 58) (mrt 58) ∈ lwG := lwG_at 572 rfl rfl
set_option maxRecDepth 20000 in
theorem code_59 : Cond.code (my 59) (cd 59) (mxL 59) (mrt 59) ∈ lwG := lwG_at 580 rfl rfl
set_option maxRecDepth 20000 in
theorem code_60 : Cond.code (my 60) (cd 60) (mxL 60) (mrt 60) ∈ lwG := lwG_at 584 rfl rfl
set_option maxRecDepth 20000 in
theorem code_61 : Cond.code (my 61) (cd 61) (mxL 61) (mrt 61) ∈ lwG := lwG_at 609 rfl rfl
set_option maxRecDepth 20000 in
theorem code_62 : Cond.code (my 62) (cd 62) (mxL 62) (mrt 62) ∈ lwG := lwG_at 672 rfl rfl
set_option maxRecDepth 20000 in
theorem code_63 : Cond.code (my 63) (cd 63) (mxL 63) (mrt 63) ∈ lwG := lwG_at 676 rfl rfl
set_option maxRecDepth 20000 in
theorem code_64 : Cond.code (my 64) (cd 64) (mxL 64) (mrt 64) ∈ lwG := lwG_at 684 rfl rfl
set_option maxRecDepth 20000 in
theorem code_65 : Cond.code (my 65) (cd 65) (mxL 65) (mrt 65) ∈ lwG := lwG_at 688 rfl rfl
set_option maxRecDepth 20000 in
theorem code_66 : Cond.code (my 66) (cd 66) (mxL 66) (mrt 66) ∈ lwG := lwG_at 693 rfl rfl
set_option maxRecDepth 20000 in
theorem code_67 : Cond.code (my 67) (cd 67) (mxL 67) (mrt 67) ∈ lwG := lwG_at 697 rfl rfl
set_option maxRecDepth 20000 in
theorem code_68 : Cond.code (my 68) (cd 68) (mxL 68) (mrt 68) ∈ lwG := lwG_at 174 rfl rfl
set_option maxRecDepth 20000 in
theorem code_69 : Cond.code (my 69) (cd 69) (mxL 69) (mrt 69) ∈ lwG := lwG_at 272 rfl rfl
set_option maxRecDepth 20000 in
theorem code_70 : Cond.code (my 70) (cd 70) (mxL 70) (mrt 70) ∈ lwG := lwG_at 482 rfl rfl
set_option maxRecDepth 20000 in
theorem code_71 : Cond.code (my 71) (cd 71) (mxL 71) (mrt 71) ∈ lwG := lwG_at 269 rfl rfl
set_option maxRecDepth 20000 in
theorem code_72 : Cond.code (my 72) (cd 72) (mxL 72) (mrt 72) ∈ lwG := lwG_at 474 rfl rfl
set_option maxRecDepth 20000 in
theorem code_73 : Cond.code (my 73) (cd 73) (mxL 73) (mrt 73) ∈ lwG := lwG_at 261 rfl rfl
set_option maxRecDepth 20000 in
theorem code_74 : Cond.code (my 74) (cd 74) (mxL 74) (mrt 74) ∈ lwG := lwG_at 462 rfl rfl
set_option maxRecDepth 20000 in
theorem code_75 : Cond.code (my 75) (cd 75) (mxL 75) (mrt 75) ∈ lwG := lwG_at 525 rfl rfl
set_option maxRecDepth 20000 in
theorem code_76 : Cond.code (my 76) (cd 76) (mxL 76) (mrt 76) ∈ lwG := lwG_at 613 rfl rfl
set_option maxRecDepth 20000 in
theorem code_77 : Cond.code (my 77) (cd 77) (mxL 77) (mrt 77) ∈ lwG := lwG_at 564 rfl rfl
set_option maxRecDepth 20000 in
theorem code_78 : Cond.code (my 78) (cd 78) (mxL 78) (mrt 78) ∈ lwG := lwG_at 576 rfl rfl
set_option maxRecDepth 20000 in
theorem code_79 : Cond.code (my 79) (cd 79) (mxL 79) (mrt 79) ∈ lwG := lwG_at 680 rfl rfl
set_option maxRecDepth 20000 in
theorem code_80 : Cond.code (my 80) (cd 80) (mxL 80) (mrt 80) ∈ lwG := lwG_at 478 rfl rfl
set_option maxRecDepth 20000 in
theorem code_81 : Cond.code (my 81) (cd 81) (mxL 81) (mrt 81) ∈ lwG := lwG_at 521 rfl rfl
set_option maxRecDepth 20000 in
theorem code_82 : Cond.code (my 82) (cd 82) (mxL 82) (mrt 82) ∈ lwG := lwG_at 490 rfl rfl
set_option maxRecDepth 20000 in
theorem code_83 : Cond.code (my 83) (cd 83) (mxL 83) (mrt 83) ∈ lwG := lwG_at 508 rfl rfl
set_option maxRecDepth 20000 in
theorem code_84 : Cond.code (my 84) (cd 84) (mxL 84) (mrt 84) ∈ lwG := lwG_at 517 rfl rfl
set_option maxRecDepth 20000 in
theorem code_85 : Cond.code (my 85) (cd 85) (mxL 85) (mrt 85) ∈ lwG := lwG_at 702 rfl rfl
set_option maxRecDepth 20000 in
theorem code_86 : Cond.code (my 86) (cd 86) (mxL 86) (mrt 86) ∈ lwG := lwG_at 819 rfl rfl
set_option maxRecDepth 20000 in
theorem code_87 : Cond.code (my 87) (cd 87) (mxL 87) (mrt 87) ∈ lwG := lwG_at 843 rfl rfl
set_option maxRecDepth 20000 in
theorem code_88 : Cond.code (my 88) (cd 88) (mxL 88) (mrt 88) ∈ lwG := lwG_at 895 rfl rfl
set_option maxRecDepth 20000 in
theorem code_89 : Cond.code (my 89) (cd 89) (mxL 89) (mrt 89) ∈ lwG := lwG_at 846 rfl rfl
set_option maxRecDepth 20000 in
theorem code_90 : Cond.code (my 90) (cd 90) (mxL 90) (mrt 90) ∈ lwG := lwG_at 924 rfl rfl
set_option maxRecDepth 20000 in
theorem code_91 : Cond.code (my 91) (cd 91) (mxL 91) (mrt 91) ∈ lwG := lwG_at 816 rfl rfl
set_option maxRecDepth 20000 in
theorem code_92 : Cond.code (my 92) (cd 92) (mxL 92) (mrt 92) ∈ lwG := lwG_at 823 rfl rfl
set_option maxRecDepth 20000 in
theorem code_93 : Cond.code (my 93) (cd 93) (mxL 93) (mrt 93) ∈ lwG := lwG_at 827 rfl rfl
set_option maxRecDepth 20000 in
theorem code_94 : Cond.code (my 94) (cd 94) (mxL 94) (mrt 94) ∈ lwG := lwG_at 831 rfl rfl
set_option maxRecDepth 20000 in
theorem code_95 : Cond.code (my 95) (cd 95) (mxL 95) (mrt 95) ∈ lwG := lwG_at 835 rfl rfl
set_option maxRecDepth 20000 in
theorem code_96 : Cond.code (my 96) (cd 96) (mxL 96) (mrt 96) ∈ lwG := lwG_at 850 rfl rfl
set_option maxRecDepth 20000 in
theorem code_97 : Cond.code (my 97) (cd 97) (mxL 97) (mrt 97) ∈ lwG := lwG_at 863 rfl rfl
set_option maxRecDepth 20000 in
theorem code_98 : Cond.code (my 98) (cd 98) (mxL 98) (mrt 98) ∈ lwG := lwG_at 859 rfl rfl
set_option maxRecDepth 20000 in
theorem code_99 : Cond.code (my 99) (cd 99) (mxL 99) (mrt 99) ∈ lwG := lwG_at 867 rfl rfl
set_option maxRecDepth 20000 in
theorem code_100 : Cond.code (my 100) (cd 100) (mxL 100) (mrt 100) ∈ lwG := lwG_at 854 rfl rfl
set_option maxRecDepth 20000 in
theorem code_101 : Cond.code (my 101) (cd 101) (mxL 101) (mrt 101) ∈ lwG := lwG_at 839 rfl rfl
set_option maxRecDepth 20000 in
theorem code_102 : Cond.code (my 102) (cd 102) (mxL 102) (mrt 102) ∈ lwG := lwG_at 879 rfl rfl
set_option maxRecDepth 20000 in
theorem code_103 : Cond.code (my 103) (cd 103) (mxL 103) (mrt 103) ∈ lwG := lwG_at 887 rfl rfl
set_option maxRecDepth 20000 in
theorem code_104 : Cond.code (my 104) (cd 104) (mxL 104) (mrt 104) ∈ lwG := lwG_at 883 rfl rfl
set_option maxRecDepth 20000 in
theorem code_105 : Cond.code (my 105) (cd 105) (mxL 105) (mrt 105) ∈ lwG := lwG_at 944 rfl rfl
set_option maxRecDepth 20000 in
theorem code_106 : Cond.code (my 106) (cd 106) (mxL 106) (mrt 106) ∈ lwG := lwG_at 908 rfl rfl
set_option maxRecDepth 20000 in
theorem code_107 : Cond.code (my 107) (cd 107) (mxL 107) (mrt 107) ∈ lwG := lwG_at 912 rfl rfl
set_option maxRecDepth 20000 in
theorem code_108 : Cond.code (my 108) (cd 108) (mxL 108) (mrt 108) ∈ lwG := lwG_at 899 rfl rfl
set_option maxRecDepth 20000 in
theorem code_109 : Cond.code (my 109) (cd 109) (mxL 109) (mrt 109) ∈ lwG := lwG_at 903 rfl rfl
set_option maxRecDepth 20000 in
theorem code_110 : Cond.code (my 110) (cd 110) (mxL 110) (mrt 110) ∈ lwG := lwG_at 891 rfl rfl
set_option maxRecDepth 20000 in
theorem code_111 : Cond.code (my 111) (cd 111) (mxL 111) (mrt 111) ∈ lwG := lwG_at 921 rfl rfl
set_option maxRecDepth 20000 in
theorem code_112 : Cond.code (my 112) (cd 112) (mxL 112) (mrt 112) ∈ lwG := lwG_at 916 rfl rfl
set_option maxRecDepth 20000 in
theorem code_113 : Cond.code (my 113) (cd 113) (mxL 113) (mrt 113) ∈ lwG := lwG_at 932 rfl rfl
set_option maxRecDepth 20000 in
theorem code_114 : Cond.code (my 114) (cd 114) (mxL 114) (mrt 114) ∈ lwG := lwG_at 928 rfl rfl
set_option maxRecDepth 20000 in
theorem code_115 : Cond.code (my 115) (cd 115) (mxL 115) (mrt 115) ∈ lwG := lwG_at 936 rfl rfl
set_option maxRecDepth 20000 in
theorem code_116 : Cond.code (my 116) (cd 116) (mxL 116) (mrt 116) ∈ lwG := lwG_at 940 rfl rfl
set_option maxRecDepth 20000 in
theorem code_117 : Cond.code (my 117) (cd 117) (mxL 117) (mrt 117) ∈ lwG := lwG_at 961 rfl rfl
set_option maxRecDepth 20000 in
theorem code_118 : Cond.code (my 118) (cd 118) (mxL 118) (mrt 118) ∈ lwG := lwG_at 965 rfl rfl
set_option maxRecDepth 20000 in
theorem code_119 : Cond.code (my 119) (cd 119) (mxL 119) (mrt 119) ∈ lwG := lwG_at 953 rfl rfl
set_option maxRecDepth 20000 in
theorem code_120 : Cond.code (my 120) (cd 120) (mxL 120) (mrt 120) ∈ lwG := lwG_at 957 rfl rfl
set_option maxRecDepth 20000 in
theorem code_121 : Cond.code (my 121) (cd 121) (mxL 121) (mrt 121) ∈ lwG := lwG_at 949 rfl rfl
set_option maxRecDepth 20000 in
theorem code_122 : Cond.code (my 122) (cd 122) (mxL 122) (mrt 122) ∈ lwG := lwG_at 969 rfl rfl
set_option maxRecDepth 20000 in
theorem code_123 : Cond.code (my 123) (cd 123) (mxL 123) (mrt 123) ∈ lwG := lwG_at 977 rfl rfl
set_option maxRecDepth 20000 in
theorem code_124 : Cond.code (my 124) (cd 124) (mxL 124) (mrt 124) ∈ lwG := lwG_at 973 rfl rfl
set_option maxRecDepth 20000 in
theorem code_125 : Cond.code (my 125) (cd 125) (mxL 125) (mrt 125) ∈ lwG := lwG_at 981 rfl rfl
set_option maxRecDepth 20000 in
theorem code_126 : Cond.code (my 126) (cd 126) (mxL 126) (mrt 126) ∈ lwG := lwG_at 985 rfl rfl
set_option maxRecDepth 20000 in
theorem code_127 : Cond.code (my 127) (cd 127) (mxL 127) (mrt 127) ∈ lwG := lwG_at 989 rfl rfl
set_option maxRecDepth 20000 in
theorem code_128 : Cond.code (my 128) (cd 128) (mxL 128) (mrt 128) ∈ lwG := lwG_at 993 rfl rfl
set_option maxRecDepth 20000 in
theorem code_129 : Cond.code (my 129) (cd 129) (mxL 129) (mrt 129) ∈ lwG := lwG_at 633 rfl rfl
set_option maxRecDepth 20000 in
theorem code_130 : Cond.code (my 130) (cd 130) (mxL 130) (mrt 130) ∈ lwG := lwG_at 341 rfl rfl
set_option maxRecDepth 20000 in
theorem code_131 : Cond.code (my 131) (cd 131) (mxL 131) (mrt 131) ∈ lwG := lwG_at 351 rfl rfl
set_option maxRecDepth 20000 in
theorem code_132 : Cond.code (my 132) (cd 132) (mxL 132) (mrt 132) ∈ lwG := lwG_at 345 rfl rfl
set_option maxRecDepth 20000 in
theorem code_133 : Cond.code (my 133) (cd 133) (mxL 133) (mrt 133) ∈ lwG := lwG_at 355 rfl rfl
set_option maxRecDepth 20000 in
theorem code_134 : Cond.code (my 134) (cd 134) (mxL 134) (mrt 134) ∈ lwG := lwG_at 361 rfl rfl
set_option maxRecDepth 20000 in
theorem code_135 : Cond.code (my 135) (cd 135) (mxL 135) (mrt 135) ∈ lwG := lwG_at 358 rfl rfl
set_option maxRecDepth 20000 in
theorem code_136 : Cond.code (my 136) (cd 136) (mxL 136) (mrt 136) ∈ lwG := lwG_at 366 rfl rfl
theorem code_in : ∀ j, j < 137 → Cond.code (my j) (cd j) (mxL j) (mrt j) ∈ lwG := by
  intro j hj
  match j, hj with
  | 0, _ => exact code_0
  | 1, _ => exact code_1
  | 2, _ => exact code_2
  | 3, _ => exact code_3
  | 4, _ => exact code_4
  | 5, _ => exact code_5
  | 6, _ => exact code_6
  | 7, _ => exact code_7
  | 8, _ => exact code_8
  | 9, _ => exact code_9
  | 10, _ => exact code_10
  | 11, _ => exact code_11
  | 12, _ => exact code_12
  | 13, _ => exact code_13
  | 14, _ => exact code_14
  | 15, _ => exact code_15
  | 16, _ => exact code_16
  | 17, _ => exact code_17
  | 18, _ => exact code_18
  | 19, _ => exact code_19
  | 20, _ => exact code_20
  | 21, _ => exact code_21
  | 22, _ => exact code_22
  | 23, _ => exact code_23
  | 24, _ => exact code_24
  | 25, _ => exact code_25
  | 26, _ => exact code_26
  | 27, _ => exact code_27
  | 28, _ => exact code_28
  | 29, _ => exact code_29
  | 30, _ => exact code_30
  | 31, _ => exact code_31
  | 32, _ => exact code_32
  | 33, _ => exact code_33
  | 34, _ => exact code_34
  | 35, _ => exact code_35
  | 36, _ => exact code_36
  | 37, _ => exact code_37
  | 38, _ => exact code_38
  | 39, _ => exact code_39
  | 40, _ => exact code_40
  | 41, _ => exact code_41
  | 42, _ => exact code_42
  | 43, _ => exact code_43
  | 44, _ => exact code_44
  | 45, _ => exact code_45
  | 46, _ => exact code_46
  | 47, _ => exact code_47
  | 48, _ => exact code_48
  | 49, _ => exact code_49
  | 50, _ => exact code_50
  | 51, _ => exact code_51
  | 52, _ => exact code_52
  | 53, _ => exact code_53
  | 54, _ => exact code_54
  | 55, _ => exact code_55
  | 56, _ => exact code_56
  | 57, _ => exact code_57
  | 58, _ => exact code_58
  | 59, _ => exact code_59
  | 60, _ => exact code_60
  | 61, _ => exact code_61
  | 62, _ => exact code_62
  | 63, _ => exact code_63
  | 64, _ => exact code_64
  | 65, _ => exact code_65
  | 66, _ => exact code_66
  | 67, _ => exact code_67
  | 68, _ => exact code_68
  | 69, _ => exact code_69
  | 70, _ => exact code_70
  | 71, _ => exact code_71
  | 72, _ => exact code_72
  | 73, _ => exact code_73
  | 74, _ => exact code_74
  | 75, _ => exact code_75
  | 76, _ => exact code_76
  | 77, _ => exact code_77
  | 78, _ => exact code_78
  | 79, _ => exact code_79
  | 80, _ => exact code_80
  | 81, _ => exact code_81
  | 82, _ => exact code_82
  | 83, _ => exact code_83
  | 84, _ => exact code_84
  | 85, _ => exact code_85
  | 86, _ => exact code_86
  | 87, _ => exact code_87
  | 88, _ => exact code_88
  | 89, _ => exact code_89
  | 90, _ => exact code_90
  | 91, _ => exact code_91
  | 92, _ => exact code_92
  | 93, _ => exact code_93
  | 94, _ => exact code_94
  | 95, _ => exact code_95
  | 96, _ => exact code_96
  | 97, _ => exact code_97
  | 98, _ => exact code_98
  | 99, _ => exact code_99
  | 100, _ => exact code_100
  | 101, _ => exact code_101
  | 102, _ => exact code_102
  | 103, _ => exact code_103
  | 104, _ => exact code_104
  | 105, _ => exact code_105
  | 106, _ => exact code_106
  | 107, _ => exact code_107
  | 108, _ => exact code_108
  | 109, _ => exact code_109
  | 110, _ => exact code_110
  | 111, _ => exact code_111
  | 112, _ => exact code_112
  | 113, _ => exact code_113
  | 114, _ => exact code_114
  | 115, _ => exact code_115
  | 116, _ => exact code_116
  | 117, _ => exact code_117
  | 118, _ => exact code_118
  | 119, _ => exact code_119
  | 120, _ => exact code_120
  | 121, _ => exact code_121
  | 122, _ => exact code_122
  | 123, _ => exact code_123
  | 124, _ => exact code_124
  | 125, _ => exact code_125
  | 126, _ => exact code_126
  | 127, _ => exact code_127
  | 128, _ => exact code_128
  | 129, _ => exact code_129
  | 130, _ => exact code_130
  | 131, _ => exact code_131
  | 132, _ => exact code_132
  | 133, _ => exact code_133
  | 134, _ => exact code_134
  | 135, _ => exact code_135
  | 136, _ => exact code_136
  | k + 137, h => omega
