section INITS
variable {D : va_G} {g : Nat → ClassId}
theorem tx48 : Cond.methodLink RX10 1 Lib.objectInit ∈ tblG := tblG_of (List.mem_of_getElem? (i := 809) (by decide +kernel)) rfl
theorem tx49 : Cond.fieldLink RX10 7 RX10 "points" "I" ∈ tblG := tblG_of (List.mem_of_getElem? (i := 810) (by decide +kernel)) rfl
theorem tx50 : Cond.fieldLink RX10 13 RX10 "kind" "[I" ∈ tblG := tblG_of (List.mem_of_getElem? (i := 812) (by decide +kernel)) rfl
theorem tx51 : Cond.fieldLink RX10 17 RX10 "figure" "[I" ∈ tblG := tblG_of (List.mem_of_getElem? (i := 813) (by decide +kernel)) rfl
theorem tx52 : Cond.fieldLink RX10 20 RX10 "one" "[I" ∈ tblG := tblG_of (List.mem_of_getElem? (i := 814) (by decide +kernel)) rfl
theorem tx53 : Cond.fieldLink RX10 23 RX10 "other" "[I" ∈ tblG := tblG_of (List.mem_of_getElem? (i := 815) (by decide +kernel)) rfl
theorem tx54 : Cond.fieldLink RX10 26 RX10 "label" "[I" ∈ tblG := tblG_of (List.mem_of_getElem? (i := 816) (by decide +kernel)) rfl
theorem tx55 : Cond.fieldLink RX10 29 RX10 "wasKind" "[I" ∈ tblG := tblG_of (List.mem_of_getElem? (i := 818) (by decide +kernel)) rfl
theorem tx56 : Cond.fieldLink RX10 32 RX10 "wasFigure" "[I" ∈ tblG := tblG_of (List.mem_of_getElem? (i := 819) (by decide +kernel)) rfl
theorem tx57 : Cond.fieldLink RX10 35 RX10 "wasLabel" "[I" ∈ tblG := tblG_of (List.mem_of_getElem? (i := 820) (by decide +kernel)) rfl
theorem tx58 : Cond.fieldLink RX10 38 RX10 "letter" "[I" ∈ tblG := tblG_of (List.mem_of_getElem? (i := 821) (by decide +kernel)) rfl
theorem tx59 : Cond.fieldLink RX10 41 RX10 "list" "[I" ∈ tblG := tblG_of (List.mem_of_getElem? (i := 823) (by decide +kernel)) rfl
theorem tx60 : Cond.fieldLink RX10 44 RX10 "cell" "[I" ∈ tblG := tblG_of (List.mem_of_getElem? (i := 824) (by decide +kernel)) rfl
theorem tx61 : Cond.fieldLink RX10 47 RX10 "refusals" "[I" ∈ tblG := tblG_of (List.mem_of_getElem? (i := 825) (by decide +kernel)) rfl
theorem tx62 : Cond.fieldLink RX10 50 RX10 "tried" "[I" ∈ tblG := tblG_of (List.mem_of_getElem? (i := 826) (by decide +kernel)) rfl
theorem tx63 : Cond.fieldLink RX10 53 RX10 "sums" "[I" ∈ tblG := tblG_of (List.mem_of_getElem? (i := 827) (by decide +kernel)) rfl
theorem tx64 : Cond.fieldLink RX10 56 RX10 "weights" "[I" ∈ tblG := tblG_of (List.mem_of_getElem? (i := 828) (by decide +kernel)) rfl
theorem tx65 : Cond.fieldLink RX10 59 RX10 "magicRow" "[I" ∈ tblG := tblG_of (List.mem_of_getElem? (i := 829) (by decide +kernel)) rfl
theorem tx66 : Cond.fieldLink RX10 62 RX10 "steps" "[J" ∈ tblG := tblG_of (List.mem_of_getElem? (i := 831) (by decide +kernel)) rfl
theorem tx67 : Cond.fieldLink RX10 66 RX10 "paper" "[I" ∈ tblG := tblG_of (List.mem_of_getElem? (i := 833) (by decide +kernel)) rfl
theorem tx68 : Cond.fieldLink RX10 69 RX10 "told" "[I" ∈ tblG := tblG_of (List.mem_of_getElem? (i := 835) (by decide +kernel)) rfl
theorem tx69 : Cond.fieldLink RX10 72 RX10 "imaged" "[I" ∈ tblG := tblG_of (List.mem_of_getElem? (i := 837) (by decide +kernel)) rfl
theorem tx70 : Cond.fieldLink RX10 75 RX10 "kept" "[I" ∈ tblG := tblG_of (List.mem_of_getElem? (i := 838) (by decide +kernel)) rfl
def wX10 (g : Nat → ClassId) (h0 : Nat) (u : Nat → Nat → Nat) : va_W := (h0, .inr (8, [iv (4), iv 0, .ref (u 0 0), .ref (u 0 1), .ref (u 0 2), .ref (u 0 3), .ref (u 0 4), iv 0, .ref (u 0 5), .ref (u 0 6), .ref (u 0 7), .ref (u 0 8), iv 0, .ref (u 0 9), .ref (u 0 10), .ref (u 0 11), .ref (u 0 12), .ref (u 0 13), .ref (u 0 14), .ref (u 0 15), iv 0, .ref (u 0 16), iv 0, .ref (u 0 17), iv 0, .ref (u 0 18), iv 0, .ref (u 0 19), .ref (u 0 20)])) :: (([] : va_W) ++ [((u 0 0), zI g 8)] ++ [((u 0 1), zI g 8)] ++ [((u 0 2), zI g 8)] ++ [((u 0 3), zI g 8)] ++ [((u 0 4), zI g 8)] ++ [((u 0 5), zI g 64)] ++ [((u 0 6), zI g 64)] ++ [((u 0 7), zI g 64)] ++ [((u 0 8), zI g 72)] ++ [((u 0 9), .inl (g 0, 3, .inl (upd (upd (upd (fun _ => 0) (Int.toNat (0)) (Int32.ofInt (-1))) (Int.toNat (1)) (Int32.ofInt (-1))) (Int.toNat (2)) (Int32.ofInt (-1)))))] ++ [((u 0 10), zI g 120)] ++ [((u 0 11), zI g 7)] ++ [((u 0 12), zI g 8)] ++ [((u 0 13), zI g 7)] ++ [((u 0 14), zI g 56)] ++ [((u 0 15), zI g 7)] ++ [((u 0 16), zJ g 56)] ++ [((u 0 17), zI g 120)] ++ [((u 0 18), zI g 7)] ++ [((u 0 19), zI g 42)] ++ [((u 0 20), zI g 42)])
set_option maxHeartbeats 4000000 in
theorem c_X10_init  : CtI D g yX10_init cX10_init 1 1 20 21 779 [] (.inr (8, [iv 0, iv 0, .null, .null, .null, .null, .null, iv 0, .null, .null, .null, .null, iv 0, .null, .null, .null, .null, .null, .null, .null, iv 0, .null, iv 0, .null, iv 0, .null, iv 0, .null, .null])) (fun h0 u => wX10 g h0  u) := by
  refine cti_of (by decide) rfl (fun _ => Nat.le_of_ble_eq_true rfl) (fun X A h0 G hB T hA => ?_)
  have G : Bd X D g A cX10_init RX10 1 1 20 21 779 := G
  show BW X D A [(h0, .inr (8, [iv 0, iv 0, .null, .null, .null, .null, .null, iv 0, .null, .null, .null, .null, iv 0, .null, .null, .null, .null, .null, .null, .null, iv 0, .null, iv 0, .null, iv 0, .null, iv 0, .null, .null]))] 0 0 0 [] [some (.ref h0)]
  refine bw_aload_n G dX10_init_0 rfl ?_
  refine bw_objinit G dX10_init_1 tx48 tx1 tx2 ⟨by decide, by decide⟩ (Nat.le_of_ble_eq_true rfl) ?_
  refine bw_aload_n G dX10_init_4 rfl ?_
  refine bw_iconst G dX10_init_5 (k := ?_)
  refine bc_put (j := 0) (fs' := [iv (4), iv 0, .null, .null, .null, .null, .null, iv 0, .null, .null, .null, .null, iv 0, .null, .null, .null, .null, .null, .null, .null, iv 0, .null, iv 0, .null, iv 0, .null, iv 0, .null, .null]) (ty := .int) (Cn := RX10) (T := TX10) (N := 29) tyX10 G dX10_init_6 inX10 tyX10_ok nmX10 tx49 rfl (by decide) rfl rfl rfl rfl rfl (Nat.le_of_ble_eq_true rfl) rfl ?_
  refine bw_aload_n G dX10_init_9 rfl ?_
  refine bw_bipush G dX10_init_10 (k := ?_)
  refine bc_newI (N := 8) G dX10_init_12 tx5 (by decide) rfl (by decide) (by decide) (by decide) (fun q12 => ?_)
  refine bc_putF (j := 2) (fs' := [iv (4), iv 0, .ref q12, .null, .null, .null, .null, iv 0, .null, .null, .null, .null, iv 0, .null, .null, .null, .null, .null, .null, .null, iv 0, .null, iv 0, .null, iv 0, .null, iv 0, .null, .null]) (ty := .array .int) (T := TX10) (N := 29) tyX10 G hB dX10_init_14 inX10 tyX10_ok nmX10 tx50 rfl (by decide) rfl rfl rfl rfl rfl (Nat.le_of_ble_eq_true rfl) rfl ?_
  refine bw_aload_n G dX10_init_17 rfl ?_
  refine bw_bipush G dX10_init_18 (k := ?_)
  refine bc_newI (N := 8) G dX10_init_20 tx5 (by decide) rfl (by decide) (by decide) (by decide) (fun q20 => ?_)
  refine bc_putF (j := 3) (fs' := [iv (4), iv 0, .ref q12, .ref q20, .null, .null, .null, iv 0, .null, .null, .null, .null, iv 0, .null, .null, .null, .null, .null, .null, .null, iv 0, .null, iv 0, .null, iv 0, .null, iv 0, .null, .null]) (ty := .array .int) (T := TX10) (N := 29) tyX10 G hB dX10_init_22 inX10 tyX10_ok nmX10 tx51 rfl (by decide) rfl rfl rfl rfl rfl (Nat.le_of_ble_eq_true rfl) rfl ?_
  refine bw_aload_n G dX10_init_25 rfl ?_
  refine bw_bipush G dX10_init_26 (k := ?_)
  refine bc_newI (N := 8) G dX10_init_28 tx5 (by decide) rfl (by decide) (by decide) (by decide) (fun q28 => ?_)
  refine bc_putF (j := 4) (fs' := [iv (4), iv 0, .ref q12, .ref q20, .ref q28, .null, .null, iv 0, .null, .null, .null, .null, iv 0, .null, .null, .null, .null, .null, .null, .null, iv 0, .null, iv 0, .null, iv 0, .null, iv 0, .null, .null]) (ty := .array .int) (T := TX10) (N := 29) tyX10 G hB dX10_init_30 inX10 tyX10_ok nmX10 tx52 rfl (by decide) rfl rfl rfl rfl rfl (Nat.le_of_ble_eq_true rfl) rfl ?_
  refine bw_aload_n G dX10_init_33 rfl ?_
  refine bw_bipush G dX10_init_34 (k := ?_)
  refine bc_newI (N := 8) G dX10_init_36 tx5 (by decide) rfl (by decide) (by decide) (by decide) (fun q36 => ?_)
  refine bc_putF (j := 5) (fs' := [iv (4), iv 0, .ref q12, .ref q20, .ref q28, .ref q36, .null, iv 0, .null, .null, .null, .null, iv 0, .null, .null, .null, .null, .null, .null, .null, iv 0, .null, iv 0, .null, iv 0, .null, iv 0, .null, .null]) (ty := .array .int) (T := TX10) (N := 29) tyX10 G hB dX10_init_38 inX10 tyX10_ok nmX10 tx53 rfl (by decide) rfl rfl rfl rfl rfl (Nat.le_of_ble_eq_true rfl) rfl ?_
  refine bw_aload_n G dX10_init_41 rfl ?_
  refine bw_bipush G dX10_init_42 (k := ?_)
  refine bc_newI (N := 8) G dX10_init_44 tx5 (by decide) rfl (by decide) (by decide) (by decide) (fun q44 => ?_)
  refine bc_putF (j := 6) (fs' := [iv (4), iv 0, .ref q12, .ref q20, .ref q28, .ref q36, .ref q44, iv 0, .null, .null, .null, .null, iv 0, .null, .null, .null, .null, .null, .null, .null, iv 0, .null, iv 0, .null, iv 0, .null, iv 0, .null, .null]) (ty := .array .int) (T := TX10) (N := 29) tyX10 G hB dX10_init_46 inX10 tyX10_ok nmX10 tx54 rfl (by decide) rfl rfl rfl rfl rfl (Nat.le_of_ble_eq_true rfl) rfl ?_
  refine bw_aload_n G dX10_init_49 rfl ?_
  refine bw_bipush G dX10_init_50 (k := ?_)
  refine bc_newI (N := 64) G dX10_init_52 tx5 (by decide) rfl (by decide) (by decide) (by decide) (fun q52 => ?_)
  refine bc_putF (j := 8) (fs' := [iv (4), iv 0, .ref q12, .ref q20, .ref q28, .ref q36, .ref q44, iv 0, .ref q52, .null, .null, .null, iv 0, .null, .null, .null, .null, .null, .null, .null, iv 0, .null, iv 0, .null, iv 0, .null, iv 0, .null, .null]) (ty := .array .int) (T := TX10) (N := 29) tyX10 G hB dX10_init_54 inX10 tyX10_ok nmX10 tx55 rfl (by decide) rfl rfl rfl rfl rfl (Nat.le_of_ble_eq_true rfl) rfl ?_
  refine bw_aload_n G dX10_init_57 rfl ?_
  refine bw_bipush G dX10_init_58 (k := ?_)
  refine bc_newI (N := 64) G dX10_init_60 tx5 (by decide) rfl (by decide) (by decide) (by decide) (fun q60 => ?_)
  refine bc_putF (j := 9) (fs' := [iv (4), iv 0, .ref q12, .ref q20, .ref q28, .ref q36, .ref q44, iv 0, .ref q52, .ref q60, .null, .null, iv 0, .null, .null, .null, .null, .null, .null, .null, iv 0, .null, iv 0, .null, iv 0, .null, iv 0, .null, .null]) (ty := .array .int) (T := TX10) (N := 29) tyX10 G hB dX10_init_62 inX10 tyX10_ok nmX10 tx56 rfl (by decide) rfl rfl rfl rfl rfl (Nat.le_of_ble_eq_true rfl) rfl ?_
  refine bw_aload_n G dX10_init_65 rfl ?_
  refine bw_bipush G dX10_init_66 (k := ?_)
  refine bc_newI (N := 64) G dX10_init_68 tx5 (by decide) rfl (by decide) (by decide) (by decide) (fun q68 => ?_)
  refine bc_putF (j := 10) (fs' := [iv (4), iv 0, .ref q12, .ref q20, .ref q28, .ref q36, .ref q44, iv 0, .ref q52, .ref q60, .ref q68, .null, iv 0, .null, .null, .null, .null, .null, .null, .null, iv 0, .null, iv 0, .null, iv 0, .null, iv 0, .null, .null]) (ty := .array .int) (T := TX10) (N := 29) tyX10 G hB dX10_init_70 inX10 tyX10_ok nmX10 tx57 rfl (by decide) rfl rfl rfl rfl rfl (Nat.le_of_ble_eq_true rfl) rfl ?_
  refine bw_aload_n G dX10_init_73 rfl ?_
  refine bw_bipush G dX10_init_74 (k := ?_)
  refine bc_newI (N := 72) G dX10_init_76 tx5 (by decide) rfl (by decide) (by decide) (by decide) (fun q76 => ?_)
  refine bc_putF (j := 11) (fs' := [iv (4), iv 0, .ref q12, .ref q20, .ref q28, .ref q36, .ref q44, iv 0, .ref q52, .ref q60, .ref q68, .ref q76, iv 0, .null, .null, .null, .null, .null, .null, .null, iv 0, .null, iv 0, .null, iv 0, .null, iv 0, .null, .null]) (ty := .array .int) (T := TX10) (N := 29) tyX10 G hB dX10_init_78 inX10 tyX10_ok nmX10 tx58 rfl (by decide) rfl rfl rfl rfl rfl (Nat.le_of_ble_eq_true rfl) rfl ?_
  refine bw_aload_n G dX10_init_81 rfl ?_
  refine bw_iconst G dX10_init_82 (k := ?_)
  refine bc_newI (N := 3) G dX10_init_83 tx5 (by decide) rfl (by decide) (by decide) (by decide) (fun q83 => ?_)
  refine bw_dup G dX10_init_85 (k := ?_)
  refine bw_iconst G dX10_init_86 (k := ?_)
  refine bw_iconst G dX10_init_87 (k := ?_)
  refine bc_iast (f := fun _ => 0) G dX10_init_88 (by decide) (by omega) ?_
  refine bw_dup G dX10_init_89 (k := ?_)
  refine bw_iconst G dX10_init_90 (k := ?_)
  refine bw_iconst G dX10_init_91 (k := ?_)
  refine bc_iast (f := upd (fun _ => 0) (Int.toNat (0)) (Int32.ofInt (-1))) G dX10_init_92 (by decide) (by omega) ?_
  refine bw_dup G dX10_init_93 (k := ?_)
  refine bw_iconst G dX10_init_94 (k := ?_)
  refine bw_iconst G dX10_init_95 (k := ?_)
  refine bc_iast (f := upd (upd (fun _ => 0) (Int.toNat (0)) (Int32.ofInt (-1))) (Int.toNat (1)) (Int32.ofInt (-1))) G dX10_init_96 (by decide) (by omega) ?_
  refine bc_putF (j := 13) (fs' := [iv (4), iv 0, .ref q12, .ref q20, .ref q28, .ref q36, .ref q44, iv 0, .ref q52, .ref q60, .ref q68, .ref q76, iv 0, .ref q83, .null, .null, .null, .null, .null, .null, iv 0, .null, iv 0, .null, iv 0, .null, iv 0, .null, .null]) (ty := .array .int) (T := TX10) (N := 29) tyX10 G hB dX10_init_97 inX10 tyX10_ok nmX10 tx59 rfl (by decide) rfl rfl rfl rfl rfl (Nat.le_of_ble_eq_true rfl) rfl ?_
  refine bw_aload_n G dX10_init_100 rfl ?_
  refine bw_bipush G dX10_init_101 (k := ?_)
  refine bc_newI (N := 120) G dX10_init_103 tx5 (by decide) rfl (by decide) (by decide) (by decide) (fun q103 => ?_)
  refine bc_putF (j := 14) (fs' := [iv (4), iv 0, .ref q12, .ref q20, .ref q28, .ref q36, .ref q44, iv 0, .ref q52, .ref q60, .ref q68, .ref q76, iv 0, .ref q83, .ref q103, .null, .null, .null, .null, .null, iv 0, .null, iv 0, .null, iv 0, .null, iv 0, .null, .null]) (ty := .array .int) (T := TX10) (N := 29) tyX10 G hB dX10_init_105 inX10 tyX10_ok nmX10 tx60 rfl (by decide) rfl rfl rfl rfl rfl (Nat.le_of_ble_eq_true rfl) rfl ?_
  refine bw_aload_n G dX10_init_108 rfl ?_
  refine bw_bipush G dX10_init_109 (k := ?_)
  refine bc_newI (N := 7) G dX10_init_111 tx5 (by decide) rfl (by decide) (by decide) (by decide) (fun q111 => ?_)
  refine bc_putF (j := 15) (fs' := [iv (4), iv 0, .ref q12, .ref q20, .ref q28, .ref q36, .ref q44, iv 0, .ref q52, .ref q60, .ref q68, .ref q76, iv 0, .ref q83, .ref q103, .ref q111, .null, .null, .null, .null, iv 0, .null, iv 0, .null, iv 0, .null, iv 0, .null, .null]) (ty := .array .int) (T := TX10) (N := 29) tyX10 G hB dX10_init_113 inX10 tyX10_ok nmX10 tx61 rfl (by decide) rfl rfl rfl rfl rfl (Nat.le_of_ble_eq_true rfl) rfl ?_
  refine bw_aload_n G dX10_init_116 rfl ?_
  refine bw_bipush G dX10_init_117 (k := ?_)
  refine bc_newI (N := 8) G dX10_init_119 tx5 (by decide) rfl (by decide) (by decide) (by decide) (fun q119 => ?_)
  refine bc_putF (j := 16) (fs' := [iv (4), iv 0, .ref q12, .ref q20, .ref q28, .ref q36, .ref q44, iv 0, .ref q52, .ref q60, .ref q68, .ref q76, iv 0, .ref q83, .ref q103, .ref q111, .ref q119, .null, .null, .null, iv 0, .null, iv 0, .null, iv 0, .null, iv 0, .null, .null]) (ty := .array .int) (T := TX10) (N := 29) tyX10 G hB dX10_init_121 inX10 tyX10_ok nmX10 tx62 rfl (by decide) rfl rfl rfl rfl rfl (Nat.le_of_ble_eq_true rfl) rfl ?_
  refine bw_aload_n G dX10_init_124 rfl ?_
  refine bw_bipush G dX10_init_125 (k := ?_)
  refine bc_newI (N := 7) G dX10_init_127 tx5 (by decide) rfl (by decide) (by decide) (by decide) (fun q127 => ?_)
  refine bc_putF (j := 17) (fs' := [iv (4), iv 0, .ref q12, .ref q20, .ref q28, .ref q36, .ref q44, iv 0, .ref q52, .ref q60, .ref q68, .ref q76, iv 0, .ref q83, .ref q103, .ref q111, .ref q119, .ref q127, .null, .null, iv 0, .null, iv 0, .null, iv 0, .null, iv 0, .null, .null]) (ty := .array .int) (T := TX10) (N := 29) tyX10 G hB dX10_init_129 inX10 tyX10_ok nmX10 tx63 rfl (by decide) rfl rfl rfl rfl rfl (Nat.le_of_ble_eq_true rfl) rfl ?_
  refine bw_aload_n G dX10_init_132 rfl ?_
  refine bw_bipush G dX10_init_133 (k := ?_)
  refine bc_newI (N := 56) G dX10_init_135 tx5 (by decide) rfl (by decide) (by decide) (by decide) (fun q135 => ?_)
  refine bc_putF (j := 18) (fs' := [iv (4), iv 0, .ref q12, .ref q20, .ref q28, .ref q36, .ref q44, iv 0, .ref q52, .ref q60, .ref q68, .ref q76, iv 0, .ref q83, .ref q103, .ref q111, .ref q119, .ref q127, .ref q135, .null, iv 0, .null, iv 0, .null, iv 0, .null, iv 0, .null, .null]) (ty := .array .int) (T := TX10) (N := 29) tyX10 G hB dX10_init_137 inX10 tyX10_ok nmX10 tx64 rfl (by decide) rfl rfl rfl rfl rfl (Nat.le_of_ble_eq_true rfl) rfl ?_
  refine bw_aload_n G dX10_init_140 rfl ?_
  refine bw_bipush G dX10_init_141 (k := ?_)
  refine bc_newI (N := 7) G dX10_init_143 tx5 (by decide) rfl (by decide) (by decide) (by decide) (fun q143 => ?_)
  refine bc_putF (j := 19) (fs' := [iv (4), iv 0, .ref q12, .ref q20, .ref q28, .ref q36, .ref q44, iv 0, .ref q52, .ref q60, .ref q68, .ref q76, iv 0, .ref q83, .ref q103, .ref q111, .ref q119, .ref q127, .ref q135, .ref q143, iv 0, .null, iv 0, .null, iv 0, .null, iv 0, .null, .null]) (ty := .array .int) (T := TX10) (N := 29) tyX10 G hB dX10_init_145 inX10 tyX10_ok nmX10 tx65 rfl (by decide) rfl rfl rfl rfl rfl (Nat.le_of_ble_eq_true rfl) rfl ?_
  refine bw_aload_n G dX10_init_148 rfl ?_
  refine bw_bipush G dX10_init_149 (k := ?_)
  refine bc_newJ (N := 56) G dX10_init_151 tx28 (by decide) rfl (by decide) (by decide) (by decide) (fun q151 => ?_)
  refine bc_putF (j := 21) (fs' := [iv (4), iv 0, .ref q12, .ref q20, .ref q28, .ref q36, .ref q44, iv 0, .ref q52, .ref q60, .ref q68, .ref q76, iv 0, .ref q83, .ref q103, .ref q111, .ref q119, .ref q127, .ref q135, .ref q143, iv 0, .ref q151, iv 0, .null, iv 0, .null, iv 0, .null, .null]) (ty := .array .long) (T := TX10) (N := 29) tyX10 G hB dX10_init_153 inX10 tyX10_ok nmX10 tx66 rfl (by decide) rfl rfl rfl rfl rfl (Nat.le_of_ble_eq_true rfl) rfl ?_
  refine bw_aload_n G dX10_init_156 rfl ?_
  refine bw_bipush G dX10_init_157 (k := ?_)
  refine bc_newI (N := 120) G dX10_init_159 tx5 (by decide) rfl (by decide) (by decide) (by decide) (fun q159 => ?_)
  refine bc_putF (j := 23) (fs' := [iv (4), iv 0, .ref q12, .ref q20, .ref q28, .ref q36, .ref q44, iv 0, .ref q52, .ref q60, .ref q68, .ref q76, iv 0, .ref q83, .ref q103, .ref q111, .ref q119, .ref q127, .ref q135, .ref q143, iv 0, .ref q151, iv 0, .ref q159, iv 0, .null, iv 0, .null, .null]) (ty := .array .int) (T := TX10) (N := 29) tyX10 G hB dX10_init_161 inX10 tyX10_ok nmX10 tx67 rfl (by decide) rfl rfl rfl rfl rfl (Nat.le_of_ble_eq_true rfl) rfl ?_
  refine bw_aload_n G dX10_init_164 rfl ?_
  refine bw_bipush G dX10_init_165 (k := ?_)
  refine bc_newI (N := 7) G dX10_init_167 tx5 (by decide) rfl (by decide) (by decide) (by decide) (fun q167 => ?_)
  refine bc_putF (j := 25) (fs' := [iv (4), iv 0, .ref q12, .ref q20, .ref q28, .ref q36, .ref q44, iv 0, .ref q52, .ref q60, .ref q68, .ref q76, iv 0, .ref q83, .ref q103, .ref q111, .ref q119, .ref q127, .ref q135, .ref q143, iv 0, .ref q151, iv 0, .ref q159, iv 0, .ref q167, iv 0, .null, .null]) (ty := .array .int) (T := TX10) (N := 29) tyX10 G hB dX10_init_169 inX10 tyX10_ok nmX10 tx68 rfl (by decide) rfl rfl rfl rfl rfl (Nat.le_of_ble_eq_true rfl) rfl ?_
  refine bw_aload_n G dX10_init_172 rfl ?_
  refine bw_bipush G dX10_init_173 (k := ?_)
  refine bc_newI (N := 42) G dX10_init_175 tx5 (by decide) rfl (by decide) (by decide) (by decide) (fun q175 => ?_)
  refine bc_putF (j := 27) (fs' := [iv (4), iv 0, .ref q12, .ref q20, .ref q28, .ref q36, .ref q44, iv 0, .ref q52, .ref q60, .ref q68, .ref q76, iv 0, .ref q83, .ref q103, .ref q111, .ref q119, .ref q127, .ref q135, .ref q143, iv 0, .ref q151, iv 0, .ref q159, iv 0, .ref q167, iv 0, .ref q175, .null]) (ty := .array .int) (T := TX10) (N := 29) tyX10 G hB dX10_init_177 inX10 tyX10_ok nmX10 tx69 rfl (by decide) rfl rfl rfl rfl rfl (Nat.le_of_ble_eq_true rfl) rfl ?_
  refine bw_aload_n G dX10_init_180 rfl ?_
  refine bw_bipush G dX10_init_181 (k := ?_)
  refine bc_newI (N := 42) G dX10_init_183 tx5 (by decide) rfl (by decide) (by decide) (by decide) (fun q183 => ?_)
  refine bc_putF (j := 28) (fs' := [iv (4), iv 0, .ref q12, .ref q20, .ref q28, .ref q36, .ref q44, iv 0, .ref q52, .ref q60, .ref q68, .ref q76, iv 0, .ref q83, .ref q103, .ref q111, .ref q119, .ref q127, .ref q135, .ref q143, iv 0, .ref q151, iv 0, .ref q159, iv 0, .ref q167, iv 0, .ref q175, .ref q183]) (ty := .array .int) (T := TX10) (N := 29) tyX10 G hB dX10_init_185 inX10 tyX10_ok nmX10 tx70 rfl (by decide) rfl rfl rfl rfl rfl (Nat.le_of_ble_eq_true rfl) rfl ?_
  exact bw_vret (fun _ i => [q12, q20, q28, q36, q44, q52, q60, q68, q76, q83, q103, q111, q119, q127, q135, q143, q151, q159, q167, q175, q183].getD i 0) G T hA dX10_init_188 rfl
end INITS
