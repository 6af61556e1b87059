section INITS
variable {D : va_G} {g : Nat → ClassId}
theorem tx71 : Cond.methodLink RX9 1 Lib.objectInit ∈ tblG := tblG_of (List.mem_of_getElem? (i := 85) (by decide +kernel)) rfl
theorem tx72 : Cond.classLink RX9 7 RX3 ∈ tblG := tblG_of (List.mem_of_getElem? (i := 88) (by decide +kernel)) rfl
theorem tx73 : Cond.fieldLink RX9 10 RX9 "net" "LLabelsOfLines$Net;" ∈ tblG := tblG_of (List.mem_of_getElem? (i := 268) (by decide +kernel)) rfl
theorem tx74 : Cond.fieldLink RX9 16 RX9 "image" "LLabelsOfLines$Net;" ∈ tblG := tblG_of (List.mem_of_getElem? (i := 269) (by decide +kernel)) rfl
theorem tx75 : Cond.fieldLink RX9 19 RX9 "imageTaken" "Z" ∈ tblG := tblG_of (List.mem_of_getElem? (i := 270) (by decide +kernel)) rfl
theorem tx76 : Cond.classLink RX9 23 RX4 ∈ tblG := tblG_of (List.mem_of_getElem? (i := 145) (by decide +kernel)) rfl
theorem tx77 : Cond.instantiable RX4 5 ∈ tblG := tblG_of (List.mem_of_getElem? (i := 146) (by decide +kernel)) rfl
theorem tx78 : Cond.initialized RX4 ∈ tblG := tblG_of (List.mem_of_getElem? (i := 69) (by decide +kernel)) rfl
theorem tx79 : Cond.instanceMethod yX4_init ∈ tblG := tblG_of (List.mem_of_getElem? (i := 148) (by decide +kernel)) rfl
theorem tx80 : Cond.code yX4_init cX4_init 1 none ∈ tblG := tblG_of (List.mem_of_getElem? (i := 149) (by decide +kernel)) rfl
theorem tx81 : Cond.fieldLink RX9 26 RX9 "past" "LLabelsOfLines$Past;" ∈ tblG := tblG_of (List.mem_of_getElem? (i := 271) (by decide +kernel)) rfl
theorem tx82 : Cond.classLink RX9 30 RX7 ∈ tblG := tblG_of (List.mem_of_getElem? (i := 170) (by decide +kernel)) rfl
theorem tx83 : Cond.instantiable RX7 8 ∈ tblG := tblG_of (List.mem_of_getElem? (i := 171) (by decide +kernel)) rfl
theorem tx84 : Cond.initialized RX7 ∈ tblG := tblG_of (List.mem_of_getElem? (i := 70) (by decide +kernel)) rfl
theorem tx85 : Cond.instanceMethod yX7_init ∈ tblG := tblG_of (List.mem_of_getElem? (i := 173) (by decide +kernel)) rfl
theorem tx86 : Cond.code yX7_init cX7_init 2 none ∈ tblG := tblG_of (List.mem_of_getElem? (i := 174) (by decide +kernel)) rfl
theorem tx87 : Cond.methodLink RX9 32 yX7_init ∈ tblG := tblG_of (List.mem_of_getElem? (i := 172) (by decide +kernel)) rfl
theorem tx88 : Cond.fieldLink RX9 35 RX9 "thought" "LLabelsOfLines$Thought;" ∈ tblG := tblG_of (List.mem_of_getElem? (i := 272) (by decide +kernel)) rfl
theorem tx89 : Cond.classLink RX9 39 RX6 ∈ tblG := tblG_of (List.mem_of_getElem? (i := 202) (by decide +kernel)) rfl
theorem tx90 : Cond.instantiable RX6 2 ∈ tblG := tblG_of (List.mem_of_getElem? (i := 203) (by decide +kernel)) rfl
theorem tx91 : Cond.initialized RX6 ∈ tblG := tblG_of (List.mem_of_getElem? (i := 71) (by decide +kernel)) rfl
theorem tx92 : Cond.instanceMethod yX6_init ∈ tblG := tblG_of (List.mem_of_getElem? (i := 205) (by decide +kernel)) rfl
theorem tx93 : Cond.code yX6_init cX6_init 2 none ∈ tblG := tblG_of (List.mem_of_getElem? (i := 206) (by decide +kernel)) rfl
theorem tx94 : Cond.methodLink RX9 41 yX6_init ∈ tblG := tblG_of (List.mem_of_getElem? (i := 204) (by decide +kernel)) rfl
theorem tx95 : Cond.fieldLink RX9 42 RX9 "shape" "LLabelsOfLines$Shape;" ∈ tblG := tblG_of (List.mem_of_getElem? (i := 273) (by decide +kernel)) rfl
theorem tx96 : Cond.classLink RX9 46 RX1 ∈ tblG := tblG_of (List.mem_of_getElem? (i := 218) (by decide +kernel)) rfl
theorem tx97 : Cond.instantiable RX1 3 ∈ tblG := tblG_of (List.mem_of_getElem? (i := 219) (by decide +kernel)) rfl
theorem tx98 : Cond.initialized RX1 ∈ tblG := tblG_of (List.mem_of_getElem? (i := 72) (by decide +kernel)) rfl
theorem tx99 : Cond.instanceMethod yX1_init ∈ tblG := tblG_of (List.mem_of_getElem? (i := 221) (by decide +kernel)) rfl
theorem tx100 : Cond.code yX1_init cX1_init 1 none ∈ tblG := tblG_of (List.mem_of_getElem? (i := 222) (by decide +kernel)) rfl
theorem tx101 : Cond.fieldLink RX9 49 RX9 "letters" "LLabelsOfLines$Letters;" ∈ tblG := tblG_of (List.mem_of_getElem? (i := 274) (by decide +kernel)) rfl
theorem tx102 : Cond.classLink RX9 53 RX8 ∈ tblG := tblG_of (List.mem_of_getElem? (i := 237) (by decide +kernel)) rfl
theorem tx103 : Cond.instantiable RX8 2 ∈ tblG := tblG_of (List.mem_of_getElem? (i := 238) (by decide +kernel)) rfl
theorem tx104 : Cond.initialized RX8 ∈ tblG := tblG_of (List.mem_of_getElem? (i := 73) (by decide +kernel)) rfl
theorem tx105 : Cond.instanceMethod yX8_init ∈ tblG := tblG_of (List.mem_of_getElem? (i := 240) (by decide +kernel)) rfl
theorem tx106 : Cond.code yX8_init cX8_init 1 none ∈ tblG := tblG_of (List.mem_of_getElem? (i := 241) (by decide +kernel)) rfl
theorem tx107 : Cond.fieldLink RX9 56 RX9 "writing" "LLabelsOfLines$Writing;" ∈ tblG := tblG_of (List.mem_of_getElem? (i := 275) (by decide +kernel)) rfl
theorem tx108 : Cond.classLink RX9 60 RX2 ∈ tblG := tblG_of (List.mem_of_getElem? (i := 252) (by decide +kernel)) rfl
theorem tx109 : Cond.instantiable RX2 2 ∈ tblG := tblG_of (List.mem_of_getElem? (i := 253) (by decide +kernel)) rfl
theorem tx110 : Cond.initialized RX2 ∈ tblG := tblG_of (List.mem_of_getElem? (i := 74) (by decide +kernel)) rfl
theorem tx111 : Cond.instanceMethod yX2_init ∈ tblG := tblG_of (List.mem_of_getElem? (i := 255) (by decide +kernel)) rfl
theorem tx112 : Cond.code yX2_init cX2_init 2 none ∈ tblG := tblG_of (List.mem_of_getElem? (i := 256) (by decide +kernel)) rfl
theorem tx113 : Cond.methodLink RX9 62 yX2_init ∈ tblG := tblG_of (List.mem_of_getElem? (i := 254) (by decide +kernel)) rfl
theorem tx114 : Cond.fieldLink RX9 63 RX9 "lists" "LLabelsOfLines$Lists;" ∈ tblG := tblG_of (List.mem_of_getElem? (i := 276) (by decide +kernel)) rfl
theorem tx115 : Cond.fieldLink RX9 67 RX9 "refusals" "[I" ∈ tblG := tblG_of (List.mem_of_getElem? (i := 277) (by decide +kernel)) rfl
theorem tx116 : Cond.fieldLink RX9 71 RX9 "sums" "[I" ∈ tblG := tblG_of (List.mem_of_getElem? (i := 278) (by decide +kernel)) rfl
theorem tx117 : Cond.fieldLink RX9 74 RX9 "magicRow" "[I" ∈ tblG := tblG_of (List.mem_of_getElem? (i := 279) (by decide +kernel)) rfl
def wX9 (g : Nat → ClassId) (h0 : Nat) (u : (Nat → Nat) × (Nat → Nat → Nat → Nat) × (Nat → Nat → Nat → Nat)) : va_W := (h0, .inr (0, [.ref (u.1 0), .ref (u.1 1), iv (0), .ref (u.1 2), .ref (u.1 3), .ref (u.1 4), .ref (u.1 5), .ref (u.1 6), .ref (u.1 7), .ref (u.1 8), .ref (u.1 9), .ref (u.1 10)])) :: (([] : va_W) ++ wX3 g (u.1 0) (u.2.1 0) ++ wX3 g (u.1 1) (u.2.1 1) ++ wX4 g (u.1 2) (u.2.1 2) ++ wX7 g (u.1 3) (u.1 0) (u.2.1 3) ++ wX6 g (u.1 4) (u.1 0) (u.2.1 4) ++ wX1 g (u.1 5) u.2.2 ++ wX8 g (u.1 6) (u.2.1 6) ++ wX2 g (u.1 7) (u.2.1 7) ++ [((u.1 8), zI g 7)] ++ [((u.1 9), zI g 7)] ++ [((u.1 10), zI g 7)])
set_option maxHeartbeats 4000000 in
theorem c_X9_init  : CtI D g yX9_init cX9_init 1 3 60 74 814 [] (.inr (0, [.null, .null, iv 0, .null, .null, .null, .null, .null, .null, .null, .null, .null])) (fun h0 u => wX9 g h0  u) := by
  refine cti_of (by decide) rfl (fun _ => Nat.le_of_ble_eq_true rfl) (fun X A h0 G hB T hA => ?_)
  have G : Bd X D g A cX9_init RX9 1 3 60 74 814 := G
  show BW X D A [(h0, .inr (0, [.null, .null, iv 0, .null, .null, .null, .null, .null, .null, .null, .null, .null]))] 0 0 0 [] [some (.ref h0)]
  refine bw_aload_n G dX9_init_0 rfl ?_
  refine bw_objinit G dX9_init_1 tx71 tx1 tx2 ⟨by decide, by decide⟩ (Nat.le_of_ble_eq_true rfl) ?_
  refine bw_aload_n G dX9_init_4 rfl ?_
  refine bc_new (ci := 1) (fs := [iv 0, iv 0, .null, .null, .null, .null, .null]) tyX3 G dX9_init_5 inX3 tyX3_ok tx72 tx42 tx43 rfl (fun j hj => by rcases (show j = 0 ∨ j = 1 ∨ j = 2 ∨ j = 3 ∨ j = 4 ∨ j = 5 ∨ j = 6 by omega) with rfl | rfl | rfl | rfl | rfl | rfl | rfl <;> rfl) (by decide) (by decide) (fun q5 => ?_)
  refine bw_dup G dX9_init_8 (k := ?_)
  refine bc_ctorN (host := "LabelsOfLines") (av := []) G dX9_init_9 (by decide) tx44 tx43 tx45 c_X3_init ⟨rfl, (by decide +kernel : plainY yX3_init 0)⟩ rfl ⟨by decide, by decide⟩ (Nat.le_of_ble_eq_true rfl) (by decide) (by decide) (fun u9 => ?_)
  refine bc_putF (j := 0) (fs' := [.ref q5, .null, iv 0, .null, .null, .null, .null, .null, .null, .null, .null, .null]) (ty := .object "LabelsOfLines$Net") (T := TX9) (N := 12) tyX9 G hB dX9_init_12 inX9 tyX9_ok nmX9 tx73 rfl (by decide) rfl rfl rfl rfl rfl (Nat.le_of_ble_eq_true rfl) rfl ?_
  refine bw_aload_n G dX9_init_15 rfl ?_
  refine bc_new (ci := 1) (fs := [iv 0, iv 0, .null, .null, .null, .null, .null]) tyX3 G dX9_init_16 inX3 tyX3_ok tx72 tx42 tx43 rfl (fun j hj => by rcases (show j = 0 ∨ j = 1 ∨ j = 2 ∨ j = 3 ∨ j = 4 ∨ j = 5 ∨ j = 6 by omega) with rfl | rfl | rfl | rfl | rfl | rfl | rfl <;> rfl) (by decide) (by decide) (fun q16 => ?_)
  refine bw_dup G dX9_init_19 (k := ?_)
  refine bc_ctorN (host := "LabelsOfLines") (av := []) G dX9_init_20 (by decide) tx44 tx43 tx45 c_X3_init ⟨rfl, (by decide +kernel : plainY yX3_init 0)⟩ rfl ⟨by decide, by decide⟩ (Nat.le_of_ble_eq_true rfl) (by decide) (by decide) (fun u20 => ?_)
  refine bc_putF (j := 1) (fs' := [.ref q5, .ref q16, iv 0, .null, .null, .null, .null, .null, .null, .null, .null, .null]) (ty := .object "LabelsOfLines$Net") (T := TX9) (N := 12) tyX9 G hB dX9_init_23 inX9 tyX9_ok nmX9 tx74 rfl (by decide) rfl rfl rfl rfl rfl (Nat.le_of_ble_eq_true rfl) rfl ?_
  refine bw_aload_n G dX9_init_26 rfl ?_
  refine bw_iconst G dX9_init_27 (k := ?_)
  refine bc_put (j := 2) (fs' := [.ref q5, .ref q16, iv (0), .null, .null, .null, .null, .null, .null, .null, .null, .null]) (ty := .boolean) (Cn := RX9) (T := TX9) (N := 12) tyX9 G dX9_init_28 inX9 tyX9_ok nmX9 tx75 rfl (by decide) rfl rfl rfl rfl rfl (Nat.le_of_ble_eq_true rfl) rfl ?_
  refine bw_aload_n G dX9_init_31 rfl ?_
  refine bc_new (ci := 2) (fs := [.null, .null, .null, iv 0, iv 0]) tyX4 G dX9_init_32 inX4 tyX4_ok tx76 tx77 tx78 rfl (fun j hj => by rcases (show j = 0 ∨ j = 1 ∨ j = 2 ∨ j = 3 ∨ j = 4 by omega) with rfl | rfl | rfl | rfl | rfl <;> rfl) (by decide) (by decide) (fun q32 => ?_)
  refine bw_dup G dX9_init_35 (k := ?_)
  refine bc_ctorN (host := "LabelsOfLines") (av := []) G dX9_init_36 (by decide) tx79 tx78 tx80 c_X4_init ⟨rfl, (by decide +kernel : plainY yX4_init 0)⟩ rfl ⟨by decide, by decide⟩ (Nat.le_of_ble_eq_true rfl) (by decide) (by decide) (fun u36 => ?_)
  refine bc_putF (j := 3) (fs' := [.ref q5, .ref q16, iv (0), .ref q32, .null, .null, .null, .null, .null, .null, .null, .null]) (ty := .object "LabelsOfLines$Past") (T := TX9) (N := 12) tyX9 G hB dX9_init_39 inX9 tyX9_ok nmX9 tx81 rfl (by decide) rfl rfl rfl rfl rfl (Nat.le_of_ble_eq_true rfl) rfl ?_
  refine bw_aload_n G dX9_init_42 rfl ?_
  refine bc_new (ci := 3) (fs := [.null, .null, .null, .null, .null, .null, iv 0, iv 0]) tyX7 G dX9_init_43 inX7 tyX7_ok tx82 tx83 tx84 rfl (fun j hj => by rcases (show j = 0 ∨ j = 1 ∨ j = 2 ∨ j = 3 ∨ j = 4 ∨ j = 5 ∨ j = 6 ∨ j = 7 by omega) with rfl | rfl | rfl | rfl | rfl | rfl | rfl | rfl <;> rfl) (by decide) (by decide) (fun q43 => ?_)
  refine bw_dup G dX9_init_46 (k := ?_)
  refine bw_aload_n G dX9_init_47 rfl ?_
  refine bw_get (j := 0) (v := .ref q5) (Cn := RX9) (T := TX9) (N := 12) G dX9_init_48 inX9 tx73 rfl (by decide) rfl rfl ?_
  refine bc_ctor (av := [.ref q5]) G dX9_init_51 tx87 tx85 tx84 tx86 c_X7_init ⟨rfl, (by decide +kernel : plainY yX7_init 1)⟩ rfl ⟨by decide, by decide⟩ (Nat.le_of_ble_eq_true rfl) (by decide) (by decide) (fun u51 => ?_)
  refine bc_putF (j := 4) (fs' := [.ref q5, .ref q16, iv (0), .ref q32, .ref q43, .null, .null, .null, .null, .null, .null, .null]) (ty := .object "LabelsOfLines$Thought") (T := TX9) (N := 12) tyX9 G hB dX9_init_54 inX9 tyX9_ok nmX9 tx88 rfl (by decide) rfl rfl rfl rfl rfl (Nat.le_of_ble_eq_true rfl) rfl ?_
  refine bw_aload_n G dX9_init_57 rfl ?_
  refine bc_new (ci := 4) (fs := [.null, .null]) tyX6 G dX9_init_58 inX6 tyX6_ok tx89 tx90 tx91 rfl (fun j hj => by rcases (show j = 0 ∨ j = 1 by omega) with rfl | rfl <;> rfl) (by decide) (by decide) (fun q58 => ?_)
  refine bw_dup G dX9_init_61 (k := ?_)
  refine bw_aload_n G dX9_init_62 rfl ?_
  refine bw_get (j := 0) (v := .ref q5) (Cn := RX9) (T := TX9) (N := 12) G dX9_init_63 inX9 tx73 rfl (by decide) rfl rfl ?_
  refine bc_ctor (av := [.ref q5]) G dX9_init_66 tx94 tx92 tx91 tx93 c_X6_init ⟨rfl, (by decide +kernel : plainY yX6_init 1)⟩ rfl ⟨by decide, by decide⟩ (Nat.le_of_ble_eq_true rfl) (by decide) (by decide) (fun u66 => ?_)
  refine bc_putF (j := 5) (fs' := [.ref q5, .ref q16, iv (0), .ref q32, .ref q43, .ref q58, .null, .null, .null, .null, .null, .null]) (ty := .object "LabelsOfLines$Shape") (T := TX9) (N := 12) tyX9 G hB dX9_init_69 inX9 tyX9_ok nmX9 tx95 rfl (by decide) rfl rfl rfl rfl rfl (Nat.le_of_ble_eq_true rfl) rfl ?_
  refine bw_aload_n G dX9_init_72 rfl ?_
  refine bc_new (ci := 5) (fs := [.null, .null, iv 0]) tyX1 G dX9_init_73 inX1 tyX1_ok tx96 tx97 tx98 rfl (fun j hj => by rcases (show j = 0 ∨ j = 1 ∨ j = 2 by omega) with rfl | rfl | rfl <;> rfl) (by decide) (by decide) (fun q73 => ?_)
  refine bw_dup G dX9_init_76 (k := ?_)
  refine bc_ctorN (host := "LabelsOfLines") (av := []) G dX9_init_77 (by decide) tx99 tx98 tx100 c_X1_init ⟨rfl, (by decide +kernel : plainY yX1_init 0)⟩ rfl ⟨by decide, by decide⟩ (Nat.le_of_ble_eq_true rfl) (by decide) (by decide) (fun u77 => ?_)
  refine bc_putF (j := 6) (fs' := [.ref q5, .ref q16, iv (0), .ref q32, .ref q43, .ref q58, .ref q73, .null, .null, .null, .null, .null]) (ty := .object "LabelsOfLines$Letters") (T := TX9) (N := 12) tyX9 G hB dX9_init_80 inX9 tyX9_ok nmX9 tx101 rfl (by decide) rfl rfl rfl rfl rfl (Nat.le_of_ble_eq_true rfl) rfl ?_
  refine bw_aload_n G dX9_init_83 rfl ?_
  refine bc_new (ci := 6) (fs := [.null, iv 0]) tyX8 G dX9_init_84 inX8 tyX8_ok tx102 tx103 tx104 rfl (fun j hj => by rcases (show j = 0 ∨ j = 1 by omega) with rfl | rfl <;> rfl) (by decide) (by decide) (fun q84 => ?_)
  refine bw_dup G dX9_init_87 (k := ?_)
  refine bc_ctorN (host := "LabelsOfLines") (av := []) G dX9_init_88 (by decide) tx105 tx104 tx106 c_X8_init ⟨rfl, (by decide +kernel : plainY yX8_init 0)⟩ rfl ⟨by decide, by decide⟩ (Nat.le_of_ble_eq_true rfl) (by decide) (by decide) (fun u88 => ?_)
  refine bc_putF (j := 7) (fs' := [.ref q5, .ref q16, iv (0), .ref q32, .ref q43, .ref q58, .ref q73, .ref q84, .null, .null, .null, .null]) (ty := .object "LabelsOfLines$Writing") (T := TX9) (N := 12) tyX9 G hB dX9_init_91 inX9 tyX9_ok nmX9 tx107 rfl (by decide) rfl rfl rfl rfl rfl (Nat.le_of_ble_eq_true rfl) rfl ?_
  refine bw_aload_n G dX9_init_94 rfl ?_
  refine bc_new (ci := 7) (fs := [.null, .null]) tyX2 G dX9_init_95 inX2 tyX2_ok tx108 tx109 tx110 rfl (fun j hj => by rcases (show j = 0 ∨ j = 1 by omega) with rfl | rfl <;> rfl) (by decide) (by decide) (fun q95 => ?_)
  refine bw_dup G dX9_init_98 (k := ?_)
  refine bc_ctor (av := []) G dX9_init_99 tx113 tx111 tx110 tx112 c_X2_init ⟨rfl, (by decide +kernel : plainY yX2_init 0)⟩ rfl ⟨by decide, by decide⟩ (Nat.le_of_ble_eq_true rfl) (by decide) (by decide) (fun u99 => ?_)
  refine bc_putF (j := 8) (fs' := [.ref q5, .ref q16, iv (0), .ref q32, .ref q43, .ref q58, .ref q73, .ref q84, .ref q95, .null, .null, .null]) (ty := .object "LabelsOfLines$Lists") (T := TX9) (N := 12) tyX9 G hB dX9_init_102 inX9 tyX9_ok nmX9 tx114 rfl (by decide) rfl rfl rfl rfl rfl (Nat.le_of_ble_eq_true rfl) rfl ?_
  refine bw_aload_n G dX9_init_105 rfl ?_
  refine bw_bipush G dX9_init_106 (k := ?_)
  refine bc_newI (N := 7) G dX9_init_108 tx5 (by decide) rfl (by decide) (by decide) (by decide) (fun q108 => ?_)
  refine bc_putF (j := 9) (fs' := [.ref q5, .ref q16, iv (0), .ref q32, .ref q43, .ref q58, .ref q73, .ref q84, .ref q95, .ref q108, .null, .null]) (ty := .array .int) (T := TX9) (N := 12) tyX9 G hB dX9_init_110 inX9 tyX9_ok nmX9 tx115 rfl (by decide) rfl rfl rfl rfl rfl (Nat.le_of_ble_eq_true rfl) rfl ?_
  refine bw_aload_n G dX9_init_113 rfl ?_
  refine bw_bipush G dX9_init_114 (k := ?_)
  refine bc_newI (N := 7) G dX9_init_116 tx5 (by decide) rfl (by decide) (by decide) (by decide) (fun q116 => ?_)
  refine bc_putF (j := 10) (fs' := [.ref q5, .ref q16, iv (0), .ref q32, .ref q43, .ref q58, .ref q73, .ref q84, .ref q95, .ref q108, .ref q116, .null]) (ty := .array .int) (T := TX9) (N := 12) tyX9 G hB dX9_init_118 inX9 tyX9_ok nmX9 tx116 rfl (by decide) rfl rfl rfl rfl rfl (Nat.le_of_ble_eq_true rfl) rfl ?_
  refine bw_aload_n G dX9_init_121 rfl ?_
  refine bw_bipush G dX9_init_122 (k := ?_)
  refine bc_newI (N := 7) G dX9_init_124 tx5 (by decide) rfl (by decide) (by decide) (by decide) (fun q124 => ?_)
  refine bc_putF (j := 11) (fs' := [.ref q5, .ref q16, iv (0), .ref q32, .ref q43, .ref q58, .ref q73, .ref q84, .ref q95, .ref q108, .ref q116, .ref q124]) (ty := .array .int) (T := TX9) (N := 12) tyX9 G hB dX9_init_126 inX9 tyX9_ok nmX9 tx117 rfl (by decide) rfl rfl rfl rfl rfl (Nat.le_of_ble_eq_true rfl) rfl ?_
  exact bw_vret ⟨fun i => [q5, q16, q32, q43, q58, q73, q84, q95, q108, q116, q124].getD i 0, (fun k => if k = 0 then u9 else if k = 1 then u20 else if k = 2 then u36 else if k = 3 then u51 else if k = 4 then u66 else if k = 6 then u88 else if k = 7 then u99 else fun _ _ => 0), u77⟩ G T hA dX9_init_129 rfl
end INITS
