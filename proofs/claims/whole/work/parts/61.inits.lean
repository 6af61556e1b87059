def zI (g : Nat → ClassId) (N : Nat) : va_E := .inl (g 0, N, .inl (fun _ => 0))
def zJ (g : Nat → ClassId) (N : Nat) : va_E := .inl (g 1, N, .inr (.inl (fun _ => 0)))
section INITS
variable {D : va_G} {g : Nat → ClassId}
theorem tx0 : Cond.methodLink RX3 3 Lib.objectInit ∈ tblG := tblG_of (List.mem_of_getElem? (i := 93) (by decide +kernel)) rfl
theorem tx1 : Cond.instanceMethod Lib.objectInit ∈ tblG := tblG_of (List.mem_of_getElem? (i := 86) (by decide +kernel)) rfl
theorem tx2 : Cond.code Lib.objectInit ⟨#[0xb1]⟩ 1 none ∈ tblG := tblG_of (List.mem_of_getElem? (i := 87) (by decide +kernel)) rfl
theorem tx3 : Cond.fieldLink RX3 9 RX3 "pointCount" "I" ∈ tblG := tblG_of (List.mem_of_getElem? (i := 94) (by decide +kernel)) rfl
theorem tx4 : Cond.fieldLink RX3 15 RX3 "lineCount" "I" ∈ tblG := tblG_of (List.mem_of_getElem? (i := 99) (by decide +kernel)) rfl
theorem tx5 : Cond.arrayClass .int ∈ tblG := tblG_of (List.mem_of_getElem? (i := 144) (by decide +kernel)) rfl
theorem tx6 : Cond.fieldLink RX3 18 RX3 "kinds" "[I" ∈ tblG := tblG_of (List.mem_of_getElem? (i := 105) (by decide +kernel)) rfl
theorem tx7 : Cond.fieldLink RX3 22 RX3 "figures" "[I" ∈ tblG := tblG_of (List.mem_of_getElem? (i := 109) (by decide +kernel)) rfl
theorem tx8 : Cond.fieldLink RX3 25 RX3 "firsts" "[I" ∈ tblG := tblG_of (List.mem_of_getElem? (i := 114) (by decide +kernel)) rfl
theorem tx9 : Cond.fieldLink RX3 28 RX3 "seconds" "[I" ∈ tblG := tblG_of (List.mem_of_getElem? (i := 119) (by decide +kernel)) rfl
theorem tx10 : Cond.fieldLink RX3 31 RX3 "labels" "[I" ∈ tblG := tblG_of (List.mem_of_getElem? (i := 124) (by decide +kernel)) rfl
def wX3 (g : Nat → ClassId) (h0 : Nat) (u : Nat → Nat → Nat) : va_W := (h0, .inr (1, [iv (4), iv (0), .ref (u 0 0), .ref (u 0 1), .ref (u 0 2), .ref (u 0 3), .ref (u 0 4)])) :: (([] : va_W) ++ [((u 0 0), zI g 8)] ++ [((u 0 1), zI g 8)] ++ [((u 0 2), zI g 8)] ++ [((u 0 3), zI g 8)] ++ [((u 0 4), zI g 8)])
set_option maxHeartbeats 4000000 in
theorem c_X3_init  : CtI D g yX3_init cX3_init 1 1 20 5 40 [] (.inr (1, [iv 0, iv 0, .null, .null, .null, .null, .null])) (fun h0 u => wX3 g h0  u) := by
  refine cti_of (by decide) rfl (fun _ => Nat.le_of_ble_eq_true rfl) (fun X A h0 G hB T hA => ?_)
  have G : Bd X D g A cX3_init RX3 1 1 20 5 40 := G
  show BW X D A [(h0, .inr (1, [iv 0, iv 0, .null, .null, .null, .null, .null]))] 0 0 0 [] [some (.ref h0)]
  refine bw_aload_n G dX3_init_0 rfl ?_
  refine bw_objinit G dX3_init_1 tx0 tx1 tx2 ⟨by decide, by decide⟩ (Nat.le_of_ble_eq_true rfl) ?_
  refine bw_aload_n G dX3_init_4 rfl ?_
  refine bw_iconst G dX3_init_5 (k := ?_)
  refine bw_put (ci := 1) (j := 0) (a := h0) (fs := [iv 0, iv 0, .null, .null, .null, .null, .null]) (rs := (([] : va_W))) (v := iv (4)) (ty := .int) (Cn := RX3) (T := TX3) (N := 7) tyX3 G dX3_init_6 inX3 tyX3_ok nmX3 tx3 rfl (by decide) rfl rfl rfl rfl rfl (Nat.le_of_ble_eq_true rfl) ?_
  refine bw_aload_n G dX3_init_9 rfl ?_
  refine bw_iconst G dX3_init_10 (k := ?_)
  refine bw_put (ci := 1) (j := 1) (a := h0) (fs := [iv (4), iv 0, .null, .null, .null, .null, .null]) (rs := (([] : va_W))) (v := iv (0)) (ty := .int) (Cn := RX3) (T := TX3) (N := 7) tyX3 G dX3_init_11 inX3 tyX3_ok nmX3 tx4 rfl (by decide) rfl rfl rfl rfl rfl (Nat.le_of_ble_eq_true rfl) ?_
  refine bw_aload_n G dX3_init_14 rfl ?_
  refine bw_bipush G dX3_init_15 (k := ?_)
  refine bw_newI (N := 8) G dX3_init_17 tx5 (by decide) rfl (by decide) (by decide) (by decide) (fun q17 => ?_)
  refine bw_putF (ci := 1) (j := 2) (a := h0) (fs := [iv (4), iv (0), .null, .null, .null, .null, .null]) (rs := (([] : va_W) ++ [(q17, zI g 8)])) (v := .ref q17) (ty := .array .int) (T := TX3) (N := 7) tyX3 G hB dX3_init_19 inX3 tyX3_ok nmX3 tx6 rfl (by decide) rfl rfl rfl rfl rfl (Nat.le_of_ble_eq_true rfl) ?_
  refine bw_aload_n G dX3_init_22 rfl ?_
  refine bw_bipush G dX3_init_23 (k := ?_)
  refine bw_newI (N := 8) G dX3_init_25 tx5 (by decide) rfl (by decide) (by decide) (by decide) (fun q25 => ?_)
  refine bw_putF (ci := 1) (j := 3) (a := h0) (fs := [iv (4), iv (0), .ref q17, .null, .null, .null, .null]) (rs := (([] : va_W) ++ [(q17, zI g 8)] ++ [(q25, zI g 8)])) (v := .ref q25) (ty := .array .int) (T := TX3) (N := 7) tyX3 G hB dX3_init_27 inX3 tyX3_ok nmX3 tx7 rfl (by decide) rfl rfl rfl rfl rfl (Nat.le_of_ble_eq_true rfl) ?_
  refine bw_aload_n G dX3_init_30 rfl ?_
  refine bw_bipush G dX3_init_31 (k := ?_)
  refine bw_newI (N := 8) G dX3_init_33 tx5 (by decide) rfl (by decide) (by decide) (by decide) (fun q33 => ?_)
  refine bw_putF (ci := 1) (j := 4) (a := h0) (fs := [iv (4), iv (0), .ref q17, .ref q25, .null, .null, .null]) (rs := (([] : va_W) ++ [(q17, zI g 8)] ++ [(q25, zI g 8)] ++ [(q33, zI g 8)])) (v := .ref q33) (ty := .array .int) (T := TX3) (N := 7) tyX3 G hB dX3_init_35 inX3 tyX3_ok nmX3 tx8 rfl (by decide) rfl rfl rfl rfl rfl (Nat.le_of_ble_eq_true rfl) ?_
  refine bw_aload_n G dX3_init_38 rfl ?_
  refine bw_bipush G dX3_init_39 (k := ?_)
  refine bw_newI (N := 8) G dX3_init_41 tx5 (by decide) rfl (by decide) (by decide) (by decide) (fun q41 => ?_)
  refine bw_putF (ci := 1) (j := 5) (a := h0) (fs := [iv (4), iv (0), .ref q17, .ref q25, .ref q33, .null, .null]) (rs := (([] : va_W) ++ [(q17, zI g 8)] ++ [(q25, zI g 8)] ++ [(q33, zI g 8)] ++ [(q41, zI g 8)])) (v := .ref q41) (ty := .array .int) (T := TX3) (N := 7) tyX3 G hB dX3_init_43 inX3 tyX3_ok nmX3 tx9 rfl (by decide) rfl rfl rfl rfl rfl (Nat.le_of_ble_eq_true rfl) ?_
  refine bw_aload_n G dX3_init_46 rfl ?_
  refine bw_bipush G dX3_init_47 (k := ?_)
  refine bw_newI (N := 8) G dX3_init_49 tx5 (by decide) rfl (by decide) (by decide) (by decide) (fun q49 => ?_)
  refine bw_putF (ci := 1) (j := 6) (a := h0) (fs := [iv (4), iv (0), .ref q17, .ref q25, .ref q33, .ref q41, .null]) (rs := (([] : va_W) ++ [(q17, zI g 8)] ++ [(q25, zI g 8)] ++ [(q33, zI g 8)] ++ [(q41, zI g 8)] ++ [(q49, zI g 8)])) (v := .ref q49) (ty := .array .int) (T := TX3) (N := 7) tyX3 G hB dX3_init_51 inX3 tyX3_ok nmX3 tx10 rfl (by decide) rfl rfl rfl rfl rfl (Nat.le_of_ble_eq_true rfl) ?_
  exact bw_vret (fun _ i => [q17, q25, q33, q41, q49].getD i 0) G T hA dX3_init_54 rfl
theorem tx11 : Cond.methodLink RX4 3 Lib.objectInit ∈ tblG := tblG_of (List.mem_of_getElem? (i := 150) (by decide +kernel)) rfl
theorem tx12 : Cond.classLink RX4 9 "[[I" ∈ tblG := tblG_of (List.mem_of_getElem? (i := 151) (by decide +kernel)) rfl
theorem tx13 : Cond.fieldLink RX4 11 RX4 "kinds" "[[I" ∈ tblG := tblG_of (List.mem_of_getElem? (i := 153) (by decide +kernel)) rfl
theorem tx14 : Cond.fieldLink RX4 16 RX4 "figures" "[[I" ∈ tblG := tblG_of (List.mem_of_getElem? (i := 154) (by decide +kernel)) rfl
theorem tx15 : Cond.fieldLink RX4 19 RX4 "labels" "[[I" ∈ tblG := tblG_of (List.mem_of_getElem? (i := 155) (by decide +kernel)) rfl
theorem tx16 : Cond.fieldLink RX4 22 RX4 "next" "I" ∈ tblG := tblG_of (List.mem_of_getElem? (i := 156) (by decide +kernel)) rfl
theorem tx17 : Cond.fieldLink RX4 26 RX4 "count" "I" ∈ tblG := tblG_of (List.mem_of_getElem? (i := 157) (by decide +kernel)) rfl
def wX4 (g : Nat → ClassId) (h0 : Nat) (u : Nat → Nat → Nat) : va_W := (h0, .inr (2, [.ref (u 0 0), .ref (u 0 1), .ref (u 0 2), iv (0), iv (0)])) :: (([] : va_W) ++ ioI g 8 8 (u 0 0) (u 1) ++ ioI g 8 8 (u 0 1) (u 2) ++ ioI g 8 8 (u 0 2) (u 3))
set_option maxHeartbeats 4000000 in
theorem c_X4_init  : CtI D g yX4_init cX4_init 1 1 20 27 216 [] (.inr (2, [.null, .null, .null, iv 0, iv 0])) (fun h0 u => wX4 g h0  u) := by
  refine cti_of (by decide) rfl (fun _ => Nat.le_of_ble_eq_true rfl) (fun X A h0 G hB T hA => ?_)
  have G : Bd X D g A cX4_init RX4 1 1 20 27 216 := G
  show BW X D A [(h0, .inr (2, [.null, .null, .null, iv 0, iv 0]))] 0 0 0 [] [some (.ref h0)]
  refine bw_aload_n G dX4_init_0 rfl ?_
  refine bw_objinit G dX4_init_1 tx11 tx1 tx2 ⟨by decide, by decide⟩ (Nat.le_of_ble_eq_true rfl) ?_
  refine bw_aload_n G dX4_init_4 rfl ?_
  refine bw_bipush G dX4_init_5 (k := ?_)
  refine bw_bipush G dX4_init_7 (k := ?_)
  refine bw_mnaI (N := 8) (K := 8) G dX4_init_9 tx12 tx5 (by decide) (by decide) rfl rfl (by decide) (by decide) (by decide) (by decide) (fun q9 r9 => ?_)
  refine bw_putF (ci := 2) (j := 0) (a := h0) (fs := [.null, .null, .null, iv 0, iv 0]) (rs := (([] : va_W) ++ ioI g 8 8 q9 r9)) (v := .ref q9) (ty := .array (.array .int)) (T := TX4) (N := 5) tyX4 G hB dX4_init_13 inX4 tyX4_ok nmX4 tx13 rfl (by decide) rfl rfl rfl rfl rfl (Nat.le_of_ble_eq_true rfl) ?_
  refine bw_aload_n G dX4_init_16 rfl ?_
  refine bw_bipush G dX4_init_17 (k := ?_)
  refine bw_bipush G dX4_init_19 (k := ?_)
  refine bw_mnaI (N := 8) (K := 8) G dX4_init_21 tx12 tx5 (by decide) (by decide) rfl rfl (by decide) (by decide) (by decide) (by decide) (fun q21 r21 => ?_)
  refine bw_putF (ci := 2) (j := 1) (a := h0) (fs := [.ref q9, .null, .null, iv 0, iv 0]) (rs := (([] : va_W) ++ ioI g 8 8 q9 r9 ++ ioI g 8 8 q21 r21)) (v := .ref q21) (ty := .array (.array .int)) (T := TX4) (N := 5) tyX4 G hB dX4_init_25 inX4 tyX4_ok nmX4 tx14 rfl (by decide) rfl rfl rfl rfl rfl (Nat.le_of_ble_eq_true rfl) ?_
  refine bw_aload_n G dX4_init_28 rfl ?_
  refine bw_bipush G dX4_init_29 (k := ?_)
  refine bw_bipush G dX4_init_31 (k := ?_)
  refine bw_mnaI (N := 8) (K := 8) G dX4_init_33 tx12 tx5 (by decide) (by decide) rfl rfl (by decide) (by decide) (by decide) (by decide) (fun q33 r33 => ?_)
  refine bw_putF (ci := 2) (j := 2) (a := h0) (fs := [.ref q9, .ref q21, .null, iv 0, iv 0]) (rs := (([] : va_W) ++ ioI g 8 8 q9 r9 ++ ioI g 8 8 q21 r21 ++ ioI g 8 8 q33 r33)) (v := .ref q33) (ty := .array (.array .int)) (T := TX4) (N := 5) tyX4 G hB dX4_init_37 inX4 tyX4_ok nmX4 tx15 rfl (by decide) rfl rfl rfl rfl rfl (Nat.le_of_ble_eq_true rfl) ?_
  refine bw_aload_n G dX4_init_40 rfl ?_
  refine bw_iconst G dX4_init_41 (k := ?_)
  refine bw_put (ci := 2) (j := 3) (a := h0) (fs := [.ref q9, .ref q21, .ref q33, iv 0, iv 0]) (rs := (([] : va_W) ++ ioI g 8 8 q9 r9 ++ ioI g 8 8 q21 r21 ++ ioI g 8 8 q33 r33)) (v := iv (0)) (ty := .int) (Cn := RX4) (T := TX4) (N := 5) tyX4 G dX4_init_42 inX4 tyX4_ok nmX4 tx16 rfl (by decide) rfl rfl rfl rfl rfl (Nat.le_of_ble_eq_true rfl) ?_
  refine bw_aload_n G dX4_init_45 rfl ?_
  refine bw_iconst G dX4_init_46 (k := ?_)
  refine bw_put (ci := 2) (j := 4) (a := h0) (fs := [.ref q9, .ref q21, .ref q33, iv (0), iv 0]) (rs := (([] : va_W) ++ ioI g 8 8 q9 r9 ++ ioI g 8 8 q21 r21 ++ ioI g 8 8 q33 r33)) (v := iv (0)) (ty := .int) (Cn := RX4) (T := TX4) (N := 5) tyX4 G dX4_init_47 inX4 tyX4_ok nmX4 tx17 rfl (by decide) rfl rfl rfl rfl rfl (Nat.le_of_ble_eq_true rfl) ?_
  exact bw_vret (fun k => if k = 0 then (fun i => [q9, q21, q33].getD i 0) else if k = 1 then r9 else if k = 2 then r21 else if k = 3 then r33 else fun _ => 0) G T hA dX4_init_50 rfl
theorem tx18 : Cond.methodLink RX7 3 Lib.objectInit ∈ tblG := tblG_of (List.mem_of_getElem? (i := 175) (by decide +kernel)) rfl
theorem tx19 : Cond.fieldLink RX7 9 RX7 "labels" "[I" ∈ tblG := tblG_of (List.mem_of_getElem? (i := 177) (by decide +kernel)) rfl
theorem tx20 : Cond.fieldLink RX7 15 RX7 "sums" "[I" ∈ tblG := tblG_of (List.mem_of_getElem? (i := 179) (by decide +kernel)) rfl
theorem tx21 : Cond.fieldLink RX7 18 RX7 "forths" "[I" ∈ tblG := tblG_of (List.mem_of_getElem? (i := 180) (by decide +kernel)) rfl
theorem tx22 : Cond.fieldLink RX7 21 RX7 "backs" "[I" ∈ tblG := tblG_of (List.mem_of_getElem? (i := 181) (by decide +kernel)) rfl
theorem tx23 : Cond.fieldLink RX7 24 RX7 "lastLines" "[I" ∈ tblG := tblG_of (List.mem_of_getElem? (i := 182) (by decide +kernel)) rfl
theorem tx24 : Cond.fieldLink RX7 27 RX7 "found" "I" ∈ tblG := tblG_of (List.mem_of_getElem? (i := 183) (by decide +kernel)) rfl
theorem tx25 : Cond.fieldLink RX7 31 RX7 "seed" "I" ∈ tblG := tblG_of (List.mem_of_getElem? (i := 184) (by decide +kernel)) rfl
theorem tx26 : Cond.fieldLink RX7 34 RX7 "net" "LLabelsOfLines$Net;" ∈ tblG := tblG_of (List.mem_of_getElem? (i := 176) (by decide +kernel)) rfl
def wX7 (g : Nat → ClassId) (h0 : Nat) (n0 : Nat) (u : Nat → Nat → Nat) : va_W := (h0, .inr (3, [.ref n0, .ref (u 0 0), .ref (u 0 1), .ref (u 0 2), .ref (u 0 3), .ref (u 0 4), iv (0), iv (0)])) :: (([] : va_W) ++ [((u 0 0), zI g 8)] ++ [((u 0 1), zI g 7)] ++ [((u 0 2), zI g 8)] ++ [((u 0 3), zI g 8)] ++ [((u 0 4), zI g 7)])
set_option maxHeartbeats 4000000 in
theorem c_X7_init {n0 : Nat} : CtI D g yX7_init cX7_init 2 1 20 5 38 [.ref n0] (.inr (3, [.null, .null, .null, .null, .null, .null, iv 0, iv 0])) (fun h0 u => wX7 g h0 n0 u) := by
  refine cti_of (by decide) rfl (fun _ => Nat.le_of_ble_eq_true rfl) (fun X A h0 G hB T hA => ?_)
  have G : Bd X D g A cX7_init RX7 2 1 20 5 38 := G
  show BW X D A [(h0, .inr (3, [.null, .null, .null, .null, .null, .null, iv 0, iv 0]))] 0 0 0 [] [some (.ref h0), some (.ref n0)]
  refine bw_aload_n G dX7_init_0 rfl ?_
  refine bw_objinit G dX7_init_1 tx18 tx1 tx2 ⟨by decide, by decide⟩ (Nat.le_of_ble_eq_true rfl) ?_
  refine bw_aload_n G dX7_init_4 rfl ?_
  refine bw_bipush G dX7_init_5 (k := ?_)
  refine bw_newI (N := 8) G dX7_init_7 tx5 (by decide) rfl (by decide) (by decide) (by decide) (fun q7 => ?_)
  refine bw_putF (ci := 3) (j := 1) (a := h0) (fs := [.null, .null, .null, .null, .null, .null, iv 0, iv 0]) (rs := (([] : va_W) ++ [(q7, zI g 8)])) (v := .ref q7) (ty := .array .int) (T := TX7) (N := 8) tyX7 G hB dX7_init_9 inX7 tyX7_ok nmX7 tx19 rfl (by decide) rfl rfl rfl rfl rfl (Nat.le_of_ble_eq_true rfl) ?_
  refine bw_aload_n G dX7_init_12 rfl ?_
  refine bw_bipush G dX7_init_13 (k := ?_)
  refine bw_newI (N := 7) G dX7_init_15 tx5 (by decide) rfl (by decide) (by decide) (by decide) (fun q15 => ?_)
  refine bw_putF (ci := 3) (j := 2) (a := h0) (fs := [.null, .ref q7, .null, .null, .null, .null, iv 0, iv 0]) (rs := (([] : va_W) ++ [(q7, zI g 8)] ++ [(q15, zI g 7)])) (v := .ref q15) (ty := .array .int) (T := TX7) (N := 8) tyX7 G hB dX7_init_17 inX7 tyX7_ok nmX7 tx20 rfl (by decide) rfl rfl rfl rfl rfl (Nat.le_of_ble_eq_true rfl) ?_
  refine bw_aload_n G dX7_init_20 rfl ?_
  refine bw_bipush G dX7_init_21 (k := ?_)
  refine bw_newI (N := 8) G dX7_init_23 tx5 (by decide) rfl (by decide) (by decide) (by decide) (fun q23 => ?_)
  refine bw_putF (ci := 3) (j := 3) (a := h0) (fs := [.null, .ref q7, .ref q15, .null, .null, .null, iv 0, iv 0]) (rs := (([] : va_W) ++ [(q7, zI g 8)] ++ [(q15, zI g 7)] ++ [(q23, zI g 8)])) (v := .ref q23) (ty := .array .int) (T := TX7) (N := 8) tyX7 G hB dX7_init_25 inX7 tyX7_ok nmX7 tx21 rfl (by decide) rfl rfl rfl rfl rfl (Nat.le_of_ble_eq_true rfl) ?_
  refine bw_aload_n G dX7_init_28 rfl ?_
  refine bw_bipush G dX7_init_29 (k := ?_)
  refine bw_newI (N := 8) G dX7_init_31 tx5 (by decide) rfl (by decide) (by decide) (by decide) (fun q31 => ?_)
  refine bw_putF (ci := 3) (j := 4) (a := h0) (fs := [.null, .ref q7, .ref q15, .ref q23, .null, .null, iv 0, iv 0]) (rs := (([] : va_W) ++ [(q7, zI g 8)] ++ [(q15, zI g 7)] ++ [(q23, zI g 8)] ++ [(q31, zI g 8)])) (v := .ref q31) (ty := .array .int) (T := TX7) (N := 8) tyX7 G hB dX7_init_33 inX7 tyX7_ok nmX7 tx22 rfl (by decide) rfl rfl rfl rfl rfl (Nat.le_of_ble_eq_true rfl) ?_
  refine bw_aload_n G dX7_init_36 rfl ?_
  refine bw_bipush G dX7_init_37 (k := ?_)
  refine bw_newI (N := 7) G dX7_init_39 tx5 (by decide) rfl (by decide) (by decide) (by decide) (fun q39 => ?_)
  refine bw_putF (ci := 3) (j := 5) (a := h0) (fs := [.null, .ref q7, .ref q15, .ref q23, .ref q31, .null, iv 0, iv 0]) (rs := (([] : va_W) ++ [(q7, zI g 8)] ++ [(q15, zI g 7)] ++ [(q23, zI g 8)] ++ [(q31, zI g 8)] ++ [(q39, zI g 7)])) (v := .ref q39) (ty := .array .int) (T := TX7) (N := 8) tyX7 G hB dX7_init_41 inX7 tyX7_ok nmX7 tx23 rfl (by decide) rfl rfl rfl rfl rfl (Nat.le_of_ble_eq_true rfl) ?_
  refine bw_aload_n G dX7_init_44 rfl ?_
  refine bw_iconst G dX7_init_45 (k := ?_)
  refine bw_put (ci := 3) (j := 6) (a := h0) (fs := [.null, .ref q7, .ref q15, .ref q23, .ref q31, .ref q39, iv 0, iv 0]) (rs := (([] : va_W) ++ [(q7, zI g 8)] ++ [(q15, zI g 7)] ++ [(q23, zI g 8)] ++ [(q31, zI g 8)] ++ [(q39, zI g 7)])) (v := iv (0)) (ty := .int) (Cn := RX7) (T := TX7) (N := 8) tyX7 G dX7_init_46 inX7 tyX7_ok nmX7 tx24 rfl (by decide) rfl rfl rfl rfl rfl (Nat.le_of_ble_eq_true rfl) ?_
  refine bw_aload_n G dX7_init_49 rfl ?_
  refine bw_iconst G dX7_init_50 (k := ?_)
  refine bw_put (ci := 3) (j := 7) (a := h0) (fs := [.null, .ref q7, .ref q15, .ref q23, .ref q31, .ref q39, iv (0), iv 0]) (rs := (([] : va_W) ++ [(q7, zI g 8)] ++ [(q15, zI g 7)] ++ [(q23, zI g 8)] ++ [(q31, zI g 8)] ++ [(q39, zI g 7)])) (v := iv (0)) (ty := .int) (Cn := RX7) (T := TX7) (N := 8) tyX7 G dX7_init_51 inX7 tyX7_ok nmX7 tx25 rfl (by decide) rfl rfl rfl rfl rfl (Nat.le_of_ble_eq_true rfl) ?_
  refine bw_aload_n G dX7_init_54 rfl ?_
  refine bw_aload_n G dX7_init_55 rfl ?_
  refine bw_putF (ci := 3) (j := 0) (a := h0) (fs := [.null, .ref q7, .ref q15, .ref q23, .ref q31, .ref q39, iv (0), iv (0)]) (rs := (([] : va_W) ++ [(q7, zI g 8)] ++ [(q15, zI g 7)] ++ [(q23, zI g 8)] ++ [(q31, zI g 8)] ++ [(q39, zI g 7)])) (v := .ref n0) (ty := .object "LabelsOfLines$Net") (T := TX7) (N := 8) tyX7 G hB dX7_init_56 inX7 tyX7_ok nmX7 tx26 rfl (by decide) rfl rfl rfl rfl rfl (Nat.le_of_ble_eq_true rfl) ?_
  exact bw_vret (fun _ i => [q7, q15, q23, q31, q39].getD i 0) G T hA dX7_init_59 rfl
theorem tx27 : Cond.methodLink RX6 3 Lib.objectInit ∈ tblG := tblG_of (List.mem_of_getElem? (i := 207) (by decide +kernel)) rfl
theorem tx28 : Cond.arrayClass .long ∈ tblG := tblG_of (List.mem_of_getElem? (i := 217) (by decide +kernel)) rfl
theorem tx29 : Cond.classLink RX6 9 "[[J" ∈ tblG := tblG_of (List.mem_of_getElem? (i := 208) (by decide +kernel)) rfl
theorem tx30 : Cond.fieldLink RX6 11 RX6 "rows" "[[J" ∈ tblG := tblG_of (List.mem_of_getElem? (i := 211) (by decide +kernel)) rfl
theorem tx31 : Cond.fieldLink RX6 16 RX6 "net" "LLabelsOfLines$Net;" ∈ tblG := tblG_of (List.mem_of_getElem? (i := 210) (by decide +kernel)) rfl
def wX6 (g : Nat → ClassId) (h0 : Nat) (n0 : Nat) (u : Nat → Nat → Nat) : va_W := (h0, .inr (4, [.ref n0, .ref (u 0 0)])) :: (([] : va_W) ++ ioJ g 7 8 (u 0 0) (u 1))
set_option maxHeartbeats 4000000 in
theorem c_X6_init {n0 : Nat} : CtI D g yX6_init cX6_init 2 1 20 8 63 [.ref n0] (.inr (4, [.null, .null])) (fun h0 u => wX6 g h0 n0 u) := by
  refine cti_of (by decide) rfl (fun _ => Nat.le_of_ble_eq_true rfl) (fun X A h0 G hB T hA => ?_)
  have G : Bd X D g A cX6_init RX6 2 1 20 8 63 := G
  show BW X D A [(h0, .inr (4, [.null, .null]))] 0 0 0 [] [some (.ref h0), some (.ref n0)]
  refine bw_aload_n G dX6_init_0 rfl ?_
  refine bw_objinit G dX6_init_1 tx27 tx1 tx2 ⟨by decide, by decide⟩ (Nat.le_of_ble_eq_true rfl) ?_
  refine bw_aload_n G dX6_init_4 rfl ?_
  refine bw_bipush G dX6_init_5 (k := ?_)
  refine bw_bipush G dX6_init_7 (k := ?_)
  refine bw_mnaJ (N := 7) (K := 8) G dX6_init_9 tx29 tx28 (by decide) (by decide) rfl rfl (by decide) (by decide) (by decide) (by decide) (fun q9 r9 => ?_)
  refine bw_putF (ci := 4) (j := 1) (a := h0) (fs := [.null, .null]) (rs := (([] : va_W) ++ ioJ g 7 8 q9 r9)) (v := .ref q9) (ty := .array (.array .long)) (T := TX6) (N := 2) tyX6 G hB dX6_init_13 inX6 tyX6_ok nmX6 tx30 rfl (by decide) rfl rfl rfl rfl rfl (Nat.le_of_ble_eq_true rfl) ?_
  refine bw_aload_n G dX6_init_16 rfl ?_
  refine bw_aload_n G dX6_init_17 rfl ?_
  refine bw_putF (ci := 4) (j := 0) (a := h0) (fs := [.null, .ref q9]) (rs := (([] : va_W) ++ ioJ g 7 8 q9 r9)) (v := .ref n0) (ty := .object "LabelsOfLines$Net") (T := TX6) (N := 2) tyX6 G hB dX6_init_18 inX6 tyX6_ok nmX6 tx31 rfl (by decide) rfl rfl rfl rfl rfl (Nat.le_of_ble_eq_true rfl) ?_
  exact bw_vret (fun k => if k = 0 then (fun i => [q9].getD i 0) else if k = 1 then r9 else fun _ => 0) G T hA dX6_init_21 rfl
theorem tx32 : Cond.methodLink RX8 3 Lib.objectInit ∈ tblG := tblG_of (List.mem_of_getElem? (i := 242) (by decide +kernel)) rfl
theorem tx33 : Cond.fieldLink RX8 11 RX8 "signs" "[I" ∈ tblG := tblG_of (List.mem_of_getElem? (i := 243) (by decide +kernel)) rfl
theorem tx34 : Cond.fieldLink RX8 15 RX8 "count" "I" ∈ tblG := tblG_of (List.mem_of_getElem? (i := 245) (by decide +kernel)) rfl
def wX8 (g : Nat → ClassId) (h0 : Nat) (u : Nat → Nat → Nat) : va_W := (h0, .inr (6, [.ref (u 0 0), iv (0)])) :: (([] : va_W) ++ [((u 0 0), zI g 115)])
set_option maxHeartbeats 4000000 in
theorem c_X8_init  : CtI D g yX8_init cX8_init 1 1 20 1 115 [] (.inr (6, [.null, iv 0])) (fun h0 u => wX8 g h0  u) := by
  refine cti_of (by decide) rfl (fun _ => Nat.le_of_ble_eq_true rfl) (fun X A h0 G hB T hA => ?_)
  have G : Bd X D g A cX8_init RX8 1 1 20 1 115 := G
  show BW X D A [(h0, .inr (6, [.null, iv 0]))] 0 0 0 [] [some (.ref h0)]
  refine bw_aload_n G dX8_init_0 rfl ?_
  refine bw_objinit G dX8_init_1 tx32 tx1 tx2 ⟨by decide, by decide⟩ (Nat.le_of_ble_eq_true rfl) ?_
  refine bw_aload_n G dX8_init_4 rfl ?_
  refine bw_bipush G dX8_init_5 (k := ?_)
  refine bw_newI (N := 115) G dX8_init_7 tx5 (by decide) rfl (by decide) (by decide) (by decide) (fun q7 => ?_)
  refine bw_putF (ci := 6) (j := 0) (a := h0) (fs := [.null, iv 0]) (rs := (([] : va_W) ++ [(q7, zI g 115)])) (v := .ref q7) (ty := .array .int) (T := TX8) (N := 2) tyX8 G hB dX8_init_9 inX8 tyX8_ok nmX8 tx33 rfl (by decide) rfl rfl rfl rfl rfl (Nat.le_of_ble_eq_true rfl) ?_
  refine bw_aload_n G dX8_init_12 rfl ?_
  refine bw_iconst G dX8_init_13 (k := ?_)
  refine bw_put (ci := 6) (j := 1) (a := h0) (fs := [.ref q7, iv 0]) (rs := (([] : va_W) ++ [(q7, zI g 115)])) (v := iv (0)) (ty := .int) (Cn := RX8) (T := TX8) (N := 2) tyX8 G dX8_init_14 inX8 tyX8_ok nmX8 tx34 rfl (by decide) rfl rfl rfl rfl rfl (Nat.le_of_ble_eq_true rfl) ?_
  exact bw_vret (fun _ i => [q7].getD i 0) G T hA dX8_init_17 rfl
theorem tx35 : Cond.methodLink RX2 3 Lib.objectInit ∈ tblG := tblG_of (List.mem_of_getElem? (i := 257) (by decide +kernel)) rfl
theorem tx36 : Cond.classLink RX2 9 "[[I" ∈ tblG := tblG_of (List.mem_of_getElem? (i := 258) (by decide +kernel)) rfl
theorem tx37 : Cond.fieldLink RX2 11 RX2 "rows" "[[I" ∈ tblG := tblG_of (List.mem_of_getElem? (i := 259) (by decide +kernel)) rfl
theorem tx38 : Cond.fieldLink RX2 16 RX2 "sizes" "[I" ∈ tblG := tblG_of (List.mem_of_getElem? (i := 261) (by decide +kernel)) rfl
def wX2 (g : Nat → ClassId) (h0 : Nat) (u : Nat → Nat → Nat) : va_W := (h0, .inr (7, [.ref (u 0 0), .ref (u 0 1)])) :: (([] : va_W) ++ ioI g 3 40 (u 0 0) (u 1) ++ [((u 0 1), .inl (g 0, 3, .inl (upd (upd (upd (fun _ => 0) (Int.toNat (0)) (Int32.ofInt (-1))) (Int.toNat ((0 + 1))) (Int32.ofInt (-1))) (Int.toNat (((0 + 1) + 1))) (Int32.ofInt (-1)))))])
set_option maxHeartbeats 4000000 in
theorem c_X2_init  : CtI D g yX2_init cX2_init 2 1 20 5 126 [] (.inr (7, [.null, .null])) (fun h0 u => wX2 g h0  u) := by
  refine cti_of (by decide) rfl (fun _ => Nat.le_of_ble_eq_true rfl) (fun X A h0 G hB T hA => ?_)
  have G : Bd X D g A cX2_init RX2 2 1 20 5 126 := G
  show BW X D A [(h0, .inr (7, [.null, .null]))] 0 0 0 [] [some (.ref h0), none]
  refine bw_aload_n G dX2_init_0 rfl ?_
  refine bw_objinit G dX2_init_1 tx35 tx1 tx2 ⟨by decide, by decide⟩ (Nat.le_of_ble_eq_true rfl) ?_
  refine bw_aload_n G dX2_init_4 rfl ?_
  refine bw_iconst G dX2_init_5 (k := ?_)
  refine bw_bipush G dX2_init_6 (k := ?_)
  refine bw_mnaI (N := 3) (K := 40) G dX2_init_8 tx36 tx5 (by decide) (by decide) rfl rfl (by decide) (by decide) (by decide) (by decide) (fun q8 r8 => ?_)
  refine bw_putF (ci := 7) (j := 0) (a := h0) (fs := [.null, .null]) (rs := (([] : va_W) ++ ioI g 3 40 q8 r8)) (v := .ref q8) (ty := .array (.array .int)) (T := TX2) (N := 2) tyX2 G hB dX2_init_12 inX2 tyX2_ok nmX2 tx37 rfl (by decide) rfl rfl rfl rfl rfl (Nat.le_of_ble_eq_true rfl) ?_
  refine bw_aload_n G dX2_init_15 rfl ?_
  refine bw_iconst G dX2_init_16 (k := ?_)
  refine bw_newI (N := 3) G dX2_init_17 tx5 (by decide) rfl (by decide) (by decide) (by decide) (fun q17 => ?_)
  refine bw_putF (ci := 7) (j := 1) (a := h0) (fs := [.ref q8, .null]) (rs := (([] : va_W) ++ ioI g 3 40 q8 r8 ++ [(q17, zI g 3)])) (v := .ref q17) (ty := .array .int) (T := TX2) (N := 2) tyX2 G hB dX2_init_19 inX2 tyX2_ok nmX2 tx38 rfl (by decide) rfl rfl rfl rfl rfl (Nat.le_of_ble_eq_true rfl) ?_
  refine bw_iconst G dX2_init_22 (k := ?_)
  refine bw_istore_1 G dX2_init_23 (k := ?_)
  refine bw_iload_n G dX2_init_24 rfl ?_
  refine bw_iconst G dX2_init_25 (k := ?_)
  refine bw_icmp_ge (tgt := 42) G dX2_init_26 (by decide) (by omega) (by omega) (fun c => absurd c (by omega)) (fun _ => ?_)
  refine bw_aload_n G dX2_init_29 rfl ?_
  refine bw_get (ci := 7) (j := 1) (a := h0) (fs := [.ref q8, .ref q17]) (rs := (([] : va_W) ++ ioI g 3 40 q8 r8 ++ [(q17, zI g 3)])) (v := .ref q17) (Cn := RX2) (T := TX2) (N := 2) G dX2_init_30 inX2 tx38 rfl (by decide) rfl rfl ?_
  refine bw_iload_n G dX2_init_33 rfl ?_
  refine bw_iconst G dX2_init_34 (k := ?_)
  refine bw_iastL (ws := ((h0, .inr (7, [.ref q8, .ref q17])) :: (([] : va_W) ++ ioI g 3 40 q8 r8))) (q := q17) (N := 3) (f := fun _ => 0) G dX2_init_35 (by decide) (by omega) ?_
  refine bw_iinc_1 G dX2_init_36 rfl (k := ?_)
  refine bw_goto (tgt := 24) G dX2_init_39 (by decide) ?_
  refine bw_iload_n G dX2_init_24 rfl ?_
  refine bw_iconst G dX2_init_25 (k := ?_)
  refine bw_icmp_ge (tgt := 42) G dX2_init_26 (by decide) (by omega) (by omega) (fun c => absurd c (by omega)) (fun _ => ?_)
  refine bw_aload_n G dX2_init_29 rfl ?_
  refine bw_get (ci := 7) (j := 1) (a := h0) (fs := [.ref q8, .ref q17]) (rs := (([] : va_W) ++ ioI g 3 40 q8 r8 ++ [(q17, .inl (g 0, 3, .inl (upd (fun _ => 0) (Int.toNat (0)) (Int32.ofInt (-1)))))])) (v := .ref q17) (Cn := RX2) (T := TX2) (N := 2) G dX2_init_30 inX2 tx38 rfl (by decide) rfl rfl ?_
  refine bw_iload_n G dX2_init_33 rfl ?_
  refine bw_iconst G dX2_init_34 (k := ?_)
  refine bw_iastL (ws := ((h0, .inr (7, [.ref q8, .ref q17])) :: (([] : va_W) ++ ioI g 3 40 q8 r8))) (q := q17) (N := 3) (f := upd (fun _ => 0) (Int.toNat (0)) (Int32.ofInt (-1))) G dX2_init_35 (by decide) (by omega) ?_
  refine bw_iinc_1 G dX2_init_36 rfl (k := ?_)
  refine bw_goto (tgt := 24) G dX2_init_39 (by decide) ?_
  refine bw_iload_n G dX2_init_24 rfl ?_
  refine bw_iconst G dX2_init_25 (k := ?_)
  refine bw_icmp_ge (tgt := 42) G dX2_init_26 (by decide) (by omega) (by omega) (fun c => absurd c (by omega)) (fun _ => ?_)
  refine bw_aload_n G dX2_init_29 rfl ?_
  refine bw_get (ci := 7) (j := 1) (a := h0) (fs := [.ref q8, .ref q17]) (rs := (([] : va_W) ++ ioI g 3 40 q8 r8 ++ [(q17, .inl (g 0, 3, .inl (upd (upd (fun _ => 0) (Int.toNat (0)) (Int32.ofInt (-1))) (Int.toNat ((0 + 1))) (Int32.ofInt (-1)))))])) (v := .ref q17) (Cn := RX2) (T := TX2) (N := 2) G dX2_init_30 inX2 tx38 rfl (by decide) rfl rfl ?_
  refine bw_iload_n G dX2_init_33 rfl ?_
  refine bw_iconst G dX2_init_34 (k := ?_)
  refine bw_iastL (ws := ((h0, .inr (7, [.ref q8, .ref q17])) :: (([] : va_W) ++ ioI g 3 40 q8 r8))) (q := q17) (N := 3) (f := upd (upd (fun _ => 0) (Int.toNat (0)) (Int32.ofInt (-1))) (Int.toNat ((0 + 1))) (Int32.ofInt (-1))) G dX2_init_35 (by decide) (by omega) ?_
  refine bw_iinc_1 G dX2_init_36 rfl (k := ?_)
  refine bw_goto (tgt := 24) G dX2_init_39 (by decide) ?_
  refine bw_iload_n G dX2_init_24 rfl ?_
  refine bw_iconst G dX2_init_25 (k := ?_)
  refine bw_icmp_ge (tgt := 42) G dX2_init_26 (by decide) (by omega) (by omega) (fun _ => ?_) (fun c => absurd (show (3 : Int) ≤ _ by omega) c)
  exact bw_vret (fun k => if k = 0 then (fun i => [q8, q17].getD i 0) else if k = 1 then r8 else fun _ => 0) G T hA dX2_init_42 rfl
theorem tx39 : Cond.methodLink RX1 3 Lib.objectInit ∈ tblG := tblG_of (List.mem_of_getElem? (i := 223) (by decide +kernel)) rfl
theorem tx40 : Cond.fieldLink RX1 9 RX1 "signs" "[I" ∈ tblG := tblG_of (List.mem_of_getElem? (i := 226) (by decide +kernel)) rfl
theorem tx41 : Cond.classLink RX1 15 RX3 ∈ tblG := tblG_of (List.mem_of_getElem? (i := 224) (by decide +kernel)) rfl
theorem tx42 : Cond.instantiable RX3 7 ∈ tblG := tblG_of (List.mem_of_getElem? (i := 89) (by decide +kernel)) rfl
theorem tx43 : Cond.initialized RX3 ∈ tblG := tblG_of (List.mem_of_getElem? (i := 68) (by decide +kernel)) rfl
theorem tx44 : Cond.instanceMethod yX3_init ∈ tblG := tblG_of (List.mem_of_getElem? (i := 91) (by decide +kernel)) rfl
theorem tx45 : Cond.code yX3_init cX3_init 1 none ∈ tblG := tblG_of (List.mem_of_getElem? (i := 92) (by decide +kernel)) rfl
theorem tx46 : Cond.fieldLink RX1 18 RX1 "trial" "LLabelsOfLines$Net;" ∈ tblG := tblG_of (List.mem_of_getElem? (i := 227) (by decide +kernel)) rfl
theorem tx47 : Cond.fieldLink RX1 22 RX1 "count" "I" ∈ tblG := tblG_of (List.mem_of_getElem? (i := 228) (by decide +kernel)) rfl
def wX1 (g : Nat → ClassId) (h0 : Nat) (u : Nat → Nat → Nat → Nat) : va_W := (h0, .inr (5, [.ref (u 0 0 0), .ref (u 0 0 1), iv (0)])) :: (([] : va_W) ++ [((u 0 0 0), zI g 72)] ++ wX3 g (u 0 0 1) (u 1))
set_option maxHeartbeats 4000000 in
theorem c_X1_init  : CtI D g yX1_init cX1_init 1 2 40 7 119 [] (.inr (5, [.null, .null, iv 0])) (fun h0 u => wX1 g h0  u) := by
  refine cti_of (by decide) rfl (fun _ => Nat.le_of_ble_eq_true rfl) (fun X A h0 G hB T hA => ?_)
  have G : Bd X D g A cX1_init RX1 1 2 40 7 119 := G
  show BW X D A [(h0, .inr (5, [.null, .null, iv 0]))] 0 0 0 [] [some (.ref h0)]
  refine bw_aload_n G dX1_init_0 rfl ?_
  refine bw_objinit G dX1_init_1 tx39 tx1 tx2 ⟨by decide, by decide⟩ (Nat.le_of_ble_eq_true rfl) ?_
  refine bw_aload_n G dX1_init_4 rfl ?_
  refine bw_bipush G dX1_init_5 (k := ?_)
  refine bw_newI (N := 72) G dX1_init_7 tx5 (by decide) rfl (by decide) (by decide) (by decide) (fun q7 => ?_)
  refine bw_putF (ci := 5) (j := 0) (a := h0) (fs := [.null, .null, iv 0]) (rs := (([] : va_W) ++ [(q7, zI g 72)])) (v := .ref q7) (ty := .array .int) (T := TX1) (N := 3) tyX1 G hB dX1_init_9 inX1 tyX1_ok nmX1 tx40 rfl (by decide) rfl rfl rfl rfl rfl (Nat.le_of_ble_eq_true rfl) ?_
  refine bw_aload_n G dX1_init_12 rfl ?_
  refine bw_new (ci := 1) (fs := [iv 0, iv 0, .null, .null, .null, .null, .null]) tyX3 G dX1_init_13 inX3 tyX3_ok tx41 tx42 tx43 rfl (fun j hj => by rcases (show j = 0 ∨ j = 1 ∨ j = 2 ∨ j = 3 ∨ j = 4 ∨ j = 5 ∨ j = 6 by omega) with rfl | rfl | rfl | rfl | rfl | rfl | rfl <;> rfl) (by decide) (by decide) (fun q13 => ?_)
  refine bw_dup G dX1_init_16 (k := ?_)
  refine bw_ctorN (host := "LabelsOfLines") (ws := ((h0, .inr (5, [.ref q7, .null, iv 0])) :: (([] : va_W) ++ [(q7, zI g 72)]))) (q := q13) (av := []) G dX1_init_17 (by decide) tx44 tx43 tx45 c_X3_init ⟨rfl, by decide +kernel⟩ rfl ⟨by decide, by decide⟩ (Nat.le_of_ble_eq_true rfl) (by decide) (by decide) (fun u17 => ?_)
  refine bw_putF (ci := 5) (j := 1) (a := h0) (fs := [.ref q7, .null, iv 0]) (rs := (([] : va_W) ++ [(q7, zI g 72)] ++ wX3 g q13 u17)) (v := .ref q13) (ty := .object "LabelsOfLines$Net") (T := TX1) (N := 3) tyX1 G hB dX1_init_20 inX1 tyX1_ok nmX1 tx46 rfl (by decide) rfl rfl rfl rfl rfl (Nat.le_of_ble_eq_true rfl) ?_
  refine bw_aload_n G dX1_init_23 rfl ?_
  refine bw_iconst G dX1_init_24 (k := ?_)
  refine bw_put (ci := 5) (j := 2) (a := h0) (fs := [.ref q7, .ref q13, iv 0]) (rs := (([] : va_W) ++ [(q7, zI g 72)] ++ wX3 g q13 u17)) (v := iv (0)) (ty := .int) (Cn := RX1) (T := TX1) (N := 3) tyX1 G dX1_init_25 inX1 tyX1_ok nmX1 tx47 rfl (by decide) rfl rfl rfl rfl rfl (Nat.le_of_ble_eq_true rfl) ?_
  exact bw_vret (fun k => if k = 0 then (fun _ i => [q7, q13].getD i 0) else if k = 1 then u17 else fun _ _ => 0) G T hA dX1_init_28 rfl
end INITS
