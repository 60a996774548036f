/-! the constructors; made by wip/whole/gen_ctor.py -/
def d00 : zD := fun p i => if p = 2 ∨ p = 11 then (if i = 2 then -1 else 0) else 0
def dM0 : zD := fun p i => if p = 38 then (if i = 2 then -1 else 0) else 0
def hallA (g : zG) : va_E := .inl (g.2.2.2.1 0, 6, .inl (fun i => Int32.ofInt (if i = 2 then -1 else 0)))
def mW (g : zG) (ad : Nat → Nat) : va_W := ((List.range 29).map (· + 37)).map (fun p => (ad p, zcell (gA g ad) dM0 p))
def tp0 : Nat → Nat := fun _ => 0
theorem HC_d00 : HC 2 d00 h0 := ⟨⟨rfl, rfl, rfl, rfl, rfl, rfl⟩, fun i hi => absurd hi (Nat.not_lt_zero _), fun i hi => absurd hi (Nat.not_lt_zero _), fun i hi => absurd hi (Nat.not_lt_zero _)⟩
theorem TPE_d00 : TPE d00 0 tp0 := ⟨rfl, by decide, fun i hi => absurd hi (Nat.not_lt_zero _)⟩
theorem k_told (l : Launch) {g : zG} (hg : zAmOk g) (ad : Nat → Nat) : zCK l (gA g ad) mX7_takeTold 5 [zr (gA g ad) 0] d00 (fun r d' => r = none ∧ (CF d00 d' ∧ IC d' h0 (leastO h0) 0 tp0 0)) := t_takeToldK l (g := gA g ad) hg Wf_h0 HC_d00 TPE_d00 ⟨rfl, by decide, by decide⟩
theorem ff_RX2_15 : zfF RX2 15 2 6 (.array .int) := ⟨RX2, TX2, 14, tyX2, rfl, by decide, uinX2, zTB_in 190 (by decide +kernel) rfl, tyX2_ok, nmX2, rfl, rfl, by decide +kernel⟩
theorem ff_RX2_19 : zfF RX2 19 2 7 (.array .int) := ⟨RX2, TX2, 14, tyX2, rfl, by decide, uinX2, zTB_in 193 (by decide +kernel) rfl, tyX2_ok, nmX2, rfl, rfl, by decide +kernel⟩
theorem ff_RX2_22 : zfF RX2 22 2 8 (.array .int) := ⟨RX2, TX2, 14, tyX2, rfl, by decide, uinX2, zTB_in 196 (by decide +kernel) rfl, tyX2_ok, nmX2, rfl, rfl, by decide +kernel⟩
theorem ff_RX2_25 : zfF RX2 25 2 9 (.array .int) := ⟨RX2, TX2, 14, tyX2, rfl, by decide, uinX2, zTB_in 198 (by decide +kernel) rfl, tyX2_ok, nmX2, rfl, rfl, by decide +kernel⟩
theorem ff_RX2_28 : zfF RX2 28 2 10 (.array .int) := ⟨RX2, TX2, 14, tyX2, rfl, by decide, uinX2, zTB_in 200 (by decide +kernel) rfl, tyX2_ok, nmX2, rfl, rfl, by decide +kernel⟩
theorem ff_RX2_31 : zfF RX2 31 2 11 (.array .int) := ⟨RX2, TX2, 14, tyX2, rfl, by decide, uinX2, zTB_in 204 (by decide +kernel) rfl, tyX2_ok, nmX2, rfl, rfl, by decide +kernel⟩
theorem ff_RX2_34 : zfF RX2 34 2 12 (.array .int) := ⟨RX2, TX2, 14, tyX2, rfl, by decide, uinX2, zTB_in 206 (by decide +kernel) rfl, tyX2_ok, nmX2, rfl, rfl, by decide +kernel⟩
theorem ff_RX2_37 : zfF RX2 37 2 13 (.array .int) := ⟨RX2, TX2, 14, tyX2, rfl, by decide, uinX2, zTB_in 208 (by decide +kernel) rfl, tyX2_ok, nmX2, rfl, rfl, by decide +kernel⟩
theorem k_X2_init (l : Launch) {g : zG} (hg : zAmOk g) (o0 : Nat) : cC l g mX2_init 3 8 114 [.ref o0] [(o0, .inr (2, [zi 0, zi 0, zi 0, zi 0, zi 0, zi 0, .null, .null, .null, .null, .null, .null, .null, .null]))] (fun w1 => ∃ q1 q2 q3 q4 q5 q6 q7 q8 : Nat, w1 = [(o0, .inr (2, [zi 0, zi 0, zi (-1), zi 0, zi 0, zi 0, .ref q1, .ref q2, .ref q3, .ref q4, .ref q5, .ref q6, .ref q7, .ref q8])), (q1, zA g 0 6), (q2, zA g 0 6), (q3, zA g 0 6), (q4, zA g 0 6), (q5, zA g 0 72), (q6, zA g 0 6), (q7, zA g 0 6), (q8, zA g 0 6)]) := by
  refine cC_of (L := [(0, _)]) mk_X2_init rfl (Nat.le_of_ble_eq_true rfl) hg rfl (fun x hin => ?_)
  refine c_aload_n 0 dX2_init_0 rfl rfl ?_
  refine c_objInit (zTB_in 166 (by decide +kernel) rfl) ⟨Nat.le_of_ble_eq_true rfl, Nat.le_of_ble_eq_true rfl⟩ (Nat.le_of_ble_eq_true rfl) dX2_init_1 ?_
  refine c_aload_n 0 dX2_init_4 rfl rfl ?_
  refine c_iconst dX2_init_5 ?_
  refine c_puti 0 fp_RX2_9 rfl rfl rfl (Nat.le_of_ble_eq_true rfl) dX2_init_6 ?_
  refine c_ws [(o0, .inr (2, [zi 0, zi 0, zi (-1), zi 0, zi 0, zi 0, .null, .null, .null, .null, .null, .null, .null, .null]))] rfl ?_
  refine c_aload_n 0 dX2_init_9 rfl rfl ?_
  refine c_bipush dX2_init_10 (by decide) ?_
  refine c_newI (n := 6) (by decide) (Nat.le_of_ble_eq_true rfl) (Nat.le_of_ble_eq_true rfl) dX2_init_12 (fun q1 => ?_)
  refine c_ws [(o0, .inr (2, [zi 0, zi 0, zi (-1), zi 0, zi 0, zi 0, .null, .null, .null, .null, .null, .null, .null, .null])), (q1, zA g 0 6)] rfl ?_
  refine c_putF 0 hin ff_RX2_15 rfl rfl rfl (Nat.le_of_ble_eq_true rfl) dX2_init_14 ?_
  refine c_ws [(o0, .inr (2, [zi 0, zi 0, zi (-1), zi 0, zi 0, zi 0, .ref q1, .null, .null, .null, .null, .null, .null, .null])), (q1, zA g 0 6)] rfl ?_
  refine c_aload_n 0 dX2_init_17 rfl rfl ?_
  refine c_bipush dX2_init_18 (by decide) ?_
  refine c_newI (n := 6) (by decide) (Nat.le_of_ble_eq_true rfl) (Nat.le_of_ble_eq_true rfl) dX2_init_20 (fun q2 => ?_)
  refine c_ws [(o0, .inr (2, [zi 0, zi 0, zi (-1), zi 0, zi 0, zi 0, .ref q1, .null, .null, .null, .null, .null, .null, .null])), (q1, zA g 0 6), (q2, zA g 0 6)] rfl ?_
  refine c_putF 0 hin ff_RX2_19 rfl rfl rfl (Nat.le_of_ble_eq_true rfl) dX2_init_22 ?_
  refine c_ws [(o0, .inr (2, [zi 0, zi 0, zi (-1), zi 0, zi 0, zi 0, .ref q1, .ref q2, .null, .null, .null, .null, .null, .null])), (q1, zA g 0 6), (q2, zA g 0 6)] rfl ?_
  refine c_aload_n 0 dX2_init_25 rfl rfl ?_
  refine c_bipush dX2_init_26 (by decide) ?_
  refine c_newI (n := 6) (by decide) (Nat.le_of_ble_eq_true rfl) (Nat.le_of_ble_eq_true rfl) dX2_init_28 (fun q3 => ?_)
  refine c_ws [(o0, .inr (2, [zi 0, zi 0, zi (-1), zi 0, zi 0, zi 0, .ref q1, .ref q2, .null, .null, .null, .null, .null, .null])), (q1, zA g 0 6), (q2, zA g 0 6), (q3, zA g 0 6)] rfl ?_
  refine c_putF 0 hin ff_RX2_22 rfl rfl rfl (Nat.le_of_ble_eq_true rfl) dX2_init_30 ?_
  refine c_ws [(o0, .inr (2, [zi 0, zi 0, zi (-1), zi 0, zi 0, zi 0, .ref q1, .ref q2, .ref q3, .null, .null, .null, .null, .null])), (q1, zA g 0 6), (q2, zA g 0 6), (q3, zA g 0 6)] rfl ?_
  refine c_aload_n 0 dX2_init_33 rfl rfl ?_
  refine c_bipush dX2_init_34 (by decide) ?_
  refine c_newI (n := 6) (by decide) (Nat.le_of_ble_eq_true rfl) (Nat.le_of_ble_eq_true rfl) dX2_init_36 (fun q4 => ?_)
  refine c_ws [(o0, .inr (2, [zi 0, zi 0, zi (-1), zi 0, zi 0, zi 0, .ref q1, .ref q2, .ref q3, .null, .null, .null, .null, .null])), (q1, zA g 0 6), (q2, zA g 0 6), (q3, zA g 0 6), (q4, zA g 0 6)] rfl ?_
  refine c_putF 0 hin ff_RX2_25 rfl rfl rfl (Nat.le_of_ble_eq_true rfl) dX2_init_38 ?_
  refine c_ws [(o0, .inr (2, [zi 0, zi 0, zi (-1), zi 0, zi 0, zi 0, .ref q1, .ref q2, .ref q3, .ref q4, .null, .null, .null, .null])), (q1, zA g 0 6), (q2, zA g 0 6), (q3, zA g 0 6), (q4, zA g 0 6)] rfl ?_
  refine c_aload_n 0 dX2_init_41 rfl rfl ?_
  refine c_bipush dX2_init_42 (by decide) ?_
  refine c_newI (n := 72) (by decide) (Nat.le_of_ble_eq_true rfl) (Nat.le_of_ble_eq_true rfl) dX2_init_44 (fun q5 => ?_)
  refine c_ws [(o0, .inr (2, [zi 0, zi 0, zi (-1), zi 0, zi 0, zi 0, .ref q1, .ref q2, .ref q3, .ref q4, .null, .null, .null, .null])), (q1, zA g 0 6), (q2, zA g 0 6), (q3, zA g 0 6), (q4, zA g 0 6), (q5, zA g 0 72)] rfl ?_
  refine c_putF 0 hin ff_RX2_28 rfl rfl rfl (Nat.le_of_ble_eq_true rfl) dX2_init_46 ?_
  refine c_ws [(o0, .inr (2, [zi 0, zi 0, zi (-1), zi 0, zi 0, zi 0, .ref q1, .ref q2, .ref q3, .ref q4, .ref q5, .null, .null, .null])), (q1, zA g 0 6), (q2, zA g 0 6), (q3, zA g 0 6), (q4, zA g 0 6), (q5, zA g 0 72)] rfl ?_
  refine c_aload_n 0 dX2_init_49 rfl rfl ?_
  refine c_bipush dX2_init_50 (by decide) ?_
  refine c_newI (n := 6) (by decide) (Nat.le_of_ble_eq_true rfl) (Nat.le_of_ble_eq_true rfl) dX2_init_52 (fun q6 => ?_)
  refine c_ws [(o0, .inr (2, [zi 0, zi 0, zi (-1), zi 0, zi 0, zi 0, .ref q1, .ref q2, .ref q3, .ref q4, .ref q5, .null, .null, .null])), (q1, zA g 0 6), (q2, zA g 0 6), (q3, zA g 0 6), (q4, zA g 0 6), (q5, zA g 0 72), (q6, zA g 0 6)] rfl ?_
  refine c_putF 0 hin ff_RX2_31 rfl rfl rfl (Nat.le_of_ble_eq_true rfl) dX2_init_54 ?_
  refine c_ws [(o0, .inr (2, [zi 0, zi 0, zi (-1), zi 0, zi 0, zi 0, .ref q1, .ref q2, .ref q3, .ref q4, .ref q5, .ref q6, .null, .null])), (q1, zA g 0 6), (q2, zA g 0 6), (q3, zA g 0 6), (q4, zA g 0 6), (q5, zA g 0 72), (q6, zA g 0 6)] rfl ?_
  refine c_aload_n 0 dX2_init_57 rfl rfl ?_
  refine c_bipush dX2_init_58 (by decide) ?_
  refine c_newI (n := 6) (by decide) (Nat.le_of_ble_eq_true rfl) (Nat.le_of_ble_eq_true rfl) dX2_init_60 (fun q7 => ?_)
  refine c_ws [(o0, .inr (2, [zi 0, zi 0, zi (-1), zi 0, zi 0, zi 0, .ref q1, .ref q2, .ref q3, .ref q4, .ref q5, .ref q6, .null, .null])), (q1, zA g 0 6), (q2, zA g 0 6), (q3, zA g 0 6), (q4, zA g 0 6), (q5, zA g 0 72), (q6, zA g 0 6), (q7, zA g 0 6)] rfl ?_
  refine c_putF 0 hin ff_RX2_34 rfl rfl rfl (Nat.le_of_ble_eq_true rfl) dX2_init_62 ?_
  refine c_ws [(o0, .inr (2, [zi 0, zi 0, zi (-1), zi 0, zi 0, zi 0, .ref q1, .ref q2, .ref q3, .ref q4, .ref q5, .ref q6, .ref q7, .null])), (q1, zA g 0 6), (q2, zA g 0 6), (q3, zA g 0 6), (q4, zA g 0 6), (q5, zA g 0 72), (q6, zA g 0 6), (q7, zA g 0 6)] rfl ?_
  refine c_aload_n 0 dX2_init_65 rfl rfl ?_
  refine c_bipush dX2_init_66 (by decide) ?_
  refine c_newI (n := 6) (by decide) (Nat.le_of_ble_eq_true rfl) (Nat.le_of_ble_eq_true rfl) dX2_init_68 (fun q8 => ?_)
  refine c_ws [(o0, .inr (2, [zi 0, zi 0, zi (-1), zi 0, zi 0, zi 0, .ref q1, .ref q2, .ref q3, .ref q4, .ref q5, .ref q6, .ref q7, .null])), (q1, zA g 0 6), (q2, zA g 0 6), (q3, zA g 0 6), (q4, zA g 0 6), (q5, zA g 0 72), (q6, zA g 0 6), (q7, zA g 0 6), (q8, zA g 0 6)] rfl ?_
  refine c_putF 0 hin ff_RX2_37 rfl rfl rfl (Nat.le_of_ble_eq_true rfl) dX2_init_70 ?_
  refine c_ws [(o0, .inr (2, [zi 0, zi 0, zi (-1), zi 0, zi 0, zi 0, .ref q1, .ref q2, .ref q3, .ref q4, .ref q5, .ref q6, .ref q7, .ref q8])), (q1, zA g 0 6), (q2, zA g 0 6), (q3, zA g 0 6), (q4, zA g 0 6), (q5, zA g 0 72), (q6, zA g 0 6), (q7, zA g 0 6), (q8, zA g 0 6)] rfl ?_
  exact c_vret rfl dX2_init_73 (Nat.le_of_ble_eq_true rfl) (Nat.le_of_ble_eq_true rfl) ⟨q1, q2, q3, q4, q5, q6, q7, q8, rfl⟩
theorem ff_RX3_9 : zfF RX3 9 3 0 (.array .int) := ⟨RX3, TX3, 13, tyX3, rfl, by decide, uinX3, zTB_in 246 (by decide +kernel) rfl, tyX3_ok, nmX3, rfl, rfl, by decide +kernel⟩
theorem ff_RX3_15 : zfF RX3 15 3 1 (.object "AmendmentTree$Hall") := ⟨RX3, TX3, 13, tyX3, rfl, by decide, uinX3, zTB_in 247 (by decide +kernel) rfl, tyX3_ok, nmX3, rfl, rfl, by decide +kernel⟩
theorem k_X3_init (l : Launch) {g : zG} (hg : zAmOk g) (o0 a1 a2 : Nat) : cC l g mX3_init 3 0 0 [.ref o0, .ref a1, .ref a2] [(o0, .inr (3, [.null, .null, zi 0, zi 0, zi 0, zi 0, zi 0, zi 0, zi 0, zi 0, zi 0, zi 0, zi 0]))] (fun w1 => w1 = [(o0, .inr (3, [.ref a1, .ref a2, zi 0, zi 0, zi 0, zi 0, zi 0, zi 0, zi 0, zi 0, zi 0, zi 0, zi 0]))]) := by
  refine cC_of (L := [(0, _), (1, _), (2, _)]) mk_X3_init rfl (Nat.le_of_ble_eq_true rfl) hg rfl (fun x hin => ?_)
  refine c_aload_n 0 dX3_init_0 rfl rfl ?_
  refine c_objInit (zTB_in 245 (by decide +kernel) rfl) ⟨Nat.le_of_ble_eq_true rfl, Nat.le_of_ble_eq_true rfl⟩ (Nat.le_of_ble_eq_true rfl) dX3_init_1 ?_
  refine c_aload_n 0 dX3_init_4 rfl rfl ?_
  refine c_aload_n 1 dX3_init_5 rfl rfl ?_
  refine c_putF 0 hin ff_RX3_9 rfl rfl rfl (Nat.le_of_ble_eq_true rfl) dX3_init_6 ?_
  refine c_ws [(o0, .inr (3, [.ref a1, .null, zi 0, zi 0, zi 0, zi 0, zi 0, zi 0, zi 0, zi 0, zi 0, zi 0, zi 0]))] rfl ?_
  refine c_aload_n 0 dX3_init_9 rfl rfl ?_
  refine c_aload_n 2 dX3_init_10 rfl rfl ?_
  refine c_putF 0 hin ff_RX3_15 rfl rfl rfl (Nat.le_of_ble_eq_true rfl) dX3_init_11 ?_
  refine c_ws [(o0, .inr (3, [.ref a1, .ref a2, zi 0, zi 0, zi 0, zi 0, zi 0, zi 0, zi 0, zi 0, zi 0, zi 0, zi 0]))] rfl ?_
  exact c_vret rfl dX3_init_14 (Nat.le_of_ble_eq_true rfl) (Nat.le_of_ble_eq_true rfl) rfl
theorem ff_RX0_9 : zfF RX0 9 0 1 (.array .int) := ⟨RX0, TX0, 3, tyX0, rfl, by decide, uinX0, zTB_in 294 (by decide +kernel) rfl, tyX0_ok, nmX0, rfl, rfl, by decide +kernel⟩
theorem ff_RX0_15 : zfF RX0 15 0 2 (.array .int) := ⟨RX0, TX0, 3, tyX0, rfl, by decide, uinX0, zTB_in 296 (by decide +kernel) rfl, tyX0_ok, nmX0, rfl, rfl, by decide +kernel⟩
theorem ff_RX0_18 : zfF RX0 18 0 0 (.object "AmendmentTree$Hall") := ⟨RX0, TX0, 3, tyX0, rfl, by decide, uinX0, zTB_in 293 (by decide +kernel) rfl, tyX0_ok, nmX0, rfl, rfl, by decide +kernel⟩
theorem k_X0_init (l : Launch) {g : zG} (hg : zAmOk g) (o0 a1 : Nat) : cC l g mX0_init 3 2 70 [.ref o0, .ref a1] [(o0, .inr (0, [.null, .null, .null]))] (fun w1 => ∃ q1 q2 : Nat, w1 = [(o0, .inr (0, [.ref a1, .ref q1, .ref q2])), (q1, zA g 0 6), (q2, zA g 0 64)]) := by
  refine cC_of (L := [(0, _), (1, _)]) mk_X0_init rfl (Nat.le_of_ble_eq_true rfl) hg rfl (fun x hin => ?_)
  refine c_aload_n 0 dX0_init_0 rfl rfl ?_
  refine c_objInit (zTB_in 292 (by decide +kernel) rfl) ⟨Nat.le_of_ble_eq_true rfl, Nat.le_of_ble_eq_true rfl⟩ (Nat.le_of_ble_eq_true rfl) dX0_init_1 ?_
  refine c_aload_n 0 dX0_init_4 rfl rfl ?_
  refine c_bipush dX0_init_5 (by decide) ?_
  refine c_newI (n := 6) (by decide) (Nat.le_of_ble_eq_true rfl) (Nat.le_of_ble_eq_true rfl) dX0_init_7 (fun q1 => ?_)
  refine c_ws [(o0, .inr (0, [.null, .null, .null])), (q1, zA g 0 6)] rfl ?_
  refine c_putF 0 hin ff_RX0_9 rfl rfl rfl (Nat.le_of_ble_eq_true rfl) dX0_init_9 ?_
  refine c_ws [(o0, .inr (0, [.null, .ref q1, .null])), (q1, zA g 0 6)] rfl ?_
  refine c_aload_n 0 dX0_init_12 rfl rfl ?_
  refine c_bipush dX0_init_13 (by decide) ?_
  refine c_newI (n := 64) (by decide) (Nat.le_of_ble_eq_true rfl) (Nat.le_of_ble_eq_true rfl) dX0_init_15 (fun q2 => ?_)
  refine c_ws [(o0, .inr (0, [.null, .ref q1, .null])), (q1, zA g 0 6), (q2, zA g 0 64)] rfl ?_
  refine c_putF 0 hin ff_RX0_15 rfl rfl rfl (Nat.le_of_ble_eq_true rfl) dX0_init_17 ?_
  refine c_ws [(o0, .inr (0, [.null, .ref q1, .ref q2])), (q1, zA g 0 6), (q2, zA g 0 64)] rfl ?_
  refine c_aload_n 0 dX0_init_20 rfl rfl ?_
  refine c_aload_n 1 dX0_init_21 rfl rfl ?_
  refine c_putF 0 hin ff_RX0_18 rfl rfl rfl (Nat.le_of_ble_eq_true rfl) dX0_init_22 ?_
  refine c_ws [(o0, .inr (0, [.ref a1, .ref q1, .ref q2])), (q1, zA g 0 6), (q2, zA g 0 64)] rfl ?_
  exact c_vret rfl dX0_init_25 (Nat.le_of_ble_eq_true rfl) (Nat.le_of_ble_eq_true rfl) ⟨q1, q2, rfl⟩
theorem ff_RX5_9 : zfF RX5 9 5 1 (.array .int) := ⟨RX5, TX5, 2, tyX5, rfl, by decide, uinX5, zTB_in 311 (by decide +kernel) rfl, tyX5_ok, nmX5, rfl, rfl, by decide +kernel⟩
theorem ff_RX5_15 : zfF RX5 15 5 0 (.object "AmendmentTree$Hall") := ⟨RX5, TX5, 2, tyX5, rfl, by decide, uinX5, zTB_in 310 (by decide +kernel) rfl, tyX5_ok, nmX5, rfl, rfl, by decide +kernel⟩
theorem k_X5_init (l : Launch) {g : zG} (hg : zAmOk g) (o0 a1 : Nat) : cC l g mX5_init 3 1 2304 [.ref o0, .ref a1] [(o0, .inr (5, [.null, .null]))] (fun w1 => ∃ q1 : Nat, w1 = [(o0, .inr (5, [.ref a1, .ref q1])), (q1, zA g 0 2304)]) := by
  refine cC_of (L := [(0, _), (1, _)]) mk_X5_init rfl (Nat.le_of_ble_eq_true rfl) hg rfl (fun x hin => ?_)
  refine c_aload_n 0 dX5_init_0 rfl rfl ?_
  refine c_objInit (zTB_in 309 (by decide +kernel) rfl) ⟨Nat.le_of_ble_eq_true rfl, Nat.le_of_ble_eq_true rfl⟩ (Nat.le_of_ble_eq_true rfl) dX5_init_1 ?_
  refine c_aload_n 0 dX5_init_4 rfl rfl ?_
  refine c_sipush dX5_init_5 (by decide) ?_
  refine c_newI (n := 2304) (by decide) (Nat.le_of_ble_eq_true rfl) (Nat.le_of_ble_eq_true rfl) dX5_init_8 (fun q1 => ?_)
  refine c_ws [(o0, .inr (5, [.null, .null])), (q1, zA g 0 2304)] rfl ?_
  refine c_putF 0 hin ff_RX5_9 rfl rfl rfl (Nat.le_of_ble_eq_true rfl) dX5_init_10 ?_
  refine c_ws [(o0, .inr (5, [.null, .ref q1])), (q1, zA g 0 2304)] rfl ?_
  refine c_aload_n 0 dX5_init_13 rfl rfl ?_
  refine c_aload_n 1 dX5_init_14 rfl rfl ?_
  refine c_putF 0 hin ff_RX5_15 rfl rfl rfl (Nat.le_of_ble_eq_true rfl) dX5_init_15 ?_
  refine c_ws [(o0, .inr (5, [.ref a1, .ref q1])), (q1, zA g 0 2304)] rfl ?_
  exact c_vret rfl dX5_init_18 (Nat.le_of_ble_eq_true rfl) (Nat.le_of_ble_eq_true rfl) ⟨q1, rfl⟩
theorem ff_RX6_9 : zfF RX6 9 6 3 (.array .int) := ⟨RX6, TX6, 9, tyX6, rfl, by decide, uinX6, zTB_in 327 (by decide +kernel) rfl, tyX6_ok, nmX6, rfl, rfl, by decide +kernel⟩
theorem ff_RX6_15 : zfF RX6 15 6 4 (.array .int) := ⟨RX6, TX6, 9, tyX6, rfl, by decide, uinX6, zTB_in 330 (by decide +kernel) rfl, tyX6_ok, nmX6, rfl, rfl, by decide +kernel⟩
theorem ff_RX6_18 : zfF RX6 18 6 5 (.array .int) := ⟨RX6, TX6, 9, tyX6, rfl, by decide, uinX6, zTB_in 332 (by decide +kernel) rfl, tyX6_ok, nmX6, rfl, rfl, by decide +kernel⟩
theorem ff_RX6_21 : zfF RX6 21 6 6 (.array .int) := ⟨RX6, TX6, 9, tyX6, rfl, by decide, uinX6, zTB_in 333 (by decide +kernel) rfl, tyX6_ok, nmX6, rfl, rfl, by decide +kernel⟩
theorem ff_RX6_24 : zfF RX6 24 6 0 (.object "AmendmentTree$Hall") := ⟨RX6, TX6, 9, tyX6, rfl, by decide, uinX6, zTB_in 323 (by decide +kernel) rfl, tyX6_ok, nmX6, rfl, rfl, by decide +kernel⟩
theorem ff_RX6_28 : zfF RX6 28 6 1 (.object "AmendmentTree$Agenda") := ⟨RX6, TX6, 9, tyX6, rfl, by decide, uinX6, zTB_in 325 (by decide +kernel) rfl, tyX6_ok, nmX6, rfl, rfl, by decide +kernel⟩
theorem ff_RX6_32 : zfF RX6 32 6 2 (.object "AmendmentTree$Tastes") := ⟨RX6, TX6, 9, tyX6, rfl, by decide, uinX6, zTB_in 326 (by decide +kernel) rfl, tyX6_ok, nmX6, rfl, rfl, by decide +kernel⟩
theorem k_X6_init (l : Launch) {g : zG} (hg : zAmOk g) (o0 a1 a2 a3 : Nat) : cC l g mX6_init 3 4 525 [.ref o0, .ref a1, .ref a2, .ref a3] [(o0, .inr (6, [.null, .null, .null, .null, .null, .null, .null, zi 0, zi 0]))] (fun w1 => ∃ q1 q2 q3 q4 : Nat, w1 = [(o0, .inr (6, [.ref a1, .ref a2, .ref a3, .ref q1, .ref q2, .ref q3, .ref q4, zi 0, zi 0])), (q1, zA g 0 64), (q2, zA g 0 448), (q3, zA g 0 6), (q4, zA g 0 7)]) := by
  refine cC_of (L := [(0, _), (1, _), (2, _), (3, _)]) mk_X6_init rfl (Nat.le_of_ble_eq_true rfl) hg rfl (fun x hin => ?_)
  refine c_aload_n 0 dX6_init_0 rfl rfl ?_
  refine c_objInit (zTB_in 322 (by decide +kernel) rfl) ⟨Nat.le_of_ble_eq_true rfl, Nat.le_of_ble_eq_true rfl⟩ (Nat.le_of_ble_eq_true rfl) dX6_init_1 ?_
  refine c_aload_n 0 dX6_init_4 rfl rfl ?_
  refine c_bipush dX6_init_5 (by decide) ?_
  refine c_newI (n := 64) (by decide) (Nat.le_of_ble_eq_true rfl) (Nat.le_of_ble_eq_true rfl) dX6_init_7 (fun q1 => ?_)
  refine c_ws [(o0, .inr (6, [.null, .null, .null, .null, .null, .null, .null, zi 0, zi 0])), (q1, zA g 0 64)] rfl ?_
  refine c_putF 0 hin ff_RX6_9 rfl rfl rfl (Nat.le_of_ble_eq_true rfl) dX6_init_9 ?_
  refine c_ws [(o0, .inr (6, [.null, .null, .null, .ref q1, .null, .null, .null, zi 0, zi 0])), (q1, zA g 0 64)] rfl ?_
  refine c_aload_n 0 dX6_init_12 rfl rfl ?_
  refine c_sipush dX6_init_13 (by decide) ?_
  refine c_newI (n := 448) (by decide) (Nat.le_of_ble_eq_true rfl) (Nat.le_of_ble_eq_true rfl) dX6_init_16 (fun q2 => ?_)
  refine c_ws [(o0, .inr (6, [.null, .null, .null, .ref q1, .null, .null, .null, zi 0, zi 0])), (q1, zA g 0 64), (q2, zA g 0 448)] rfl ?_
  refine c_putF 0 hin ff_RX6_15 rfl rfl rfl (Nat.le_of_ble_eq_true rfl) dX6_init_18 ?_
  refine c_ws [(o0, .inr (6, [.null, .null, .null, .ref q1, .ref q2, .null, .null, zi 0, zi 0])), (q1, zA g 0 64), (q2, zA g 0 448)] rfl ?_
  refine c_aload_n 0 dX6_init_21 rfl rfl ?_
  refine c_bipush dX6_init_22 (by decide) ?_
  refine c_newI (n := 6) (by decide) (Nat.le_of_ble_eq_true rfl) (Nat.le_of_ble_eq_true rfl) dX6_init_24 (fun q3 => ?_)
  refine c_ws [(o0, .inr (6, [.null, .null, .null, .ref q1, .ref q2, .null, .null, zi 0, zi 0])), (q1, zA g 0 64), (q2, zA g 0 448), (q3, zA g 0 6)] rfl ?_
  refine c_putF 0 hin ff_RX6_18 rfl rfl rfl (Nat.le_of_ble_eq_true rfl) dX6_init_26 ?_
  refine c_ws [(o0, .inr (6, [.null, .null, .null, .ref q1, .ref q2, .ref q3, .null, zi 0, zi 0])), (q1, zA g 0 64), (q2, zA g 0 448), (q3, zA g 0 6)] rfl ?_
  refine c_aload_n 0 dX6_init_29 rfl rfl ?_
  refine c_bipush dX6_init_30 (by decide) ?_
  refine c_newI (n := 7) (by decide) (Nat.le_of_ble_eq_true rfl) (Nat.le_of_ble_eq_true rfl) dX6_init_32 (fun q4 => ?_)
  refine c_ws [(o0, .inr (6, [.null, .null, .null, .ref q1, .ref q2, .ref q3, .null, zi 0, zi 0])), (q1, zA g 0 64), (q2, zA g 0 448), (q3, zA g 0 6), (q4, zA g 0 7)] rfl ?_
  refine c_putF 0 hin ff_RX6_21 rfl rfl rfl (Nat.le_of_ble_eq_true rfl) dX6_init_34 ?_
  refine c_ws [(o0, .inr (6, [.null, .null, .null, .ref q1, .ref q2, .ref q3, .ref q4, zi 0, zi 0])), (q1, zA g 0 64), (q2, zA g 0 448), (q3, zA g 0 6), (q4, zA g 0 7)] rfl ?_
  refine c_aload_n 0 dX6_init_37 rfl rfl ?_
  refine c_aload_n 1 dX6_init_38 rfl rfl ?_
  refine c_putF 0 hin ff_RX6_24 rfl rfl rfl (Nat.le_of_ble_eq_true rfl) dX6_init_39 ?_
  refine c_ws [(o0, .inr (6, [.ref a1, .null, .null, .ref q1, .ref q2, .ref q3, .ref q4, zi 0, zi 0])), (q1, zA g 0 64), (q2, zA g 0 448), (q3, zA g 0 6), (q4, zA g 0 7)] rfl ?_
  refine c_aload_n 0 dX6_init_42 rfl rfl ?_
  refine c_aload_n 2 dX6_init_43 rfl rfl ?_
  refine c_putF 0 hin ff_RX6_28 rfl rfl rfl (Nat.le_of_ble_eq_true rfl) dX6_init_44 ?_
  refine c_ws [(o0, .inr (6, [.ref a1, .ref a2, .null, .ref q1, .ref q2, .ref q3, .ref q4, zi 0, zi 0])), (q1, zA g 0 64), (q2, zA g 0 448), (q3, zA g 0 6), (q4, zA g 0 7)] rfl ?_
  refine c_aload_n 0 dX6_init_47 rfl rfl ?_
  refine c_aload_n 3 dX6_init_48 rfl rfl ?_
  refine c_putF 0 hin ff_RX6_32 rfl rfl rfl (Nat.le_of_ble_eq_true rfl) dX6_init_49 ?_
  refine c_ws [(o0, .inr (6, [.ref a1, .ref a2, .ref a3, .ref q1, .ref q2, .ref q3, .ref q4, zi 0, zi 0])), (q1, zA g 0 64), (q2, zA g 0 448), (q3, zA g 0 6), (q4, zA g 0 7)] rfl ?_
  exact c_vret rfl dX6_init_52 (Nat.le_of_ble_eq_true rfl) (Nat.le_of_ble_eq_true rfl) ⟨q1, q2, q3, q4, rfl⟩
theorem ff_RX1_9 : zfF RX1 9 1 3 (.array .int) := ⟨RX1, TX1, 10, tyX1, rfl, by decide, uinX1, zTB_in 399 (by decide +kernel) rfl, tyX1_ok, nmX1, rfl, rfl, by decide +kernel⟩
theorem ff_RX1_15 : zfF RX1 15 1 5 (.array .int) := ⟨RX1, TX1, 10, tyX1, rfl, by decide, uinX1, zTB_in 403 (by decide +kernel) rfl, tyX1_ok, nmX1, rfl, rfl, by decide +kernel⟩
theorem ff_RX1_18 : zfF RX1 18 1 6 (.array .int) := ⟨RX1, TX1, 10, tyX1, rfl, by decide, uinX1, zTB_in 404 (by decide +kernel) rfl, tyX1_ok, nmX1, rfl, rfl, by decide +kernel⟩
theorem ff_RX1_21 : zfF RX1 21 1 8 (.array .int) := ⟨RX1, TX1, 10, tyX1, rfl, by decide, uinX1, zTB_in 406 (by decide +kernel) rfl, tyX1_ok, nmX1, rfl, rfl, by decide +kernel⟩
theorem ff_RX1_24 : zfF RX1 24 1 0 (.object "AmendmentTree$Hall") := ⟨RX1, TX1, 10, tyX1, rfl, by decide, uinX1, zTB_in 396 (by decide +kernel) rfl, tyX1_ok, nmX1, rfl, rfl, by decide +kernel⟩
theorem ff_RX1_28 : zfF RX1 28 1 1 (.object "AmendmentTree$Tastes") := ⟨RX1, TX1, 10, tyX1, rfl, by decide, uinX1, zTB_in 397 (by decide +kernel) rfl, tyX1_ok, nmX1, rfl, rfl, by decide +kernel⟩
theorem ff_RX1_32 : zfF RX1 32 1 2 (.object "AmendmentTree$Votes") := ⟨RX1, TX1, 10, tyX1, rfl, by decide, uinX1, zTB_in 398 (by decide +kernel) rfl, tyX1_ok, nmX1, rfl, rfl, by decide +kernel⟩
theorem k_X1_init (l : Launch) {g : zG} (hg : zAmOk g) (o0 a1 a2 a3 : Nat) : cC l g mX1_init 3 4 333 [.ref o0, .ref a1, .ref a2, .ref a3] [(o0, .inr (1, [.null, .null, .null, .null, zi 0, .null, .null, zi 0, .null, zi 0]))] (fun w1 => ∃ q1 q2 q3 q4 : Nat, w1 = [(o0, .inr (1, [.ref a1, .ref a2, .ref a3, .ref q1, zi 0, .ref q2, .ref q3, zi 0, .ref q4, zi 0])), (q1, zA g 0 65), (q2, zA g 0 8), (q3, zA g 0 195), (q4, zA g 0 65)]) := by
  refine cC_of (L := [(0, _), (1, _), (2, _), (3, _)]) mk_X1_init rfl (Nat.le_of_ble_eq_true rfl) hg rfl (fun x hin => ?_)
  refine c_aload_n 0 dX1_init_0 rfl rfl ?_
  refine c_objInit (zTB_in 395 (by decide +kernel) rfl) ⟨Nat.le_of_ble_eq_true rfl, Nat.le_of_ble_eq_true rfl⟩ (Nat.le_of_ble_eq_true rfl) dX1_init_1 ?_
  refine c_aload_n 0 dX1_init_4 rfl rfl ?_
  refine c_bipush dX1_init_5 (by decide) ?_
  refine c_newI (n := 65) (by decide) (Nat.le_of_ble_eq_true rfl) (Nat.le_of_ble_eq_true rfl) dX1_init_7 (fun q1 => ?_)
  refine c_ws [(o0, .inr (1, [.null, .null, .null, .null, zi 0, .null, .null, zi 0, .null, zi 0])), (q1, zA g 0 65)] rfl ?_
  refine c_putF 0 hin ff_RX1_9 rfl rfl rfl (Nat.le_of_ble_eq_true rfl) dX1_init_9 ?_
  refine c_ws [(o0, .inr (1, [.null, .null, .null, .ref q1, zi 0, .null, .null, zi 0, .null, zi 0])), (q1, zA g 0 65)] rfl ?_
  refine c_aload_n 0 dX1_init_12 rfl rfl ?_
  refine c_bipush dX1_init_13 (by decide) ?_
  refine c_newI (n := 8) (by decide) (Nat.le_of_ble_eq_true rfl) (Nat.le_of_ble_eq_true rfl) dX1_init_15 (fun q2 => ?_)
  refine c_ws [(o0, .inr (1, [.null, .null, .null, .ref q1, zi 0, .null, .null, zi 0, .null, zi 0])), (q1, zA g 0 65), (q2, zA g 0 8)] rfl ?_
  refine c_putF 0 hin ff_RX1_15 rfl rfl rfl (Nat.le_of_ble_eq_true rfl) dX1_init_17 ?_
  refine c_ws [(o0, .inr (1, [.null, .null, .null, .ref q1, zi 0, .ref q2, .null, zi 0, .null, zi 0])), (q1, zA g 0 65), (q2, zA g 0 8)] rfl ?_
  refine c_aload_n 0 dX1_init_20 rfl rfl ?_
  refine c_sipush dX1_init_21 (by decide) ?_
  refine c_newI (n := 195) (by decide) (Nat.le_of_ble_eq_true rfl) (Nat.le_of_ble_eq_true rfl) dX1_init_24 (fun q3 => ?_)
  refine c_ws [(o0, .inr (1, [.null, .null, .null, .ref q1, zi 0, .ref q2, .null, zi 0, .null, zi 0])), (q1, zA g 0 65), (q2, zA g 0 8), (q3, zA g 0 195)] rfl ?_
  refine c_putF 0 hin ff_RX1_18 rfl rfl rfl (Nat.le_of_ble_eq_true rfl) dX1_init_26 ?_
  refine c_ws [(o0, .inr (1, [.null, .null, .null, .ref q1, zi 0, .ref q2, .ref q3, zi 0, .null, zi 0])), (q1, zA g 0 65), (q2, zA g 0 8), (q3, zA g 0 195)] rfl ?_
  refine c_aload_n 0 dX1_init_29 rfl rfl ?_
  refine c_bipush dX1_init_30 (by decide) ?_
  refine c_newI (n := 65) (by decide) (Nat.le_of_ble_eq_true rfl) (Nat.le_of_ble_eq_true rfl) dX1_init_32 (fun q4 => ?_)
  refine c_ws [(o0, .inr (1, [.null, .null, .null, .ref q1, zi 0, .ref q2, .ref q3, zi 0, .null, zi 0])), (q1, zA g 0 65), (q2, zA g 0 8), (q3, zA g 0 195), (q4, zA g 0 65)] rfl ?_
  refine c_putF 0 hin ff_RX1_21 rfl rfl rfl (Nat.le_of_ble_eq_true rfl) dX1_init_34 ?_
  refine c_ws [(o0, .inr (1, [.null, .null, .null, .ref q1, zi 0, .ref q2, .ref q3, zi 0, .ref q4, zi 0])), (q1, zA g 0 65), (q2, zA g 0 8), (q3, zA g 0 195), (q4, zA g 0 65)] rfl ?_
  refine c_aload_n 0 dX1_init_37 rfl rfl ?_
  refine c_aload_n 1 dX1_init_38 rfl rfl ?_
  refine c_putF 0 hin ff_RX1_24 rfl rfl rfl (Nat.le_of_ble_eq_true rfl) dX1_init_39 ?_
  refine c_ws [(o0, .inr (1, [.ref a1, .null, .null, .ref q1, zi 0, .ref q2, .ref q3, zi 0, .ref q4, zi 0])), (q1, zA g 0 65), (q2, zA g 0 8), (q3, zA g 0 195), (q4, zA g 0 65)] rfl ?_
  refine c_aload_n 0 dX1_init_42 rfl rfl ?_
  refine c_aload_n 2 dX1_init_43 rfl rfl ?_
  refine c_putF 0 hin ff_RX1_28 rfl rfl rfl (Nat.le_of_ble_eq_true rfl) dX1_init_44 ?_
  refine c_ws [(o0, .inr (1, [.ref a1, .ref a2, .null, .ref q1, zi 0, .ref q2, .ref q3, zi 0, .ref q4, zi 0])), (q1, zA g 0 65), (q2, zA g 0 8), (q3, zA g 0 195), (q4, zA g 0 65)] rfl ?_
  refine c_aload_n 0 dX1_init_47 rfl rfl ?_
  refine c_aload_n 3 dX1_init_48 rfl rfl ?_
  refine c_putF 0 hin ff_RX1_32 rfl rfl rfl (Nat.le_of_ble_eq_true rfl) dX1_init_49 ?_
  refine c_ws [(o0, .inr (1, [.ref a1, .ref a2, .ref a3, .ref q1, zi 0, .ref q2, .ref q3, zi 0, .ref q4, zi 0])), (q1, zA g 0 65), (q2, zA g 0 8), (q3, zA g 0 195), (q4, zA g 0 65)] rfl ?_
  exact c_vret rfl dX1_init_52 (Nat.le_of_ble_eq_true rfl) (Nat.le_of_ble_eq_true rfl) ⟨q1, q2, q3, q4, rfl⟩
theorem ff_RX4_9 : zfF RX4 9 4 0 (.object "AmendmentTree$Hall") := ⟨RX4, TX4, 8, tyX4, rfl, by decide, uinX4, zTB_in 363 (by decide +kernel) rfl, tyX4_ok, nmX4, rfl, rfl, by decide +kernel⟩
theorem ff_RX4_15 : zfF RX4 15 4 1 (.object "AmendmentTree$Tastes") := ⟨RX4, TX4, 8, tyX4, rfl, by decide, uinX4, zTB_in 364 (by decide +kernel) rfl, tyX4_ok, nmX4, rfl, rfl, by decide +kernel⟩
theorem ff_RX4_19 : zfF RX4 19 4 2 (.object "AmendmentTree$Votes") := ⟨RX4, TX4, 8, tyX4, rfl, by decide, uinX4, zTB_in 365 (by decide +kernel) rfl, tyX4_ok, nmX4, rfl, rfl, by decide +kernel⟩
theorem ff_RX4_29 : zfF RX4 29 4 3 (.object "AmendmentTree$Agenda") := ⟨RX4, TX4, 8, tyX4, rfl, by decide, uinX4, zTB_in 366 (by decide +kernel) rfl, tyX4_ok, nmX4, rfl, rfl, by decide +kernel⟩
theorem k_X4_init (l : Launch) {g : zG} (hg : zAmOk g) (o0 a1 a2 a3 ag : Nat) (vf : List Value) (hv : vf[1]? = some (.ref ag)) : cC l g mX4_init 3 0 0 [.ref o0, .ref a1, .ref a2, .ref a3] [(a3, .inr (6, vf)), (o0, .inr (4, [.null, .null, .null, .null, zi 0, zi 0, zi 0, zi 0]))] (fun w1 => w1 = [(a3, .inr (6, vf)), (o0, .inr (4, [.ref a1, .ref a2, .ref a3, .ref ag, zi 0, zi 0, zi 0, zi 0]))]) := by
  refine cC_of (L := [(0, _), (1, _), (2, _), (3, _)]) mk_X4_init rfl (Nat.le_of_ble_eq_true rfl) hg rfl (fun x hin => ?_)
  refine c_aload_n 0 dX4_init_0 rfl rfl ?_
  refine c_objInit (zTB_in 362 (by decide +kernel) rfl) ⟨Nat.le_of_ble_eq_true rfl, Nat.le_of_ble_eq_true rfl⟩ (Nat.le_of_ble_eq_true rfl) dX4_init_1 ?_
  refine c_aload_n 0 dX4_init_4 rfl rfl ?_
  refine c_aload_n 1 dX4_init_5 rfl rfl ?_
  refine c_putF 1 hin ff_RX4_9 rfl rfl rfl (Nat.le_of_ble_eq_true rfl) dX4_init_6 ?_
  refine c_ws [(a3, .inr (6, vf)), (o0, .inr (4, [.ref a1, .null, .null, .null, zi 0, zi 0, zi 0, zi 0]))] rfl ?_
  refine c_aload_n 0 dX4_init_9 rfl rfl ?_
  refine c_aload_n 2 dX4_init_10 rfl rfl ?_
  refine c_putF 1 hin ff_RX4_15 rfl rfl rfl (Nat.le_of_ble_eq_true rfl) dX4_init_11 ?_
  refine c_ws [(a3, .inr (6, vf)), (o0, .inr (4, [.ref a1, .ref a2, .null, .null, zi 0, zi 0, zi 0, zi 0]))] rfl ?_
  refine c_aload_n 0 dX4_init_14 rfl rfl ?_
  refine c_aload_n 3 dX4_init_15 rfl rfl ?_
  refine c_putF 1 hin ff_RX4_19 rfl rfl rfl (Nat.le_of_ble_eq_true rfl) dX4_init_16 ?_
  refine c_ws [(a3, .inr (6, vf)), (o0, .inr (4, [.ref a1, .ref a2, .ref a3, .null, zi 0, zi 0, zi 0, zi 0]))] rfl ?_
  refine c_aload_n 0 dX4_init_19 rfl rfl ?_
  refine c_aload_n 3 dX4_init_20 rfl rfl ?_
  refine c_getr 0 fl_RX4_23 rfl hv dX4_init_21 ?_
  refine c_putF 1 hin ff_RX4_29 rfl rfl rfl (Nat.le_of_ble_eq_true rfl) dX4_init_24 ?_
  refine c_ws [(a3, .inr (6, vf)), (o0, .inr (4, [.ref a1, .ref a2, .ref a3, .ref ag, zi 0, zi 0, zi 0, zi 0]))] rfl ?_
  exact c_vret rfl dX4_init_27 (Nat.le_of_ble_eq_true rfl) (Nat.le_of_ble_eq_true rfl) rfl
theorem ff_RX7_9 : zfF RX7 9 7 0 (.array .int) := ⟨RX7, TX7, 11, tyX7, rfl, by decide, uinX7, zTB_in 485 (by decide +kernel) rfl, tyX7_ok, nmX7, rfl, rfl, by decide +kernel⟩
theorem ff_RX7_16 : zfF RX7 16 7 3 (.object "AmendmentTree$Hall") := ⟨RX7, TX7, 11, tyX7, rfl, by decide, uinX7, zTB_in 488 (by decide +kernel) rfl, tyX7_ok, nmX7, rfl, rfl, by decide +kernel⟩
theorem ff_RX7_20 : zfF RX7 20 7 4 (.object "AmendmentTree$Hall") := ⟨RX7, TX7, 11, tyX7, rfl, by decide, uinX7, zTB_in 489 (by decide +kernel) rfl, tyX7_ok, nmX7, rfl, rfl, by decide +kernel⟩
theorem ff_RX7_28 : zfF RX7 28 7 5 (.object "AmendmentTree$Reader") := ⟨RX7, TX7, 11, tyX7, rfl, by decide, uinX7, zTB_in 490 (by decide +kernel) rfl, tyX7_ok, nmX7, rfl, rfl, by decide +kernel⟩
theorem ff_RX7_37 : zfF RX7 37 7 6 (.object "AmendmentTree$Agenda") := ⟨RX7, TX7, 11, tyX7, rfl, by decide, uinX7, zTB_in 491 (by decide +kernel) rfl, tyX7_ok, nmX7, rfl, rfl, by decide +kernel⟩
theorem ff_RX7_44 : zfF RX7 44 7 7 (.object "AmendmentTree$Tastes") := ⟨RX7, TX7, 11, tyX7, rfl, by decide, uinX7, zTB_in 492 (by decide +kernel) rfl, tyX7_ok, nmX7, rfl, rfl, by decide +kernel⟩
theorem ff_RX7_53 : zfF RX7 53 7 8 (.object "AmendmentTree$Votes") := ⟨RX7, TX7, 11, tyX7, rfl, by decide, uinX7, zTB_in 493 (by decide +kernel) rfl, tyX7_ok, nmX7, rfl, rfl, by decide +kernel⟩
theorem ff_RX7_62 : zfF RX7 62 7 9 (.object "AmendmentTree$Search") := ⟨RX7, TX7, 11, tyX7, rfl, by decide, uinX7, zTB_in 494 (by decide +kernel) rfl, tyX7_ok, nmX7, rfl, rfl, by decide +kernel⟩
theorem ff_RX7_69 : zfF RX7 69 7 10 (.object "AmendmentTree$Contest") := ⟨RX7, TX7, 11, tyX7, rfl, by decide, uinX7, zTB_in 495 (by decide +kernel) rfl, tyX7_ok, nmX7, rfl, rfl, by decide +kernel⟩
theorem k_X7_init (l : Launch) {g : zG} (hg : zAmOk g) (o0 : Nat) : cC l g mX7_init 8 36 3933 [.ref o0] [(o0, .inr (7, [.null, zi 0, zi 0, .null, .null, .null, .null, .null, .null, .null, .null]))] (fun w1 => ∃ (ad : Nat → Nat) (d : zD), ad 0 = o0 ∧ IC d h0 (leastO h0) 0 tp0 0 ∧ w1 = zwK (gA g ad) d) := by
  refine cC_of (L := [(0, _)]) mk_X7_init rfl (Nat.le_of_ble_eq_true rfl) hg rfl (fun x hin => ?_)
  refine c_aload_n 0 dX7_init_0 rfl rfl ?_
  refine c_objInit (zTB_in 158 (by decide +kernel) rfl) ⟨Nat.le_of_ble_eq_true rfl, Nat.le_of_ble_eq_true rfl⟩ (Nat.le_of_ble_eq_true rfl) dX7_init_1 ?_
  refine c_aload_n 0 dX7_init_4 rfl rfl ?_
  refine c_sipush dX7_init_5 (by decide) ?_
  refine c_newI (n := 400) (by decide) (Nat.le_of_ble_eq_true rfl) (Nat.le_of_ble_eq_true rfl) dX7_init_8 (fun q1 => ?_)
  refine c_ws [(o0, .inr (7, [.null, zi 0, zi 0, .null, .null, .null, .null, .null, .null, .null, .null])), (q1, zA g 0 400)] rfl ?_
  refine c_putF 0 hin ff_RX7_9 rfl rfl rfl (Nat.le_of_ble_eq_true rfl) dX7_init_10 ?_
  refine c_ws [(o0, .inr (7, [.ref q1, zi 0, zi 0, .null, .null, .null, .null, .null, .null, .null, .null])), (q1, zA g 0 400)] rfl ?_
  refine c_aload_n 0 dX7_init_13 rfl rfl ?_
  refine c_new [zi 0, zi 0, zi 0, zi 0, zi 0, zi 0, .null, .null, .null, .null, .null, .null, .null, .null] (ci := 2) (C := RX2) (T := TX2) (N := 14) (ty := tyX2) rfl uinX2 tyX2_ok (zTB_in 161 (by decide +kernel) rfl) (zTB_in 162 (by decide +kernel) rfl) (zTB_in 133 (by decide +kernel) rfl) (by decide +kernel) (Nat.le_of_ble_eq_true rfl) (Nat.le_of_ble_eq_true rfl) dX7_init_14 (fun q2 => ?_)
  refine c_ws [(o0, .inr (7, [.ref q1, zi 0, zi 0, .null, .null, .null, .null, .null, .null, .null, .null])), (q1, zA g 0 400), (q2, .inr (2, [zi 0, zi 0, zi 0, zi 0, zi 0, zi 0, .null, .null, .null, .null, .null, .null, .null, .null]))] rfl ?_
  refine c_dup dX7_init_17 rfl ?_
  refine c_callL [(o0, .inr (7, [.ref q1, zi 0, zi 0, .null, .null, .null, .null, .null, .null, .null, .null])), (q1, zA g 0 400)] (k_X2_init l hg q2) mk_X2_init rfl (zTB_in 164 (by decide +kernel) rfl) ml_RX7_15 ⟨Nat.le_of_ble_eq_true rfl, Nat.le_of_ble_eq_true rfl⟩ ⟨Nat.le_of_ble_eq_true rfl, Nat.le_of_ble_eq_true rfl⟩ rfl rfl (Nat.le_of_ble_eq_true rfl) dX7_init_18 (fun w1 hw1 => ?_)
  obtain ⟨q3, q4, q5, q6, q7, q8, q9, q10, rfl⟩ := hw1
  refine c_ws [(o0, .inr (7, [.ref q1, zi 0, zi 0, .null, .null, .null, .null, .null, .null, .null, .null])), (q1, zA g 0 400), (q2, .inr (2, [zi 0, zi 0, zi (-1), zi 0, zi 0, zi 0, .ref q3, .ref q4, .ref q5, .ref q6, .ref q7, .ref q8, .ref q9, .ref q10])), (q3, zA g 0 6), (q4, zA g 0 6), (q5, zA g 0 6), (q6, zA g 0 6), (q7, zA g 0 72), (q8, zA g 0 6), (q9, zA g 0 6), (q10, zA g 0 6)] rfl ?_
  refine c_putF 0 hin ff_RX7_16 rfl rfl rfl (Nat.le_of_ble_eq_true rfl) dX7_init_21 ?_
  refine c_ws [(o0, .inr (7, [.ref q1, zi 0, zi 0, .ref q2, .null, .null, .null, .null, .null, .null, .null])), (q1, zA g 0 400), (q2, .inr (2, [zi 0, zi 0, zi (-1), zi 0, zi 0, zi 0, .ref q3, .ref q4, .ref q5, .ref q6, .ref q7, .ref q8, .ref q9, .ref q10])), (q3, zA g 0 6), (q4, zA g 0 6), (q5, zA g 0 6), (q6, zA g 0 6), (q7, zA g 0 72), (q8, zA g 0 6), (q9, zA g 0 6), (q10, zA g 0 6)] rfl ?_
  refine c_aload_n 0 dX7_init_24 rfl rfl ?_
  refine c_new [zi 0, zi 0, zi 0, zi 0, zi 0, zi 0, .null, .null, .null, .null, .null, .null, .null, .null] (ci := 2) (C := RX2) (T := TX2) (N := 14) (ty := tyX2) rfl uinX2 tyX2_ok (zTB_in 161 (by decide +kernel) rfl) (zTB_in 162 (by decide +kernel) rfl) (zTB_in 133 (by decide +kernel) rfl) (by decide +kernel) (Nat.le_of_ble_eq_true rfl) (Nat.le_of_ble_eq_true rfl) dX7_init_25 (fun q11 => ?_)
  refine c_ws [(o0, .inr (7, [.ref q1, zi 0, zi 0, .ref q2, .null, .null, .null, .null, .null, .null, .null])), (q1, zA g 0 400), (q2, .inr (2, [zi 0, zi 0, zi (-1), zi 0, zi 0, zi 0, .ref q3, .ref q4, .ref q5, .ref q6, .ref q7, .ref q8, .ref q9, .ref q10])), (q3, zA g 0 6), (q4, zA g 0 6), (q5, zA g 0 6), (q6, zA g 0 6), (q7, zA g 0 72), (q8, zA g 0 6), (q9, zA g 0 6), (q10, zA g 0 6), (q11, .inr (2, [zi 0, zi 0, zi 0, zi 0, zi 0, zi 0, .null, .null, .null, .null, .null, .null, .null, .null]))] rfl ?_
  refine c_dup dX7_init_28 rfl ?_
  refine c_callL [(o0, .inr (7, [.ref q1, zi 0, zi 0, .ref q2, .null, .null, .null, .null, .null, .null, .null])), (q1, zA g 0 400), (q2, .inr (2, [zi 0, zi 0, zi (-1), zi 0, zi 0, zi 0, .ref q3, .ref q4, .ref q5, .ref q6, .ref q7, .ref q8, .ref q9, .ref q10])), (q3, zA g 0 6), (q4, zA g 0 6), (q5, zA g 0 6), (q6, zA g 0 6), (q7, zA g 0 72), (q8, zA g 0 6), (q9, zA g 0 6), (q10, zA g 0 6)] (k_X2_init l hg q11) mk_X2_init rfl (zTB_in 164 (by decide +kernel) rfl) ml_RX7_15 ⟨Nat.le_of_ble_eq_true rfl, Nat.le_of_ble_eq_true rfl⟩ ⟨Nat.le_of_ble_eq_true rfl, Nat.le_of_ble_eq_true rfl⟩ rfl rfl (Nat.le_of_ble_eq_true rfl) dX7_init_29 (fun w1 hw1 => ?_)
  obtain ⟨q12, q13, q14, q15, q16, q17, q18, q19, rfl⟩ := hw1
  refine c_ws [(o0, .inr (7, [.ref q1, zi 0, zi 0, .ref q2, .null, .null, .null, .null, .null, .null, .null])), (q1, zA g 0 400), (q2, .inr (2, [zi 0, zi 0, zi (-1), zi 0, zi 0, zi 0, .ref q3, .ref q4, .ref q5, .ref q6, .ref q7, .ref q8, .ref q9, .ref q10])), (q3, zA g 0 6), (q4, zA g 0 6), (q5, zA g 0 6), (q6, zA g 0 6), (q7, zA g 0 72), (q8, zA g 0 6), (q9, zA g 0 6), (q10, zA g 0 6), (q11, .inr (2, [zi 0, zi 0, zi (-1), zi 0, zi 0, zi 0, .ref q12, .ref q13, .ref q14, .ref q15, .ref q16, .ref q17, .ref q18, .ref q19])), (q12, zA g 0 6), (q13, zA g 0 6), (q14, zA g 0 6), (q15, zA g 0 6), (q16, zA g 0 72), (q17, zA g 0 6), (q18, zA g 0 6), (q19, zA g 0 6)] rfl ?_
  refine c_putF 0 hin ff_RX7_20 rfl rfl rfl (Nat.le_of_ble_eq_true rfl) dX7_init_32 ?_
  refine c_ws [(o0, .inr (7, [.ref q1, zi 0, zi 0, .ref q2, .ref q11, .null, .null, .null, .null, .null, .null])), (q1, zA g 0 400), (q2, .inr (2, [zi 0, zi 0, zi (-1), zi 0, zi 0, zi 0, .ref q3, .ref q4, .ref q5, .ref q6, .ref q7, .ref q8, .ref q9, .ref q10])), (q3, zA g 0 6), (q4, zA g 0 6), (q5, zA g 0 6), (q6, zA g 0 6), (q7, zA g 0 72), (q8, zA g 0 6), (q9, zA g 0 6), (q10, zA g 0 6), (q11, .inr (2, [zi 0, zi 0, zi (-1), zi 0, zi 0, zi 0, .ref q12, .ref q13, .ref q14, .ref q15, .ref q16, .ref q17, .ref q18, .ref q19])), (q12, zA g 0 6), (q13, zA g 0 6), (q14, zA g 0 6), (q15, zA g 0 6), (q16, zA g 0 72), (q17, zA g 0 6), (q18, zA g 0 6), (q19, zA g 0 6)] rfl ?_
  refine c_aload_n 0 dX7_init_35 rfl rfl ?_
  refine c_new [.null, .null, zi 0, zi 0, zi 0, zi 0, zi 0, zi 0, zi 0, zi 0, zi 0, zi 0, zi 0] (ci := 3) (C := RX3) (T := TX3) (N := 13) (ty := tyX3) rfl uinX3 tyX3_ok (zTB_in 240 (by decide +kernel) rfl) (zTB_in 241 (by decide +kernel) rfl) (zTB_in 134 (by decide +kernel) rfl) (by decide +kernel) (Nat.le_of_ble_eq_true rfl) (Nat.le_of_ble_eq_true rfl) dX7_init_36 (fun q20 => ?_)
  refine c_ws [(o0, .inr (7, [.ref q1, zi 0, zi 0, .ref q2, .ref q11, .null, .null, .null, .null, .null, .null])), (q1, zA g 0 400), (q2, .inr (2, [zi 0, zi 0, zi (-1), zi 0, zi 0, zi 0, .ref q3, .ref q4, .ref q5, .ref q6, .ref q7, .ref q8, .ref q9, .ref q10])), (q3, zA g 0 6), (q4, zA g 0 6), (q5, zA g 0 6), (q6, zA g 0 6), (q7, zA g 0 72), (q8, zA g 0 6), (q9, zA g 0 6), (q10, zA g 0 6), (q11, .inr (2, [zi 0, zi 0, zi (-1), zi 0, zi 0, zi 0, .ref q12, .ref q13, .ref q14, .ref q15, .ref q16, .ref q17, .ref q18, .ref q19])), (q12, zA g 0 6), (q13, zA g 0 6), (q14, zA g 0 6), (q15, zA g 0 6), (q16, zA g 0 72), (q17, zA g 0 6), (q18, zA g 0 6), (q19, zA g 0 6), (q20, .inr (3, [.null, .null, zi 0, zi 0, zi 0, zi 0, zi 0, zi 0, zi 0, zi 0, zi 0, zi 0, zi 0]))] rfl ?_
  refine c_dup dX7_init_39 rfl ?_
  refine c_aload_n 0 dX7_init_40 rfl rfl ?_
  refine c_getr 0 fl_RX7_9 rfl rfl dX7_init_41 ?_
  refine c_aload_n 0 dX7_init_44 rfl rfl ?_
  refine c_getr 0 fl_RX7_20 rfl rfl dX7_init_45 ?_
  refine c_callL [(o0, .inr (7, [.ref q1, zi 0, zi 0, .ref q2, .ref q11, .null, .null, .null, .null, .null, .null])), (q1, zA g 0 400), (q2, .inr (2, [zi 0, zi 0, zi (-1), zi 0, zi 0, zi 0, .ref q3, .ref q4, .ref q5, .ref q6, .ref q7, .ref q8, .ref q9, .ref q10])), (q3, zA g 0 6), (q4, zA g 0 6), (q5, zA g 0 6), (q6, zA g 0 6), (q7, zA g 0 72), (q8, zA g 0 6), (q9, zA g 0 6), (q10, zA g 0 6), (q11, .inr (2, [zi 0, zi 0, zi (-1), zi 0, zi 0, zi 0, .ref q12, .ref q13, .ref q14, .ref q15, .ref q16, .ref q17, .ref q18, .ref q19])), (q12, zA g 0 6), (q13, zA g 0 6), (q14, zA g 0 6), (q15, zA g 0 6), (q16, zA g 0 72), (q17, zA g 0 6), (q18, zA g 0 6), (q19, zA g 0 6)] (k_X3_init l hg q20 q1 q11) mk_X3_init rfl (zTB_in 243 (by decide +kernel) rfl) ml_RX7_25 ⟨Nat.le_of_ble_eq_true rfl, Nat.le_of_ble_eq_true rfl⟩ ⟨Nat.le_of_ble_eq_true rfl, Nat.le_of_ble_eq_true rfl⟩ rfl rfl (Nat.le_of_ble_eq_true rfl) dX7_init_48 (fun w1 hw1 => ?_)
  subst hw1
  refine c_ws [(o0, .inr (7, [.ref q1, zi 0, zi 0, .ref q2, .ref q11, .null, .null, .null, .null, .null, .null])), (q1, zA g 0 400), (q2, .inr (2, [zi 0, zi 0, zi (-1), zi 0, zi 0, zi 0, .ref q3, .ref q4, .ref q5, .ref q6, .ref q7, .ref q8, .ref q9, .ref q10])), (q3, zA g 0 6), (q4, zA g 0 6), (q5, zA g 0 6), (q6, zA g 0 6), (q7, zA g 0 72), (q8, zA g 0 6), (q9, zA g 0 6), (q10, zA g 0 6), (q11, .inr (2, [zi 0, zi 0, zi (-1), zi 0, zi 0, zi 0, .ref q12, .ref q13, .ref q14, .ref q15, .ref q16, .ref q17, .ref q18, .ref q19])), (q12, zA g 0 6), (q13, zA g 0 6), (q14, zA g 0 6), (q15, zA g 0 6), (q16, zA g 0 72), (q17, zA g 0 6), (q18, zA g 0 6), (q19, zA g 0 6), (q20, .inr (3, [.ref q1, .ref q11, zi 0, zi 0, zi 0, zi 0, zi 0, zi 0, zi 0, zi 0, zi 0, zi 0, zi 0]))] rfl ?_
  refine c_putF 0 hin ff_RX7_28 rfl rfl rfl (Nat.le_of_ble_eq_true rfl) dX7_init_51 ?_
  refine c_ws [(o0, .inr (7, [.ref q1, zi 0, zi 0, .ref q2, .ref q11, .ref q20, .null, .null, .null, .null, .null])), (q1, zA g 0 400), (q2, .inr (2, [zi 0, zi 0, zi (-1), zi 0, zi 0, zi 0, .ref q3, .ref q4, .ref q5, .ref q6, .ref q7, .ref q8, .ref q9, .ref q10])), (q3, zA g 0 6), (q4, zA g 0 6), (q5, zA g 0 6), (q6, zA g 0 6), (q7, zA g 0 72), (q8, zA g 0 6), (q9, zA g 0 6), (q10, zA g 0 6), (q11, .inr (2, [zi 0, zi 0, zi (-1), zi 0, zi 0, zi 0, .ref q12, .ref q13, .ref q14, .ref q15, .ref q16, .ref q17, .ref q18, .ref q19])), (q12, zA g 0 6), (q13, zA g 0 6), (q14, zA g 0 6), (q15, zA g 0 6), (q16, zA g 0 72), (q17, zA g 0 6), (q18, zA g 0 6), (q19, zA g 0 6), (q20, .inr (3, [.ref q1, .ref q11, zi 0, zi 0, zi 0, zi 0, zi 0, zi 0, zi 0, zi 0, zi 0, zi 0, zi 0]))] rfl ?_
  refine c_aload_n 0 dX7_init_54 rfl rfl ?_
  refine c_new [.null, .null, .null] (ci := 0) (C := RX0) (T := TX0) (N := 3) (ty := tyX0) rfl uinX0 tyX0_ok (zTB_in 287 (by decide +kernel) rfl) (zTB_in 288 (by decide +kernel) rfl) (zTB_in 135 (by decide +kernel) rfl) (by decide +kernel) (Nat.le_of_ble_eq_true rfl) (Nat.le_of_ble_eq_true rfl) dX7_init_55 (fun q21 => ?_)
  refine c_ws [(o0, .inr (7, [.ref q1, zi 0, zi 0, .ref q2, .ref q11, .ref q20, .null, .null, .null, .null, .null])), (q1, zA g 0 400), (q2, .inr (2, [zi 0, zi 0, zi (-1), zi 0, zi 0, zi 0, .ref q3, .ref q4, .ref q5, .ref q6, .ref q7, .ref q8, .ref q9, .ref q10])), (q3, zA g 0 6), (q4, zA g 0 6), (q5, zA g 0 6), (q6, zA g 0 6), (q7, zA g 0 72), (q8, zA g 0 6), (q9, zA g 0 6), (q10, zA g 0 6), (q11, .inr (2, [zi 0, zi 0, zi (-1), zi 0, zi 0, zi 0, .ref q12, .ref q13, .ref q14, .ref q15, .ref q16, .ref q17, .ref q18, .ref q19])), (q12, zA g 0 6), (q13, zA g 0 6), (q14, zA g 0 6), (q15, zA g 0 6), (q16, zA g 0 72), (q17, zA g 0 6), (q18, zA g 0 6), (q19, zA g 0 6), (q20, .inr (3, [.ref q1, .ref q11, zi 0, zi 0, zi 0, zi 0, zi 0, zi 0, zi 0, zi 0, zi 0, zi 0, zi 0])), (q21, .inr (0, [.null, .null, .null]))] rfl ?_
  refine c_dup dX7_init_58 rfl ?_
  refine c_aload_n 0 dX7_init_59 rfl rfl ?_
  refine c_getr 0 fl_RX7_16 rfl rfl dX7_init_60 ?_
  refine c_callL [(o0, .inr (7, [.ref q1, zi 0, zi 0, .ref q2, .ref q11, .ref q20, .null, .null, .null, .null, .null])), (q1, zA g 0 400), (q2, .inr (2, [zi 0, zi 0, zi (-1), zi 0, zi 0, zi 0, .ref q3, .ref q4, .ref q5, .ref q6, .ref q7, .ref q8, .ref q9, .ref q10])), (q3, zA g 0 6), (q4, zA g 0 6), (q5, zA g 0 6), (q6, zA g 0 6), (q7, zA g 0 72), (q8, zA g 0 6), (q9, zA g 0 6), (q10, zA g 0 6), (q11, .inr (2, [zi 0, zi 0, zi (-1), zi 0, zi 0, zi 0, .ref q12, .ref q13, .ref q14, .ref q15, .ref q16, .ref q17, .ref q18, .ref q19])), (q12, zA g 0 6), (q13, zA g 0 6), (q14, zA g 0 6), (q15, zA g 0 6), (q16, zA g 0 72), (q17, zA g 0 6), (q18, zA g 0 6), (q19, zA g 0 6), (q20, .inr (3, [.ref q1, .ref q11, zi 0, zi 0, zi 0, zi 0, zi 0, zi 0, zi 0, zi 0, zi 0, zi 0, zi 0]))] (k_X0_init l hg q21 q2) mk_X0_init rfl (zTB_in 290 (by decide +kernel) rfl) ml_RX7_34 ⟨Nat.le_of_ble_eq_true rfl, Nat.le_of_ble_eq_true rfl⟩ ⟨Nat.le_of_ble_eq_true rfl, Nat.le_of_ble_eq_true rfl⟩ rfl rfl (Nat.le_of_ble_eq_true rfl) dX7_init_63 (fun w1 hw1 => ?_)
  obtain ⟨q22, q23, rfl⟩ := hw1
  refine c_ws [(o0, .inr (7, [.ref q1, zi 0, zi 0, .ref q2, .ref q11, .ref q20, .null, .null, .null, .null, .null])), (q1, zA g 0 400), (q2, .inr (2, [zi 0, zi 0, zi (-1), zi 0, zi 0, zi 0, .ref q3, .ref q4, .ref q5, .ref q6, .ref q7, .ref q8, .ref q9, .ref q10])), (q3, zA g 0 6), (q4, zA g 0 6), (q5, zA g 0 6), (q6, zA g 0 6), (q7, zA g 0 72), (q8, zA g 0 6), (q9, zA g 0 6), (q10, zA g 0 6), (q11, .inr (2, [zi 0, zi 0, zi (-1), zi 0, zi 0, zi 0, .ref q12, .ref q13, .ref q14, .ref q15, .ref q16, .ref q17, .ref q18, .ref q19])), (q12, zA g 0 6), (q13, zA g 0 6), (q14, zA g 0 6), (q15, zA g 0 6), (q16, zA g 0 72), (q17, zA g 0 6), (q18, zA g 0 6), (q19, zA g 0 6), (q20, .inr (3, [.ref q1, .ref q11, zi 0, zi 0, zi 0, zi 0, zi 0, zi 0, zi 0, zi 0, zi 0, zi 0, zi 0])), (q21, .inr (0, [.ref q2, .ref q22, .ref q23])), (q22, zA g 0 6), (q23, zA g 0 64)] rfl ?_
  refine c_putF 0 hin ff_RX7_37 rfl rfl rfl (Nat.le_of_ble_eq_true rfl) dX7_init_66 ?_
  refine c_ws [(o0, .inr (7, [.ref q1, zi 0, zi 0, .ref q2, .ref q11, .ref q20, .ref q21, .null, .null, .null, .null])), (q1, zA g 0 400), (q2, .inr (2, [zi 0, zi 0, zi (-1), zi 0, zi 0, zi 0, .ref q3, .ref q4, .ref q5, .ref q6, .ref q7, .ref q8, .ref q9, .ref q10])), (q3, zA g 0 6), (q4, zA g 0 6), (q5, zA g 0 6), (q6, zA g 0 6), (q7, zA g 0 72), (q8, zA g 0 6), (q9, zA g 0 6), (q10, zA g 0 6), (q11, .inr (2, [zi 0, zi 0, zi (-1), zi 0, zi 0, zi 0, .ref q12, .ref q13, .ref q14, .ref q15, .ref q16, .ref q17, .ref q18, .ref q19])), (q12, zA g 0 6), (q13, zA g 0 6), (q14, zA g 0 6), (q15, zA g 0 6), (q16, zA g 0 72), (q17, zA g 0 6), (q18, zA g 0 6), (q19, zA g 0 6), (q20, .inr (3, [.ref q1, .ref q11, zi 0, zi 0, zi 0, zi 0, zi 0, zi 0, zi 0, zi 0, zi 0, zi 0, zi 0])), (q21, .inr (0, [.ref q2, .ref q22, .ref q23])), (q22, zA g 0 6), (q23, zA g 0 64)] rfl ?_
  refine c_aload_n 0 dX7_init_69 rfl rfl ?_
  refine c_new [.null, .null] (ci := 5) (C := RX5) (T := TX5) (N := 2) (ty := tyX5) rfl uinX5 tyX5_ok (zTB_in 304 (by decide +kernel) rfl) (zTB_in 305 (by decide +kernel) rfl) (zTB_in 136 (by decide +kernel) rfl) (by decide +kernel) (Nat.le_of_ble_eq_true rfl) (Nat.le_of_ble_eq_true rfl) dX7_init_70 (fun q24 => ?_)
  refine c_ws [(o0, .inr (7, [.ref q1, zi 0, zi 0, .ref q2, .ref q11, .ref q20, .ref q21, .null, .null, .null, .null])), (q1, zA g 0 400), (q2, .inr (2, [zi 0, zi 0, zi (-1), zi 0, zi 0, zi 0, .ref q3, .ref q4, .ref q5, .ref q6, .ref q7, .ref q8, .ref q9, .ref q10])), (q3, zA g 0 6), (q4, zA g 0 6), (q5, zA g 0 6), (q6, zA g 0 6), (q7, zA g 0 72), (q8, zA g 0 6), (q9, zA g 0 6), (q10, zA g 0 6), (q11, .inr (2, [zi 0, zi 0, zi (-1), zi 0, zi 0, zi 0, .ref q12, .ref q13, .ref q14, .ref q15, .ref q16, .ref q17, .ref q18, .ref q19])), (q12, zA g 0 6), (q13, zA g 0 6), (q14, zA g 0 6), (q15, zA g 0 6), (q16, zA g 0 72), (q17, zA g 0 6), (q18, zA g 0 6), (q19, zA g 0 6), (q20, .inr (3, [.ref q1, .ref q11, zi 0, zi 0, zi 0, zi 0, zi 0, zi 0, zi 0, zi 0, zi 0, zi 0, zi 0])), (q21, .inr (0, [.ref q2, .ref q22, .ref q23])), (q22, zA g 0 6), (q23, zA g 0 64), (q24, .inr (5, [.null, .null]))] rfl ?_
  refine c_dup dX7_init_73 rfl ?_
  refine c_aload_n 0 dX7_init_74 rfl rfl ?_
  refine c_getr 0 fl_RX7_16 rfl rfl dX7_init_75 ?_
  refine c_callL [(o0, .inr (7, [.ref q1, zi 0, zi 0, .ref q2, .ref q11, .ref q20, .ref q21, .null, .null, .null, .null])), (q1, zA g 0 400), (q2, .inr (2, [zi 0, zi 0, zi (-1), zi 0, zi 0, zi 0, .ref q3, .ref q4, .ref q5, .ref q6, .ref q7, .ref q8, .ref q9, .ref q10])), (q3, zA g 0 6), (q4, zA g 0 6), (q5, zA g 0 6), (q6, zA g 0 6), (q7, zA g 0 72), (q8, zA g 0 6), (q9, zA g 0 6), (q10, zA g 0 6), (q11, .inr (2, [zi 0, zi 0, zi (-1), zi 0, zi 0, zi 0, .ref q12, .ref q13, .ref q14, .ref q15, .ref q16, .ref q17, .ref q18, .ref q19])), (q12, zA g 0 6), (q13, zA g 0 6), (q14, zA g 0 6), (q15, zA g 0 6), (q16, zA g 0 72), (q17, zA g 0 6), (q18, zA g 0 6), (q19, zA g 0 6), (q20, .inr (3, [.ref q1, .ref q11, zi 0, zi 0, zi 0, zi 0, zi 0, zi 0, zi 0, zi 0, zi 0, zi 0, zi 0])), (q21, .inr (0, [.ref q2, .ref q22, .ref q23])), (q22, zA g 0 6), (q23, zA g 0 64)] (k_X5_init l hg q24 q2) mk_X5_init rfl (zTB_in 307 (by decide +kernel) rfl) ml_RX7_43 ⟨Nat.le_of_ble_eq_true rfl, Nat.le_of_ble_eq_true rfl⟩ ⟨Nat.le_of_ble_eq_true rfl, Nat.le_of_ble_eq_true rfl⟩ rfl rfl (Nat.le_of_ble_eq_true rfl) dX7_init_78 (fun w1 hw1 => ?_)
  obtain ⟨q25, rfl⟩ := hw1
  refine c_ws [(o0, .inr (7, [.ref q1, zi 0, zi 0, .ref q2, .ref q11, .ref q20, .ref q21, .null, .null, .null, .null])), (q1, zA g 0 400), (q2, .inr (2, [zi 0, zi 0, zi (-1), zi 0, zi 0, zi 0, .ref q3, .ref q4, .ref q5, .ref q6, .ref q7, .ref q8, .ref q9, .ref q10])), (q3, zA g 0 6), (q4, zA g 0 6), (q5, zA g 0 6), (q6, zA g 0 6), (q7, zA g 0 72), (q8, zA g 0 6), (q9, zA g 0 6), (q10, zA g 0 6), (q11, .inr (2, [zi 0, zi 0, zi (-1), zi 0, zi 0, zi 0, .ref q12, .ref q13, .ref q14, .ref q15, .ref q16, .ref q17, .ref q18, .ref q19])), (q12, zA g 0 6), (q13, zA g 0 6), (q14, zA g 0 6), (q15, zA g 0 6), (q16, zA g 0 72), (q17, zA g 0 6), (q18, zA g 0 6), (q19, zA g 0 6), (q20, .inr (3, [.ref q1, .ref q11, zi 0, zi 0, zi 0, zi 0, zi 0, zi 0, zi 0, zi 0, zi 0, zi 0, zi 0])), (q21, .inr (0, [.ref q2, .ref q22, .ref q23])), (q22, zA g 0 6), (q23, zA g 0 64), (q24, .inr (5, [.ref q2, .ref q25])), (q25, zA g 0 2304)] rfl ?_
  refine c_putF 0 hin ff_RX7_44 rfl rfl rfl (Nat.le_of_ble_eq_true rfl) dX7_init_81 ?_
  refine c_ws [(o0, .inr (7, [.ref q1, zi 0, zi 0, .ref q2, .ref q11, .ref q20, .ref q21, .ref q24, .null, .null, .null])), (q1, zA g 0 400), (q2, .inr (2, [zi 0, zi 0, zi (-1), zi 0, zi 0, zi 0, .ref q3, .ref q4, .ref q5, .ref q6, .ref q7, .ref q8, .ref q9, .ref q10])), (q3, zA g 0 6), (q4, zA g 0 6), (q5, zA g 0 6), (q6, zA g 0 6), (q7, zA g 0 72), (q8, zA g 0 6), (q9, zA g 0 6), (q10, zA g 0 6), (q11, .inr (2, [zi 0, zi 0, zi (-1), zi 0, zi 0, zi 0, .ref q12, .ref q13, .ref q14, .ref q15, .ref q16, .ref q17, .ref q18, .ref q19])), (q12, zA g 0 6), (q13, zA g 0 6), (q14, zA g 0 6), (q15, zA g 0 6), (q16, zA g 0 72), (q17, zA g 0 6), (q18, zA g 0 6), (q19, zA g 0 6), (q20, .inr (3, [.ref q1, .ref q11, zi 0, zi 0, zi 0, zi 0, zi 0, zi 0, zi 0, zi 0, zi 0, zi 0, zi 0])), (q21, .inr (0, [.ref q2, .ref q22, .ref q23])), (q22, zA g 0 6), (q23, zA g 0 64), (q24, .inr (5, [.ref q2, .ref q25])), (q25, zA g 0 2304)] rfl ?_
  refine c_aload_n 0 dX7_init_84 rfl rfl ?_
  refine c_new [.null, .null, .null, .null, .null, .null, .null, zi 0, zi 0] (ci := 6) (C := RX6) (T := TX6) (N := 9) (ty := tyX6) rfl uinX6 tyX6_ok (zTB_in 317 (by decide +kernel) rfl) (zTB_in 318 (by decide +kernel) rfl) (zTB_in 137 (by decide +kernel) rfl) (by decide +kernel) (Nat.le_of_ble_eq_true rfl) (Nat.le_of_ble_eq_true rfl) dX7_init_85 (fun q26 => ?_)
  refine c_ws [(o0, .inr (7, [.ref q1, zi 0, zi 0, .ref q2, .ref q11, .ref q20, .ref q21, .ref q24, .null, .null, .null])), (q1, zA g 0 400), (q2, .inr (2, [zi 0, zi 0, zi (-1), zi 0, zi 0, zi 0, .ref q3, .ref q4, .ref q5, .ref q6, .ref q7, .ref q8, .ref q9, .ref q10])), (q3, zA g 0 6), (q4, zA g 0 6), (q5, zA g 0 6), (q6, zA g 0 6), (q7, zA g 0 72), (q8, zA g 0 6), (q9, zA g 0 6), (q10, zA g 0 6), (q11, .inr (2, [zi 0, zi 0, zi (-1), zi 0, zi 0, zi 0, .ref q12, .ref q13, .ref q14, .ref q15, .ref q16, .ref q17, .ref q18, .ref q19])), (q12, zA g 0 6), (q13, zA g 0 6), (q14, zA g 0 6), (q15, zA g 0 6), (q16, zA g 0 72), (q17, zA g 0 6), (q18, zA g 0 6), (q19, zA g 0 6), (q20, .inr (3, [.ref q1, .ref q11, zi 0, zi 0, zi 0, zi 0, zi 0, zi 0, zi 0, zi 0, zi 0, zi 0, zi 0])), (q21, .inr (0, [.ref q2, .ref q22, .ref q23])), (q22, zA g 0 6), (q23, zA g 0 64), (q24, .inr (5, [.ref q2, .ref q25])), (q25, zA g 0 2304), (q26, .inr (6, [.null, .null, .null, .null, .null, .null, .null, zi 0, zi 0]))] rfl ?_
  refine c_dup dX7_init_88 rfl ?_
  refine c_aload_n 0 dX7_init_89 rfl rfl ?_
  refine c_getr 0 fl_RX7_16 rfl rfl dX7_init_90 ?_
  refine c_aload_n 0 dX7_init_93 rfl rfl ?_
  refine c_getr 0 fl_RX7_37 rfl rfl dX7_init_94 ?_
  refine c_aload_n 0 dX7_init_97 rfl rfl ?_
  refine c_getr 0 fl_RX7_44 rfl rfl dX7_init_98 ?_
  refine c_callL [(o0, .inr (7, [.ref q1, zi 0, zi 0, .ref q2, .ref q11, .ref q20, .ref q21, .ref q24, .null, .null, .null])), (q1, zA g 0 400), (q2, .inr (2, [zi 0, zi 0, zi (-1), zi 0, zi 0, zi 0, .ref q3, .ref q4, .ref q5, .ref q6, .ref q7, .ref q8, .ref q9, .ref q10])), (q3, zA g 0 6), (q4, zA g 0 6), (q5, zA g 0 6), (q6, zA g 0 6), (q7, zA g 0 72), (q8, zA g 0 6), (q9, zA g 0 6), (q10, zA g 0 6), (q11, .inr (2, [zi 0, zi 0, zi (-1), zi 0, zi 0, zi 0, .ref q12, .ref q13, .ref q14, .ref q15, .ref q16, .ref q17, .ref q18, .ref q19])), (q12, zA g 0 6), (q13, zA g 0 6), (q14, zA g 0 6), (q15, zA g 0 6), (q16, zA g 0 72), (q17, zA g 0 6), (q18, zA g 0 6), (q19, zA g 0 6), (q20, .inr (3, [.ref q1, .ref q11, zi 0, zi 0, zi 0, zi 0, zi 0, zi 0, zi 0, zi 0, zi 0, zi 0, zi 0])), (q21, .inr (0, [.ref q2, .ref q22, .ref q23])), (q22, zA g 0 6), (q23, zA g 0 64), (q24, .inr (5, [.ref q2, .ref q25])), (q25, zA g 0 2304)] (k_X6_init l hg q26 q2 q21 q24) mk_X6_init rfl (zTB_in 320 (by decide +kernel) rfl) ml_RX7_50 ⟨Nat.le_of_ble_eq_true rfl, Nat.le_of_ble_eq_true rfl⟩ ⟨Nat.le_of_ble_eq_true rfl, Nat.le_of_ble_eq_true rfl⟩ rfl rfl (Nat.le_of_ble_eq_true rfl) dX7_init_101 (fun w1 hw1 => ?_)
  obtain ⟨q27, q28, q29, q30, rfl⟩ := hw1
  refine c_ws [(o0, .inr (7, [.ref q1, zi 0, zi 0, .ref q2, .ref q11, .ref q20, .ref q21, .ref q24, .null, .null, .null])), (q1, zA g 0 400), (q2, .inr (2, [zi 0, zi 0, zi (-1), zi 0, zi 0, zi 0, .ref q3, .ref q4, .ref q5, .ref q6, .ref q7, .ref q8, .ref q9, .ref q10])), (q3, zA g 0 6), (q4, zA g 0 6), (q5, zA g 0 6), (q6, zA g 0 6), (q7, zA g 0 72), (q8, zA g 0 6), (q9, zA g 0 6), (q10, zA g 0 6), (q11, .inr (2, [zi 0, zi 0, zi (-1), zi 0, zi 0, zi 0, .ref q12, .ref q13, .ref q14, .ref q15, .ref q16, .ref q17, .ref q18, .ref q19])), (q12, zA g 0 6), (q13, zA g 0 6), (q14, zA g 0 6), (q15, zA g 0 6), (q16, zA g 0 72), (q17, zA g 0 6), (q18, zA g 0 6), (q19, zA g 0 6), (q20, .inr (3, [.ref q1, .ref q11, zi 0, zi 0, zi 0, zi 0, zi 0, zi 0, zi 0, zi 0, zi 0, zi 0, zi 0])), (q21, .inr (0, [.ref q2, .ref q22, .ref q23])), (q22, zA g 0 6), (q23, zA g 0 64), (q24, .inr (5, [.ref q2, .ref q25])), (q25, zA g 0 2304), (q26, .inr (6, [.ref q2, .ref q21, .ref q24, .ref q27, .ref q28, .ref q29, .ref q30, zi 0, zi 0])), (q27, zA g 0 64), (q28, zA g 0 448), (q29, zA g 0 6), (q30, zA g 0 7)] rfl ?_
  refine c_putF 0 hin ff_RX7_53 rfl rfl rfl (Nat.le_of_ble_eq_true rfl) dX7_init_104 ?_
  refine c_ws [(o0, .inr (7, [.ref q1, zi 0, zi 0, .ref q2, .ref q11, .ref q20, .ref q21, .ref q24, .ref q26, .null, .null])), (q1, zA g 0 400), (q2, .inr (2, [zi 0, zi 0, zi (-1), zi 0, zi 0, zi 0, .ref q3, .ref q4, .ref q5, .ref q6, .ref q7, .ref q8, .ref q9, .ref q10])), (q3, zA g 0 6), (q4, zA g 0 6), (q5, zA g 0 6), (q6, zA g 0 6), (q7, zA g 0 72), (q8, zA g 0 6), (q9, zA g 0 6), (q10, zA g 0 6), (q11, .inr (2, [zi 0, zi 0, zi (-1), zi 0, zi 0, zi 0, .ref q12, .ref q13, .ref q14, .ref q15, .ref q16, .ref q17, .ref q18, .ref q19])), (q12, zA g 0 6), (q13, zA g 0 6), (q14, zA g 0 6), (q15, zA g 0 6), (q16, zA g 0 72), (q17, zA g 0 6), (q18, zA g 0 6), (q19, zA g 0 6), (q20, .inr (3, [.ref q1, .ref q11, zi 0, zi 0, zi 0, zi 0, zi 0, zi 0, zi 0, zi 0, zi 0, zi 0, zi 0])), (q21, .inr (0, [.ref q2, .ref q22, .ref q23])), (q22, zA g 0 6), (q23, zA g 0 64), (q24, .inr (5, [.ref q2, .ref q25])), (q25, zA g 0 2304), (q26, .inr (6, [.ref q2, .ref q21, .ref q24, .ref q27, .ref q28, .ref q29, .ref q30, zi 0, zi 0])), (q27, zA g 0 64), (q28, zA g 0 448), (q29, zA g 0 6), (q30, zA g 0 7)] rfl ?_
  refine c_aload_n 0 dX7_init_107 rfl rfl ?_
  refine c_new [.null, .null, .null, .null, zi 0, zi 0, zi 0, zi 0] (ci := 4) (C := RX4) (T := TX4) (N := 8) (ty := tyX4) rfl uinX4 tyX4_ok (zTB_in 357 (by decide +kernel) rfl) (zTB_in 358 (by decide +kernel) rfl) (zTB_in 138 (by decide +kernel) rfl) (by decide +kernel) (Nat.le_of_ble_eq_true rfl) (Nat.le_of_ble_eq_true rfl) dX7_init_108 (fun q31 => ?_)
  refine c_ws [(o0, .inr (7, [.ref q1, zi 0, zi 0, .ref q2, .ref q11, .ref q20, .ref q21, .ref q24, .ref q26, .null, .null])), (q1, zA g 0 400), (q2, .inr (2, [zi 0, zi 0, zi (-1), zi 0, zi 0, zi 0, .ref q3, .ref q4, .ref q5, .ref q6, .ref q7, .ref q8, .ref q9, .ref q10])), (q3, zA g 0 6), (q4, zA g 0 6), (q5, zA g 0 6), (q6, zA g 0 6), (q7, zA g 0 72), (q8, zA g 0 6), (q9, zA g 0 6), (q10, zA g 0 6), (q11, .inr (2, [zi 0, zi 0, zi (-1), zi 0, zi 0, zi 0, .ref q12, .ref q13, .ref q14, .ref q15, .ref q16, .ref q17, .ref q18, .ref q19])), (q12, zA g 0 6), (q13, zA g 0 6), (q14, zA g 0 6), (q15, zA g 0 6), (q16, zA g 0 72), (q17, zA g 0 6), (q18, zA g 0 6), (q19, zA g 0 6), (q20, .inr (3, [.ref q1, .ref q11, zi 0, zi 0, zi 0, zi 0, zi 0, zi 0, zi 0, zi 0, zi 0, zi 0, zi 0])), (q21, .inr (0, [.ref q2, .ref q22, .ref q23])), (q22, zA g 0 6), (q23, zA g 0 64), (q24, .inr (5, [.ref q2, .ref q25])), (q25, zA g 0 2304), (q26, .inr (6, [.ref q2, .ref q21, .ref q24, .ref q27, .ref q28, .ref q29, .ref q30, zi 0, zi 0])), (q27, zA g 0 64), (q28, zA g 0 448), (q29, zA g 0 6), (q30, zA g 0 7), (q31, .inr (4, [.null, .null, .null, .null, zi 0, zi 0, zi 0, zi 0]))] rfl ?_
  refine c_dup dX7_init_111 rfl ?_
  refine c_aload_n 0 dX7_init_112 rfl rfl ?_
  refine c_getr 0 fl_RX7_16 rfl rfl dX7_init_113 ?_
  refine c_aload_n 0 dX7_init_116 rfl rfl ?_
  refine c_getr 0 fl_RX7_44 rfl rfl dX7_init_117 ?_
  refine c_aload_n 0 dX7_init_120 rfl rfl ?_
  refine c_getr 0 fl_RX7_53 rfl rfl dX7_init_121 ?_
  refine c_callI (wc := [(q26, .inr (6, [.ref q2, .ref q21, .ref q24, .ref q27, .ref q28, .ref q29, .ref q30, zi 0, zi 0])), (q31, .inr (4, [.null, .null, .null, .null, zi 0, zi 0, zi 0, zi 0]))]) (wr := [(o0, .inr (7, [.ref q1, zi 0, zi 0, .ref q2, .ref q11, .ref q20, .ref q21, .ref q24, .ref q26, .null, .null])), (q1, zA g 0 400), (q2, .inr (2, [zi 0, zi 0, zi (-1), zi 0, zi 0, zi 0, .ref q3, .ref q4, .ref q5, .ref q6, .ref q7, .ref q8, .ref q9, .ref q10])), (q3, zA g 0 6), (q4, zA g 0 6), (q5, zA g 0 6), (q6, zA g 0 6), (q7, zA g 0 72), (q8, zA g 0 6), (q9, zA g 0 6), (q10, zA g 0 6), (q11, .inr (2, [zi 0, zi 0, zi (-1), zi 0, zi 0, zi 0, .ref q12, .ref q13, .ref q14, .ref q15, .ref q16, .ref q17, .ref q18, .ref q19])), (q12, zA g 0 6), (q13, zA g 0 6), (q14, zA g 0 6), (q15, zA g 0 6), (q16, zA g 0 72), (q17, zA g 0 6), (q18, zA g 0 6), (q19, zA g 0 6), (q20, .inr (3, [.ref q1, .ref q11, zi 0, zi 0, zi 0, zi 0, zi 0, zi 0, zi 0, zi 0, zi 0, zi 0, zi 0])), (q21, .inr (0, [.ref q2, .ref q22, .ref q23])), (q22, zA g 0 6), (q23, zA g 0 64), (q24, .inr (5, [.ref q2, .ref q25])), (q25, zA g 0 2304), (q27, zA g 0 64), (q28, zA g 0 448), (q29, zA g 0 6), (q30, zA g 0 7)]) [26, 31] [0, 1, 2, 3, 4, 5, 6, 7, 8, 9, 10, 11, 12, 13, 14, 15, 16, 17, 18, 19, 20, 21, 22, 23, 24, 25, 27, 28, 29, 30] (k_X4_init l hg q31 q2 q24 q26 q21 [.ref q2, .ref q21, .ref q24, .ref q27, .ref q28, .ref q29, .ref q30, zi 0, zi 0] rfl) mk_X4_init rfl (zTB_in 360 (by decide +kernel) rfl) ml_RX7_59 ⟨Nat.le_of_ble_eq_true rfl, Nat.le_of_ble_eq_true rfl⟩ ⟨Nat.le_of_ble_eq_true rfl, Nat.le_of_ble_eq_true rfl⟩ rfl rfl (Nat.le_of_ble_eq_true rfl) dX7_init_124 rfl rfl (by decide) (by decide) (by decide) (fun w1 hw1 => ?_)
  subst hw1
  refine c_ws [(o0, .inr (7, [.ref q1, zi 0, zi 0, .ref q2, .ref q11, .ref q20, .ref q21, .ref q24, .ref q26, .null, .null])), (q1, zA g 0 400), (q2, .inr (2, [zi 0, zi 0, zi (-1), zi 0, zi 0, zi 0, .ref q3, .ref q4, .ref q5, .ref q6, .ref q7, .ref q8, .ref q9, .ref q10])), (q3, zA g 0 6), (q4, zA g 0 6), (q5, zA g 0 6), (q6, zA g 0 6), (q7, zA g 0 72), (q8, zA g 0 6), (q9, zA g 0 6), (q10, zA g 0 6), (q11, .inr (2, [zi 0, zi 0, zi (-1), zi 0, zi 0, zi 0, .ref q12, .ref q13, .ref q14, .ref q15, .ref q16, .ref q17, .ref q18, .ref q19])), (q12, zA g 0 6), (q13, zA g 0 6), (q14, zA g 0 6), (q15, zA g 0 6), (q16, zA g 0 72), (q17, zA g 0 6), (q18, zA g 0 6), (q19, zA g 0 6), (q20, .inr (3, [.ref q1, .ref q11, zi 0, zi 0, zi 0, zi 0, zi 0, zi 0, zi 0, zi 0, zi 0, zi 0, zi 0])), (q21, .inr (0, [.ref q2, .ref q22, .ref q23])), (q22, zA g 0 6), (q23, zA g 0 64), (q24, .inr (5, [.ref q2, .ref q25])), (q25, zA g 0 2304), (q27, zA g 0 64), (q28, zA g 0 448), (q29, zA g 0 6), (q30, zA g 0 7), (q26, .inr (6, [.ref q2, .ref q21, .ref q24, .ref q27, .ref q28, .ref q29, .ref q30, zi 0, zi 0])), (q31, .inr (4, [.ref q2, .ref q24, .ref q26, .ref q21, zi 0, zi 0, zi 0, zi 0]))] rfl ?_
  refine c_putF 0 hin ff_RX7_62 rfl rfl rfl (Nat.le_of_ble_eq_true rfl) dX7_init_127 ?_
  refine c_ws [(o0, .inr (7, [.ref q1, zi 0, zi 0, .ref q2, .ref q11, .ref q20, .ref q21, .ref q24, .ref q26, .ref q31, .null])), (q1, zA g 0 400), (q2, .inr (2, [zi 0, zi 0, zi (-1), zi 0, zi 0, zi 0, .ref q3, .ref q4, .ref q5, .ref q6, .ref q7, .ref q8, .ref q9, .ref q10])), (q3, zA g 0 6), (q4, zA g 0 6), (q5, zA g 0 6), (q6, zA g 0 6), (q7, zA g 0 72), (q8, zA g 0 6), (q9, zA g 0 6), (q10, zA g 0 6), (q11, .inr (2, [zi 0, zi 0, zi (-1), zi 0, zi 0, zi 0, .ref q12, .ref q13, .ref q14, .ref q15, .ref q16, .ref q17, .ref q18, .ref q19])), (q12, zA g 0 6), (q13, zA g 0 6), (q14, zA g 0 6), (q15, zA g 0 6), (q16, zA g 0 72), (q17, zA g 0 6), (q18, zA g 0 6), (q19, zA g 0 6), (q20, .inr (3, [.ref q1, .ref q11, zi 0, zi 0, zi 0, zi 0, zi 0, zi 0, zi 0, zi 0, zi 0, zi 0, zi 0])), (q21, .inr (0, [.ref q2, .ref q22, .ref q23])), (q22, zA g 0 6), (q23, zA g 0 64), (q24, .inr (5, [.ref q2, .ref q25])), (q25, zA g 0 2304), (q27, zA g 0 64), (q28, zA g 0 448), (q29, zA g 0 6), (q30, zA g 0 7), (q26, .inr (6, [.ref q2, .ref q21, .ref q24, .ref q27, .ref q28, .ref q29, .ref q30, zi 0, zi 0])), (q31, .inr (4, [.ref q2, .ref q24, .ref q26, .ref q21, zi 0, zi 0, zi 0, zi 0]))] rfl ?_
  refine c_aload_n 0 dX7_init_130 rfl rfl ?_
  refine c_new [.null, .null, .null, .null, zi 0, .null, .null, zi 0, .null, zi 0] (ci := 1) (C := RX1) (T := TX1) (N := 10) (ty := tyX1) rfl uinX1 tyX1_ok (zTB_in 390 (by decide +kernel) rfl) (zTB_in 391 (by decide +kernel) rfl) (zTB_in 139 (by decide +kernel) rfl) (by decide +kernel) (Nat.le_of_ble_eq_true rfl) (Nat.le_of_ble_eq_true rfl) dX7_init_131 (fun q32 => ?_)
  refine c_ws [(o0, .inr (7, [.ref q1, zi 0, zi 0, .ref q2, .ref q11, .ref q20, .ref q21, .ref q24, .ref q26, .ref q31, .null])), (q1, zA g 0 400), (q2, .inr (2, [zi 0, zi 0, zi (-1), zi 0, zi 0, zi 0, .ref q3, .ref q4, .ref q5, .ref q6, .ref q7, .ref q8, .ref q9, .ref q10])), (q3, zA g 0 6), (q4, zA g 0 6), (q5, zA g 0 6), (q6, zA g 0 6), (q7, zA g 0 72), (q8, zA g 0 6), (q9, zA g 0 6), (q10, zA g 0 6), (q11, .inr (2, [zi 0, zi 0, zi (-1), zi 0, zi 0, zi 0, .ref q12, .ref q13, .ref q14, .ref q15, .ref q16, .ref q17, .ref q18, .ref q19])), (q12, zA g 0 6), (q13, zA g 0 6), (q14, zA g 0 6), (q15, zA g 0 6), (q16, zA g 0 72), (q17, zA g 0 6), (q18, zA g 0 6), (q19, zA g 0 6), (q20, .inr (3, [.ref q1, .ref q11, zi 0, zi 0, zi 0, zi 0, zi 0, zi 0, zi 0, zi 0, zi 0, zi 0, zi 0])), (q21, .inr (0, [.ref q2, .ref q22, .ref q23])), (q22, zA g 0 6), (q23, zA g 0 64), (q24, .inr (5, [.ref q2, .ref q25])), (q25, zA g 0 2304), (q27, zA g 0 64), (q28, zA g 0 448), (q29, zA g 0 6), (q30, zA g 0 7), (q26, .inr (6, [.ref q2, .ref q21, .ref q24, .ref q27, .ref q28, .ref q29, .ref q30, zi 0, zi 0])), (q31, .inr (4, [.ref q2, .ref q24, .ref q26, .ref q21, zi 0, zi 0, zi 0, zi 0])), (q32, .inr (1, [.null, .null, .null, .null, zi 0, .null, .null, zi 0, .null, zi 0]))] rfl ?_
  refine c_dup dX7_init_134 rfl ?_
  refine c_aload_n 0 dX7_init_135 rfl rfl ?_
  refine c_getr 0 fl_RX7_16 rfl rfl dX7_init_136 ?_
  refine c_aload_n 0 dX7_init_139 rfl rfl ?_
  refine c_getr 0 fl_RX7_44 rfl rfl dX7_init_140 ?_
  refine c_aload_n 0 dX7_init_143 rfl rfl ?_
  refine c_getr 0 fl_RX7_53 rfl rfl dX7_init_144 ?_
  refine c_callL [(o0, .inr (7, [.ref q1, zi 0, zi 0, .ref q2, .ref q11, .ref q20, .ref q21, .ref q24, .ref q26, .ref q31, .null])), (q1, zA g 0 400), (q2, .inr (2, [zi 0, zi 0, zi (-1), zi 0, zi 0, zi 0, .ref q3, .ref q4, .ref q5, .ref q6, .ref q7, .ref q8, .ref q9, .ref q10])), (q3, zA g 0 6), (q4, zA g 0 6), (q5, zA g 0 6), (q6, zA g 0 6), (q7, zA g 0 72), (q8, zA g 0 6), (q9, zA g 0 6), (q10, zA g 0 6), (q11, .inr (2, [zi 0, zi 0, zi (-1), zi 0, zi 0, zi 0, .ref q12, .ref q13, .ref q14, .ref q15, .ref q16, .ref q17, .ref q18, .ref q19])), (q12, zA g 0 6), (q13, zA g 0 6), (q14, zA g 0 6), (q15, zA g 0 6), (q16, zA g 0 72), (q17, zA g 0 6), (q18, zA g 0 6), (q19, zA g 0 6), (q20, .inr (3, [.ref q1, .ref q11, zi 0, zi 0, zi 0, zi 0, zi 0, zi 0, zi 0, zi 0, zi 0, zi 0, zi 0])), (q21, .inr (0, [.ref q2, .ref q22, .ref q23])), (q22, zA g 0 6), (q23, zA g 0 64), (q24, .inr (5, [.ref q2, .ref q25])), (q25, zA g 0 2304), (q27, zA g 0 64), (q28, zA g 0 448), (q29, zA g 0 6), (q30, zA g 0 7), (q26, .inr (6, [.ref q2, .ref q21, .ref q24, .ref q27, .ref q28, .ref q29, .ref q30, zi 0, zi 0])), (q31, .inr (4, [.ref q2, .ref q24, .ref q26, .ref q21, zi 0, zi 0, zi 0, zi 0]))] (k_X1_init l hg q32 q2 q24 q26) mk_X1_init rfl (zTB_in 393 (by decide +kernel) rfl) ml_RX7_68 ⟨Nat.le_of_ble_eq_true rfl, Nat.le_of_ble_eq_true rfl⟩ ⟨Nat.le_of_ble_eq_true rfl, Nat.le_of_ble_eq_true rfl⟩ rfl rfl (Nat.le_of_ble_eq_true rfl) dX7_init_147 (fun w1 hw1 => ?_)
  obtain ⟨q33, q34, q35, q36, rfl⟩ := hw1
  refine c_ws [(o0, .inr (7, [.ref q1, zi 0, zi 0, .ref q2, .ref q11, .ref q20, .ref q21, .ref q24, .ref q26, .ref q31, .null])), (q1, zA g 0 400), (q2, .inr (2, [zi 0, zi 0, zi (-1), zi 0, zi 0, zi 0, .ref q3, .ref q4, .ref q5, .ref q6, .ref q7, .ref q8, .ref q9, .ref q10])), (q3, zA g 0 6), (q4, zA g 0 6), (q5, zA g 0 6), (q6, zA g 0 6), (q7, zA g 0 72), (q8, zA g 0 6), (q9, zA g 0 6), (q10, zA g 0 6), (q11, .inr (2, [zi 0, zi 0, zi (-1), zi 0, zi 0, zi 0, .ref q12, .ref q13, .ref q14, .ref q15, .ref q16, .ref q17, .ref q18, .ref q19])), (q12, zA g 0 6), (q13, zA g 0 6), (q14, zA g 0 6), (q15, zA g 0 6), (q16, zA g 0 72), (q17, zA g 0 6), (q18, zA g 0 6), (q19, zA g 0 6), (q20, .inr (3, [.ref q1, .ref q11, zi 0, zi 0, zi 0, zi 0, zi 0, zi 0, zi 0, zi 0, zi 0, zi 0, zi 0])), (q21, .inr (0, [.ref q2, .ref q22, .ref q23])), (q22, zA g 0 6), (q23, zA g 0 64), (q24, .inr (5, [.ref q2, .ref q25])), (q25, zA g 0 2304), (q27, zA g 0 64), (q28, zA g 0 448), (q29, zA g 0 6), (q30, zA g 0 7), (q26, .inr (6, [.ref q2, .ref q21, .ref q24, .ref q27, .ref q28, .ref q29, .ref q30, zi 0, zi 0])), (q31, .inr (4, [.ref q2, .ref q24, .ref q26, .ref q21, zi 0, zi 0, zi 0, zi 0])), (q32, .inr (1, [.ref q2, .ref q24, .ref q26, .ref q33, zi 0, .ref q34, .ref q35, zi 0, .ref q36, zi 0])), (q33, zA g 0 65), (q34, zA g 0 8), (q35, zA g 0 195), (q36, zA g 0 65)] rfl ?_
  refine c_putF 0 hin ff_RX7_69 rfl rfl rfl (Nat.le_of_ble_eq_true rfl) dX7_init_150 ?_
  refine c_ws [(o0, .inr (7, [.ref q1, zi 0, zi 0, .ref q2, .ref q11, .ref q20, .ref q21, .ref q24, .ref q26, .ref q31, .ref q32])), (q1, zA g 0 400), (q2, .inr (2, [zi 0, zi 0, zi (-1), zi 0, zi 0, zi 0, .ref q3, .ref q4, .ref q5, .ref q6, .ref q7, .ref q8, .ref q9, .ref q10])), (q3, zA g 0 6), (q4, zA g 0 6), (q5, zA g 0 6), (q6, zA g 0 6), (q7, zA g 0 72), (q8, zA g 0 6), (q9, zA g 0 6), (q10, zA g 0 6), (q11, .inr (2, [zi 0, zi 0, zi (-1), zi 0, zi 0, zi 0, .ref q12, .ref q13, .ref q14, .ref q15, .ref q16, .ref q17, .ref q18, .ref q19])), (q12, zA g 0 6), (q13, zA g 0 6), (q14, zA g 0 6), (q15, zA g 0 6), (q16, zA g 0 72), (q17, zA g 0 6), (q18, zA g 0 6), (q19, zA g 0 6), (q20, .inr (3, [.ref q1, .ref q11, zi 0, zi 0, zi 0, zi 0, zi 0, zi 0, zi 0, zi 0, zi 0, zi 0, zi 0])), (q21, .inr (0, [.ref q2, .ref q22, .ref q23])), (q22, zA g 0 6), (q23, zA g 0 64), (q24, .inr (5, [.ref q2, .ref q25])), (q25, zA g 0 2304), (q27, zA g 0 64), (q28, zA g 0 448), (q29, zA g 0 6), (q30, zA g 0 7), (q26, .inr (6, [.ref q2, .ref q21, .ref q24, .ref q27, .ref q28, .ref q29, .ref q30, zi 0, zi 0])), (q31, .inr (4, [.ref q2, .ref q24, .ref q26, .ref q21, zi 0, zi 0, zi 0, zi 0])), (q32, .inr (1, [.ref q2, .ref q24, .ref q26, .ref q33, zi 0, .ref q34, .ref q35, zi 0, .ref q36, zi 0])), (q33, zA g 0 65), (q34, zA g 0 8), (q35, zA g 0 195), (q36, zA g 0 65)] rfl ?_
  refine c_aload_n 0 dX7_init_153 rfl rfl ?_
  refine c_callK (n' := 5) (ad := fun p => ([o0, q1, q2, q3, q4, q5, q6, q7, q8, q9, q10, q11, q12, q13, q14, q15, q16, q17, q18, q19, q20, q21, q22, q23, q24, q25, q26, q27, q28, q29, q30, q31, q32, q33, q34, q35, q36] : List Nat).getD p 0) (d := d00) (q := 0) [0, 1, 2, 3, 4, 5, 6, 7, 8, 9, 10, 11, 12, 13, 14, 15, 16, 17, 18, 19, 20, 21, 22, 23, 24, 25, 30, 26, 27, 28, 29, 31, 32, 33, 34, 35, 36] (k_told l hg _) mk_X7_takeTold mi_X7_takeTold (zTB_in 429 (by decide +kernel) rfl) ⟨Nat.le_of_ble_eq_true rfl, Nat.le_of_ble_eq_true rfl⟩ ⟨Nat.le_of_ble_eq_true rfl, Nat.le_of_ble_eq_true rfl⟩ (by decide) rfl rfl (Nat.le_of_ble_eq_true rfl) dX7_init_154 rfl (by decide) (fun d' hd' => ?_)
  exact c_vret rfl dX7_init_157 (Nat.le_of_ble_eq_true rfl) (Nat.le_of_ble_eq_true rfl) ⟨fun p => ([o0, q1, q2, q3, q4, q5, q6, q7, q8, q9, q10, q11, q12, q13, q14, q15, q16, q17, q18, q19, q20, q21, q22, q23, q24, q25, q26, q27, q28, q29, q30, q31, q32, q33, q34, q35, q36] : List Nat).getD p 0, d', rfl, hd'.2, rfl⟩
theorem ff_RX8_7 : zfF RX8 7 8 1 (.array .int) := ⟨RX8, TX8, 43, tyX8, rfl, by decide, uinX8, zTB_in 1047 (by decide +kernel) rfl, tyX8_ok, nmX8, rfl, rfl, by decide +kernel⟩
theorem ff_RX8_13 : zfF RX8 13 8 2 (.array .int) := ⟨RX8, TX8, 43, tyX8, rfl, by decide, uinX8, zTB_in 1048 (by decide +kernel) rfl, tyX8_ok, nmX8, rfl, rfl, by decide +kernel⟩
theorem ff_RX8_16 : zfF RX8 16 8 3 (.array .int) := ⟨RX8, TX8, 43, tyX8, rfl, by decide, uinX8, zTB_in 1049 (by decide +kernel) rfl, tyX8_ok, nmX8, rfl, rfl, by decide +kernel⟩
theorem ff_RX8_19 : zfF RX8 19 8 4 (.array .int) := ⟨RX8, TX8, 43, tyX8, rfl, by decide, uinX8, zTB_in 1050 (by decide +kernel) rfl, tyX8_ok, nmX8, rfl, rfl, by decide +kernel⟩
theorem ff_RX8_22 : zfF RX8 22 8 5 (.array .int) := ⟨RX8, TX8, 43, tyX8, rfl, by decide, uinX8, zTB_in 1051 (by decide +kernel) rfl, tyX8_ok, nmX8, rfl, rfl, by decide +kernel⟩
theorem ff_RX8_25 : zfF RX8 25 8 6 (.array .int) := ⟨RX8, TX8, 43, tyX8, rfl, by decide, uinX8, zTB_in 1052 (by decide +kernel) rfl, tyX8_ok, nmX8, rfl, rfl, by decide +kernel⟩
theorem ff_RX8_28 : zfF RX8 28 8 7 (.array .int) := ⟨RX8, TX8, 43, tyX8, rfl, by decide, uinX8, zTB_in 1053 (by decide +kernel) rfl, tyX8_ok, nmX8, rfl, rfl, by decide +kernel⟩
theorem ff_RX8_31 : zfF RX8 31 8 8 (.array .int) := ⟨RX8, TX8, 43, tyX8, rfl, by decide, uinX8, zTB_in 1054 (by decide +kernel) rfl, tyX8_ok, nmX8, rfl, rfl, by decide +kernel⟩
theorem ff_RX8_34 : zfF RX8 34 8 9 (.array .int) := ⟨RX8, TX8, 43, tyX8, rfl, by decide, uinX8, zTB_in 1055 (by decide +kernel) rfl, tyX8_ok, nmX8, rfl, rfl, by decide +kernel⟩
theorem ff_RX8_37 : zfF RX8 37 8 10 (.array .int) := ⟨RX8, TX8, 43, tyX8, rfl, by decide, uinX8, zTB_in 1056 (by decide +kernel) rfl, tyX8_ok, nmX8, rfl, rfl, by decide +kernel⟩
theorem ff_RX8_40 : zfF RX8 40 8 11 (.array .int) := ⟨RX8, TX8, 43, tyX8, rfl, by decide, uinX8, zTB_in 1057 (by decide +kernel) rfl, tyX8_ok, nmX8, rfl, rfl, by decide +kernel⟩
theorem ff_RX8_43 : zfF RX8 43 8 12 (.array .int) := ⟨RX8, TX8, 43, tyX8, rfl, by decide, uinX8, zTB_in 1058 (by decide +kernel) rfl, tyX8_ok, nmX8, rfl, rfl, by decide +kernel⟩
theorem ff_RX8_46 : zfF RX8 46 8 13 (.array .int) := ⟨RX8, TX8, 43, tyX8, rfl, by decide, uinX8, zTB_in 1059 (by decide +kernel) rfl, tyX8_ok, nmX8, rfl, rfl, by decide +kernel⟩
theorem ff_RX8_49 : zfF RX8 49 8 14 (.array .int) := ⟨RX8, TX8, 43, tyX8, rfl, by decide, uinX8, zTB_in 1060 (by decide +kernel) rfl, tyX8_ok, nmX8, rfl, rfl, by decide +kernel⟩
theorem ff_RX8_52 : zfF RX8 52 8 15 (.array .int) := ⟨RX8, TX8, 43, tyX8, rfl, by decide, uinX8, zTB_in 1061 (by decide +kernel) rfl, tyX8_ok, nmX8, rfl, rfl, by decide +kernel⟩
theorem ff_RX8_55 : zfF RX8 55 8 16 (.array .int) := ⟨RX8, TX8, 43, tyX8, rfl, by decide, uinX8, zTB_in 1062 (by decide +kernel) rfl, tyX8_ok, nmX8, rfl, rfl, by decide +kernel⟩
theorem ff_RX8_58 : zfF RX8 58 8 17 (.array .int) := ⟨RX8, TX8, 43, tyX8, rfl, by decide, uinX8, zTB_in 1063 (by decide +kernel) rfl, tyX8_ok, nmX8, rfl, rfl, by decide +kernel⟩
theorem ff_RX8_61 : zfF RX8 61 8 18 (.array .int) := ⟨RX8, TX8, 43, tyX8, rfl, by decide, uinX8, zTB_in 1064 (by decide +kernel) rfl, tyX8_ok, nmX8, rfl, rfl, by decide +kernel⟩
theorem ff_RX8_64 : zfF RX8 64 8 19 (.array .int) := ⟨RX8, TX8, 43, tyX8, rfl, by decide, uinX8, zTB_in 1065 (by decide +kernel) rfl, tyX8_ok, nmX8, rfl, rfl, by decide +kernel⟩
theorem ff_RX8_67 : zfF RX8 67 8 20 (.array .int) := ⟨RX8, TX8, 43, tyX8, rfl, by decide, uinX8, zTB_in 1066 (by decide +kernel) rfl, tyX8_ok, nmX8, rfl, rfl, by decide +kernel⟩
theorem ff_RX8_70 : zfF RX8 70 8 33 (.array .int) := ⟨RX8, TX8, 43, tyX8, rfl, by decide, uinX8, zTB_in 1079 (by decide +kernel) rfl, tyX8_ok, nmX8, rfl, rfl, by decide +kernel⟩
theorem ff_RX8_73 : zfF RX8 73 8 34 (.array .int) := ⟨RX8, TX8, 43, tyX8, rfl, by decide, uinX8, zTB_in 1080 (by decide +kernel) rfl, tyX8_ok, nmX8, rfl, rfl, by decide +kernel⟩
theorem ff_RX8_76 : zfF RX8 76 8 35 (.array .int) := ⟨RX8, TX8, 43, tyX8, rfl, by decide, uinX8, zTB_in 1081 (by decide +kernel) rfl, tyX8_ok, nmX8, rfl, rfl, by decide +kernel⟩
theorem ff_RX8_79 : zfF RX8 79 8 36 (.array .int) := ⟨RX8, TX8, 43, tyX8, rfl, by decide, uinX8, zTB_in 1082 (by decide +kernel) rfl, tyX8_ok, nmX8, rfl, rfl, by decide +kernel⟩
theorem ff_RX8_82 : zfF RX8 82 8 38 (.array .int) := ⟨RX8, TX8, 43, tyX8, rfl, by decide, uinX8, zTB_in 1084 (by decide +kernel) rfl, tyX8_ok, nmX8, rfl, rfl, by decide +kernel⟩
theorem ff_RX8_85 : zfF RX8 85 8 40 (.array .boolean) := ⟨RX8, TX8, 43, tyX8, rfl, by decide, uinX8, zTB_in 1086 (by decide +kernel) rfl, tyX8_ok, nmX8, rfl, rfl, by decide +kernel⟩
theorem ff_RX8_89 : zfF RX8 89 8 41 (.array .boolean) := ⟨RX8, TX8, 43, tyX8, rfl, by decide, uinX8, zTB_in 1087 (by decide +kernel) rfl, tyX8_ok, nmX8, rfl, rfl, by decide +kernel⟩
theorem ff_RX8_92 : zfF RX8 92 8 42 (.array .boolean) := ⟨RX8, TX8, 43, tyX8, rfl, by decide, uinX8, zTB_in 1088 (by decide +kernel) rfl, tyX8_ok, nmX8, rfl, rfl, by decide +kernel⟩
theorem hall_upd (f : Nat → Int32) (hf : f = fun _ => Int32.ofInt 0) : upd (upd (upd (upd (upd (upd f 0 (Int32.ofInt (0))) 1 (Int32.ofInt (0))) 2 (Int32.ofInt (-1))) 3 (Int32.ofInt (0))) 4 (Int32.ofInt (0))) 5 (Int32.ofInt (0)) = fun i => Int32.ofInt (if i = 2 then -1 else 0) := by
  subst hf
  funext i
  by_cases e5 : i = 5
  · subst e5; rw [pk_us]; rfl
  rw [pk_un e5]
  by_cases e4 : i = 4
  · subst e4; rw [pk_us]; rfl
  rw [pk_un e4]
  by_cases e3 : i = 3
  · subst e3; rw [pk_us]; rfl
  rw [pk_un e3]
  by_cases e2 : i = 2
  · subst e2; rw [pk_us]; rfl
  rw [pk_un e2]
  by_cases e1 : i = 1
  · subst e1; rw [pk_us]; rfl
  rw [pk_un e1]
  by_cases e0 : i = 0
  · subst e0; rw [pk_us]; rfl
  rw [pk_un e0, if_neg e2]
theorem k_X8_init (l : Launch) {g : zG} (hg : zAmOk g) (o0 : Nat) : cC l g mX8_init 3 28 4700 [.ref o0] [(o0, .inr (8, [zi 0, .null, .null, .null, .null, .null, .null, .null, .null, .null, .null, .null, .null, .null, .null, .null, .null, .null, .null, .null, .null, zi 0, zi 0, zi 0, zi 0, zi 0, zi 0, zi 0, zi 0, zi 0, zi 0, zi 0, zi 0, .null, .null, .null, .null, zi 0, .null, zi 0, .null, .null, .null]))] (fun w1 => ∃ ad : Nat → Nat, ad 37 = o0 ∧ w1 = mW g ad) := by
  refine cC_of (L := [(0, _)]) mk_X8_init rfl (Nat.le_of_ble_eq_true rfl) hg rfl (fun x hin => ?_)
  refine c_aload_n 0 dX8_init_0 rfl rfl ?_
  refine c_objInit (zTB_in 1045 (by decide +kernel) rfl) ⟨Nat.le_of_ble_eq_true rfl, Nat.le_of_ble_eq_true rfl⟩ (Nat.le_of_ble_eq_true rfl) dX8_init_1 ?_
  refine c_aload_n 0 dX8_init_4 rfl rfl ?_
  refine c_bipush dX8_init_5 (by decide) ?_
  refine c_newI (n := 6) (by decide) (Nat.le_of_ble_eq_true rfl) (Nat.le_of_ble_eq_true rfl) dX8_init_7 (fun q1 => ?_)
  refine c_ws [(o0, .inr (8, [zi 0, .null, .null, .null, .null, .null, .null, .null, .null, .null, .null, .null, .null, .null, .null, .null, .null, .null, .null, .null, .null, zi 0, zi 0, zi 0, zi 0, zi 0, zi 0, zi 0, zi 0, zi 0, zi 0, zi 0, zi 0, .null, .null, .null, .null, zi 0, .null, zi 0, .null, .null, .null])), (q1, zA g 0 6)] rfl ?_
  refine c_dup dX8_init_9 rfl ?_
  refine c_iconst dX8_init_10 ?_
  refine c_iconst dX8_init_11 ?_
  refine c_iast 1 0 rfl (by decide) (by decide) dX8_init_12 ?_
  refine c_ws [(o0, .inr (8, [zi 0, .null, .null, .null, .null, .null, .null, .null, .null, .null, .null, .null, .null, .null, .null, .null, .null, .null, .null, .null, .null, zi 0, zi 0, zi 0, zi 0, zi 0, zi 0, zi 0, zi 0, zi 0, zi 0, zi 0, zi 0, .null, .null, .null, .null, zi 0, .null, zi 0, .null, .null, .null])), (q1, .inl (g.2.2.2.1 0, 6, .inl (upd (fun _ => Int32.ofInt 0) 0 (Int32.ofInt (0)))))] rfl ?_
  refine c_dup dX8_init_13 rfl ?_
  refine c_iconst dX8_init_14 ?_
  refine c_iconst dX8_init_15 ?_
  refine c_iast 1 1 rfl (by decide) (by decide) dX8_init_16 ?_
  refine c_ws [(o0, .inr (8, [zi 0, .null, .null, .null, .null, .null, .null, .null, .null, .null, .null, .null, .null, .null, .null, .null, .null, .null, .null, .null, .null, zi 0, zi 0, zi 0, zi 0, zi 0, zi 0, zi 0, zi 0, zi 0, zi 0, zi 0, zi 0, .null, .null, .null, .null, zi 0, .null, zi 0, .null, .null, .null])), (q1, .inl (g.2.2.2.1 0, 6, .inl (upd (upd (fun _ => Int32.ofInt 0) 0 (Int32.ofInt (0))) 1 (Int32.ofInt (0)))))] rfl ?_
  refine c_dup dX8_init_17 rfl ?_
  refine c_iconst dX8_init_18 ?_
  refine c_iconst dX8_init_19 ?_
  refine c_iast 1 2 rfl (by decide) (by decide) dX8_init_20 ?_
  refine c_ws [(o0, .inr (8, [zi 0, .null, .null, .null, .null, .null, .null, .null, .null, .null, .null, .null, .null, .null, .null, .null, .null, .null, .null, .null, .null, zi 0, zi 0, zi 0, zi 0, zi 0, zi 0, zi 0, zi 0, zi 0, zi 0, zi 0, zi 0, .null, .null, .null, .null, zi 0, .null, zi 0, .null, .null, .null])), (q1, .inl (g.2.2.2.1 0, 6, .inl (upd (upd (upd (fun _ => Int32.ofInt 0) 0 (Int32.ofInt (0))) 1 (Int32.ofInt (0))) 2 (Int32.ofInt (-1)))))] rfl ?_
  refine c_dup dX8_init_21 rfl ?_
  refine c_iconst dX8_init_22 ?_
  refine c_iconst dX8_init_23 ?_
  refine c_iast 1 3 rfl (by decide) (by decide) dX8_init_24 ?_
  refine c_ws [(o0, .inr (8, [zi 0, .null, .null, .null, .null, .null, .null, .null, .null, .null, .null, .null, .null, .null, .null, .null, .null, .null, .null, .null, .null, zi 0, zi 0, zi 0, zi 0, zi 0, zi 0, zi 0, zi 0, zi 0, zi 0, zi 0, zi 0, .null, .null, .null, .null, zi 0, .null, zi 0, .null, .null, .null])), (q1, .inl (g.2.2.2.1 0, 6, .inl (upd (upd (upd (upd (fun _ => Int32.ofInt 0) 0 (Int32.ofInt (0))) 1 (Int32.ofInt (0))) 2 (Int32.ofInt (-1))) 3 (Int32.ofInt (0)))))] rfl ?_
  refine c_dup dX8_init_25 rfl ?_
  refine c_iconst dX8_init_26 ?_
  refine c_iconst dX8_init_27 ?_
  refine c_iast 1 4 rfl (by decide) (by decide) dX8_init_28 ?_
  refine c_ws [(o0, .inr (8, [zi 0, .null, .null, .null, .null, .null, .null, .null, .null, .null, .null, .null, .null, .null, .null, .null, .null, .null, .null, .null, .null, zi 0, zi 0, zi 0, zi 0, zi 0, zi 0, zi 0, zi 0, zi 0, zi 0, zi 0, zi 0, .null, .null, .null, .null, zi 0, .null, zi 0, .null, .null, .null])), (q1, .inl (g.2.2.2.1 0, 6, .inl (upd (upd (upd (upd (upd (fun _ => Int32.ofInt 0) 0 (Int32.ofInt (0))) 1 (Int32.ofInt (0))) 2 (Int32.ofInt (-1))) 3 (Int32.ofInt (0))) 4 (Int32.ofInt (0)))))] rfl ?_
  refine c_dup dX8_init_29 rfl ?_
  refine c_iconst dX8_init_30 ?_
  refine c_iconst dX8_init_31 ?_
  refine c_iast 1 5 rfl (by decide) (by decide) dX8_init_32 ?_
  refine c_ws [(o0, .inr (8, [zi 0, .null, .null, .null, .null, .null, .null, .null, .null, .null, .null, .null, .null, .null, .null, .null, .null, .null, .null, .null, .null, zi 0, zi 0, zi 0, zi 0, zi 0, zi 0, zi 0, zi 0, zi 0, zi 0, zi 0, zi 0, .null, .null, .null, .null, zi 0, .null, zi 0, .null, .null, .null])), (q1, .inl (g.2.2.2.1 0, 6, .inl (upd (upd (upd (upd (upd (upd (fun _ => Int32.ofInt 0) 0 (Int32.ofInt (0))) 1 (Int32.ofInt (0))) 2 (Int32.ofInt (-1))) 3 (Int32.ofInt (0))) 4 (Int32.ofInt (0))) 5 (Int32.ofInt (0)))))] rfl ?_
  refine c_ws [(o0, .inr (8, [zi 0, .null, .null, .null, .null, .null, .null, .null, .null, .null, .null, .null, .null, .null, .null, .null, .null, .null, .null, .null, .null, zi 0, zi 0, zi 0, zi 0, zi 0, zi 0, zi 0, zi 0, zi 0, zi 0, zi 0, zi 0, .null, .null, .null, .null, zi 0, .null, zi 0, .null, .null, .null])), (q1, hallA g)] (by rw [hall_upd _ rfl]; rfl) ?_
  refine c_putF 0 hin ff_RX8_7 rfl rfl rfl (Nat.le_of_ble_eq_true rfl) dX8_init_33 ?_
  refine c_ws [(o0, .inr (8, [zi 0, .ref q1, .null, .null, .null, .null, .null, .null, .null, .null, .null, .null, .null, .null, .null, .null, .null, .null, .null, .null, .null, zi 0, zi 0, zi 0, zi 0, zi 0, zi 0, zi 0, zi 0, zi 0, zi 0, zi 0, zi 0, .null, .null, .null, .null, zi 0, .null, zi 0, .null, .null, .null])), (q1, hallA g)] rfl ?_
  refine c_aload_n 0 dX8_init_36 rfl rfl ?_
  refine c_bipush dX8_init_37 (by decide) ?_
  refine c_newI (n := 6) (by decide) (Nat.le_of_ble_eq_true rfl) (Nat.le_of_ble_eq_true rfl) dX8_init_39 (fun q2 => ?_)
  refine c_ws [(o0, .inr (8, [zi 0, .ref q1, .null, .null, .null, .null, .null, .null, .null, .null, .null, .null, .null, .null, .null, .null, .null, .null, .null, .null, .null, zi 0, zi 0, zi 0, zi 0, zi 0, zi 0, zi 0, zi 0, zi 0, zi 0, zi 0, zi 0, .null, .null, .null, .null, zi 0, .null, zi 0, .null, .null, .null])), (q1, hallA g), (q2, zA g 0 6)] rfl ?_
  refine c_putF 0 hin ff_RX8_13 rfl rfl rfl (Nat.le_of_ble_eq_true rfl) dX8_init_41 ?_
  refine c_ws [(o0, .inr (8, [zi 0, .ref q1, .ref q2, .null, .null, .null, .null, .null, .null, .null, .null, .null, .null, .null, .null, .null, .null, .null, .null, .null, .null, zi 0, zi 0, zi 0, zi 0, zi 0, zi 0, zi 0, zi 0, zi 0, zi 0, zi 0, zi 0, .null, .null, .null, .null, zi 0, .null, zi 0, .null, .null, .null])), (q1, hallA g), (q2, zA g 0 6)] rfl ?_
  refine c_aload_n 0 dX8_init_44 rfl rfl ?_
  refine c_bipush dX8_init_45 (by decide) ?_
  refine c_newI (n := 6) (by decide) (Nat.le_of_ble_eq_true rfl) (Nat.le_of_ble_eq_true rfl) dX8_init_47 (fun q3 => ?_)
  refine c_ws [(o0, .inr (8, [zi 0, .ref q1, .ref q2, .null, .null, .null, .null, .null, .null, .null, .null, .null, .null, .null, .null, .null, .null, .null, .null, .null, .null, zi 0, zi 0, zi 0, zi 0, zi 0, zi 0, zi 0, zi 0, zi 0, zi 0, zi 0, zi 0, .null, .null, .null, .null, zi 0, .null, zi 0, .null, .null, .null])), (q1, hallA g), (q2, zA g 0 6), (q3, zA g 0 6)] rfl ?_
  refine c_putF 0 hin ff_RX8_16 rfl rfl rfl (Nat.le_of_ble_eq_true rfl) dX8_init_49 ?_
  refine c_ws [(o0, .inr (8, [zi 0, .ref q1, .ref q2, .ref q3, .null, .null, .null, .null, .null, .null, .null, .null, .null, .null, .null, .null, .null, .null, .null, .null, .null, zi 0, zi 0, zi 0, zi 0, zi 0, zi 0, zi 0, zi 0, zi 0, zi 0, zi 0, zi 0, .null, .null, .null, .null, zi 0, .null, zi 0, .null, .null, .null])), (q1, hallA g), (q2, zA g 0 6), (q3, zA g 0 6)] rfl ?_
  refine c_aload_n 0 dX8_init_52 rfl rfl ?_
  refine c_bipush dX8_init_53 (by decide) ?_
  refine c_newI (n := 6) (by decide) (Nat.le_of_ble_eq_true rfl) (Nat.le_of_ble_eq_true rfl) dX8_init_55 (fun q4 => ?_)
  refine c_ws [(o0, .inr (8, [zi 0, .ref q1, .ref q2, .ref q3, .null, .null, .null, .null, .null, .null, .null, .null, .null, .null, .null, .null, .null, .null, .null, .null, .null, zi 0, zi 0, zi 0, zi 0, zi 0, zi 0, zi 0, zi 0, zi 0, zi 0, zi 0, zi 0, .null, .null, .null, .null, zi 0, .null, zi 0, .null, .null, .null])), (q1, hallA g), (q2, zA g 0 6), (q3, zA g 0 6), (q4, zA g 0 6)] rfl ?_
  refine c_putF 0 hin ff_RX8_19 rfl rfl rfl (Nat.le_of_ble_eq_true rfl) dX8_init_57 ?_
  refine c_ws [(o0, .inr (8, [zi 0, .ref q1, .ref q2, .ref q3, .ref q4, .null, .null, .null, .null, .null, .null, .null, .null, .null, .null, .null, .null, .null, .null, .null, .null, zi 0, zi 0, zi 0, zi 0, zi 0, zi 0, zi 0, zi 0, zi 0, zi 0, zi 0, zi 0, .null, .null, .null, .null, zi 0, .null, zi 0, .null, .null, .null])), (q1, hallA g), (q2, zA g 0 6), (q3, zA g 0 6), (q4, zA g 0 6)] rfl ?_
  refine c_aload_n 0 dX8_init_60 rfl rfl ?_
  refine c_bipush dX8_init_61 (by decide) ?_
  refine c_newI (n := 6) (by decide) (Nat.le_of_ble_eq_true rfl) (Nat.le_of_ble_eq_true rfl) dX8_init_63 (fun q5 => ?_)
  refine c_ws [(o0, .inr (8, [zi 0, .ref q1, .ref q2, .ref q3, .ref q4, .null, .null, .null, .null, .null, .null, .null, .null, .null, .null, .null, .null, .null, .null, .null, .null, zi 0, zi 0, zi 0, zi 0, zi 0, zi 0, zi 0, zi 0, zi 0, zi 0, zi 0, zi 0, .null, .null, .null, .null, zi 0, .null, zi 0, .null, .null, .null])), (q1, hallA g), (q2, zA g 0 6), (q3, zA g 0 6), (q4, zA g 0 6), (q5, zA g 0 6)] rfl ?_
  refine c_putF 0 hin ff_RX8_22 rfl rfl rfl (Nat.le_of_ble_eq_true rfl) dX8_init_65 ?_
  refine c_ws [(o0, .inr (8, [zi 0, .ref q1, .ref q2, .ref q3, .ref q4, .ref q5, .null, .null, .null, .null, .null, .null, .null, .null, .null, .null, .null, .null, .null, .null, .null, zi 0, zi 0, zi 0, zi 0, zi 0, zi 0, zi 0, zi 0, zi 0, zi 0, zi 0, zi 0, .null, .null, .null, .null, zi 0, .null, zi 0, .null, .null, .null])), (q1, hallA g), (q2, zA g 0 6), (q3, zA g 0 6), (q4, zA g 0 6), (q5, zA g 0 6)] rfl ?_
  refine c_aload_n 0 dX8_init_68 rfl rfl ?_
  refine c_bipush dX8_init_69 (by decide) ?_
  refine c_newI (n := 6) (by decide) (Nat.le_of_ble_eq_true rfl) (Nat.le_of_ble_eq_true rfl) dX8_init_71 (fun q6 => ?_)
  refine c_ws [(o0, .inr (8, [zi 0, .ref q1, .ref q2, .ref q3, .ref q4, .ref q5, .null, .null, .null, .null, .null, .null, .null, .null, .null, .null, .null, .null, .null, .null, .null, zi 0, zi 0, zi 0, zi 0, zi 0, zi 0, zi 0, zi 0, zi 0, zi 0, zi 0, zi 0, .null, .null, .null, .null, zi 0, .null, zi 0, .null, .null, .null])), (q1, hallA g), (q2, zA g 0 6), (q3, zA g 0 6), (q4, zA g 0 6), (q5, zA g 0 6), (q6, zA g 0 6)] rfl ?_
  refine c_putF 0 hin ff_RX8_25 rfl rfl rfl (Nat.le_of_ble_eq_true rfl) dX8_init_73 ?_
  refine c_ws [(o0, .inr (8, [zi 0, .ref q1, .ref q2, .ref q3, .ref q4, .ref q5, .ref q6, .null, .null, .null, .null, .null, .null, .null, .null, .null, .null, .null, .null, .null, .null, zi 0, zi 0, zi 0, zi 0, zi 0, zi 0, zi 0, zi 0, zi 0, zi 0, zi 0, zi 0, .null, .null, .null, .null, zi 0, .null, zi 0, .null, .null, .null])), (q1, hallA g), (q2, zA g 0 6), (q3, zA g 0 6), (q4, zA g 0 6), (q5, zA g 0 6), (q6, zA g 0 6)] rfl ?_
  refine c_aload_n 0 dX8_init_76 rfl rfl ?_
  refine c_bipush dX8_init_77 (by decide) ?_
  refine c_newI (n := 6) (by decide) (Nat.le_of_ble_eq_true rfl) (Nat.le_of_ble_eq_true rfl) dX8_init_79 (fun q7 => ?_)
  refine c_ws [(o0, .inr (8, [zi 0, .ref q1, .ref q2, .ref q3, .ref q4, .ref q5, .ref q6, .null, .null, .null, .null, .null, .null, .null, .null, .null, .null, .null, .null, .null, .null, zi 0, zi 0, zi 0, zi 0, zi 0, zi 0, zi 0, zi 0, zi 0, zi 0, zi 0, zi 0, .null, .null, .null, .null, zi 0, .null, zi 0, .null, .null, .null])), (q1, hallA g), (q2, zA g 0 6), (q3, zA g 0 6), (q4, zA g 0 6), (q5, zA g 0 6), (q6, zA g 0 6), (q7, zA g 0 6)] rfl ?_
  refine c_putF 0 hin ff_RX8_28 rfl rfl rfl (Nat.le_of_ble_eq_true rfl) dX8_init_81 ?_
  refine c_ws [(o0, .inr (8, [zi 0, .ref q1, .ref q2, .ref q3, .ref q4, .ref q5, .ref q6, .ref q7, .null, .null, .null, .null, .null, .null, .null, .null, .null, .null, .null, .null, .null, zi 0, zi 0, zi 0, zi 0, zi 0, zi 0, zi 0, zi 0, zi 0, zi 0, zi 0, zi 0, .null, .null, .null, .null, zi 0, .null, zi 0, .null, .null, .null])), (q1, hallA g), (q2, zA g 0 6), (q3, zA g 0 6), (q4, zA g 0 6), (q5, zA g 0 6), (q6, zA g 0 6), (q7, zA g 0 6)] rfl ?_
  refine c_aload_n 0 dX8_init_84 rfl rfl ?_
  refine c_bipush dX8_init_85 (by decide) ?_
  refine c_newI (n := 6) (by decide) (Nat.le_of_ble_eq_true rfl) (Nat.le_of_ble_eq_true rfl) dX8_init_87 (fun q8 => ?_)
  refine c_ws [(o0, .inr (8, [zi 0, .ref q1, .ref q2, .ref q3, .ref q4, .ref q5, .ref q6, .ref q7, .null, .null, .null, .null, .null, .null, .null, .null, .null, .null, .null, .null, .null, zi 0, zi 0, zi 0, zi 0, zi 0, zi 0, zi 0, zi 0, zi 0, zi 0, zi 0, zi 0, .null, .null, .null, .null, zi 0, .null, zi 0, .null, .null, .null])), (q1, hallA g), (q2, zA g 0 6), (q3, zA g 0 6), (q4, zA g 0 6), (q5, zA g 0 6), (q6, zA g 0 6), (q7, zA g 0 6), (q8, zA g 0 6)] rfl ?_
  refine c_putF 0 hin ff_RX8_31 rfl rfl rfl (Nat.le_of_ble_eq_true rfl) dX8_init_89 ?_
  refine c_ws [(o0, .inr (8, [zi 0, .ref q1, .ref q2, .ref q3, .ref q4, .ref q5, .ref q6, .ref q7, .ref q8, .null, .null, .null, .null, .null, .null, .null, .null, .null, .null, .null, .null, zi 0, zi 0, zi 0, zi 0, zi 0, zi 0, zi 0, zi 0, zi 0, zi 0, zi 0, zi 0, .null, .null, .null, .null, zi 0, .null, zi 0, .null, .null, .null])), (q1, hallA g), (q2, zA g 0 6), (q3, zA g 0 6), (q4, zA g 0 6), (q5, zA g 0 6), (q6, zA g 0 6), (q7, zA g 0 6), (q8, zA g 0 6)] rfl ?_
  refine c_aload_n 0 dX8_init_92 rfl rfl ?_
  refine c_bipush dX8_init_93 (by decide) ?_
  refine c_newI (n := 6) (by decide) (Nat.le_of_ble_eq_true rfl) (Nat.le_of_ble_eq_true rfl) dX8_init_95 (fun q9 => ?_)
  refine c_ws [(o0, .inr (8, [zi 0, .ref q1, .ref q2, .ref q3, .ref q4, .ref q5, .ref q6, .ref q7, .ref q8, .null, .null, .null, .null, .null, .null, .null, .null, .null, .null, .null, .null, zi 0, zi 0, zi 0, zi 0, zi 0, zi 0, zi 0, zi 0, zi 0, zi 0, zi 0, zi 0, .null, .null, .null, .null, zi 0, .null, zi 0, .null, .null, .null])), (q1, hallA g), (q2, zA g 0 6), (q3, zA g 0 6), (q4, zA g 0 6), (q5, zA g 0 6), (q6, zA g 0 6), (q7, zA g 0 6), (q8, zA g 0 6), (q9, zA g 0 6)] rfl ?_
  refine c_putF 0 hin ff_RX8_34 rfl rfl rfl (Nat.le_of_ble_eq_true rfl) dX8_init_97 ?_
  refine c_ws [(o0, .inr (8, [zi 0, .ref q1, .ref q2, .ref q3, .ref q4, .ref q5, .ref q6, .ref q7, .ref q8, .ref q9, .null, .null, .null, .null, .null, .null, .null, .null, .null, .null, .null, zi 0, zi 0, zi 0, zi 0, zi 0, zi 0, zi 0, zi 0, zi 0, zi 0, zi 0, zi 0, .null, .null, .null, .null, zi 0, .null, zi 0, .null, .null, .null])), (q1, hallA g), (q2, zA g 0 6), (q3, zA g 0 6), (q4, zA g 0 6), (q5, zA g 0 6), (q6, zA g 0 6), (q7, zA g 0 6), (q8, zA g 0 6), (q9, zA g 0 6)] rfl ?_
  refine c_aload_n 0 dX8_init_100 rfl rfl ?_
  refine c_bipush dX8_init_101 (by decide) ?_
  refine c_newI (n := 6) (by decide) (Nat.le_of_ble_eq_true rfl) (Nat.le_of_ble_eq_true rfl) dX8_init_103 (fun q10 => ?_)
  refine c_ws [(o0, .inr (8, [zi 0, .ref q1, .ref q2, .ref q3, .ref q4, .ref q5, .ref q6, .ref q7, .ref q8, .ref q9, .null, .null, .null, .null, .null, .null, .null, .null, .null, .null, .null, zi 0, zi 0, zi 0, zi 0, zi 0, zi 0, zi 0, zi 0, zi 0, zi 0, zi 0, zi 0, .null, .null, .null, .null, zi 0, .null, zi 0, .null, .null, .null])), (q1, hallA g), (q2, zA g 0 6), (q3, zA g 0 6), (q4, zA g 0 6), (q5, zA g 0 6), (q6, zA g 0 6), (q7, zA g 0 6), (q8, zA g 0 6), (q9, zA g 0 6), (q10, zA g 0 6)] rfl ?_
  refine c_putF 0 hin ff_RX8_37 rfl rfl rfl (Nat.le_of_ble_eq_true rfl) dX8_init_105 ?_
  refine c_ws [(o0, .inr (8, [zi 0, .ref q1, .ref q2, .ref q3, .ref q4, .ref q5, .ref q6, .ref q7, .ref q8, .ref q9, .ref q10, .null, .null, .null, .null, .null, .null, .null, .null, .null, .null, zi 0, zi 0, zi 0, zi 0, zi 0, zi 0, zi 0, zi 0, zi 0, zi 0, zi 0, zi 0, .null, .null, .null, .null, zi 0, .null, zi 0, .null, .null, .null])), (q1, hallA g), (q2, zA g 0 6), (q3, zA g 0 6), (q4, zA g 0 6), (q5, zA g 0 6), (q6, zA g 0 6), (q7, zA g 0 6), (q8, zA g 0 6), (q9, zA g 0 6), (q10, zA g 0 6)] rfl ?_
  refine c_aload_n 0 dX8_init_108 rfl rfl ?_
  refine c_bipush dX8_init_109 (by decide) ?_
  refine c_newI (n := 72) (by decide) (Nat.le_of_ble_eq_true rfl) (Nat.le_of_ble_eq_true rfl) dX8_init_111 (fun q11 => ?_)
  refine c_ws [(o0, .inr (8, [zi 0, .ref q1, .ref q2, .ref q3, .ref q4, .ref q5, .ref q6, .ref q7, .ref q8, .ref q9, .ref q10, .null, .null, .null, .null, .null, .null, .null, .null, .null, .null, zi 0, zi 0, zi 0, zi 0, zi 0, zi 0, zi 0, zi 0, zi 0, zi 0, zi 0, zi 0, .null, .null, .null, .null, zi 0, .null, zi 0, .null, .null, .null])), (q1, hallA g), (q2, zA g 0 6), (q3, zA g 0 6), (q4, zA g 0 6), (q5, zA g 0 6), (q6, zA g 0 6), (q7, zA g 0 6), (q8, zA g 0 6), (q9, zA g 0 6), (q10, zA g 0 6), (q11, zA g 0 72)] rfl ?_
  refine c_putF 0 hin ff_RX8_40 rfl rfl rfl (Nat.le_of_ble_eq_true rfl) dX8_init_113 ?_
  refine c_ws [(o0, .inr (8, [zi 0, .ref q1, .ref q2, .ref q3, .ref q4, .ref q5, .ref q6, .ref q7, .ref q8, .ref q9, .ref q10, .ref q11, .null, .null, .null, .null, .null, .null, .null, .null, .null, zi 0, zi 0, zi 0, zi 0, zi 0, zi 0, zi 0, zi 0, zi 0, zi 0, zi 0, zi 0, .null, .null, .null, .null, zi 0, .null, zi 0, .null, .null, .null])), (q1, hallA g), (q2, zA g 0 6), (q3, zA g 0 6), (q4, zA g 0 6), (q5, zA g 0 6), (q6, zA g 0 6), (q7, zA g 0 6), (q8, zA g 0 6), (q9, zA g 0 6), (q10, zA g 0 6), (q11, zA g 0 72)] rfl ?_
  refine c_aload_n 0 dX8_init_116 rfl rfl ?_
  refine c_bipush dX8_init_117 (by decide) ?_
  refine c_newI (n := 72) (by decide) (Nat.le_of_ble_eq_true rfl) (Nat.le_of_ble_eq_true rfl) dX8_init_119 (fun q12 => ?_)
  refine c_ws [(o0, .inr (8, [zi 0, .ref q1, .ref q2, .ref q3, .ref q4, .ref q5, .ref q6, .ref q7, .ref q8, .ref q9, .ref q10, .ref q11, .null, .null, .null, .null, .null, .null, .null, .null, .null, zi 0, zi 0, zi 0, zi 0, zi 0, zi 0, zi 0, zi 0, zi 0, zi 0, zi 0, zi 0, .null, .null, .null, .null, zi 0, .null, zi 0, .null, .null, .null])), (q1, hallA g), (q2, zA g 0 6), (q3, zA g 0 6), (q4, zA g 0 6), (q5, zA g 0 6), (q6, zA g 0 6), (q7, zA g 0 6), (q8, zA g 0 6), (q9, zA g 0 6), (q10, zA g 0 6), (q11, zA g 0 72), (q12, zA g 0 72)] rfl ?_
  refine c_putF 0 hin ff_RX8_43 rfl rfl rfl (Nat.le_of_ble_eq_true rfl) dX8_init_121 ?_
  refine c_ws [(o0, .inr (8, [zi 0, .ref q1, .ref q2, .ref q3, .ref q4, .ref q5, .ref q6, .ref q7, .ref q8, .ref q9, .ref q10, .ref q11, .ref q12, .null, .null, .null, .null, .null, .null, .null, .null, zi 0, zi 0, zi 0, zi 0, zi 0, zi 0, zi 0, zi 0, zi 0, zi 0, zi 0, zi 0, .null, .null, .null, .null, zi 0, .null, zi 0, .null, .null, .null])), (q1, hallA g), (q2, zA g 0 6), (q3, zA g 0 6), (q4, zA g 0 6), (q5, zA g 0 6), (q6, zA g 0 6), (q7, zA g 0 6), (q8, zA g 0 6), (q9, zA g 0 6), (q10, zA g 0 6), (q11, zA g 0 72), (q12, zA g 0 72)] rfl ?_
  refine c_aload_n 0 dX8_init_124 rfl rfl ?_
  refine c_bipush dX8_init_125 (by decide) ?_
  refine c_newI (n := 6) (by decide) (Nat.le_of_ble_eq_true rfl) (Nat.le_of_ble_eq_true rfl) dX8_init_127 (fun q13 => ?_)
  refine c_ws [(o0, .inr (8, [zi 0, .ref q1, .ref q2, .ref q3, .ref q4, .ref q5, .ref q6, .ref q7, .ref q8, .ref q9, .ref q10, .ref q11, .ref q12, .null, .null, .null, .null, .null, .null, .null, .null, zi 0, zi 0, zi 0, zi 0, zi 0, zi 0, zi 0, zi 0, zi 0, zi 0, zi 0, zi 0, .null, .null, .null, .null, zi 0, .null, zi 0, .null, .null, .null])), (q1, hallA g), (q2, zA g 0 6), (q3, zA g 0 6), (q4, zA g 0 6), (q5, zA g 0 6), (q6, zA g 0 6), (q7, zA g 0 6), (q8, zA g 0 6), (q9, zA g 0 6), (q10, zA g 0 6), (q11, zA g 0 72), (q12, zA g 0 72), (q13, zA g 0 6)] rfl ?_
  refine c_putF 0 hin ff_RX8_46 rfl rfl rfl (Nat.le_of_ble_eq_true rfl) dX8_init_129 ?_
  refine c_ws [(o0, .inr (8, [zi 0, .ref q1, .ref q2, .ref q3, .ref q4, .ref q5, .ref q6, .ref q7, .ref q8, .ref q9, .ref q10, .ref q11, .ref q12, .ref q13, .null, .null, .null, .null, .null, .null, .null, zi 0, zi 0, zi 0, zi 0, zi 0, zi 0, zi 0, zi 0, zi 0, zi 0, zi 0, zi 0, .null, .null, .null, .null, zi 0, .null, zi 0, .null, .null, .null])), (q1, hallA g), (q2, zA g 0 6), (q3, zA g 0 6), (q4, zA g 0 6), (q5, zA g 0 6), (q6, zA g 0 6), (q7, zA g 0 6), (q8, zA g 0 6), (q9, zA g 0 6), (q10, zA g 0 6), (q11, zA g 0 72), (q12, zA g 0 72), (q13, zA g 0 6)] rfl ?_
  refine c_aload_n 0 dX8_init_132 rfl rfl ?_
  refine c_bipush dX8_init_133 (by decide) ?_
  refine c_newI (n := 6) (by decide) (Nat.le_of_ble_eq_true rfl) (Nat.le_of_ble_eq_true rfl) dX8_init_135 (fun q14 => ?_)
  refine c_ws [(o0, .inr (8, [zi 0, .ref q1, .ref q2, .ref q3, .ref q4, .ref q5, .ref q6, .ref q7, .ref q8, .ref q9, .ref q10, .ref q11, .ref q12, .ref q13, .null, .null, .null, .null, .null, .null, .null, zi 0, zi 0, zi 0, zi 0, zi 0, zi 0, zi 0, zi 0, zi 0, zi 0, zi 0, zi 0, .null, .null, .null, .null, zi 0, .null, zi 0, .null, .null, .null])), (q1, hallA g), (q2, zA g 0 6), (q3, zA g 0 6), (q4, zA g 0 6), (q5, zA g 0 6), (q6, zA g 0 6), (q7, zA g 0 6), (q8, zA g 0 6), (q9, zA g 0 6), (q10, zA g 0 6), (q11, zA g 0 72), (q12, zA g 0 72), (q13, zA g 0 6), (q14, zA g 0 6)] rfl ?_
  refine c_putF 0 hin ff_RX8_49 rfl rfl rfl (Nat.le_of_ble_eq_true rfl) dX8_init_137 ?_
  refine c_ws [(o0, .inr (8, [zi 0, .ref q1, .ref q2, .ref q3, .ref q4, .ref q5, .ref q6, .ref q7, .ref q8, .ref q9, .ref q10, .ref q11, .ref q12, .ref q13, .ref q14, .null, .null, .null, .null, .null, .null, zi 0, zi 0, zi 0, zi 0, zi 0, zi 0, zi 0, zi 0, zi 0, zi 0, zi 0, zi 0, .null, .null, .null, .null, zi 0, .null, zi 0, .null, .null, .null])), (q1, hallA g), (q2, zA g 0 6), (q3, zA g 0 6), (q4, zA g 0 6), (q5, zA g 0 6), (q6, zA g 0 6), (q7, zA g 0 6), (q8, zA g 0 6), (q9, zA g 0 6), (q10, zA g 0 6), (q11, zA g 0 72), (q12, zA g 0 72), (q13, zA g 0 6), (q14, zA g 0 6)] rfl ?_
  refine c_aload_n 0 dX8_init_140 rfl rfl ?_
  refine c_bipush dX8_init_141 (by decide) ?_
  refine c_newI (n := 6) (by decide) (Nat.le_of_ble_eq_true rfl) (Nat.le_of_ble_eq_true rfl) dX8_init_143 (fun q15 => ?_)
  refine c_ws [(o0, .inr (8, [zi 0, .ref q1, .ref q2, .ref q3, .ref q4, .ref q5, .ref q6, .ref q7, .ref q8, .ref q9, .ref q10, .ref q11, .ref q12, .ref q13, .ref q14, .null, .null, .null, .null, .null, .null, zi 0, zi 0, zi 0, zi 0, zi 0, zi 0, zi 0, zi 0, zi 0, zi 0, zi 0, zi 0, .null, .null, .null, .null, zi 0, .null, zi 0, .null, .null, .null])), (q1, hallA g), (q2, zA g 0 6), (q3, zA g 0 6), (q4, zA g 0 6), (q5, zA g 0 6), (q6, zA g 0 6), (q7, zA g 0 6), (q8, zA g 0 6), (q9, zA g 0 6), (q10, zA g 0 6), (q11, zA g 0 72), (q12, zA g 0 72), (q13, zA g 0 6), (q14, zA g 0 6), (q15, zA g 0 6)] rfl ?_
  refine c_putF 0 hin ff_RX8_52 rfl rfl rfl (Nat.le_of_ble_eq_true rfl) dX8_init_145 ?_
  refine c_ws [(o0, .inr (8, [zi 0, .ref q1, .ref q2, .ref q3, .ref q4, .ref q5, .ref q6, .ref q7, .ref q8, .ref q9, .ref q10, .ref q11, .ref q12, .ref q13, .ref q14, .ref q15, .null, .null, .null, .null, .null, zi 0, zi 0, zi 0, zi 0, zi 0, zi 0, zi 0, zi 0, zi 0, zi 0, zi 0, zi 0, .null, .null, .null, .null, zi 0, .null, zi 0, .null, .null, .null])), (q1, hallA g), (q2, zA g 0 6), (q3, zA g 0 6), (q4, zA g 0 6), (q5, zA g 0 6), (q6, zA g 0 6), (q7, zA g 0 6), (q8, zA g 0 6), (q9, zA g 0 6), (q10, zA g 0 6), (q11, zA g 0 72), (q12, zA g 0 72), (q13, zA g 0 6), (q14, zA g 0 6), (q15, zA g 0 6)] rfl ?_
  refine c_aload_n 0 dX8_init_148 rfl rfl ?_
  refine c_bipush dX8_init_149 (by decide) ?_
  refine c_newI (n := 6) (by decide) (Nat.le_of_ble_eq_true rfl) (Nat.le_of_ble_eq_true rfl) dX8_init_151 (fun q16 => ?_)
  refine c_ws [(o0, .inr (8, [zi 0, .ref q1, .ref q2, .ref q3, .ref q4, .ref q5, .ref q6, .ref q7, .ref q8, .ref q9, .ref q10, .ref q11, .ref q12, .ref q13, .ref q14, .ref q15, .null, .null, .null, .null, .null, zi 0, zi 0, zi 0, zi 0, zi 0, zi 0, zi 0, zi 0, zi 0, zi 0, zi 0, zi 0, .null, .null, .null, .null, zi 0, .null, zi 0, .null, .null, .null])), (q1, hallA g), (q2, zA g 0 6), (q3, zA g 0 6), (q4, zA g 0 6), (q5, zA g 0 6), (q6, zA g 0 6), (q7, zA g 0 6), (q8, zA g 0 6), (q9, zA g 0 6), (q10, zA g 0 6), (q11, zA g 0 72), (q12, zA g 0 72), (q13, zA g 0 6), (q14, zA g 0 6), (q15, zA g 0 6), (q16, zA g 0 6)] rfl ?_
  refine c_putF 0 hin ff_RX8_55 rfl rfl rfl (Nat.le_of_ble_eq_true rfl) dX8_init_153 ?_
  refine c_ws [(o0, .inr (8, [zi 0, .ref q1, .ref q2, .ref q3, .ref q4, .ref q5, .ref q6, .ref q7, .ref q8, .ref q9, .ref q10, .ref q11, .ref q12, .ref q13, .ref q14, .ref q15, .ref q16, .null, .null, .null, .null, zi 0, zi 0, zi 0, zi 0, zi 0, zi 0, zi 0, zi 0, zi 0, zi 0, zi 0, zi 0, .null, .null, .null, .null, zi 0, .null, zi 0, .null, .null, .null])), (q1, hallA g), (q2, zA g 0 6), (q3, zA g 0 6), (q4, zA g 0 6), (q5, zA g 0 6), (q6, zA g 0 6), (q7, zA g 0 6), (q8, zA g 0 6), (q9, zA g 0 6), (q10, zA g 0 6), (q11, zA g 0 72), (q12, zA g 0 72), (q13, zA g 0 6), (q14, zA g 0 6), (q15, zA g 0 6), (q16, zA g 0 6)] rfl ?_
  refine c_aload_n 0 dX8_init_156 rfl rfl ?_
  refine c_bipush dX8_init_157 (by decide) ?_
  refine c_newI (n := 6) (by decide) (Nat.le_of_ble_eq_true rfl) (Nat.le_of_ble_eq_true rfl) dX8_init_159 (fun q17 => ?_)
  refine c_ws [(o0, .inr (8, [zi 0, .ref q1, .ref q2, .ref q3, .ref q4, .ref q5, .ref q6, .ref q7, .ref q8, .ref q9, .ref q10, .ref q11, .ref q12, .ref q13, .ref q14, .ref q15, .ref q16, .null, .null, .null, .null, zi 0, zi 0, zi 0, zi 0, zi 0, zi 0, zi 0, zi 0, zi 0, zi 0, zi 0, zi 0, .null, .null, .null, .null, zi 0, .null, zi 0, .null, .null, .null])), (q1, hallA g), (q2, zA g 0 6), (q3, zA g 0 6), (q4, zA g 0 6), (q5, zA g 0 6), (q6, zA g 0 6), (q7, zA g 0 6), (q8, zA g 0 6), (q9, zA g 0 6), (q10, zA g 0 6), (q11, zA g 0 72), (q12, zA g 0 72), (q13, zA g 0 6), (q14, zA g 0 6), (q15, zA g 0 6), (q16, zA g 0 6), (q17, zA g 0 6)] rfl ?_
  refine c_putF 0 hin ff_RX8_58 rfl rfl rfl (Nat.le_of_ble_eq_true rfl) dX8_init_161 ?_
  refine c_ws [(o0, .inr (8, [zi 0, .ref q1, .ref q2, .ref q3, .ref q4, .ref q5, .ref q6, .ref q7, .ref q8, .ref q9, .ref q10, .ref q11, .ref q12, .ref q13, .ref q14, .ref q15, .ref q16, .ref q17, .null, .null, .null, zi 0, zi 0, zi 0, zi 0, zi 0, zi 0, zi 0, zi 0, zi 0, zi 0, zi 0, zi 0, .null, .null, .null, .null, zi 0, .null, zi 0, .null, .null, .null])), (q1, hallA g), (q2, zA g 0 6), (q3, zA g 0 6), (q4, zA g 0 6), (q5, zA g 0 6), (q6, zA g 0 6), (q7, zA g 0 6), (q8, zA g 0 6), (q9, zA g 0 6), (q10, zA g 0 6), (q11, zA g 0 72), (q12, zA g 0 72), (q13, zA g 0 6), (q14, zA g 0 6), (q15, zA g 0 6), (q16, zA g 0 6), (q17, zA g 0 6)] rfl ?_
  refine c_aload_n 0 dX8_init_164 rfl rfl ?_
  refine c_bipush dX8_init_165 (by decide) ?_
  refine c_newI (n := 6) (by decide) (Nat.le_of_ble_eq_true rfl) (Nat.le_of_ble_eq_true rfl) dX8_init_167 (fun q18 => ?_)
  refine c_ws [(o0, .inr (8, [zi 0, .ref q1, .ref q2, .ref q3, .ref q4, .ref q5, .ref q6, .ref q7, .ref q8, .ref q9, .ref q10, .ref q11, .ref q12, .ref q13, .ref q14, .ref q15, .ref q16, .ref q17, .null, .null, .null, zi 0, zi 0, zi 0, zi 0, zi 0, zi 0, zi 0, zi 0, zi 0, zi 0, zi 0, zi 0, .null, .null, .null, .null, zi 0, .null, zi 0, .null, .null, .null])), (q1, hallA g), (q2, zA g 0 6), (q3, zA g 0 6), (q4, zA g 0 6), (q5, zA g 0 6), (q6, zA g 0 6), (q7, zA g 0 6), (q8, zA g 0 6), (q9, zA g 0 6), (q10, zA g 0 6), (q11, zA g 0 72), (q12, zA g 0 72), (q13, zA g 0 6), (q14, zA g 0 6), (q15, zA g 0 6), (q16, zA g 0 6), (q17, zA g 0 6), (q18, zA g 0 6)] rfl ?_
  refine c_putF 0 hin ff_RX8_61 rfl rfl rfl (Nat.le_of_ble_eq_true rfl) dX8_init_169 ?_
  refine c_ws [(o0, .inr (8, [zi 0, .ref q1, .ref q2, .ref q3, .ref q4, .ref q5, .ref q6, .ref q7, .ref q8, .ref q9, .ref q10, .ref q11, .ref q12, .ref q13, .ref q14, .ref q15, .ref q16, .ref q17, .ref q18, .null, .null, zi 0, zi 0, zi 0, zi 0, zi 0, zi 0, zi 0, zi 0, zi 0, zi 0, zi 0, zi 0, .null, .null, .null, .null, zi 0, .null, zi 0, .null, .null, .null])), (q1, hallA g), (q2, zA g 0 6), (q3, zA g 0 6), (q4, zA g 0 6), (q5, zA g 0 6), (q6, zA g 0 6), (q7, zA g 0 6), (q8, zA g 0 6), (q9, zA g 0 6), (q10, zA g 0 6), (q11, zA g 0 72), (q12, zA g 0 72), (q13, zA g 0 6), (q14, zA g 0 6), (q15, zA g 0 6), (q16, zA g 0 6), (q17, zA g 0 6), (q18, zA g 0 6)] rfl ?_
  refine c_aload_n 0 dX8_init_172 rfl rfl ?_
  refine c_bipush dX8_init_173 (by decide) ?_
  refine c_newI (n := 6) (by decide) (Nat.le_of_ble_eq_true rfl) (Nat.le_of_ble_eq_true rfl) dX8_init_175 (fun q19 => ?_)
  refine c_ws [(o0, .inr (8, [zi 0, .ref q1, .ref q2, .ref q3, .ref q4, .ref q5, .ref q6, .ref q7, .ref q8, .ref q9, .ref q10, .ref q11, .ref q12, .ref q13, .ref q14, .ref q15, .ref q16, .ref q17, .ref q18, .null, .null, zi 0, zi 0, zi 0, zi 0, zi 0, zi 0, zi 0, zi 0, zi 0, zi 0, zi 0, zi 0, .null, .null, .null, .null, zi 0, .null, zi 0, .null, .null, .null])), (q1, hallA g), (q2, zA g 0 6), (q3, zA g 0 6), (q4, zA g 0 6), (q5, zA g 0 6), (q6, zA g 0 6), (q7, zA g 0 6), (q8, zA g 0 6), (q9, zA g 0 6), (q10, zA g 0 6), (q11, zA g 0 72), (q12, zA g 0 72), (q13, zA g 0 6), (q14, zA g 0 6), (q15, zA g 0 6), (q16, zA g 0 6), (q17, zA g 0 6), (q18, zA g 0 6), (q19, zA g 0 6)] rfl ?_
  refine c_putF 0 hin ff_RX8_64 rfl rfl rfl (Nat.le_of_ble_eq_true rfl) dX8_init_177 ?_
  refine c_ws [(o0, .inr (8, [zi 0, .ref q1, .ref q2, .ref q3, .ref q4, .ref q5, .ref q6, .ref q7, .ref q8, .ref q9, .ref q10, .ref q11, .ref q12, .ref q13, .ref q14, .ref q15, .ref q16, .ref q17, .ref q18, .ref q19, .null, zi 0, zi 0, zi 0, zi 0, zi 0, zi 0, zi 0, zi 0, zi 0, zi 0, zi 0, zi 0, .null, .null, .null, .null, zi 0, .null, zi 0, .null, .null, .null])), (q1, hallA g), (q2, zA g 0 6), (q3, zA g 0 6), (q4, zA g 0 6), (q5, zA g 0 6), (q6, zA g 0 6), (q7, zA g 0 6), (q8, zA g 0 6), (q9, zA g 0 6), (q10, zA g 0 6), (q11, zA g 0 72), (q12, zA g 0 72), (q13, zA g 0 6), (q14, zA g 0 6), (q15, zA g 0 6), (q16, zA g 0 6), (q17, zA g 0 6), (q18, zA g 0 6), (q19, zA g 0 6)] rfl ?_
  refine c_aload_n 0 dX8_init_180 rfl rfl ?_
  refine c_sipush dX8_init_181 (by decide) ?_
  refine c_newI (n := 400) (by decide) (Nat.le_of_ble_eq_true rfl) (Nat.le_of_ble_eq_true rfl) dX8_init_184 (fun q20 => ?_)
  refine c_ws [(o0, .inr (8, [zi 0, .ref q1, .ref q2, .ref q3, .ref q4, .ref q5, .ref q6, .ref q7, .ref q8, .ref q9, .ref q10, .ref q11, .ref q12, .ref q13, .ref q14, .ref q15, .ref q16, .ref q17, .ref q18, .ref q19, .null, zi 0, zi 0, zi 0, zi 0, zi 0, zi 0, zi 0, zi 0, zi 0, zi 0, zi 0, zi 0, .null, .null, .null, .null, zi 0, .null, zi 0, .null, .null, .null])), (q1, hallA g), (q2, zA g 0 6), (q3, zA g 0 6), (q4, zA g 0 6), (q5, zA g 0 6), (q6, zA g 0 6), (q7, zA g 0 6), (q8, zA g 0 6), (q9, zA g 0 6), (q10, zA g 0 6), (q11, zA g 0 72), (q12, zA g 0 72), (q13, zA g 0 6), (q14, zA g 0 6), (q15, zA g 0 6), (q16, zA g 0 6), (q17, zA g 0 6), (q18, zA g 0 6), (q19, zA g 0 6), (q20, zA g 0 400)] rfl ?_
  refine c_putF 0 hin ff_RX8_67 rfl rfl rfl (Nat.le_of_ble_eq_true rfl) dX8_init_186 ?_
  refine c_ws [(o0, .inr (8, [zi 0, .ref q1, .ref q2, .ref q3, .ref q4, .ref q5, .ref q6, .ref q7, .ref q8, .ref q9, .ref q10, .ref q11, .ref q12, .ref q13, .ref q14, .ref q15, .ref q16, .ref q17, .ref q18, .ref q19, .ref q20, zi 0, zi 0, zi 0, zi 0, zi 0, zi 0, zi 0, zi 0, zi 0, zi 0, zi 0, zi 0, .null, .null, .null, .null, zi 0, .null, zi 0, .null, .null, .null])), (q1, hallA g), (q2, zA g 0 6), (q3, zA g 0 6), (q4, zA g 0 6), (q5, zA g 0 6), (q6, zA g 0 6), (q7, zA g 0 6), (q8, zA g 0 6), (q9, zA g 0 6), (q10, zA g 0 6), (q11, zA g 0 72), (q12, zA g 0 72), (q13, zA g 0 6), (q14, zA g 0 6), (q15, zA g 0 6), (q16, zA g 0 6), (q17, zA g 0 6), (q18, zA g 0 6), (q19, zA g 0 6), (q20, zA g 0 400)] rfl ?_
  refine c_aload_n 0 dX8_init_189 rfl rfl ?_
  refine c_bipush dX8_init_190 (by decide) ?_
  refine c_newI (n := 6) (by decide) (Nat.le_of_ble_eq_true rfl) (Nat.le_of_ble_eq_true rfl) dX8_init_192 (fun q21 => ?_)
  refine c_ws [(o0, .inr (8, [zi 0, .ref q1, .ref q2, .ref q3, .ref q4, .ref q5, .ref q6, .ref q7, .ref q8, .ref q9, .ref q10, .ref q11, .ref q12, .ref q13, .ref q14, .ref q15, .ref q16, .ref q17, .ref q18, .ref q19, .ref q20, zi 0, zi 0, zi 0, zi 0, zi 0, zi 0, zi 0, zi 0, zi 0, zi 0, zi 0, zi 0, .null, .null, .null, .null, zi 0, .null, zi 0, .null, .null, .null])), (q1, hallA g), (q2, zA g 0 6), (q3, zA g 0 6), (q4, zA g 0 6), (q5, zA g 0 6), (q6, zA g 0 6), (q7, zA g 0 6), (q8, zA g 0 6), (q9, zA g 0 6), (q10, zA g 0 6), (q11, zA g 0 72), (q12, zA g 0 72), (q13, zA g 0 6), (q14, zA g 0 6), (q15, zA g 0 6), (q16, zA g 0 6), (q17, zA g 0 6), (q18, zA g 0 6), (q19, zA g 0 6), (q20, zA g 0 400), (q21, zA g 0 6)] rfl ?_
  refine c_putF 0 hin ff_RX8_70 rfl rfl rfl (Nat.le_of_ble_eq_true rfl) dX8_init_194 ?_
  refine c_ws [(o0, .inr (8, [zi 0, .ref q1, .ref q2, .ref q3, .ref q4, .ref q5, .ref q6, .ref q7, .ref q8, .ref q9, .ref q10, .ref q11, .ref q12, .ref q13, .ref q14, .ref q15, .ref q16, .ref q17, .ref q18, .ref q19, .ref q20, zi 0, zi 0, zi 0, zi 0, zi 0, zi 0, zi 0, zi 0, zi 0, zi 0, zi 0, zi 0, .ref q21, .null, .null, .null, zi 0, .null, zi 0, .null, .null, .null])), (q1, hallA g), (q2, zA g 0 6), (q3, zA g 0 6), (q4, zA g 0 6), (q5, zA g 0 6), (q6, zA g 0 6), (q7, zA g 0 6), (q8, zA g 0 6), (q9, zA g 0 6), (q10, zA g 0 6), (q11, zA g 0 72), (q12, zA g 0 72), (q13, zA g 0 6), (q14, zA g 0 6), (q15, zA g 0 6), (q16, zA g 0 6), (q17, zA g 0 6), (q18, zA g 0 6), (q19, zA g 0 6), (q20, zA g 0 400), (q21, zA g 0 6)] rfl ?_
  refine c_aload_n 0 dX8_init_197 rfl rfl ?_
  refine c_sipush dX8_init_198 (by decide) ?_
  refine c_newI (n := 2304) (by decide) (Nat.le_of_ble_eq_true rfl) (Nat.le_of_ble_eq_true rfl) dX8_init_201 (fun q22 => ?_)
  refine c_ws [(o0, .inr (8, [zi 0, .ref q1, .ref q2, .ref q3, .ref q4, .ref q5, .ref q6, .ref q7, .ref q8, .ref q9, .ref q10, .ref q11, .ref q12, .ref q13, .ref q14, .ref q15, .ref q16, .ref q17, .ref q18, .ref q19, .ref q20, zi 0, zi 0, zi 0, zi 0, zi 0, zi 0, zi 0, zi 0, zi 0, zi 0, zi 0, zi 0, .ref q21, .null, .null, .null, zi 0, .null, zi 0, .null, .null, .null])), (q1, hallA g), (q2, zA g 0 6), (q3, zA g 0 6), (q4, zA g 0 6), (q5, zA g 0 6), (q6, zA g 0 6), (q7, zA g 0 6), (q8, zA g 0 6), (q9, zA g 0 6), (q10, zA g 0 6), (q11, zA g 0 72), (q12, zA g 0 72), (q13, zA g 0 6), (q14, zA g 0 6), (q15, zA g 0 6), (q16, zA g 0 6), (q17, zA g 0 6), (q18, zA g 0 6), (q19, zA g 0 6), (q20, zA g 0 400), (q21, zA g 0 6), (q22, zA g 0 2304)] rfl ?_
  refine c_putF 0 hin ff_RX8_73 rfl rfl rfl (Nat.le_of_ble_eq_true rfl) dX8_init_203 ?_
  refine c_ws [(o0, .inr (8, [zi 0, .ref q1, .ref q2, .ref q3, .ref q4, .ref q5, .ref q6, .ref q7, .ref q8, .ref q9, .ref q10, .ref q11, .ref q12, .ref q13, .ref q14, .ref q15, .ref q16, .ref q17, .ref q18, .ref q19, .ref q20, zi 0, zi 0, zi 0, zi 0, zi 0, zi 0, zi 0, zi 0, zi 0, zi 0, zi 0, zi 0, .ref q21, .ref q22, .null, .null, zi 0, .null, zi 0, .null, .null, .null])), (q1, hallA g), (q2, zA g 0 6), (q3, zA g 0 6), (q4, zA g 0 6), (q5, zA g 0 6), (q6, zA g 0 6), (q7, zA g 0 6), (q8, zA g 0 6), (q9, zA g 0 6), (q10, zA g 0 6), (q11, zA g 0 72), (q12, zA g 0 72), (q13, zA g 0 6), (q14, zA g 0 6), (q15, zA g 0 6), (q16, zA g 0 6), (q17, zA g 0 6), (q18, zA g 0 6), (q19, zA g 0 6), (q20, zA g 0 400), (q21, zA g 0 6), (q22, zA g 0 2304)] rfl ?_
  refine c_aload_n 0 dX8_init_206 rfl rfl ?_
  refine c_sipush dX8_init_207 (by decide) ?_
  refine c_newI (n := 448) (by decide) (Nat.le_of_ble_eq_true rfl) (Nat.le_of_ble_eq_true rfl) dX8_init_210 (fun q23 => ?_)
  refine c_ws [(o0, .inr (8, [zi 0, .ref q1, .ref q2, .ref q3, .ref q4, .ref q5, .ref q6, .ref q7, .ref q8, .ref q9, .ref q10, .ref q11, .ref q12, .ref q13, .ref q14, .ref q15, .ref q16, .ref q17, .ref q18, .ref q19, .ref q20, zi 0, zi 0, zi 0, zi 0, zi 0, zi 0, zi 0, zi 0, zi 0, zi 0, zi 0, zi 0, .ref q21, .ref q22, .null, .null, zi 0, .null, zi 0, .null, .null, .null])), (q1, hallA g), (q2, zA g 0 6), (q3, zA g 0 6), (q4, zA g 0 6), (q5, zA g 0 6), (q6, zA g 0 6), (q7, zA g 0 6), (q8, zA g 0 6), (q9, zA g 0 6), (q10, zA g 0 6), (q11, zA g 0 72), (q12, zA g 0 72), (q13, zA g 0 6), (q14, zA g 0 6), (q15, zA g 0 6), (q16, zA g 0 6), (q17, zA g 0 6), (q18, zA g 0 6), (q19, zA g 0 6), (q20, zA g 0 400), (q21, zA g 0 6), (q22, zA g 0 2304), (q23, zA g 0 448)] rfl ?_
  refine c_putF 0 hin ff_RX8_76 rfl rfl rfl (Nat.le_of_ble_eq_true rfl) dX8_init_212 ?_
  refine c_ws [(o0, .inr (8, [zi 0, .ref q1, .ref q2, .ref q3, .ref q4, .ref q5, .ref q6, .ref q7, .ref q8, .ref q9, .ref q10, .ref q11, .ref q12, .ref q13, .ref q14, .ref q15, .ref q16, .ref q17, .ref q18, .ref q19, .ref q20, zi 0, zi 0, zi 0, zi 0, zi 0, zi 0, zi 0, zi 0, zi 0, zi 0, zi 0, zi 0, .ref q21, .ref q22, .ref q23, .null, zi 0, .null, zi 0, .null, .null, .null])), (q1, hallA g), (q2, zA g 0 6), (q3, zA g 0 6), (q4, zA g 0 6), (q5, zA g 0 6), (q6, zA g 0 6), (q7, zA g 0 6), (q8, zA g 0 6), (q9, zA g 0 6), (q10, zA g 0 6), (q11, zA g 0 72), (q12, zA g 0 72), (q13, zA g 0 6), (q14, zA g 0 6), (q15, zA g 0 6), (q16, zA g 0 6), (q17, zA g 0 6), (q18, zA g 0 6), (q19, zA g 0 6), (q20, zA g 0 400), (q21, zA g 0 6), (q22, zA g 0 2304), (q23, zA g 0 448)] rfl ?_
  refine c_aload_n 0 dX8_init_215 rfl rfl ?_
  refine c_sipush dX8_init_216 (by decide) ?_
  refine c_newI (n := 448) (by decide) (Nat.le_of_ble_eq_true rfl) (Nat.le_of_ble_eq_true rfl) dX8_init_219 (fun q24 => ?_)
  refine c_ws [(o0, .inr (8, [zi 0, .ref q1, .ref q2, .ref q3, .ref q4, .ref q5, .ref q6, .ref q7, .ref q8, .ref q9, .ref q10, .ref q11, .ref q12, .ref q13, .ref q14, .ref q15, .ref q16, .ref q17, .ref q18, .ref q19, .ref q20, zi 0, zi 0, zi 0, zi 0, zi 0, zi 0, zi 0, zi 0, zi 0, zi 0, zi 0, zi 0, .ref q21, .ref q22, .ref q23, .null, zi 0, .null, zi 0, .null, .null, .null])), (q1, hallA g), (q2, zA g 0 6), (q3, zA g 0 6), (q4, zA g 0 6), (q5, zA g 0 6), (q6, zA g 0 6), (q7, zA g 0 6), (q8, zA g 0 6), (q9, zA g 0 6), (q10, zA g 0 6), (q11, zA g 0 72), (q12, zA g 0 72), (q13, zA g 0 6), (q14, zA g 0 6), (q15, zA g 0 6), (q16, zA g 0 6), (q17, zA g 0 6), (q18, zA g 0 6), (q19, zA g 0 6), (q20, zA g 0 400), (q21, zA g 0 6), (q22, zA g 0 2304), (q23, zA g 0 448), (q24, zA g 0 448)] rfl ?_
  refine c_putF 0 hin ff_RX8_79 rfl rfl rfl (Nat.le_of_ble_eq_true rfl) dX8_init_221 ?_
  refine c_ws [(o0, .inr (8, [zi 0, .ref q1, .ref q2, .ref q3, .ref q4, .ref q5, .ref q6, .ref q7, .ref q8, .ref q9, .ref q10, .ref q11, .ref q12, .ref q13, .ref q14, .ref q15, .ref q16, .ref q17, .ref q18, .ref q19, .ref q20, zi 0, zi 0, zi 0, zi 0, zi 0, zi 0, zi 0, zi 0, zi 0, zi 0, zi 0, zi 0, .ref q21, .ref q22, .ref q23, .ref q24, zi 0, .null, zi 0, .null, .null, .null])), (q1, hallA g), (q2, zA g 0 6), (q3, zA g 0 6), (q4, zA g 0 6), (q5, zA g 0 6), (q6, zA g 0 6), (q7, zA g 0 6), (q8, zA g 0 6), (q9, zA g 0 6), (q10, zA g 0 6), (q11, zA g 0 72), (q12, zA g 0 72), (q13, zA g 0 6), (q14, zA g 0 6), (q15, zA g 0 6), (q16, zA g 0 6), (q17, zA g 0 6), (q18, zA g 0 6), (q19, zA g 0 6), (q20, zA g 0 400), (q21, zA g 0 6), (q22, zA g 0 2304), (q23, zA g 0 448), (q24, zA g 0 448)] rfl ?_
  refine c_aload_n 0 dX8_init_224 rfl rfl ?_
  refine c_bipush dX8_init_225 (by decide) ?_
  refine c_newI (n := 80) (by decide) (Nat.le_of_ble_eq_true rfl) (Nat.le_of_ble_eq_true rfl) dX8_init_227 (fun q25 => ?_)
  refine c_ws [(o0, .inr (8, [zi 0, .ref q1, .ref q2, .ref q3, .ref q4, .ref q5, .ref q6, .ref q7, .ref q8, .ref q9, .ref q10, .ref q11, .ref q12, .ref q13, .ref q14, .ref q15, .ref q16, .ref q17, .ref q18, .ref q19, .ref q20, zi 0, zi 0, zi 0, zi 0, zi 0, zi 0, zi 0, zi 0, zi 0, zi 0, zi 0, zi 0, .ref q21, .ref q22, .ref q23, .ref q24, zi 0, .null, zi 0, .null, .null, .null])), (q1, hallA g), (q2, zA g 0 6), (q3, zA g 0 6), (q4, zA g 0 6), (q5, zA g 0 6), (q6, zA g 0 6), (q7, zA g 0 6), (q8, zA g 0 6), (q9, zA g 0 6), (q10, zA g 0 6), (q11, zA g 0 72), (q12, zA g 0 72), (q13, zA g 0 6), (q14, zA g 0 6), (q15, zA g 0 6), (q16, zA g 0 6), (q17, zA g 0 6), (q18, zA g 0 6), (q19, zA g 0 6), (q20, zA g 0 400), (q21, zA g 0 6), (q22, zA g 0 2304), (q23, zA g 0 448), (q24, zA g 0 448), (q25, zA g 0 80)] rfl ?_
  refine c_putF 0 hin ff_RX8_82 rfl rfl rfl (Nat.le_of_ble_eq_true rfl) dX8_init_229 ?_
  refine c_ws [(o0, .inr (8, [zi 0, .ref q1, .ref q2, .ref q3, .ref q4, .ref q5, .ref q6, .ref q7, .ref q8, .ref q9, .ref q10, .ref q11, .ref q12, .ref q13, .ref q14, .ref q15, .ref q16, .ref q17, .ref q18, .ref q19, .ref q20, zi 0, zi 0, zi 0, zi 0, zi 0, zi 0, zi 0, zi 0, zi 0, zi 0, zi 0, zi 0, .ref q21, .ref q22, .ref q23, .ref q24, zi 0, .ref q25, zi 0, .null, .null, .null])), (q1, hallA g), (q2, zA g 0 6), (q3, zA g 0 6), (q4, zA g 0 6), (q5, zA g 0 6), (q6, zA g 0 6), (q7, zA g 0 6), (q8, zA g 0 6), (q9, zA g 0 6), (q10, zA g 0 6), (q11, zA g 0 72), (q12, zA g 0 72), (q13, zA g 0 6), (q14, zA g 0 6), (q15, zA g 0 6), (q16, zA g 0 6), (q17, zA g 0 6), (q18, zA g 0 6), (q19, zA g 0 6), (q20, zA g 0 400), (q21, zA g 0 6), (q22, zA g 0 2304), (q23, zA g 0 448), (q24, zA g 0 448), (q25, zA g 0 80)] rfl ?_
  refine c_aload_n 0 dX8_init_232 rfl rfl ?_
  refine c_sipush dX8_init_233 (by decide) ?_
  refine c_newB (n := 256) (by decide) (Nat.le_of_ble_eq_true rfl) (Nat.le_of_ble_eq_true rfl) dX8_init_236 (fun q26 => ?_)
  refine c_ws [(o0, .inr (8, [zi 0, .ref q1, .ref q2, .ref q3, .ref q4, .ref q5, .ref q6, .ref q7, .ref q8, .ref q9, .ref q10, .ref q11, .ref q12, .ref q13, .ref q14, .ref q15, .ref q16, .ref q17, .ref q18, .ref q19, .ref q20, zi 0, zi 0, zi 0, zi 0, zi 0, zi 0, zi 0, zi 0, zi 0, zi 0, zi 0, zi 0, .ref q21, .ref q22, .ref q23, .ref q24, zi 0, .ref q25, zi 0, .null, .null, .null])), (q1, hallA g), (q2, zA g 0 6), (q3, zA g 0 6), (q4, zA g 0 6), (q5, zA g 0 6), (q6, zA g 0 6), (q7, zA g 0 6), (q8, zA g 0 6), (q9, zA g 0 6), (q10, zA g 0 6), (q11, zA g 0 72), (q12, zA g 0 72), (q13, zA g 0 6), (q14, zA g 0 6), (q15, zA g 0 6), (q16, zA g 0 6), (q17, zA g 0 6), (q18, zA g 0 6), (q19, zA g 0 6), (q20, zA g 0 400), (q21, zA g 0 6), (q22, zA g 0 2304), (q23, zA g 0 448), (q24, zA g 0 448), (q25, zA g 0 80), (q26, zA g 1 256)] rfl ?_
  refine c_putF 0 hin ff_RX8_85 rfl rfl rfl (Nat.le_of_ble_eq_true rfl) dX8_init_238 ?_
  refine c_ws [(o0, .inr (8, [zi 0, .ref q1, .ref q2, .ref q3, .ref q4, .ref q5, .ref q6, .ref q7, .ref q8, .ref q9, .ref q10, .ref q11, .ref q12, .ref q13, .ref q14, .ref q15, .ref q16, .ref q17, .ref q18, .ref q19, .ref q20, zi 0, zi 0, zi 0, zi 0, zi 0, zi 0, zi 0, zi 0, zi 0, zi 0, zi 0, zi 0, .ref q21, .ref q22, .ref q23, .ref q24, zi 0, .ref q25, zi 0, .ref q26, .null, .null])), (q1, hallA g), (q2, zA g 0 6), (q3, zA g 0 6), (q4, zA g 0 6), (q5, zA g 0 6), (q6, zA g 0 6), (q7, zA g 0 6), (q8, zA g 0 6), (q9, zA g 0 6), (q10, zA g 0 6), (q11, zA g 0 72), (q12, zA g 0 72), (q13, zA g 0 6), (q14, zA g 0 6), (q15, zA g 0 6), (q16, zA g 0 6), (q17, zA g 0 6), (q18, zA g 0 6), (q19, zA g 0 6), (q20, zA g 0 400), (q21, zA g 0 6), (q22, zA g 0 2304), (q23, zA g 0 448), (q24, zA g 0 448), (q25, zA g 0 80), (q26, zA g 1 256)] rfl ?_
  refine c_aload_n 0 dX8_init_241 rfl rfl ?_
  refine c_sipush dX8_init_242 (by decide) ?_
  refine c_newB (n := 256) (by decide) (Nat.le_of_ble_eq_true rfl) (Nat.le_of_ble_eq_true rfl) dX8_init_245 (fun q27 => ?_)
  refine c_ws [(o0, .inr (8, [zi 0, .ref q1, .ref q2, .ref q3, .ref q4, .ref q5, .ref q6, .ref q7, .ref q8, .ref q9, .ref q10, .ref q11, .ref q12, .ref q13, .ref q14, .ref q15, .ref q16, .ref q17, .ref q18, .ref q19, .ref q20, zi 0, zi 0, zi 0, zi 0, zi 0, zi 0, zi 0, zi 0, zi 0, zi 0, zi 0, zi 0, .ref q21, .ref q22, .ref q23, .ref q24, zi 0, .ref q25, zi 0, .ref q26, .null, .null])), (q1, hallA g), (q2, zA g 0 6), (q3, zA g 0 6), (q4, zA g 0 6), (q5, zA g 0 6), (q6, zA g 0 6), (q7, zA g 0 6), (q8, zA g 0 6), (q9, zA g 0 6), (q10, zA g 0 6), (q11, zA g 0 72), (q12, zA g 0 72), (q13, zA g 0 6), (q14, zA g 0 6), (q15, zA g 0 6), (q16, zA g 0 6), (q17, zA g 0 6), (q18, zA g 0 6), (q19, zA g 0 6), (q20, zA g 0 400), (q21, zA g 0 6), (q22, zA g 0 2304), (q23, zA g 0 448), (q24, zA g 0 448), (q25, zA g 0 80), (q26, zA g 1 256), (q27, zA g 1 256)] rfl ?_
  refine c_putF 0 hin ff_RX8_89 rfl rfl rfl (Nat.le_of_ble_eq_true rfl) dX8_init_247 ?_
  refine c_ws [(o0, .inr (8, [zi 0, .ref q1, .ref q2, .ref q3, .ref q4, .ref q5, .ref q6, .ref q7, .ref q8, .ref q9, .ref q10, .ref q11, .ref q12, .ref q13, .ref q14, .ref q15, .ref q16, .ref q17, .ref q18, .ref q19, .ref q20, zi 0, zi 0, zi 0, zi 0, zi 0, zi 0, zi 0, zi 0, zi 0, zi 0, zi 0, zi 0, .ref q21, .ref q22, .ref q23, .ref q24, zi 0, .ref q25, zi 0, .ref q26, .ref q27, .null])), (q1, hallA g), (q2, zA g 0 6), (q3, zA g 0 6), (q4, zA g 0 6), (q5, zA g 0 6), (q6, zA g 0 6), (q7, zA g 0 6), (q8, zA g 0 6), (q9, zA g 0 6), (q10, zA g 0 6), (q11, zA g 0 72), (q12, zA g 0 72), (q13, zA g 0 6), (q14, zA g 0 6), (q15, zA g 0 6), (q16, zA g 0 6), (q17, zA g 0 6), (q18, zA g 0 6), (q19, zA g 0 6), (q20, zA g 0 400), (q21, zA g 0 6), (q22, zA g 0 2304), (q23, zA g 0 448), (q24, zA g 0 448), (q25, zA g 0 80), (q26, zA g 1 256), (q27, zA g 1 256)] rfl ?_
  refine c_aload_n 0 dX8_init_250 rfl rfl ?_
  refine c_sipush dX8_init_251 (by decide) ?_
  refine c_newB (n := 256) (by decide) (Nat.le_of_ble_eq_true rfl) (Nat.le_of_ble_eq_true rfl) dX8_init_254 (fun q28 => ?_)
  refine c_ws [(o0, .inr (8, [zi 0, .ref q1, .ref q2, .ref q3, .ref q4, .ref q5, .ref q6, .ref q7, .ref q8, .ref q9, .ref q10, .ref q11, .ref q12, .ref q13, .ref q14, .ref q15, .ref q16, .ref q17, .ref q18, .ref q19, .ref q20, zi 0, zi 0, zi 0, zi 0, zi 0, zi 0, zi 0, zi 0, zi 0, zi 0, zi 0, zi 0, .ref q21, .ref q22, .ref q23, .ref q24, zi 0, .ref q25, zi 0, .ref q26, .ref q27, .null])), (q1, hallA g), (q2, zA g 0 6), (q3, zA g 0 6), (q4, zA g 0 6), (q5, zA g 0 6), (q6, zA g 0 6), (q7, zA g 0 6), (q8, zA g 0 6), (q9, zA g 0 6), (q10, zA g 0 6), (q11, zA g 0 72), (q12, zA g 0 72), (q13, zA g 0 6), (q14, zA g 0 6), (q15, zA g 0 6), (q16, zA g 0 6), (q17, zA g 0 6), (q18, zA g 0 6), (q19, zA g 0 6), (q20, zA g 0 400), (q21, zA g 0 6), (q22, zA g 0 2304), (q23, zA g 0 448), (q24, zA g 0 448), (q25, zA g 0 80), (q26, zA g 1 256), (q27, zA g 1 256), (q28, zA g 1 256)] rfl ?_
  refine c_putF 0 hin ff_RX8_92 rfl rfl rfl (Nat.le_of_ble_eq_true rfl) dX8_init_256 ?_
  refine c_ws [(o0, .inr (8, [zi 0, .ref q1, .ref q2, .ref q3, .ref q4, .ref q5, .ref q6, .ref q7, .ref q8, .ref q9, .ref q10, .ref q11, .ref q12, .ref q13, .ref q14, .ref q15, .ref q16, .ref q17, .ref q18, .ref q19, .ref q20, zi 0, zi 0, zi 0, zi 0, zi 0, zi 0, zi 0, zi 0, zi 0, zi 0, zi 0, zi 0, .ref q21, .ref q22, .ref q23, .ref q24, zi 0, .ref q25, zi 0, .ref q26, .ref q27, .ref q28])), (q1, hallA g), (q2, zA g 0 6), (q3, zA g 0 6), (q4, zA g 0 6), (q5, zA g 0 6), (q6, zA g 0 6), (q7, zA g 0 6), (q8, zA g 0 6), (q9, zA g 0 6), (q10, zA g 0 6), (q11, zA g 0 72), (q12, zA g 0 72), (q13, zA g 0 6), (q14, zA g 0 6), (q15, zA g 0 6), (q16, zA g 0 6), (q17, zA g 0 6), (q18, zA g 0 6), (q19, zA g 0 6), (q20, zA g 0 400), (q21, zA g 0 6), (q22, zA g 0 2304), (q23, zA g 0 448), (q24, zA g 0 448), (q25, zA g 0 80), (q26, zA g 1 256), (q27, zA g 1 256), (q28, zA g 1 256)] rfl ?_
  exact c_vret rfl dX8_init_259 (Nat.le_of_ble_eq_true rfl) (Nat.le_of_ble_eq_true rfl) ⟨fun p => ([o0, q1, q2, q3, q4, q5, q6, q7, q8, q9, q10, q11, q12, q13, q14, q15, q16, q17, q18, q19, q20, q21, q22, q23, q24, q25, q26, q27, q28] : List Nat).getD (p - 37) 0, rfl, rfl⟩
