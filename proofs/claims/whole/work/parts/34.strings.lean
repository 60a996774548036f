/-! the words of the texts: String constants -/
def zs (a : Nat) : Value := .ref a
def sLen : List Nat := [4, 5, 3, 5, 5, 5]
def sByt : List (List Int32) := [[98, 105, 108, 108], [97, 109, 101, 110, 100], [115, 117, 98], [118, 111, 116, 101, 114], [106, 111, 105, 110, 116], [113, 117, 111, 116, 97]]
def sNat : List (List Nat) := [[98, 105, 108, 108], [97, 109, 101, 110, 100], [115, 117, 98], [118, 111, 116, 101, 114], [106, 111, 105, 110, 116], [113, 117, 111, 116, 97]]
def sIdx : List Nat := [57, 65, 70, 75, 79, 83]
def sTxt : List String := ["bill", "amend", "sub", "voter", "joint", "quota"]
def sL (i : Nat) : Nat := sLen.getD i 0
def sC (i k : Nat) : Nat := (sNat.getD i []).getD k 0
theorem sC_ok : ∀ i, i < 6 → (sL i ≤ 5 ∧ sL i = (sNat.getD i []).length ∧ ∀ k, k < sL i → (sByt.getD i []).getD k 0 = nI (sC i k) ∧ 97 ≤ sC i k ∧ sC i k ≤ 122) := by decide +kernel
/-- what the ambient facts say of the String constants -/
def zStr (g : zG) (adK adV : Nat → Nat) : Prop := ∀ (A : Nat → Prop) (U : State) (H : Heap), g.2.2.2.2 A U H → vk_S 6 sLen sByt adK adV A U H ∧ va_Z "java/lang/String" "COMPACT_STRINGS" "Z" (.int 1) A U H ∧ va_Zq "jdk/internal/util/Preconditions" "SIOOBE_FORMATTER" "Ljava/util/function/BiFunction;" A U H ∧ ∀ i, i < 6 → vk_R "AmendmentTree$Reader" (sIdx.getD i 0) (sTxt.getD i "") (adK i) U
section ZST
variable {l : Launch} {x : zX} {g : zG} {M : zM} {n : Nat} {Q : Option Value → zD → Prop} {pc : Nat} {L : List (Nat × Value)} {st : List Value} {d : zD} {adK adV : Nat → Nat}
theorem z_aloads_n (j : Nat) {i q : Nat} {kk : Fin 4} (hd : decode M.2.2.1 pc = .ok (.aload_n kk, 1)) (hi : (kk : Nat) = i) (hj : L[j]? = some (i, zs q)) (k : zV l x g M n Q (pc + 1) L (zs q :: st) d) : zV l x g M n Q pc L st d := by
  obtain ⟨p, e, s, m, args, below, meth, c, A⟩ := x
  intro ok H locs ls hP hD hS hl
  exact lv_aload_n ok.1 ok.2.1 hd hi (lv_at hl j hj) (k ok H locs ls hP hD hS hl)
theorem z_ldcs (hs : zStr g adK adV) {i idx : Nat} (hi : i < 6) (hM : M.1 = "AmendmentTree$Reader") (hx : sIdx.getD i 0 = idx) (hd : decode M.2.2.1 pc = .ok (.ldc idx, 2)) (k : zV l x g M n Q (pc + 2) L (zs (adK i) :: st) d) : zV l x g M n Q pc L st d := by
  obtain ⟨p, e, s, m, args, below, meth, c, A⟩ := x
  intro ok H locs ls hP hD hS hl
  have k' := k ok H locs ls hP hD hS hl
  obtain ⟨hx1, hb, hml, hown, hts, hrt, hK, hA, hlk, hao, ham⟩ := ok
  have h2 := (hs A s s.heap ham).2.2.2 i hi
  rw [hx] at h2
  exact va_ldcS hx1 hb (by rw [← hM]; exact hown) h2 hd k'
theorem z_getss {C nm ds : String} {v : Value} {idx : Nat} (hz : ∀ (A : Nat → Prop) (U : State) (H : Heap), g.2.2.2.2 A U H → va_Z C nm ds v A U H) (hl : Cond.fieldLink M.1 idx C nm ds ∈ zTB) (hd : decode M.2.2.1 pc = .ok (.getstatic idx, 3)) (k : zV l x g M n Q (pc + 3) L (v :: st) d) : zV l x g M n Q pc L st d := by
  obtain ⟨p, e, s, m, args, below, meth, c, A⟩ := x
  intro ok H locs ls hP hD hS hl2
  have k' := k ok H locs ls hP hD hS hl2
  obtain ⟨hx1, hb, hml, hown, hts, hrt, hK, hA, hlk, hao, ham⟩ := ok
  exact va_gets hx1 hb (hz A s s.heap ham) hS hown (hts _ hl) (fun _ h => h) hd k'
theorem z_getsq {C nm ds : String} {idx : Nat} (hz : ∀ (A : Nat → Prop) (U : State) (H : Heap), g.2.2.2.2 A U H → va_Zq C nm ds A U H) (hl : Cond.fieldLink M.1 idx C nm ds ∈ zTB) (hd : decode M.2.2.1 pc = .ok (.getstatic idx, 3)) (k : ∀ r : Option Nat, zV l x g M n Q (pc + 3) L (va_rf r :: st) d) : zV l x g M n Q pc L st d := by
  obtain ⟨p, e, s, m, args, below, meth, c, A⟩ := x
  intro ok H locs ls hP hD hS hl2
  have k' := fun r => k r ok H locs ls hP hD hS hl2
  obtain ⟨hx1, hb, hml, hown, hts, hrt, hK, hA, hlk, hao, ham⟩ := ok
  rcases hz A s s.heap ham with h | ⟨t, h⟩
  · exact va_gets hx1 hb h hS hown (hts _ hl) (fun _ h => h) hd (k' none)
  · exact va_gets hx1 hb h hS hown (hts _ hl) (fun _ h => h) hd (k' (some t))
theorem z_getfs {o nm ds : String} {v : Value} {a idx : Nat} (hz : ∀ (A : Nat → Prop) (U : State) (H : Heap), g.2.2.2.2 A U H → va_OF o nm ds v a A U H) (hl : Cond.fieldLink M.1 idx o nm ds ∈ zTB) (hd : decode M.2.2.1 pc = .ok (.getfield idx, 3)) (k : zV l x g M n Q (pc + 3) L (v :: st) d) : zV l x g M n Q pc L (zs a :: st) d := by
  obtain ⟨p, e, s, m, args, below, meth, c, A⟩ := x
  intro ok H locs ls hP hD hS hl2
  have k' := k ok H locs ls hP hD hS hl2
  obtain ⟨hx1, hb, hml, hown, hts, hrt, hK, hA, hlk, hao, ham⟩ := ok
  exact vk_getf hx1 hb (hz A s s.heap ham) hS hown (hts _ hl) (fun _ h => h) hd k'
theorem z_tlens {a N : Nat} {f : Nat → Value} (hz : ∀ (A : Nat → Prop) (U : State) (H : Heap), g.2.2.2.2 A U H → va_T .byte a N f A U H) (hd : decode M.2.2.1 pc = .ok (.arraylength, 1)) (k : zV l x g M n Q (pc + 1) L (zi (N : Int) :: st) d) : zV l x g M n Q pc L (zs a :: st) d := by
  obtain ⟨p, e, s, m, args, below, meth, c, A⟩ := x
  intro ok H locs ls hP hD hS hl2
  have k' := k ok H locs ls hP hD hS hl2
  obtain ⟨hx1, hb, hml, hown, hts, hrt, hK, hA, hlk, hao, ham⟩ := ok
  exact va_tlen hx1 hb (hz A s s.heap ham) hS (v := Int32.ofInt (N : Int)) (zn N).symm hd k'
theorem z_bals {a N : Nat} {f : Nat → Value} (j : Nat) {v : Value} (hz : ∀ (A : Nat → Prop) (U : State) (H : Heap), g.2.2.2.2 A U H → va_T .byte a N f A U H) (hj : j < N) (hN : N < 2147483648) (hv : f j = v) (hd : decode M.2.2.1 pc = .ok (.baload, 1)) (k : zV l x g M n Q (pc + 1) L (v :: st) d) : zV l x g M n Q pc L (zi (j : Int) :: zs a :: st) d := by
  obtain ⟨p, e, s, m, args, below, meth, c, A⟩ := x
  intro ok H locs ls hP hD hS hl2
  have k' := k ok H locs ls hP hD hS hl2
  obtain ⟨hx1, hb, hml, hown, hts, hrt, hK, hA, hlk, hao, ham⟩ := ok
  exact va_tb hx1 hb (hz A s s.heap ham) hS (zvin hj hN) (by rw [zclamp (by omega)]; exact hv) hd k'
theorem z_i2c {v : Nat} (hv : v < 65536) (hd : decode M.2.2.1 pc = .ok (.i2c, 1)) (k : zV l x g M n Q (pc + 1) L (zi (v : Int) :: st) d) : zV l x g M n Q pc L (zi (v : Int) :: st) d := by
  obtain ⟨p, e, s, m, args, below, meth, c, A⟩ := x
  intro ok H locs ls hP hD hS hl2
  refine lv_i2c ok.1 ok.2.1 hd ?_ (k ok H locs ls hP hD hS hl2)
  rw [zn, pk_char, pk_tn (by omega), Nat.mod_eq_of_lt hv]
theorem z_cret {v : Nat} (hv : v < 65536) (hr : M.2.2.2.2 = some .char) (hd : decode M.2.2.1 pc = .ok (.ireturn, 1)) (hq : Q (some (zi (v : Int))) d) : zV l x g M n Q pc L [zi (v : Int)] d := by
  obtain ⟨p, e, s, m, args, below, meth, c, A⟩ := x
  intro ok H locs ls hP hD hS hl
  obtain ⟨hx, hb, hml, hown, hts, hrt, hK, hA, hlk, hao, ham⟩ := ok
  exact W.zret (v := Int32.ofInt (v : Int)) (ty := .char) hx hb (hrt.trans hr) (by rw [zn]; exact (pk_charN hv).1) (fun t ht hW => ⟨⟨_, d, rfl, hq, by rw [ht]; exact hP, va_K.moved hW.alike hK, hD⟩, hS.F ht⟩) hS.2.2 hd hlk
theorem z_yret0 (hr : M.2.2.2.2 = some .byte) (hd : decode M.2.2.1 pc = .ok (.ireturn, 1)) (hq : Q (some (zi 0)) d) : zV l x g M n Q pc L [zi 0] d := by
  obtain ⟨p, e, s, m, args, below, meth, c, A⟩ := x
  intro ok H locs ls hP hD hS hl
  obtain ⟨hx, hb, hml, hown, hts, hrt, hK, hA, hlk, hao, ham⟩ := ok
  exact W.zret (v := Int32.ofInt 0) (ty := .byte) hx hb (hrt.trans hr) (by decide +kernel) (fun t ht hW => ⟨⟨_, d, rfl, hq, by rw [ht]; exact hP, va_K.moved hW.alike hK, hD⟩, hS.F ht⟩) hS.2.2 hd hlk
/-- a call of a String constant's method -/
theorem z_cvs (hs : zStr g adK adV) {M' : zM} {n' idx q k : Nat} {As st0 : List Value} {Q' : Option Value → zD → Prop} (hq6 : q < 6) (hc : zC l g M' n' (zs (adK q) :: As) d Q') (hM : zmk M' k) (hi : zmi M') (hlk : zml M.1 idx M') (hcl : M'.2.1.cls = "java/lang/String") (hn : n' < n) (hA : As.length = k) (hst : st0 = As.reverse ++ zs (adK q) :: st) (hw : (st.map fun v => v.category).sum ≤ 8) (hd : decode M.2.2.1 pc = .ok (.invokevirtual idx, 3))
    (kk : ∀ (r : Option Value) (d' : zD), Q' r d' → zV l x g M n Q (pc + 3) L (r.toList ++ st) d') : zV l x g M n Q pc L st0 d := by
  obtain ⟨p, e, s, m, args, below, meth, c, A⟩ := x
  intro ok H locs ls hP hD hS hl
  have ok' := ok
  have hpre := zpre (av := zs (adK q) :: As) ok hP hD hS
  obtain ⟨hx, hb, hml, hown, hts, hr, hK, hAA, hlks, hao, ham⟩ := ok
  have hrec := vk_recv (hs A s s.heap ham).1 hq6 hS
  rw [← hcl] at hrec
  have hR : (zrm n').frames + 1 ≤ (zrm n).frames ∧ 8 + (M'.2.2.2.1 + 11) + (zrm n').locals ≤ (zrm n).locals := by
    have := hM.2.2.2.2.2
    simp only [zrm]
    omega
  subst hst
  refine zrun (Q' := Q') (a := (zs (adK q) :: As).toArray) (rest := st) ?_ ok' hD hS hl kk
  rcases hlk with hlk | ⟨host, hlk⟩
  · exact va_runV (As := As) (rest := st) (C := M'.2.1.cls) (b := adK q) ⟨hx, hb, hml, hown, hts⟩ (hc H.size) (cwV k hts (zgood (fun w hw => by
      rcases List.mem_append.mp hw with hw | hw
      · simp only [List.mem_cons, List.not_mem_nil, or_false] at hw
        rcases hw with rfl | rfl | rfl | rfl
        · exact hlk
        · exact hi.1
        · exact hi.2
        · exact hM.2.2.2.2.1
      · exact (zgood_M hM w hw).1)) rfl rfl rfl ⟨rfl, hM.2.2.1⟩ hR) ⟨hpre.1, hrec, hpre.2⟩ rfl hA hl.1 rfl (lv_room hw) hd ⟨Nat.le_refl _, Nat.le_refl _⟩
  · exact va_runVN (As := As) (rest := st) (C := M'.2.1.cls) (host := host) (b := adK q) ⟨hx, hb, hml, hown, hts⟩ (hc H.size) ⟨va_cnB k hts (zgood_M hM) rfl rfl rfl (hao.2.2.2.2 _ _ _ ham _ hlk) (hts _ hM.2.2.2.2.1) hM.2.2.1 hR, hts _ hi.1, hts _ hi.2⟩ ⟨hpre.1, hrec, hpre.2⟩ rfl hA hl.1 rfl (lv_room hw) hd ⟨Nat.le_refl _, Nat.le_refl _⟩
end ZST
theorem zs_val {g : zG} {adK adV : Nat → Nat} (hs : zStr g adK adV) {i : Nat} (hi : i < 6) : ∀ (A : Nat → Prop) (U : State) (H : Heap), g.2.2.2.2 A U H → va_OF "java/lang/String" "value" "[B" (zs (adV i)) (adK i) A U H := fun A U H h => ((hs A U H h).1.1 i hi).2.2.1
theorem zs_cod {g : zG} {adK adV : Nat → Nat} (hs : zStr g adK adV) {i : Nat} (hi : i < 6) : ∀ (A : Nat → Prop) (U : State) (H : Heap), g.2.2.2.2 A U H → va_OF "java/lang/String" "coder" "B" (zi 0) (adK i) A U H := fun A U H h => ((hs A U H h).1.1 i hi).2.1
theorem zs_arr {g : zG} {adK adV : Nat → Nat} (hs : zStr g adK adV) {i : Nat} (hi : i < 6) : ∀ (A : Nat → Prop) (U : State) (H : Heap), g.2.2.2.2 A U H → va_T .byte (adV i) (sL i) (fun j => .int ((sByt.getD i []).getD j 0)) A U H := fun A U H h => ((hs A U H h).1.1 i hi).2.2.2
theorem zs_com {g : zG} {adK adV : Nat → Nat} (hs : zStr g adK adV) : ∀ (A : Nat → Prop) (U : State) (H : Heap), g.2.2.2.2 A U H → va_Z "java/lang/String" "COMPACT_STRINGS" "Z" (zi 1) A U H := fun A U H h => (hs A U H h).2.1
theorem fls_38 : Cond.fieldLink "java/lang/String" 38 "java/lang/String" "COMPACT_STRINGS" "Z" ∈ zTB := zTB_in 579 (by decide +kernel) rfl
theorem fls_9 : Cond.fieldLink "java/lang/String" 9 "java/lang/String" "value" "[B" ∈ zTB := zTB_in 1517 (by decide +kernel) rfl
theorem fls_15 : Cond.fieldLink "java/lang/String" 15 "java/lang/String" "coder" "B" ∈ zTB := zTB_in 1518 (by decide +kernel) rfl
theorem fls_1053 : Cond.fieldLink "java/lang/String" 1053 "jdk/internal/util/Preconditions" "SIOOBE_FORMATTER" "Ljava/util/function/BiFunction;" ∈ zTB := zTB_in 595 (by decide +kernel) rfl
theorem t_coder (l : Launch) {g : zG} (hg : zAmOk g) {adK adV : Nat → Nat} (hs : zStr g adK adV) (d : zD) {i : Nat} (hi : i < 6) : zC l g mJ0_coder_7d493 1 [zs (adK i)] d (zpu (zi 0) d) := by
  refine zC_of (L := [(0, _)]) mk_J0_coder_7d493 (Nat.le_of_ble_eq_true rfl) hg rfl (fun x => ?_)
  refine z_getss (zs_com hs) fls_38 dJ0_coder_7d493_0 ?_
  refine z_if_eq 13 (by decide) dJ0_coder_7d493_3 (by decide) (fun hh => absurd hh (by decide)) (fun _ => ?_)
  refine z_aloads_n 0 dJ0_coder_7d493_6 rfl rfl ?_
  refine z_getfs (zs_cod hs hi) fls_15 dJ0_coder_7d493_7 ?_
  refine z_goto 14 dJ0_coder_7d493_10 (by decide) ?_
  exact z_yret0 rfl dJ0_coder_7d493_14 ⟨rfl, rfl⟩
theorem t_isLatin1 (l : Launch) {g : zG} (hg : zAmOk g) {adK adV : Nat → Nat} (hs : zStr g adK adV) (d : zD) {i : Nat} (hi : i < 6) : zC l g mJ0_isLatin1_aae02 1 [zs (adK i)] d (zpu (zi (zb true)) d) := by
  refine zC_of (L := [(0, _)]) mk_J0_isLatin1_aae02 (Nat.le_of_ble_eq_true rfl) hg rfl (fun x => ?_)
  refine z_getss (zs_com hs) fls_38 dJ0_isLatin1_aae02_0 ?_
  refine z_if_eq 17 (by decide) dJ0_isLatin1_aae02_3 (by decide) (fun hh => absurd hh (by decide)) (fun _ => ?_)
  refine z_aloads_n 0 dJ0_isLatin1_aae02_6 rfl rfl ?_
  refine z_getfs (zs_cod hs hi) fls_15 dJ0_isLatin1_aae02_7 ?_
  refine z_if_ne 17 (by decide) dJ0_isLatin1_aae02_10 (by decide) (fun hh => absurd rfl hh) (fun _ => ?_)
  refine z_iconst dJ0_isLatin1_aae02_13 ?_
  refine z_goto 18 dJ0_isLatin1_aae02_14 (by decide) ?_
  exact z_bret (b := true) rfl dJ0_isLatin1_aae02_18 ⟨rfl, rfl⟩
theorem t_slen (l : Launch) {g : zG} (hg : zAmOk g) {adK adV : Nat → Nat} (hs : zStr g adK adV) (d : zD) {i : Nat} (hi : i < 6) : zC l g mJ0_length_8abf5 2 [zs (adK i)] d (zpu (zi (sL i : Nat)) d) := by
  have h5 := (sC_ok i hi).1
  refine zC_of (L := [(0, _)]) mk_J0_length_8abf5 (Nat.le_of_ble_eq_true rfl) hg rfl (fun x => ?_)
  refine z_aloads_n 0 dJ0_length_8abf5_0 rfl rfl ?_
  refine z_getfs (zs_val hs hi) fls_9 dJ0_length_8abf5_1 ?_
  refine z_tlens (zs_arr hs hi) dJ0_length_8abf5_4 ?_
  refine z_aloads_n 0 dJ0_length_8abf5_5 rfl rfl ?_
  refine z_cvs hs hi (t_coder l hg hs d hi) mk_J0_coder_7d493 mi_J0_coder_7d493 ml_RJ0_335 rfl (by omega) rfl rfl (Nat.le_of_ble_eq_true rfl) dJ0_length_8abf5_6 (zpure ?_)
  refine z_ishr ((sL i / 2 ^ 0 : Nat) : Int) (zshr (s := sL i) (m := 0) (by omega) (by decide)) dJ0_length_8abf5_9 ?_
  exact z_iret rfl dJ0_length_8abf5_10 (zret_i (by rw [Nat.pow_zero, Nat.div_one]))
theorem t_ckN (l : Launch) {g : zG} (hg : zAmOk g) (d : zD) (t : Nat) {a n : Nat} (ha : a < n) (hn : n < 1000) : zC l g mJ3_checkIndex_8e157 3 [zi (a : Int), zi (n : Int), .null] d (zpu (zi (a : Int)) d) := by
  refine zC_of (L := [(0, _), (1, _), (2, _)]) mk_J3_checkIndex_8e157 (Nat.le_of_ble_eq_true rfl) hg rfl (fun x => ?_)
  refine z_iload_n 0 dJ3_checkIndex_8e157_0 rfl rfl ?_
  refine z_if_lt 9 (by omega) dJ3_checkIndex_8e157_1 (by decide) (fun h_1 => absurd h_1 (by omega)) (fun h_1 => ?_)
  refine z_iload_n 0 dJ3_checkIndex_8e157_4 rfl rfl ?_
  refine z_iload_n 1 dJ3_checkIndex_8e157_5 rfl rfl ?_
  refine z_icmp_lt 16 (by omega) (by omega) dJ3_checkIndex_8e157_6 (by decide) (fun h_6 => ?_) (fun h_6 => absurd h_6 (by omega))
  refine z_iload_n 0 dJ3_checkIndex_8e157_16 rfl rfl ?_
  exact z_iret rfl dJ3_checkIndex_8e157_17 (⟨rfl, rfl⟩)
theorem t_ckR (l : Launch) {g : zG} (hg : zAmOk g) (d : zD) (t : Nat) {a n : Nat} (ha : a < n) (hn : n < 1000) : zC l g mJ3_checkIndex_8e157 3 [zi (a : Int), zi (n : Int), .ref t] d (zpu (zi (a : Int)) d) := by
  refine zC_of (L := [(0, _), (1, _), (2, _)]) mk_J3_checkIndex_8e157 (Nat.le_of_ble_eq_true rfl) hg rfl (fun x => ?_)
  refine z_iload_n 0 dJ3_checkIndex_8e157_0 rfl rfl ?_
  refine z_if_lt 9 (by omega) dJ3_checkIndex_8e157_1 (by decide) (fun h_1 => absurd h_1 (by omega)) (fun h_1 => ?_)
  refine z_iload_n 0 dJ3_checkIndex_8e157_4 rfl rfl ?_
  refine z_iload_n 1 dJ3_checkIndex_8e157_5 rfl rfl ?_
  refine z_icmp_lt 16 (by omega) (by omega) dJ3_checkIndex_8e157_6 (by decide) (fun h_6 => ?_) (fun h_6 => absurd h_6 (by omega))
  refine z_iload_n 0 dJ3_checkIndex_8e157_16 rfl rfl ?_
  exact z_iret rfl dJ3_checkIndex_8e157_17 (⟨rfl, rfl⟩)
theorem t_ckS (l : Launch) {g : zG} (hg : zAmOk g) {adK adV : Nat → Nat} (hs : zStr g adK adV) (d : zD) {a n : Nat} (ha : a < n) (hn : n < 1000) : zC l g mJ0_checkIndex_df160 4 [zi (a : Int), zi (n : Int)] d (fun r d' => r = none ∧ d' = d) := by
  refine zC_of (L := [(0, _), (1, _)]) mk_J0_checkIndex_df160 (Nat.le_of_ble_eq_true rfl) hg rfl (fun x => ?_)
  refine z_iload_n 0 dJ0_checkIndex_df160_0 rfl rfl ?_
  refine z_iload_n 1 dJ0_checkIndex_df160_1 rfl rfl ?_
  refine z_getsq (fun A U H h => (hs A U H h).2.2.1) fls_1053 dJ0_checkIndex_df160_2 (fun r => ?_)
  cases r with
  | none =>
    refine z_cs (t_ckN l hg d 0 ha hn) mk_J3_checkIndex_8e157 ms_J3_checkIndex_8e157 ml_RJ0_1059 (by omega) rfl rfl (Nat.le_of_ble_eq_true rfl) dJ0_checkIndex_df160_5 (fun r_5 d_5 q_5 => ?_)
    obtain ⟨rfl, rfl⟩ := q_5
    show zV l x g mJ0_checkIndex_df160 4 _ _ _ [_] _
    refine z_pop dJ0_checkIndex_df160_8 rfl ?_
    exact z_vret rfl dJ0_checkIndex_df160_9 ⟨rfl, rfl⟩
  | some t =>
    refine z_cs (t_ckR l hg d t ha hn) mk_J3_checkIndex_8e157 ms_J3_checkIndex_8e157 ml_RJ0_1059 (by omega) rfl rfl (Nat.le_of_ble_eq_true rfl) dJ0_checkIndex_df160_5 (fun r_5 d_5 q_5 => ?_)
    obtain ⟨rfl, rfl⟩ := q_5
    show zV l x g mJ0_checkIndex_df160 4 _ _ _ [_] _
    refine z_pop dJ0_checkIndex_df160_8 rfl ?_
    exact z_vret rfl dJ0_checkIndex_df160_9 ⟨rfl, rfl⟩
theorem t_lchar (l : Launch) {g : zG} (hg : zAmOk g) {adK adV : Nat → Nat} (hs : zStr g adK adV) (d : zD) {i k : Nat} (hi : i < 6) (hk : k < sL i) : zC l g mJ1_charAt_3b067 5 [zs (adV i), zi (k : Int)] d (zpu (zi (sC i k : Nat)) d) := by
  obtain ⟨h5, h6, h7⟩ := sC_ok i hi
  obtain ⟨c1, c2, c3⟩ := h7 k hk
  refine zC_of (L := [(0, _), (1, _)]) mk_J1_charAt_3b067 (Nat.le_of_ble_eq_true rfl) hg rfl (fun x => ?_)
  refine z_iload_n 1 dJ1_charAt_3b067_0 rfl rfl ?_
  refine z_aloads_n 0 dJ1_charAt_3b067_1 rfl rfl ?_
  refine z_tlens (zs_arr hs hi) dJ1_charAt_3b067_2 ?_
  refine z_cs (t_ckS l hg hs d (a := k) (n := sL i) hk (by omega)) mk_J0_checkIndex_df160 ms_J0_checkIndex_df160 ml_RJ1_9 (by omega) rfl rfl (Nat.le_of_ble_eq_true rfl) dJ1_charAt_3b067_3 (fun r_3 d_3 q_3 => ?_)
  obtain ⟨rfl, rfl⟩ := q_3
  show zV l x g mJ1_charAt_3b067 5 _ _ _ [] _
  refine z_aloads_n 0 dJ1_charAt_3b067_6 rfl rfl ?_
  refine z_iload_n 1 dJ1_charAt_3b067_7 rfl rfl ?_
  refine z_bals k (zs_arr hs hi) hk (by omega) (v := zi (sC i k : Nat)) (by show Value.int _ = Value.int _; rw [c1, zn]) dJ1_charAt_3b067_8 ?_
  refine z_sipush dJ1_charAt_3b067_9 (by decide) ?_
  refine z_iand _ (zand (sC i k) 255) dJ1_charAt_3b067_12 ?_
  refine z_top ((sC i k : Nat) : Int) (by rw [and255, Nat.mod_eq_of_lt (by omega)]) ?_
  refine z_i2c (by omega) dJ1_charAt_3b067_13 ?_
  exact z_cret (by omega) rfl dJ1_charAt_3b067_14 ⟨rfl, rfl⟩
theorem t_schar (l : Launch) {g : zG} (hg : zAmOk g) {adK adV : Nat → Nat} (hs : zStr g adK adV) (d : zD) {i k : Nat} (hi : i < 6) (hk : k < sL i) : zC l g mJ0_charAt_5068e 7 [zs (adK i), zi (k : Int)] d (zpu (zi (sC i k : Nat)) d) := by
  obtain ⟨h5, h6, h7⟩ := sC_ok i hi
  obtain ⟨c1, c2, c3⟩ := h7 k hk
  refine zC_of (L := [(0, _), (1, _)]) mk_J0_charAt_5068e (Nat.le_of_ble_eq_true rfl) hg rfl (fun x => ?_)
  refine z_aloads_n 0 dJ0_charAt_5068e_0 rfl rfl ?_
  refine z_cvs hs hi (t_isLatin1 l hg hs d hi) mk_J0_isLatin1_aae02 mi_J0_isLatin1_aae02 ml_RJ0_492 rfl (by omega) rfl rfl (Nat.le_of_ble_eq_true rfl) dJ0_charAt_5068e_1 (zpure ?_)
  refine z_if_eq_b 16 dJ0_charAt_5068e_4 (by decide) (fun hh => absurd hh (by decide)) (fun _ => ?_)
  refine z_aloads_n 0 dJ0_charAt_5068e_7 rfl rfl ?_
  refine z_getfs (zs_val hs hi) fls_9 dJ0_charAt_5068e_8 ?_
  refine z_iload_n 1 dJ0_charAt_5068e_11 rfl rfl ?_
  refine z_cs (t_lchar l hg hs d hi hk) mk_J1_charAt_3b067 ms_J1_charAt_3b067 ml_RJ0_495 (by omega) rfl rfl (Nat.le_of_ble_eq_true rfl) dJ0_charAt_5068e_12 (zpure ?_)
  exact z_cret (by omega) rfl dJ0_charAt_5068e_15 ⟨rfl, rfl⟩
