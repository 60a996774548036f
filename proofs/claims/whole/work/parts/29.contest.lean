/-! forms against one another: Contest, first part -/
def bt (x : Int32) (i : Nat) : Bool := x.toBitVec.getLsbD i
theorem b_ext {x y : Int32} (h : ∀ i, i < 32 → bt x i = bt y i) : x = y := Int32.toBitVec_inj.mp (BitVec.eq_of_getLsbD_eq (fun i hi => h i hi))
theorem b_and (x y : Int32) (i : Nat) : bt (x &&& y) i = (bt x i && bt y i) := by unfold bt; rw [Int32.toBitVec_and, BitVec.getLsbD_and]
theorem b_sshr (n : Nat) (hn : n < 32) (x : Int32) {i : Nat} (hi : i < 32) : bt (x >>> (nI n &&& 31)) i = if n + i < 32 then bt x (n + i) else bt x 31 := by
  unfold bt
  rw [Int32.toBitVec_shiftRight]
  show (x.toBitVec.sshiftRight ((nI n &&& 31).toBitVec.smod 32).toNat).getLsbD i = _
  rw [zsl n hn, BitVec.getLsbD_sshiftRight, BitVec.msb_eq_getLsbD_last]
  simp [hi]
theorem bt_nI (s : Nat) {i : Nat} (hi : i < 32) : bt (nI s) i = s.testBit i := by
  show (BitVec.ofNat 32 s).getLsbD i = _
  rw [BitVec.getLsbD_ofNat]; simp [hi]
theorem bt_1 : ∀ i, i < 32 → bt (Int32.ofInt 1) i = decide (i = 0) := by decide +kernel
theorem bt_0 : ∀ i, i < 32 → bt (Int32.ofInt 0) i = false := by decide +kernel
theorem zshrb {s m : Nat} (hm : m < 32) : (Int32.ofInt (s : Int) >>> (Int32.ofInt (m : Int) &&& 31)) &&& Int32.ofInt 1 = Int32.ofInt (zb (s.testBit m)) := by
  rw [zn, zn]
  apply b_ext
  intro i hi
  rw [b_and, b_sshr m hm _ hi, bt_1 i hi]
  by_cases e : i = 0
  · subst e
    rw [Nat.add_zero, if_pos hm, bt_nI s hm]
    cases s.testBit m
    · rfl
    · rfl
  · rw [decide_eq_false e, Bool.and_false]
    cases s.testBit m
    · exact (bt_0 i hi).symm
    · show false = bt (Int32.ofInt 1) i
      rw [bt_1 i hi, decide_eq_false e]
theorem t_isInU (l : Launch) {g : zG} (hg : zAmOk g) (d : zD) {m s : Nat} (hm : m < 32) : zC l g mX7_isIn 1 [zi (m : Int), zi (s : Int)] d (zpu (zi (zb (s.testBit m))) d) := by
  refine zC_of (L := [(0, _), (1, _)]) mk_X7_isIn (Nat.le_of_ble_eq_true rfl) hg rfl (fun x => ?_)
  refine z_iload_n 1 dX7_isIn_0 rfl rfl ?_
  refine z_iload_n 0 dX7_isIn_1 rfl rfl ?_
  refine z_ishr ((Int32.ofInt (s : Int) >>> (Int32.ofInt (m : Int) &&& 31)).toInt) (Int32.ofInt_toInt _).symm dX7_isIn_2 ?_
  refine z_iconst dX7_isIn_3 ?_
  refine z_iand (zb (s.testBit m)) (by rw [Int32.ofInt_toInt]; exact zshrb hm) dX7_isIn_4 ?_
  refine z_iconst dX7_isIn_5 ?_
  refine z_icmp_ne 13 (zb_in _) (by omega) dX7_isIn_6 (by decide) (fun h_6 => ?_) (fun h_6 => ?_)
  · refine z_iconst dX7_isIn_13 ?_
    exact z_bret (b := false) rfl dX7_isIn_14 (zret_b (by cases hb : s.testBit m <;> simp_all [zb]))
  · refine z_iconst dX7_isIn_9 ?_
    refine z_goto 14 dX7_isIn_10 (by decide) ?_
    exact z_bret (b := true) rfl dX7_isIn_14 (zret_b (by cases hb : s.testBit m <;> simp_all [zb]))
theorem zeq0 {v : Nat} (hv : v < 4294967296) : Int32.ofInt (v : Int) = 0 ↔ v = 0 :=
  ⟨fun e => Classical.byContradiction fun z => zne0 z hv e, fun e => by subst e; rfl⟩
theorem z_if_eq_u {l : Launch} {x : zX} {g : zG} {M : zM} {n : Nat} {Q : Option Value → zD → Prop} {pc : Nat} {L : List (Nat × Value)} {st : List Value} {d : zD} {v : Nat} {off : Int} (t : Nat) (hv : v < 4294967296) (hd : decode M.2.2.1 pc = .ok (.ifCond .eq off, 3)) (ht : (pc : Int) + off = (t : Int)) (kt : v = 0 → zV l x g M n Q t L st d) (kf : v ≠ 0 → zV l x g M n Q (pc + 3) L st d) : zV l x g M n Q pc L (zi (v : Int) :: st) d := by
  obtain ⟨p, e, s, m, args, below, meth, c, A⟩ := x
  intro ok H locs ls hP hD hS hl
  exact lv_if_eq ok.1 ok.2.1 hd ht (fun hc => kt ((zeq0 hv).mp hc) ok H locs ls hP hD hS hl) (fun hc => kf (fun z => hc ((zeq0 hv).mpr z)) ok H locs ls hP hD hS hl)
theorem lp_fill_34 {l : Launch} {x : zX} {g : zG} {n : Nat} {Q : Option Value → zD → Prop} {d0 : zD} (hg : zAmOk g) (hQ : ∀ d, zF [34] d0 d → (∀ i, i < 8 → d 34 i = 0) → Q none d) : ∀ r k d, zF [34] d0 d → (∀ i, i < k → d 34 i = 0) → k ≤ 8 → 8 - k < r → zV l x g mJ7_fill_53178 n Q 5 [(0, zr g 34), (1, zi 0), (2, zi (k : Int)), (3, zi ((8 : Nat) : Int))] [] d := by
  intro r
  induction r with
  | zero => intro k d hf hd hk hr; omega
  | succ r ih =>
    intro k d hf hd hk hr
    refine z_iload_n 2 dJ7_fill_53178_5 rfl rfl ?_
    refine z_iload_n 3 dJ7_fill_53178_6 rfl rfl ?_
    refine z_icmp_ge 20 (by omega) (by omega) dJ7_fill_53178_7 (by decide) (fun h_7 => ?_) (fun h_7 => ?_)
    · exact z_vret rfl dJ7_fill_53178_20 (hQ d hf (fun i hi => hd i (by omega)))
    · refine z_aload_n 0 dJ7_fill_53178_10 rfl rfl ?_
      refine z_iload_n 2 dJ7_fill_53178_11 rfl rfl ?_
      refine z_iload_n 1 dJ7_fill_53178_12 rfl rfl ?_
      refine z_iast _ (by decide) rfl rfl (by omega) (by decide) dJ7_fill_53178_13 ?_
      refine z_iinc 2 (L' := [(0, _), (1, _), (2, _), (3, _)]) dJ7_fill_53178_14 (by decide) rfl rfl rfl ?_
      refine z_goto 5 dJ7_fill_53178_17 (by decide) ?_
      refine ih (k + 1) _ (hf.up (by decide)) (fun i hi => ?_) (by omega) (by omega)
      rw [zu_row]
      split
      · rfl
      · exact hd i (by omega)
theorem t_fill_34 (l : Launch) {g : zG} (hg : zAmOk g) (d : zD) : zC l g mJ7_fill_53178 1 [zr g 34, zi 0] d (fun r d' => r = none ∧ (zF [34] d d' ∧ ∀ i, i < 8 → d' 34 i = 0)) := by
  refine zC_of (L := [(0, _), (1, _)]) mk_J7_fill_53178 (Nat.le_of_ble_eq_true rfl) hg rfl (fun x => ?_)
  refine z_iconst dJ7_fill_53178_0 ?_
  refine z_istore_n (L' := [(0, _), (1, _), (2, _)]) dJ7_fill_53178_1 rfl (by decide) rfl rfl ?_
  refine z_aload_n 0 dJ7_fill_53178_2 rfl rfl ?_
  refine z_alen (by decide) rfl (by decide) dJ7_fill_53178_3 ?_
  refine z_istore_n (L' := [(0, _), (1, _), (2, _), (3, _)]) dJ7_fill_53178_4 rfl (by decide) rfl rfl ?_
  exact lp_fill_34 hg (fun d' h1 h2 => ⟨rfl, h1, h2⟩) (8 + 1) 0 d zF.rf (fun i hi => absurd hi (by omega)) (by omega) (by omega)
theorem lp_fill_35 {l : Launch} {x : zX} {g : zG} {n : Nat} {Q : Option Value → zD → Prop} {d0 : zD} (hg : zAmOk g) (hQ : ∀ d, zF [35] d0 d → (∀ i, i < 195 → d 35 i = 0) → Q none d) : ∀ r k d, zF [35] d0 d → (∀ i, i < k → d 35 i = 0) → k ≤ 195 → 195 - k < r → zV l x g mJ7_fill_53178 n Q 5 [(0, zr g 35), (1, zi 0), (2, zi (k : Int)), (3, zi ((195 : Nat) : Int))] [] d := by
  intro r
  induction r with
  | zero => intro k d hf hd hk hr; omega
  | succ r ih =>
    intro k d hf hd hk hr
    refine z_iload_n 2 dJ7_fill_53178_5 rfl rfl ?_
    refine z_iload_n 3 dJ7_fill_53178_6 rfl rfl ?_
    refine z_icmp_ge 20 (by omega) (by omega) dJ7_fill_53178_7 (by decide) (fun h_7 => ?_) (fun h_7 => ?_)
    · exact z_vret rfl dJ7_fill_53178_20 (hQ d hf (fun i hi => hd i (by omega)))
    · refine z_aload_n 0 dJ7_fill_53178_10 rfl rfl ?_
      refine z_iload_n 2 dJ7_fill_53178_11 rfl rfl ?_
      refine z_iload_n 1 dJ7_fill_53178_12 rfl rfl ?_
      refine z_iast _ (by decide) rfl rfl (by omega) (by decide) dJ7_fill_53178_13 ?_
      refine z_iinc 2 (L' := [(0, _), (1, _), (2, _), (3, _)]) dJ7_fill_53178_14 (by decide) rfl rfl rfl ?_
      refine z_goto 5 dJ7_fill_53178_17 (by decide) ?_
      refine ih (k + 1) _ (hf.up (by decide)) (fun i hi => ?_) (by omega) (by omega)
      rw [zu_row]
      split
      · rfl
      · exact hd i (by omega)
theorem t_fill_35 (l : Launch) {g : zG} (hg : zAmOk g) (d : zD) : zC l g mJ7_fill_53178 1 [zr g 35, zi 0] d (fun r d' => r = none ∧ (zF [35] d d' ∧ ∀ i, i < 195 → d' 35 i = 0)) := by
  refine zC_of (L := [(0, _), (1, _)]) mk_J7_fill_53178 (Nat.le_of_ble_eq_true rfl) hg rfl (fun x => ?_)
  refine z_iconst dJ7_fill_53178_0 ?_
  refine z_istore_n (L' := [(0, _), (1, _), (2, _)]) dJ7_fill_53178_1 rfl (by decide) rfl rfl ?_
  refine z_aload_n 0 dJ7_fill_53178_2 rfl rfl ?_
  refine z_alen (by decide) rfl (by decide) dJ7_fill_53178_3 ?_
  refine z_istore_n (L' := [(0, _), (1, _), (2, _), (3, _)]) dJ7_fill_53178_4 rfl (by decide) rfl rfl ?_
  exact lp_fill_35 hg (fun d' h1 h2 => ⟨rfl, h1, h2⟩) (195 + 1) 0 d zF.rf (fun i hi => absurd hi (by omega)) (by omega) (by omega)
theorem lp_fill_16 {l : Launch} {x : zX} {g : zG} {n : Nat} {Q : Option Value → zD → Prop} {d0 : zD} (hg : zAmOk g) (hQ : ∀ d, zF [16] d0 d → (∀ i, i < 72 → d 16 i = 0) → Q none d) : ∀ r k d, zF [16] d0 d → (∀ i, i < k → d 16 i = 0) → k ≤ 72 → 72 - k < r → zV l x g mJ7_fill_53178 n Q 5 [(0, zr g 16), (1, zi 0), (2, zi (k : Int)), (3, zi ((72 : Nat) : Int))] [] d := by
  intro r
  induction r with
  | zero => intro k d hf hd hk hr; omega
  | succ r ih =>
    intro k d hf hd hk hr
    refine z_iload_n 2 dJ7_fill_53178_5 rfl rfl ?_
    refine z_iload_n 3 dJ7_fill_53178_6 rfl rfl ?_
    refine z_icmp_ge 20 (by omega) (by omega) dJ7_fill_53178_7 (by decide) (fun h_7 => ?_) (fun h_7 => ?_)
    · exact z_vret rfl dJ7_fill_53178_20 (hQ d hf (fun i hi => hd i (by omega)))
    · refine z_aload_n 0 dJ7_fill_53178_10 rfl rfl ?_
      refine z_iload_n 2 dJ7_fill_53178_11 rfl rfl ?_
      refine z_iload_n 1 dJ7_fill_53178_12 rfl rfl ?_
      refine z_iast _ (by decide) rfl rfl (by omega) (by decide) dJ7_fill_53178_13 ?_
      refine z_iinc 2 (L' := [(0, _), (1, _), (2, _), (3, _)]) dJ7_fill_53178_14 (by decide) rfl rfl rfl ?_
      refine z_goto 5 dJ7_fill_53178_17 (by decide) ?_
      refine ih (k + 1) _ (hf.up (by decide)) (fun i hi => ?_) (by omega) (by omega)
      rw [zu_row]
      split
      · rfl
      · exact hd i (by omega)
theorem t_fill_16 (l : Launch) {g : zG} (hg : zAmOk g) (d : zD) : zC l g mJ7_fill_53178 1 [zr g 16, zi 0] d (fun r d' => r = none ∧ (zF [16] d d' ∧ ∀ i, i < 72 → d' 16 i = 0)) := by
  refine zC_of (L := [(0, _), (1, _)]) mk_J7_fill_53178 (Nat.le_of_ble_eq_true rfl) hg rfl (fun x => ?_)
  refine z_iconst dJ7_fill_53178_0 ?_
  refine z_istore_n (L' := [(0, _), (1, _), (2, _)]) dJ7_fill_53178_1 rfl (by decide) rfl rfl ?_
  refine z_aload_n 0 dJ7_fill_53178_2 rfl rfl ?_
  refine z_alen (by decide) rfl (by decide) dJ7_fill_53178_3 ?_
  refine z_istore_n (L' := [(0, _), (1, _), (2, _), (3, _)]) dJ7_fill_53178_4 rfl (by decide) rfl rfl ?_
  exact lp_fill_16 hg (fun d' h1 h2 => ⟨rfl, h1, h2⟩) (72 + 1) 0 d zF.rf (fun i hi => absurd hi (by omega)) (by omega) (by omega)
def openB (h : Hl) (k f : Nat) : Bool := decide (f = 0) || (List.range k).any (fun s => decide (formF h s = f))
/-- the open forms below k, rising -/
def opL (h : Hl) (k : Nat) : List Nat := (List.range k).filter (openB h (2 ^ hN h))
def openL (h : Hl) : List Nat := opL h 256
theorem openB_s (h : Hl) (k f : Nat) : openB h (k + 1) f = (openB h k f || decide (formF h k = f)) := by
  unfold openB
  rw [List.range_succ, List.any_append]
  simp [Bool.or_assoc]
theorem opL_s (h : Hl) (k : Nat) : opL h (k + 1) = opL h k ++ (if openB h (2 ^ hN h) k = true then [k] else []) := by
  unfold opL
  rw [List.range_succ, List.filter_append]
  congr 1
  simp only [List.filter_cons, List.filter_nil]
theorem pig : ∀ (a b : List Nat), a.Nodup → (∀ x ∈ a, x ∈ b) → a.length ≤ b.length
  | [], b, _, _ => Nat.zero_le _
  | x :: a, b, hn, hs => by
    rw [List.nodup_cons] at hn
    have h1 := pig a (b.erase x) hn.2 (fun y hy => (List.mem_erase_of_ne (fun e => hn.1 (by rw [← e]; exact hy))).mpr (hs y (List.mem_cons_of_mem _ hy)))
    have h2 := List.length_erase_of_mem (hs x List.mem_cons_self)
    have h3 : 0 < b.length := List.length_pos_of_mem (hs x List.mem_cons_self)
    rw [List.length_cons]
    omega
theorem opL_nodup (h : Hl) (k : Nat) : (opL h k).Nodup := List.nodup_range.sublist List.filter_sublist
theorem opL_mem {h : Hl} {k f : Nat} : f ∈ opL h k ↔ f < k ∧ openB h (2 ^ hN h) f = true := by
  unfold opL; rw [List.mem_filter, List.mem_range]
theorem opL_len {h : Hl} (w : Wf h) (k : Nat) : (opL h k).length ≤ 65 := by
  have h1 := pig (opL h k) (0 :: (List.range (2 ^ hN h)).map (formF h)) (opL_nodup h k) (fun f hf => by
    have := (opL_mem.mp hf).2
    unfold openB at this
    rw [Bool.or_eq_true, decide_eq_true_eq, List.any_eq_true] at this
    rcases this with h1 | ⟨s, h1, h2⟩
    · rw [h1]; exact List.mem_cons_self
    · exact List.mem_cons_of_mem _ (List.mem_map.mpr ⟨s, h1, by simpa using h2⟩))
  have hp2 := p64 w.2.2.1
  simp at h1
  omega
theorem opL_pre (h : Hl) (k : Nat) : ∀ j, ∃ r, opL h (k + j) = opL h k ++ r
  | 0 => ⟨[], by simp⟩
  | j + 1 => by
    obtain ⟨r, hr⟩ := opL_pre h k j
    exact ⟨r ++ (if openB h (2 ^ hN h) (k + j) = true then [k + j] else []), by rw [← Nat.add_assoc, opL_s, hr, List.append_assoc]⟩
theorem opL_full {h : Hl} (w : Wf h) {k : Nat} (hk : k ≤ 256) (hl : 65 ≤ (opL h k).length) : opL h k = openL h := by
  obtain ⟨r, hr⟩ := opL_pre h k (256 - k)
  rw [show k + (256 - k) = 256 by omega] at hr
  have h1 := opL_len w 256
  rw [hr, List.length_append] at h1
  have : r = [] := List.eq_nil_of_length_eq_zero (by omega)
  rw [openL, hr, this, List.append_nil]
theorem openL_lt {h : Hl} {f : Nat} (hf : f ∈ openL h) : f < 256 := (opL_mem.mp hf).1
/-- the class's open forms -/
def OP (d : zD) (h : Hl) : Prop := d 32 4 = (openL h).length ∧ ∀ i f : Nat, (openL h)[i]? = some f → d 33 i = f
def MKS (d : zD) (P : Nat → Bool) : Prop := ∀ j, j < 8 → ∃ W : Nat, d 34 j = W ∧ W < 4294967296 ∧ ∀ b, b < 32 → W.testBit b = P (32 * j + b)
theorem MKS.mark {d : zD} {P : Nat → Bool} (H : MKS d P) {f : Nat} (hf : f < 256) {W : Nat} (hW : d 34 (f / 32) = W) : MKS (zu d 34 (f / 32) ((W ||| 2 ^ (f % 32) : Nat) : Int)) (fun x => P x || decide (f = x)) := by
  intro j hj
  obtain ⟨W', h1, h2, h3⟩ := H j hj
  rw [zu_row]
  by_cases e : j = f / 32
  · subst e
    rw [if_pos rfl]
    have e2 : W' = W := by omega
    subst e2
    refine ⟨_, rfl, or_lt (k := 32) h2 (Nat.pow_lt_pow_right (by decide) (Nat.mod_lt _ (by decide))), fun b hb => ?_⟩
    rw [or_bit1, h3 b hb]
    congr 1
    exact decide_eq_decide.mpr (by omega)
  · rw [if_neg e]
    refine ⟨W', h1, h2, fun b hb => ?_⟩
    rw [h3 b hb]
    show _ = (P (32 * j + b) || decide (f = 32 * j + b))
    rw [decide_eq_false (by omega), Bool.or_false]
theorem MKS.of {d d' : zD} {P : Nat → Bool} (H : MKS d P) (e : d' 34 = d 34) : MKS d' P := fun j hj => by rw [e]; exact H j hj
theorem t_forgetBeaten (l : Launch) {g : zG} (hg : zAmOk g) (d : zD) : zC l g mX1_forgetBeaten 1 [zr g 32] d (fun r d' => r = none ∧ d' = zu d 32 7 0) := by
  refine zC_of (L := [(0, _)]) mk_X1_forgetBeaten (Nat.le_of_ble_eq_true rfl) hg rfl (fun x => ?_)
  refine z_aload_n 0 dX1_forgetBeaten_0 rfl rfl ?_
  refine z_iconst dX1_forgetBeaten_1 ?_
  refine z_putg fp_RX1_63 (by decide) rfl rfl (by decide +kernel) (by decide +kernel) dX1_forgetBeaten_2 ?_
  exact z_vret rfl dX1_forgetBeaten_5 (⟨rfl, rfl⟩)
theorem lp2_takeOpen {l : Launch} {x : zX} {g : zG} {n : Nat} {Q : Option Value → zD → Prop} {d0 : zD} {h : Hl} {a1 : Int} (hg : zAmOk g) (w : Wf h) (M : MKS d0 (openB h (2 ^ hN h))) (hn : 1 < n) (hQ : ∀ d, zF [32, 33] d0 d → OP d h → zV l x g mX1_takeOpen n Q 134 [(0, zr g 32), (1, zi a1)] [] d) : ∀ r k d, zF [32, 33] d0 d → d 32 4 = (opL h k).length → (∀ i f : Nat, (opL h k)[i]? = some f → d 33 i = f) → k ≤ 256 → 256 - k < r → zV l x g mX1_takeOpen n Q 73 [(0, zr g 32), (1, zi a1), (2, zi (k : Int))] [] d := by
  intro r
  induction r with
  | zero => intro k d hf h4 hd hk hr; omega
  | succ r ih =>
    intro k d hf h4 hd hk hr
    have M' : MKS d (openB h (2 ^ hN h)) := M.of (hf 34 (by decide))
    have hol := opL_len w k
    refine z_iload_n 2 dX1_takeOpen_73 rfl rfl ?_
    refine z_sipush dX1_takeOpen_74 (by decide) ?_
    refine z_icmp_ge 134 (by omega) (by omega) dX1_takeOpen_77 (by decide) (fun h_77 => ?_) (fun h_77 => ?_)
    · refine z_sub (L' := [(0, _), (1, _)]) [0, 1] rfl ?_
      refine hQ d hf ?_
      rw [show k = 256 by omega] at h4 hd
      exact ⟨h4, hd⟩
    · refine z_aload_n 0 dX1_takeOpen_80 rfl rfl ?_
      refine z_geti fl_RX1_53 (by decide) rfl rfl dX1_takeOpen_81 ?_
      refine z_bipush dX1_takeOpen_84 (by decide) ?_
      rw [h4]
      refine z_icmp_ge 134 (by omega) (by omega) dX1_takeOpen_86 (by decide) (fun h_86 => ?_) (fun h_86 => ?_)
      · refine z_sub (L' := [(0, _), (1, _)]) [0, 1] rfl ?_
        refine hQ d hf ?_
        have e := opL_full w (k := k) (by omega) (by omega)
        rw [e] at h4 hd
        exact ⟨h4, hd⟩
      · obtain ⟨W, m1, m2, m3⟩ := M' (k / 32) (by omega)
        have m4 := m3 (k % 32) (Nat.mod_lt _ (by decide))
        rw [show 32 * (k / 32) + k % 32 = k by omega] at m4
        refine z_iload_n 2 dX1_takeOpen_89 rfl rfl ?_
        refine z_bipush dX1_takeOpen_90 (by decide) ?_
        refine z_irem ((k % 32 : Nat) : Int) (by decide) (zrem (a := k) (b := 32) (by omega) (by decide) (by decide)) dX1_takeOpen_92 ?_
        refine z_aload_n 0 dX1_takeOpen_93 rfl rfl ?_
        refine z_getr fl_RX1_15 (by decide) rfl rfl dX1_takeOpen_94 ?_
        refine z_iload_n 2 dX1_takeOpen_97 rfl rfl ?_
        refine z_bipush dX1_takeOpen_98 (by decide) ?_
        refine z_idiv ((k / 32 : Nat) : Int) (by decide) (zdiv (a := k) (b := 32) (by omega) (by decide) (by decide)) dX1_takeOpen_100 ?_
        refine z_iald (k / 32) (by decide) rfl rfl (by omega) (by decide) dX1_takeOpen_101 ?_
        rw [m1]
        refine z_cs (t_isInU l hg d (m := k % 32) (s := W) (by omega)) mk_X7_isIn ms_X7_isIn ml_RX1_56 (by omega) rfl rfl (Nat.le_of_ble_eq_true rfl) dX1_takeOpen_102 (zpure ?_)
        refine z_if_eq_b 128 dX1_takeOpen_105 (by decide) (fun h_105 => ?_) (fun h_105 => ?_)
        · refine z_iinc 2 (L' := [(0, _), (1, _), (2, _)]) dX1_takeOpen_128 (by decide) rfl rfl rfl ?_
          refine z_goto 73 dX1_takeOpen_131 (by decide) ?_
          have e : opL h (k + 1) = opL h k := by rw [opL_s, ← m4, h_105]; simp
          exact ih (k + 1) d hf (by rw [e]; exact h4) (by rw [e]; exact hd) (by omega) (by omega)
        · refine z_aload_n 0 dX1_takeOpen_108 rfl rfl ?_
          refine z_getr fl_RX1_9 (by decide) rfl rfl dX1_takeOpen_109 ?_
          refine z_aload_n 0 dX1_takeOpen_112 rfl rfl ?_
          refine z_geti fl_RX1_53 (by decide) rfl rfl dX1_takeOpen_113 ?_
          refine z_iload_n 2 dX1_takeOpen_116 rfl rfl ?_
          rw [h4]
          refine z_iast (opL h k).length (by decide) rfl rfl (by omega) (by decide) dX1_takeOpen_117 ?_
          refine z_aload_n 0 dX1_takeOpen_118 rfl rfl ?_
          refine z_dup dX1_takeOpen_119 rfl ?_
          refine z_geti fl_RX1_53 (by decide) rfl rfl dX1_takeOpen_120 ?_
          rw [zu_ne (by decide), h4]
          refine z_iconst dX1_takeOpen_123 ?_
          refine z_iadd dX1_takeOpen_124 ?_
          refine z_puti fp_RX1_53 (by decide) rfl rfl dX1_takeOpen_125 ?_
          refine z_iinc 2 (L' := [(0, _), (1, _), (2, _)]) dX1_takeOpen_128 (by decide) rfl rfl rfl ?_
          refine z_goto 73 dX1_takeOpen_131 (by decide) ?_
          have e : opL h (k + 1) = opL h k ++ [k] := by rw [opL_s, ← m4, h_105]; rfl
          refine ih (k + 1) _ ((hf.up (by decide)).up (by decide)) (by rw [zu_at, e, List.length_append]; rfl) (fun i f hi => ?_) (by omega) (by omega)
          rw [zu_ne (by decide), zu_row]
          rw [e] at hi
          split
          · rename_i e2
            subst e2
            rw [List.getElem?_append_right (Nat.le_refl _), Nat.sub_self] at hi
            cases hi; rfl
          · rename_i e2
            have hi2 := (List.getElem?_eq_some_iff.mp hi).1
            rw [List.length_append, List.length_singleton] at hi2
            rw [List.getElem?_append_left (by omega)] at hi
            exact hd i f hi
theorem lp1_takeOpen {l : Launch} {x : zX} {g : zG} {n : Nat} {Q : Option Value → zD → Prop} {d0 : zD} {h : Hl} (hg : zAmOk g) (w : Wf h) (D : MD d0 h) (hQ : ∀ d, zF [34] d0 d → MKS d (openB h (2 ^ hN h)) → zV l x g mX1_takeOpen n Q 66 [(0, zr g 32), (1, zi ((2 ^ hN h : Nat) : Int))] [] d) : ∀ r k d, zF [34] d0 d → MKS d (openB h k) → k ≤ 2 ^ hN h → 2 ^ hN h - k < r → zV l x g mX1_takeOpen n Q 27 [(0, zr g 32), (1, zi ((2 ^ hN h : Nat) : Int)), (2, zi (k : Int))] [] d := by
  have hp2 := p64 w.2.2.1
  intro r
  induction r with
  | zero => intro k d hf hM hk hr; omega
  | succ r ih =>
    intro k d hf hM hk hr
    have D' : MD d h := D.of (hf 27 (by decide))
    have hfl := formF_lt w k
    refine z_iload_n 2 dX1_takeOpen_27 rfl rfl ?_
    refine z_iload_n 1 dX1_takeOpen_28 rfl rfl ?_
    refine z_icmp_ge 66 (by omega) (by omega) dX1_takeOpen_29 (by decide) (fun h_29 => ?_) (fun h_29 => ?_)
    · refine z_sub (L' := [(0, _), (1, _)]) [0, 1] rfl ?_
      rw [show k = 2 ^ hN h by omega] at hM
      exact hQ d hf hM
    · obtain ⟨W, m1, m2, m3⟩ := hM (formF h k / 32) (by omega)
      have hpw : 2 ^ (formF h k % 32) ≤ 2147483648 := Nat.pow_le_pow_right (n := 2) (by decide) (show formF h k % 32 ≤ 31 by omega)
      refine z_aload_n 0 dX1_takeOpen_32 rfl rfl ?_
      refine z_getr fl_RX1_32 (by decide) rfl rfl dX1_takeOpen_33 ?_
      refine z_getr fl_RX1_48 (by decide) rfl rfl dX1_takeOpen_36 ?_
      refine z_iload_n 2 dX1_takeOpen_39 rfl rfl ?_
      refine z_iald _ (by decide) rfl rfl (by omega) (by decide) dX1_takeOpen_40 ?_
      rw [D' k (by omega)]
      refine z_istore_n (L' := [(0, _), (1, _), (2, _), (3, _)]) dX1_takeOpen_41 rfl (by decide) rfl rfl ?_
      refine z_aload_n 0 dX1_takeOpen_42 rfl rfl ?_
      refine z_getr fl_RX1_15 (by decide) rfl rfl dX1_takeOpen_43 ?_
      refine z_iload_n 3 dX1_takeOpen_46 rfl rfl ?_
      refine z_bipush dX1_takeOpen_47 (by decide) ?_
      refine z_idiv ((formF h k / 32 : Nat) : Int) (by decide) (zdiv (a := formF h k) (b := 32) (by omega) (by decide) (by decide)) dX1_takeOpen_49 ?_
      refine z_dup2 dX1_takeOpen_50 rfl rfl ?_
      refine z_iald (formF h k / 32) (by decide) rfl rfl (by omega) (by decide) dX1_takeOpen_51 ?_
      rw [m1]
      refine z_iconst dX1_takeOpen_52 ?_
      refine z_iload_n 3 dX1_takeOpen_53 rfl rfl ?_
      refine z_bipush dX1_takeOpen_54 (by decide) ?_
      refine z_irem ((formF h k % 32 : Nat) : Int) (by decide) (zrem (a := formF h k) (b := 32) (by omega) (by decide) (by decide)) dX1_takeOpen_56 ?_
      refine z_ishl _ (zshl (s := 1) (m := formF h k % 32) (by omega) (by omega)) dX1_takeOpen_57 ?_
      rw [Nat.one_mul]
      refine z_ior _ (zor _ _) dX1_takeOpen_58 ?_
      refine z_iast (formF h k / 32) (by decide) rfl rfl (by omega) (by decide) dX1_takeOpen_59 ?_
      refine z_iinc 2 (L' := [(0, _), (1, _), (2, _), (3, _)]) dX1_takeOpen_60 (by decide) rfl rfl rfl ?_
      refine z_goto 27 dX1_takeOpen_63 (by decide) ?_
      refine z_sub (L' := [(0, _), (1, _), (2, _)]) [0, 1, 2] rfl ?_
      refine ih (k + 1) _ (hf.up (by decide)) ?_ (by omega) (by omega)
      have hm := hM.mark hfl m1
      intro j hj
      obtain ⟨W', q1, q2, q3⟩ := hm j hj
      exact ⟨W', q1, q2, fun b hb => by rw [q3 b hb, openB_s]⟩
theorem t_takeOpen (l : Launch) {g : zG} (hg : zAmOk g) {d : zD} {h : Hl} (w : Wf h) (H : HC 2 d h) (D : MD d h) : zC l g mX1_takeOpen 2 [zr g 32] d (fun r d' => r = none ∧ (zF [32, 33, 34] d d' ∧ OP d' h ∧ d' 32 7 = 0)) := by
  have w3 := w.2.2.1
  have hp2 := p64 w3
  have hp0 : 0 < 2 ^ hN h := Nat.two_pow_pos _
  refine zC_of (L := [(0, _)]) mk_X1_takeOpen (Nat.le_of_ble_eq_true rfl) hg rfl (fun x => ?_)
  refine z_aload_n 0 dX1_takeOpen_0 rfl rfl ?_
  refine z_getr fl_RX1_15 (by decide) rfl rfl dX1_takeOpen_1 ?_
  refine z_iconst dX1_takeOpen_4 ?_
  refine z_cs (t_fill_34 l hg d) mk_J7_fill_53178 ms_J7_fill_53178 ml_RX1_36 (by omega) rfl rfl (Nat.le_of_ble_eq_true rfl) dX1_takeOpen_5 (zvoid fun d_5 q_5 => ?_)
  obtain ⟨f1, f2⟩ := q_5
  have H1 : HC 2 d_5 h := f1.HC (by decide) H
  have D1 : MD d_5 h := D.of (f1 27 (by decide))
  have h3 : d_5 2 3 = hN h := H1.1.2.2.2.1
  refine z_aload_n 0 dX1_takeOpen_8 rfl rfl ?_
  refine z_getr fl_RX1_15 (by decide) rfl rfl dX1_takeOpen_9 ?_
  refine z_iconst dX1_takeOpen_12 ?_
  refine z_iconst dX1_takeOpen_13 ?_
  refine z_iast 0 (by decide) rfl rfl (by omega) (by decide) dX1_takeOpen_14 ?_
  refine z_iconst dX1_takeOpen_15 ?_
  refine z_aload_n 0 dX1_takeOpen_16 rfl rfl ?_
  refine z_getr fl_RX1_24 (by decide) rfl rfl dX1_takeOpen_17 ?_
  skip
  refine z_geti fl_RX1_42 (by decide) rfl rfl dX1_takeOpen_20 ?_
  rw [zu_ne (by decide), h3]
  refine z_ishl _ (zshl (s := 1) (m := hN h) (by omega) (by omega)) dX1_takeOpen_23 ?_
  rw [Nat.one_mul]
  refine z_istore_n (L' := [(0, _), (1, _)]) dX1_takeOpen_24 rfl (by decide) rfl rfl ?_
  refine z_iconst dX1_takeOpen_25 ?_
  refine z_istore_n (L' := [(0, _), (1, _), (2, _)]) dX1_takeOpen_26 rfl (by decide) rfl rfl ?_
  refine lp1_takeOpen (d0 := zu d_5 34 0 1) hg w (D1.of (zu_ne (by decide))) (fun d1 hf1 hM1 => ?_) (2 ^ hN h + 1) 0 _ zF.rf (fun j hj => ?_) (by omega) (by omega)
  · skip
    refine z_aload_n 0 dX1_takeOpen_66 rfl rfl ?_
    refine z_iconst dX1_takeOpen_67 ?_
    refine z_puti fp_RX1_53 (by decide) rfl rfl dX1_takeOpen_68 ?_
    refine z_iconst dX1_takeOpen_71 ?_
    refine z_istore_n (L' := [(0, _), (1, _), (2, _)]) dX1_takeOpen_72 rfl (by decide) rfl rfl ?_
    refine lp2_takeOpen (d0 := zu d1 32 4 0) hg w (hM1.of (zu_ne (by decide))) (by omega) (fun d2 hf2 ho2 => ?_) 257 0 _ zF.rf (by rw [zu_at]; rfl) (fun i f hi => by simp [opL] at hi) (by omega) (by omega)
    refine z_aload_n 0 dX1_takeOpen_134 rfl rfl ?_
    refine z_cv (t_forgetBeaten l hg d2) mk_X1_forgetBeaten mi_X1_forgetBeaten ml_RX1_60 (by omega) (by decide) rfl rfl rfl rfl (Nat.le_of_ble_eq_true rfl) dX1_takeOpen_135 (zvoid fun d_135 q_135 => ?_)
    subst q_135
    exact z_vret rfl dX1_takeOpen_138 (⟨rfl, fun p hp => by rw [zu_ne (fun z => hp (by simp_all)), hf2 p (fun z => hp (by simp_all)), zu_ne (fun z => hp (by simp_all)), hf1 p (fun z => hp (by simp_all)), zu_ne (fun z => hp (by simp_all)), f1 p (fun z => hp (by simp_all))], ⟨by rw [zu_row]; exact ho2.1, fun i f hi => by rw [zu_ne (by decide)]; exact ho2.2 i f hi⟩, zu_at _ _ _ _⟩)
  · rw [zu_row]
    by_cases e : j = 0
    · subst e
      rw [if_pos rfl]
      refine ⟨1, rfl, by decide, fun b hb => ?_⟩
      unfold openB
      show Nat.testBit (2 ^ 0) b = _
      rw [Nat.testBit_two_pow]
      simp [eq_comm]
    · rw [if_neg e, f2 j hj]
      refine ⟨0, rfl, by decide, fun b hb => ?_⟩
      unfold openB
      rw [Nat.zero_testBit, decide_eq_false (by omega)]
      rfl
theorem lp_indexOf {l : Launch} {x : zX} {g : zG} {n : Nat} {Q : Option Value → zD → Prop} {d : zD} {h : Hl} {a : Int} (hg : zAmOk g) (w : Wf h) (O : OP d h) (ha : zin a) (hQ : ∀ i : Nat, (openL h)[i]? = some a.toNat → 0 ≤ a → Q (some (zi (i : Int))) d) (hQ2 : (∀ f ∈ openL h, (f : Int) ≠ a) → Q (some (zi (-1))) d) : ∀ r k, (∀ i f : Nat, i < k → (openL h)[i]? = some f → (f : Int) ≠ a) → k ≤ (openL h).length → (openL h).length - k < r → zV l x g mX1_indexOf n Q 2 [(0, zr g 32), (1, zi a), (2, zi (k : Int))] [] d := by
  have hol := opL_len w 256
  have hol2 : (openL h).length ≤ 65 := hol
  intro r
  induction r with
  | zero => intro k hd hk hr; omega
  | succ r ih =>
    intro k hd hk hr
    refine z_iload_n 2 dX1_indexOf_2 rfl rfl ?_
    refine z_aload_n 0 dX1_indexOf_3 rfl rfl ?_
    refine z_geti fl_RX1_53 (by decide) rfl rfl dX1_indexOf_4 ?_
    rw [O.1]
    refine z_icmp_ge 28 (by omega) (by omega) dX1_indexOf_7 (by decide) (fun h_7 => ?_) (fun h_7 => ?_)
    · refine z_iconst dX1_indexOf_28 ?_
      exact z_iret rfl dX1_indexOf_29 (hQ2 (fun f hf => by obtain ⟨i, hi⟩ := List.getElem?_of_mem hf; have h2 := (List.getElem?_eq_some_iff.mp hi).1; exact hd i f (by omega) hi))
    · have hkl : k < (openL h).length := by omega
      obtain ⟨f, hf⟩ : ∃ f, (openL h)[k]? = some f := ⟨_, List.getElem?_eq_getElem hkl⟩
      have hfl := openL_lt (List.mem_of_getElem? hf)
      refine z_aload_n 0 dX1_indexOf_10 rfl rfl ?_
      refine z_getr fl_RX1_9 (by decide) rfl rfl dX1_indexOf_11 ?_
      refine z_iload_n 2 dX1_indexOf_14 rfl rfl ?_
      refine z_iald _ (by decide) rfl rfl (by omega) (by decide) dX1_indexOf_15 ?_
      rw [O.2 k f hf]
      refine z_iload_n 1 dX1_indexOf_16 rfl rfl ?_
      refine z_icmp_ne 22 (by omega) (by omega) dX1_indexOf_17 (by decide) (fun h_17 => ?_) (fun h_17 => ?_)
      · refine z_iinc 2 (L' := [(0, _), (1, _), (2, _)]) dX1_indexOf_22 (by decide) rfl rfl rfl ?_
        refine z_goto 2 dX1_indexOf_25 (by decide) ?_
        refine ih (k + 1) (fun i f' hi hf' => ?_) (by omega) (by omega)
        by_cases e : i = k
        · subst e; rw [hf] at hf'; cases hf'; exact h_17
        · exact hd i f' (by omega) hf'
      · refine z_iload_n 2 dX1_indexOf_20 rfl rfl ?_
        exact z_iret rfl dX1_indexOf_21 (hQ k (by rw [hf]; congr 1; omega) (by omega))
theorem t_indexOf (l : Launch) {g : zG} (hg : zAmOk g) {d : zD} {h : Hl} (w : Wf h) (O : OP d h) {a : Int} (ha : zin a) : zC l g mX1_indexOf 1 [zr g 32, zi a] d (fun r d' => ((∃ i : Nat, (openL h)[i]? = some a.toNat ∧ 0 ≤ a ∧ r = some (zi (i : Int))) ∨ ((∀ f ∈ openL h, (f : Int) ≠ a) ∧ r = some (zi (-1)))) ∧ d' = d) := by
  refine zC_of (L := [(0, _), (1, _)]) mk_X1_indexOf (Nat.le_of_ble_eq_true rfl) hg rfl (fun x => ?_)
  refine z_iconst dX1_indexOf_0 ?_
  refine z_istore_n (L' := [(0, _), (1, _), (2, _)]) dX1_indexOf_1 rfl (by decide) rfl rfl ?_
  exact lp_indexOf hg w O ha (fun i h1 h2 => ⟨Or.inl ⟨i, h1, h2, rfl⟩, rfl⟩) (fun h1 => ⟨Or.inr ⟨h1, rfl⟩, rfl⟩) ((openL h).length + 1) 0 (fun i f hi => absurd hi (by omega)) (by omega) (by omega)
