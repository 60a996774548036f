/-! votes: what comes in the end -/
def SB (s a : Nat) : Prop := ∀ i, s.testBit i = true → a.testBit i = true
theorem SB_and {s a : Nat} : SB s a ↔ s &&& a = s := by
  constructor
  · intro h
    apply Nat.eq_of_testBit_eq
    intro i
    rw [Nat.testBit_and]
    cases hs : s.testBit i
    · rfl
    · rw [h i hs]; rfl
  · intro h i hi
    rw [← h, Nat.testBit_and, Bool.and_eq_true] at hi
    exact hi.2
theorem SB_nd {s a : Nat} : SB s a ↔ nd s a = 0 := by
  constructor
  · intro h
    apply Nat.eq_of_testBit_eq
    intro i
    rw [nd_bit, Nat.zero_testBit]
    cases hs : s.testBit i
    · rfl
    · rw [h i hs]; rfl
  · intro h i hi
    have : (nd s a).testBit i = false := by rw [h, Nat.zero_testBit]
    rw [nd_bit, hi] at this
    simpa using this
theorem SB_le {s a : Nat} (h : SB s a) : s ≤ a := by rw [← SB_and.mp h]; exact Nat.and_le_right
theorem SB_zero (a : Nat) : SB 0 a := fun i hi => by rw [Nat.zero_testBit] at hi; cases hi
theorem SB_or {s a : Nat} (m : Nat) (h : SB s a) : SB (s ||| 2 ^ m) (a ||| 2 ^ m) := fun i hi => by
  rw [or_bit1] at hi ⊢
  rcases Bool.or_eq_true_iff.mp hi with hi | hi
  · rw [h i hi]; rfl
  · rw [hi, Bool.or_true]
theorem SB_up {s a : Nat} (m : Nat) (h : SB s a) : SB s (a ||| 2 ^ m) := fun i hi => by rw [or_bit1, h i hi]; rfl
/-- the set of the motions of a list -/
def mask : List Nat → Nat
  | [] => 0
  | m :: r => mask r ||| 2 ^ m
theorem mask_bit (i : Nat) : ∀ r, (mask r).testBit i = decide (i ∈ r)
  | [] => by simp [mask]
  | m :: r => by
    rw [mask, or_bit1, mask_bit i r]
    by_cases h1 : i ∈ r <;> by_cases h2 : m = i <;> simp_all [eq_comm]
theorem mask_app (m : Nat) (r : List Nat) : mask (r ++ [m]) = mask r ||| 2 ^ m := by
  apply Nat.eq_of_testBit_eq
  intro i
  rw [or_bit1, mask_bit, mask_bit]
  by_cases h1 : i ∈ r <;> by_cases h2 : m = i <;> simp_all [eq_comm]
theorem mask_lt {k : Nat} {r : List Nat} (h : ∀ m ∈ r, m < k) : mask r < 2 ^ k := lt_of_bits (fun i hi => by
  rw [mask_bit]
  exact decide_eq_false (fun z => by have := h i z; omega))
def passB (h : Hl) (s : Nat) : Bool := decide (quotaF h ≤ prefF h (formF h s) 0)
def carB (h : Hl) (y : Nat) : Bool := decide (hV h < 2 * y)
/-- does v vote yes on m, with t true, s adopted, eW and eO what comes then -/
def yesB (h : Hl) (t m s eW eO v : Nat) : Bool := if t.testBit v = true then prefB h v (formF h (s ||| 2 ^ m)) (formF h s) else prefB h v eW eO
def yesN (h : Hl) (t m s eW eO : Nat) : Nat → Nat
  | 0 => 0
  | v + 1 => yesN h t m s eW eO v + (if yesB h t m s eW eO v = true then 1 else 0)
def yesF (h : Hl) (t m s eW eO : Nat) : Nat := yesN h t m s eW eO (hV h)
def finF (h : Hl) (t : Nat) : List Nat → Nat → Nat
  | [], s => if passB h s = true then formF h s else 0
  | m :: r, s => if carB h (yesF h t m s (finF h t r (s ||| 2 ^ m)) (finF h t r s)) = true then finF h t r (s ||| 2 ^ m) else finF h t r s
theorem finF_lt {h : Hl} (w : Wf h) (t : Nat) : ∀ (r : List Nat) (s : Nat), finF h t r s < 256
  | [], s => by rw [finF]; split; exact formF_lt w s; omega
  | m :: r, s => by rw [finF]; split; exact finF_lt w t r _; exact finF_lt w t r _
theorem yesN_le (h : Hl) (t m s eW eO : Nat) : ∀ k, yesN h t m s eW eO k ≤ k
  | 0 => Nat.le_refl _
  | k + 1 => by have := yesN_le h t m s eW eO k; rw [yesN]; split <;> omega
theorem yesN_self {h : Hl} {t m s e : Nat} (hf : formF h (s ||| 2 ^ m) = formF h s) : ∀ k, yesN h t m s e e k = 0
  | 0 => rfl
  | k + 1 => by rw [yesN, yesN_self hf k]; simp [yesB, prefB, hf]
/-- the class's table of forms -/
def MD (d : zD) (h : Hl) : Prop := ∀ s, s < 2 ^ hN h → d 27 s = formF h s
theorem MD.of {d d' : zD} {h : Hl} (H : MD d h) (e : d' 27 = d 27) : MD d' h := fun s hs => by rw [e]; exact H s hs
theorem bit_le {m N : Nat} (hm : m < N) (hN : N ≤ 6) : 2 ^ m ≤ 32 := Nat.pow_le_pow_right (n := 2) (by decide) (show m ≤ 5 by omega)
theorem or_lt64 {s m N : Nat} (hs : s < 2 ^ N) (hm : m < N) : s ||| 2 ^ m < 2 ^ N := or_lt hs (Nat.pow_lt_pow_right (by decide) hm)
theorem p64 {N : Nat} (h : N ≤ 6) : 2 ^ N ≤ 64 := Nat.pow_le_pow_right (n := 2) (by decide) h
theorem t_carries (l : Launch) {g : zG} (hg : zAmOk g) {d : zD} {h : Hl} (w : Wf h) (H : HC 2 d h) {y : Nat} (hy : y ≤ 9) : zC l g mX6_carries 1 [zr g 26, zi (y : Int)] d (zpu (zi (zb (carB h y))) d) := by
  have w3 := w.2.2.2.1
  have h4 : d 2 4 = hV h := H.1.2.2.2.2.1
  refine zC_of (L := [(0, _), (1, _)]) mk_X6_carries (Nat.le_of_ble_eq_true rfl) hg rfl (fun x => ?_)
  refine z_iconst dX6_carries_0 ?_
  refine z_iload_n 1 dX6_carries_1 rfl rfl ?_
  refine z_imul dX6_carries_2 ?_
  refine z_aload_n 0 dX6_carries_3 rfl rfl ?_
  refine z_getr fl_RX6_24 (by decide) rfl rfl dX6_carries_4 ?_
  refine z_geti fl_RX6_84 (by decide) rfl rfl dX6_carries_7 ?_
  rw [h4]
  refine z_icmp_le 17 (by omega) (by omega) dX6_carries_10 (by decide) (fun h_10 => ?_) (fun h_10 => ?_)
  · refine z_iconst dX6_carries_17 ?_
    exact z_bret (b := false) rfl dX6_carries_18 (zret_b (decide_eq_false (by omega)).symm)
  · refine z_iconst dX6_carries_13 ?_
    refine z_goto 18 dX6_carries_14 (by decide) ?_
    exact z_bret (b := true) rfl dX6_carries_18 (zret_b (decide_eq_true (by omega)).symm)
theorem t_passes (l : Launch) {g : zG} (hg : zAmOk g) {d : zD} {h : Hl} (w : Wf h) (H : HC 2 d h) {y : Nat} (hy : y ≤ 9) : zC l g mX6_passes 2 [zr g 26, zi (y : Int)] d (zpu (zi (zb (decide (quotaF h ≤ y)))) d) := by
  have hq : quotaF h ≤ 9 := by have w3 := w.2.2.2.1; have w4 := w.2.1; unfold quotaF; split <;> omega
  refine zC_of (L := [(0, _), (1, _)]) mk_X6_passes (Nat.le_of_ble_eq_true rfl) hg rfl (fun x => ?_)
  refine z_iload_n 1 dX6_passes_0 rfl rfl ?_
  refine z_aload_n 0 dX6_passes_1 rfl rfl ?_
  refine z_getr fl_RX6_24 (by decide) rfl rfl dX6_passes_2 ?_
  refine z_cv (t_quotaInForce l hg w H) mk_X2_quotaInForce mi_X2_quotaInForce ml_RX6_97 (by omega) (by decide) rfl rfl rfl rfl (Nat.le_of_ble_eq_true rfl) dX6_passes_5 (zpure ?_)
  refine z_icmp_lt 15 (by omega) (by omega) dX6_passes_8 (by decide) (fun h_8 => ?_) (fun h_8 => ?_)
  · refine z_iconst dX6_passes_15 ?_
    exact z_bret (b := false) rfl dX6_passes_16 (zret_b (decide_eq_false (by omega)).symm)
  · refine z_iconst dX6_passes_11 ?_
    refine z_goto 16 dX6_passes_12 (by decide) ?_
    exact z_bret (b := true) rfl dX6_passes_16 (zret_b (decide_eq_true (by omega)).symm)
theorem t_yesOnPassage (l : Launch) {g : zG} (hg : zAmOk g) {d : zD} {h : Hl} (w : Wf h) (H : HC 2 d h) (K : LK d h) (D : MD d h) {s : Nat} (hs : s < 2 ^ hN h) : zC l g mX6_yesOnPassage 3 [zr g 26, zi (s : Int)] d (zpu (zi (prefF h (formF h s) 0 : Nat)) d) := by
  have hp := p64 w.2.2.1
  refine zC_of (L := [(0, _), (1, _)]) mk_X6_yesOnPassage (Nat.le_of_ble_eq_true rfl) hg rfl (fun x => ?_)
  refine z_aload_n 0 dX6_yesOnPassage_0 rfl rfl ?_
  refine z_getr fl_RX6_32 (by decide) rfl rfl dX6_yesOnPassage_1 ?_
  refine z_aload_n 0 dX6_yesOnPassage_4 rfl rfl ?_
  refine z_getr fl_RX6_9 (by decide) rfl rfl dX6_yesOnPassage_5 ?_
  refine z_iload_n 1 dX6_yesOnPassage_8 rfl rfl ?_
  refine z_iald _ (by decide) rfl rfl (by omega) (by decide) dX6_yesOnPassage_9 ?_
  rw [D s hs]
  refine z_iconst dX6_yesOnPassage_10 ?_
  refine z_cv (t_countPreferring l hg w H K (f := formF h s) (o := 0) (formF_lt w s) (by omega)) mk_X5_countPreferring mi_X5_countPreferring ml_RX6_93 (by omega) (by decide) rfl rfl rfl rfl (Nat.le_of_ble_eq_true rfl) dX6_yesOnPassage_11 (zpure ?_)
  exact z_iret rfl dX6_yesOnPassage_14 (⟨rfl, rfl⟩)
theorem lp_yesOnMotion {l : Launch} {x : zX} {g : zG} {n : Nat} {Q : Option Value → zD → Prop} {d : zD} {h : Hl} {t m s eW eO p : Nat} {a4 a5 : Int} (hg : zAmOk g) (w : Wf h) (H : HC 2 d h) (K : LK d h) (hT : d 26 8 = t) (ht : t < 512) (hW : eW < 256) (hO : eO < 256) (hn : 1 < n) (hQ : Q (some (zi (yesF h t m s eW eO : Nat))) d) : ∀ r k, k ≤ hV h → hV h - k < r → zV l x g mX6_yesOnMotion n Q 77 [(0, zr g 26), (1, zi (p : Int)), (2, zi (m : Int)), (3, zi (s : Int)), (4, zi a4), (5, zi a5), (6, zi (formF h (s ||| 2 ^ m) : Nat)), (7, zi (formF h s : Nat)), (8, zi (eW : Int)), (9, zi (eO : Int)), (10, zi (yesN h t m s eW eO k : Nat)), (11, zi (k : Int))] [] d := by
  have w3 := w.2.2.2.1
  have h4 : d 2 4 = hV h := H.1.2.2.2.2.1
  have f1 := formF_lt w (s ||| 2 ^ m)
  have f2 := formF_lt w s
  intro r
  induction r with
  | zero => intro k hk hr; omega
  | succ r ih =>
    intro k hk hr
    refine z_iload 11 dX6_yesOnMotion_77 rfl ?_
    refine z_aload_n 0 dX6_yesOnMotion_79 rfl rfl ?_
    refine z_getr fl_RX6_24 (by decide) rfl rfl dX6_yesOnMotion_80 ?_
    refine z_geti fl_RX6_84 (by decide) rfl rfl dX6_yesOnMotion_83 ?_
    rw [h4]
    refine z_icmp_ge 146 (by omega) (by omega) dX6_yesOnMotion_86 (by decide) (fun h_86 => ?_) (fun h_86 => ?_)
    · rw [show yesN h t m s eW eO k = yesF h t m s eW eO by rw [yesF, show k = hV h by omega]]
      refine z_iload 10 dX6_yesOnMotion_146 rfl ?_
      exact z_iret rfl dX6_yesOnMotion_148 (hQ)
    · refine z_iload 11 dX6_yesOnMotion_89 rfl ?_
      refine z_aload_n 0 dX6_yesOnMotion_91 rfl rfl ?_
      refine z_geti fl_RX6_62 (by decide) rfl rfl dX6_yesOnMotion_92 ?_
      rw [hT]
      refine z_cs (t_isIn l hg d (m := k) (s := t) (by omega) (by omega)) mk_X7_isIn ms_X7_isIn ml_RX6_51 (by omega) rfl rfl (Nat.le_of_ble_eq_true rfl) dX6_yesOnMotion_95 (zpure ?_)
      refine z_if_eq_b 117 dX6_yesOnMotion_98 (by decide) (fun h_98 => ?_) (fun h_98 => ?_)
      · refine z_aload_n 0 dX6_yesOnMotion_117 rfl rfl ?_
        refine z_getr fl_RX6_32 (by decide) rfl rfl dX6_yesOnMotion_118 ?_
        refine z_iload 11 dX6_yesOnMotion_121 rfl ?_
        refine z_iload 8 dX6_yesOnMotion_123 rfl ?_
        refine z_iload 9 dX6_yesOnMotion_125 rfl ?_
        refine z_cv (t_isPreferred l hg w K (v := k) (f := eW) (o := eO) (by omega) hW hO) mk_X5_isPreferred mi_X5_isPreferred ml_RX6_87 (by omega) (by decide) rfl rfl rfl rfl (Nat.le_of_ble_eq_true rfl) dX6_yesOnMotion_127 (zpure ?_)
        refine z_istore (L' := [(0, _), (1, _), (2, _), (3, _), (4, _), (5, _), (6, _), (7, _), (8, _), (9, _), (10, _), (11, _), (12, _)]) dX6_yesOnMotion_130 (by decide) rfl rfl ?_
        refine z_iload 12 dX6_yesOnMotion_132 rfl ?_
        refine z_if_eq_b 140 dX6_yesOnMotion_134 (by decide) (fun h_134 => ?_) (fun h_134 => ?_)
        · refine z_iinc 11 (L' := [(0, _), (1, _), (2, _), (3, _), (4, _), (5, _), (6, _), (7, _), (8, _), (9, _), (10, _), (11, _), (12, _)]) dX6_yesOnMotion_140 (by decide) rfl rfl rfl ?_
          refine z_goto 77 dX6_yesOnMotion_143 (by decide) ?_
          refine z_sub (L' := [(0, _), (1, _), (2, _), (3, _), (4, _), (5, _), (6, _), (7, _), (8, _), (9, _), (10, _), (11, _)]) [0, 1, 2, 3, 4, 5, 6, 7, 8, 9, 10, 11] rfl ?_
          refine z_LL _ ?_ (ih (k + 1) (by omega) (by omega))
          rw [yesN]
          first | (rw [if_neg (by simp only [yesB, h_98]; simp_all)]; rfl) | (rw [if_pos (by simp only [yesB, h_98]; simp_all)]; rfl)
        · refine z_iinc 10 (L' := [(0, _), (1, _), (2, _), (3, _), (4, _), (5, _), (6, _), (7, _), (8, _), (9, _), (10, _), (11, _), (12, _)]) dX6_yesOnMotion_137 (by decide) rfl rfl rfl ?_
          refine z_iinc 11 (L' := [(0, _), (1, _), (2, _), (3, _), (4, _), (5, _), (6, _), (7, _), (8, _), (9, _), (10, _), (11, _), (12, _)]) dX6_yesOnMotion_140 (by decide) rfl rfl rfl ?_
          refine z_goto 77 dX6_yesOnMotion_143 (by decide) ?_
          refine z_sub (L' := [(0, _), (1, _), (2, _), (3, _), (4, _), (5, _), (6, _), (7, _), (8, _), (9, _), (10, _), (11, _)]) [0, 1, 2, 3, 4, 5, 6, 7, 8, 9, 10, 11] rfl ?_
          refine z_LL _ ?_ (ih (k + 1) (by omega) (by omega))
          rw [yesN]
          first | (rw [if_neg (by simp only [yesB, h_98]; simp_all)]; rfl) | (rw [if_pos (by simp only [yesB, h_98]; simp_all)]; rfl)
      · refine z_aload_n 0 dX6_yesOnMotion_101 rfl rfl ?_
        refine z_getr fl_RX6_32 (by decide) rfl rfl dX6_yesOnMotion_102 ?_
        refine z_iload 11 dX6_yesOnMotion_105 rfl ?_
        refine z_iload 6 dX6_yesOnMotion_107 rfl ?_
        refine z_iload 7 dX6_yesOnMotion_109 rfl ?_
        refine z_cv (t_isPreferred l hg w K (v := k) (f := formF h (s ||| 2 ^ m)) (o := formF h s) (by omega) f1 f2) mk_X5_isPreferred mi_X5_isPreferred ml_RX6_87 (by omega) (by decide) rfl rfl rfl rfl (Nat.le_of_ble_eq_true rfl) dX6_yesOnMotion_111 (zpure ?_)
        refine z_goto 130 dX6_yesOnMotion_114 (by decide) ?_
        refine z_istore (L' := [(0, _), (1, _), (2, _), (3, _), (4, _), (5, _), (6, _), (7, _), (8, _), (9, _), (10, _), (11, _), (12, _)]) dX6_yesOnMotion_130 (by decide) rfl rfl ?_
        refine z_iload 12 dX6_yesOnMotion_132 rfl ?_
        refine z_if_eq_b 140 dX6_yesOnMotion_134 (by decide) (fun h_134 => ?_) (fun h_134 => ?_)
        · refine z_iinc 11 (L' := [(0, _), (1, _), (2, _), (3, _), (4, _), (5, _), (6, _), (7, _), (8, _), (9, _), (10, _), (11, _), (12, _)]) dX6_yesOnMotion_140 (by decide) rfl rfl rfl ?_
          refine z_goto 77 dX6_yesOnMotion_143 (by decide) ?_
          refine z_sub (L' := [(0, _), (1, _), (2, _), (3, _), (4, _), (5, _), (6, _), (7, _), (8, _), (9, _), (10, _), (11, _)]) [0, 1, 2, 3, 4, 5, 6, 7, 8, 9, 10, 11] rfl ?_
          refine z_LL _ ?_ (ih (k + 1) (by omega) (by omega))
          rw [yesN]
          first | (rw [if_neg (by simp only [yesB, h_98]; simp_all)]; rfl) | (rw [if_pos (by simp only [yesB, h_98]; simp_all)]; rfl)
        · refine z_iinc 10 (L' := [(0, _), (1, _), (2, _), (3, _), (4, _), (5, _), (6, _), (7, _), (8, _), (9, _), (10, _), (11, _), (12, _)]) dX6_yesOnMotion_137 (by decide) rfl rfl rfl ?_
          refine z_iinc 11 (L' := [(0, _), (1, _), (2, _), (3, _), (4, _), (5, _), (6, _), (7, _), (8, _), (9, _), (10, _), (11, _), (12, _)]) dX6_yesOnMotion_140 (by decide) rfl rfl rfl ?_
          refine z_goto 77 dX6_yesOnMotion_143 (by decide) ?_
          refine z_sub (L' := [(0, _), (1, _), (2, _), (3, _), (4, _), (5, _), (6, _), (7, _), (8, _), (9, _), (10, _), (11, _)]) [0, 1, 2, 3, 4, 5, 6, 7, 8, 9, 10, 11] rfl ?_
          refine z_LL _ ?_ (ih (k + 1) (by omega) (by omega))
          rw [yesN]
          first | (rw [if_neg (by simp only [yesB, h_98]; simp_all)]; rfl) | (rw [if_pos (by simp only [yesB, h_98]; simp_all)]; rfl)
theorem t_yesOnMotion (l : Launch) {g : zG} (hg : zAmOk g) {d : zD} {h : Hl} (w : Wf h) (H : HC 2 d h) (K : LK d h) (D : MD d h) {t m s eW eO p : Nat} (hT : d 26 8 = t) (ht : t < 512) (hm : m < hN h) (hs : s < 2 ^ hN h) (hp : p < 6) (hW : d 28 (64 * (p + 1) + (s ||| 2 ^ m)) = eW) (hW2 : eW < 256) (hO : d 28 (64 * (p + 1) + s) = eO) (hO2 : eO < 256) : zC l g mX6_yesOnMotion 2 [zr g 26, zi (p : Int), zi (m : Int), zi (s : Int)] d (zpu (zi (yesF h t m s eW eO : Nat)) d) := by
  have w3 := w.2.2.1
  have hp2 := p64 w3
  have hb := bit_le hm w3
  have hor := or_lt64 hs hm
  have f1 := formF_lt w (s ||| 2 ^ m)
  have f2 := formF_lt w s
  refine zC_of (L := [(0, _), (1, _), (2, _), (3, _)]) mk_X6_yesOnMotion (Nat.le_of_ble_eq_true rfl) hg rfl (fun x => ?_)
  refine z_iload_n 3 dX6_yesOnMotion_0 rfl rfl ?_
  refine z_iconst dX6_yesOnMotion_1 ?_
  refine z_iload_n 2 dX6_yesOnMotion_2 rfl rfl ?_
  refine z_ishl _ (zshl (s := 1) (m := m) (by omega) (by omega)) dX6_yesOnMotion_3 ?_
  rw [Nat.one_mul]
  refine z_ior _ (zor _ _) dX6_yesOnMotion_4 ?_
  refine z_istore (L' := [(0, _), (1, _), (2, _), (3, _), (4, _)]) dX6_yesOnMotion_5 (by decide) rfl rfl ?_
  refine z_iload_n 1 dX6_yesOnMotion_7 rfl rfl ?_
  refine z_iconst dX6_yesOnMotion_8 ?_
  refine z_iadd dX6_yesOnMotion_9 ?_
  refine z_bipush dX6_yesOnMotion_10 (by decide) ?_
  refine z_imul dX6_yesOnMotion_12 ?_
  refine z_istore (L' := [(0, _), (1, _), (2, _), (3, _), (4, _), (5, _)]) dX6_yesOnMotion_13 (by decide) rfl rfl ?_
  refine z_aload_n 0 dX6_yesOnMotion_15 rfl rfl ?_
  refine z_getr fl_RX6_9 (by decide) rfl rfl dX6_yesOnMotion_16 ?_
  refine z_iload 4 dX6_yesOnMotion_19 rfl ?_
  refine z_iald _ (by decide) rfl rfl (by omega) (by decide) dX6_yesOnMotion_21 ?_
  rw [D _ hor]
  refine z_istore (L' := [(0, _), (1, _), (2, _), (3, _), (4, _), (5, _), (6, _)]) dX6_yesOnMotion_22 (by decide) rfl rfl ?_
  refine z_aload_n 0 dX6_yesOnMotion_24 rfl rfl ?_
  refine z_getr fl_RX6_9 (by decide) rfl rfl dX6_yesOnMotion_25 ?_
  refine z_iload_n 3 dX6_yesOnMotion_28 rfl rfl ?_
  refine z_iald _ (by decide) rfl rfl (by omega) (by decide) dX6_yesOnMotion_29 ?_
  rw [D _ hs]
  refine z_istore (L' := [(0, _), (1, _), (2, _), (3, _), (4, _), (5, _), (6, _), (7, _)]) dX6_yesOnMotion_30 (by decide) rfl rfl ?_
  refine z_aload_n 0 dX6_yesOnMotion_32 rfl rfl ?_
  refine z_getr fl_RX6_15 (by decide) rfl rfl dX6_yesOnMotion_33 ?_
  refine z_iload 5 dX6_yesOnMotion_36 rfl ?_
  refine z_iload 4 dX6_yesOnMotion_38 rfl ?_
  refine z_iadd dX6_yesOnMotion_40 ?_
  refine z_iald (64 * (p + 1) + (s ||| 2 ^ m)) (by decide) rfl (by omega) (by omega) (by decide) dX6_yesOnMotion_41 ?_
  rw [hW]
  refine z_istore (L' := [(0, _), (1, _), (2, _), (3, _), (4, _), (5, _), (6, _), (7, _), (8, _)]) dX6_yesOnMotion_42 (by decide) rfl rfl ?_
  refine z_aload_n 0 dX6_yesOnMotion_44 rfl rfl ?_
  refine z_getr fl_RX6_15 (by decide) rfl rfl dX6_yesOnMotion_45 ?_
  refine z_iload 5 dX6_yesOnMotion_48 rfl ?_
  refine z_iload_n 3 dX6_yesOnMotion_50 rfl rfl ?_
  refine z_iadd dX6_yesOnMotion_51 ?_
  refine z_iald (64 * (p + 1) + s) (by decide) rfl (by omega) (by omega) (by decide) dX6_yesOnMotion_52 ?_
  rw [hO]
  refine z_istore (L' := [(0, _), (1, _), (2, _), (3, _), (4, _), (5, _), (6, _), (7, _), (8, _), (9, _)]) dX6_yesOnMotion_53 (by decide) rfl rfl ?_
  refine z_iload 6 dX6_yesOnMotion_55 rfl ?_
  refine z_iload 7 dX6_yesOnMotion_57 rfl ?_
  refine z_icmp_ne 71 (by omega) (by omega) dX6_yesOnMotion_59 (by decide) (fun h_59 => ?_) (fun h_59 => ?_)
  · refine z_iconst dX6_yesOnMotion_71 ?_
    refine z_istore (L' := [(0, _), (1, _), (2, _), (3, _), (4, _), (5, _), (6, _), (7, _), (8, _), (9, _), (10, _)]) dX6_yesOnMotion_72 (by decide) rfl rfl ?_
    refine z_iconst dX6_yesOnMotion_74 ?_
    refine z_istore (L' := [(0, _), (1, _), (2, _), (3, _), (4, _), (5, _), (6, _), (7, _), (8, _), (9, _), (10, _), (11, _)]) dX6_yesOnMotion_75 (by decide) rfl rfl ?_
    exact lp_yesOnMotion hg w H K hT ht hW2 hO2 (by omega) ⟨rfl, rfl⟩ (hV h + 1) 0 (by omega) (by omega)
  · refine z_iload 8 dX6_yesOnMotion_62 rfl ?_
    refine z_iload 9 dX6_yesOnMotion_64 rfl ?_
    refine z_icmp_ne 71 (by omega) (by omega) dX6_yesOnMotion_66 (by decide) (fun h_66 => ?_) (fun h_66 => ?_)
    · refine z_iconst dX6_yesOnMotion_71 ?_
      refine z_istore (L' := [(0, _), (1, _), (2, _), (3, _), (4, _), (5, _), (6, _), (7, _), (8, _), (9, _), (10, _)]) dX6_yesOnMotion_72 (by decide) rfl rfl ?_
      refine z_iconst dX6_yesOnMotion_74 ?_
      refine z_istore (L' := [(0, _), (1, _), (2, _), (3, _), (4, _), (5, _), (6, _), (7, _), (8, _), (9, _), (10, _), (11, _)]) dX6_yesOnMotion_75 (by decide) rfl rfl ?_
      exact lp_yesOnMotion hg w H K hT ht hW2 hO2 (by omega) ⟨rfl, rfl⟩ (hV h + 1) 0 (by omega) (by omega)
    · refine z_iconst dX6_yesOnMotion_69 ?_
      exact z_iret rfl dX6_yesOnMotion_70 (zret_i (by have e1 : formF h (s ||| 2 ^ m) = formF h s := (by omega); have e2 : eW = eO := (by omega); rw [e2, yesF, yesN_self e1]; rfl))
