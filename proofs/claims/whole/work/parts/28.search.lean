/-! the search for the best order -/
/-- one order judged: (best form, how many, key) -/
def jud (h : Hl) (v : Nat) (B : Nat × Nat × Nat) (o : Nat × Nat) : Nat × Nat × Nat :=
  if B.2.1 = 0 ∨ likeF h v B.1 < likeF h v o.1 then (o.1, 1, o.2)
  else if likeF h v o.1 < likeF h v B.1 then B
  else if o.2 < B.2.2 then (o.1, B.2.1 + 1, o.2) else (B.1, B.2.1 + 1, B.2.2)
theorem jud_new {h : Hl} {v f k : Nat} {B : Nat × Nat × Nat} (c : B.2.1 = 0 ∨ likeF h v B.1 < likeF h v f) : jud h v B (f, k) = (f, 1, k) := if_pos c
theorem jud_low {h : Hl} {v f k : Nat} {B : Nat × Nat × Nat} (c : ¬ B.2.1 = 0) (c2 : likeF h v f < likeF h v B.1) : jud h v B (f, k) = B := by
  unfold jud
  rw [if_neg (show ¬ (B.2.1 = 0 ∨ likeF h v B.1 < likeF h v f) by omega), if_pos c2]
theorem jud_lt {h : Hl} {v f k : Nat} {B : Nat × Nat × Nat} (c : ¬ B.2.1 = 0) (c2 : likeF h v f = likeF h v B.1) (c3 : k < B.2.2) : jud h v B (f, k) = (f, B.2.1 + 1, k) := by
  unfold jud
  rw [if_neg (show ¬ (B.2.1 = 0 ∨ likeF h v B.1 < likeF h v f) by omega), if_neg (show ¬ likeF h v f < likeF h v B.1 by omega), if_pos c3]
theorem jud_ge {h : Hl} {v f k : Nat} {B : Nat × Nat × Nat} (c : ¬ B.2.1 = 0) (c2 : likeF h v f = likeF h v B.1) (c3 : ¬ k < B.2.2) : jud h v B (f, k) = (B.1, B.2.1 + 1, B.2.2) := by
  unfold jud
  rw [if_neg (show ¬ (B.2.1 = 0 ∨ likeF h v B.1 < likeF h v f) by omega), if_neg (show ¬ likeF h v f < likeF h v B.1 by omega), if_neg c3]
def kyN : List Nat → Nat → Nat
  | [], _ => 0
  | m :: r, i => kyN r (i + 1) ||| m * 2 ^ (4 * (5 - i))
theorem key_lt {m : Nat} (hm : m < 16) (i : Nat) : m * 2 ^ (4 * (5 - i)) < 2 ^ 24 := by
  have h1 : 2 ^ (4 * (5 - i)) ≤ 2 ^ 20 := Nat.pow_le_pow_right (by decide) (by omega)
  have h2 : m * 2 ^ (4 * (5 - i)) ≤ 15 * 2 ^ 20 := Nat.mul_le_mul (by omega) h1
  omega
theorem kyN_lt : ∀ (r : List Nat) (i : Nat), (∀ m ∈ r, m < 16) → kyN r i < 2 ^ 24
  | [], _, _ => Nat.two_pow_pos _
  | m :: r, i, h => or_lt (kyN_lt r (i + 1) (fun x hx => h x (List.mem_cons_of_mem _ hx))) (key_lt (h m List.mem_cons_self) i)
/-- the class's search holds a triple, for the mover v -/
def SC (d : zD) (v : Nat) (B : Nat × Nat × Nat) : Prop := d 31 4 = v ∧ d 31 5 = B.1 ∧ d 31 6 = B.2.1 ∧ d 31 7 = B.2.2
def BOk (B : Nat × Nat × Nat) (c : Nat) : Prop := B.1 < 256 ∧ B.2.1 ≤ c ∧ B.2.2 < 2 ^ 24
theorem jud_ok {h : Hl} {v : Nat} {B : Nat × Nat × Nat} {c : Nat} {o : Nat × Nat} (hB : BOk B c) (ho : o.1 < 256) (hk : o.2 < 2 ^ 24) : BOk (jud h v B o) (c + 1) := by
  obtain ⟨h1, h2, h3⟩ := hB
  unfold jud
  split
  · exact ⟨ho, by simp, hk⟩
  · split
    · exact ⟨h1, by omega, h3⟩
    · split
      · exact ⟨ho, by simp; omega, hk⟩
      · exact ⟨h1, by simp; omega, h3⟩
theorem t_shiftOf (l : Launch) {g : zG} (hg : zAmOk g) (d : zD) {p : Nat} (hp : p ≤ 5) : zC l g mX4_shiftOf 1 [zi (p : Int)] d (zpu (zi ((4 * (5 - p) : Nat) : Int)) d) := by
  refine zC_of (L := [(0, _)]) mk_X4_shiftOf (Nat.le_of_ble_eq_true rfl) hg rfl (fun x => ?_)
  refine z_iconst dX4_shiftOf_0 ?_
  refine z_iconst dX4_shiftOf_1 ?_
  refine z_iload_n 0 dX4_shiftOf_2 rfl rfl ?_
  refine z_isub dX4_shiftOf_3 ?_
  refine z_imul dX4_shiftOf_4 ?_
  exact z_iret rfl dX4_shiftOf_5 (zret_i (by omega))
theorem t_judge (l : Launch) {g : zG} (hg : zAmOk g) {d : zD} {h : Hl} (w : Wf h) (K : LK d h) {v f key c : Nat} {B : Nat × Nat × Nat} (hv : v < hV h) (S : SC d v B) (hB : BOk B c) (hc : c < 1000000) (hf : f < 256) (hk : key < 2 ^ 24) : zC l g mX4_judge 2 [zr g 31, zi (f : Int), zi (key : Int)] d (fun r d' => r = none ∧ (zF [31] d d' ∧ SC d' v (jud h v B (f, key)))) := by
  obtain ⟨s1, s2, s3, s4⟩ := S
  obtain ⟨b1, b2, b3⟩ := hB
  have l1 := like_b w f hv
  have l2 := like_b w B.1 hv
  refine zC_of (L := [(0, _), (1, _), (2, _)]) mk_X4_judge (Nat.le_of_ble_eq_true rfl) hg rfl (fun x => ?_)
  refine z_aload_n 0 dX4_judge_0 rfl rfl ?_
  refine z_getr fl_RX4_15 (by decide) rfl rfl dX4_judge_1 ?_
  refine z_aload_n 0 dX4_judge_4 rfl rfl ?_
  refine z_geti fl_RX4_30 (by decide) rfl rfl dX4_judge_5 ?_
  rw [s1]
  refine z_iload_n 1 dX4_judge_8 rfl rfl ?_
  refine z_cv (t_likingOf l hg w K hv hf) mk_X5_likingOf mi_X5_likingOf ml_RX4_76 (by omega) (by decide) rfl rfl rfl rfl (Nat.le_of_ble_eq_true rfl) dX4_judge_9 (zpure ?_)
  refine z_aload_n 0 dX4_judge_12 rfl rfl ?_
  refine z_getr fl_RX4_15 (by decide) rfl rfl dX4_judge_13 ?_
  refine z_aload_n 0 dX4_judge_16 rfl rfl ?_
  refine z_geti fl_RX4_30 (by decide) rfl rfl dX4_judge_17 ?_
  rw [s1]
  refine z_aload_n 0 dX4_judge_20 rfl rfl ?_
  refine z_geti fl_RX4_34 (by decide) rfl rfl dX4_judge_21 ?_
  rw [s2]
  refine z_cv (t_likingOf l hg w K hv b1) mk_X5_likingOf mi_X5_likingOf ml_RX4_76 (by omega) (by decide) rfl rfl rfl rfl (Nat.le_of_ble_eq_true rfl) dX4_judge_24 (zpure ?_)
  refine z_isub dX4_judge_27 ?_
  refine z_istore_n (L' := [(0, _), (1, _), (2, _), (3, _)]) dX4_judge_28 rfl (by decide) rfl rfl ?_
  refine z_aload_n 0 dX4_judge_29 rfl rfl ?_
  refine z_geti fl_RX4_37 (by decide) rfl rfl dX4_judge_30 ?_
  rw [s3]
  refine z_if_eq 40 (by omega) dX4_judge_33 (by decide) (fun h_33 => ?_) (fun h_33 => ?_)
  · refine z_aload_n 0 dX4_judge_40 rfl rfl ?_
    refine z_iconst dX4_judge_41 ?_
    refine z_puti fp_RX4_37 (by decide) rfl rfl dX4_judge_42 ?_
    refine z_goto 53 dX4_judge_45 (by decide) ?_
    refine z_aload_n 0 dX4_judge_53 rfl rfl ?_
    refine z_geti fl_RX4_37 (by decide) rfl rfl dX4_judge_54 ?_
    rw [zu_at]
    refine z_if_eq 68 (by omega) dX4_judge_57 (by decide) (fun h_57 => ?_) (fun h_57 => absurd rfl h_57)
    refine z_aload_n 0 dX4_judge_68 rfl rfl ?_
    refine z_iload_n 1 dX4_judge_69 rfl rfl ?_
    refine z_puti fp_RX4_34 (by decide) rfl rfl dX4_judge_70 ?_
    refine z_aload_n 0 dX4_judge_73 rfl rfl ?_
    refine z_iload_n 2 dX4_judge_74 rfl rfl ?_
    refine z_puti fp_RX4_40 (by decide) rfl rfl dX4_judge_75 ?_
    refine z_aload_n 0 dX4_judge_78 rfl rfl ?_
    refine z_dup dX4_judge_79 rfl ?_
    refine z_geti fl_RX4_37 (by decide) rfl rfl dX4_judge_80 ?_
    refine z_iconst dX4_judge_83 ?_
    refine z_iadd dX4_judge_84 ?_
    refine z_puti fp_RX4_37 (by decide) rfl rfl dX4_judge_85 ?_
    exact z_vret rfl dX4_judge_88 (⟨rfl, (((zF.rf.up (by decide)).up (by decide)).up (by decide)).up (by decide), by rw [jud_new (by omega)]; refine ⟨?_, ?_, ?_, ?_⟩ <;> simp [zu, s1]⟩)
  · refine z_iload_n 3 dX4_judge_36 rfl rfl ?_
    refine z_if_le 48 (by omega) dX4_judge_37 (by decide) (fun h_37 => ?_) (fun h_37 => ?_)
    · refine z_iload_n 3 dX4_judge_48 rfl rfl ?_
      refine z_if_ge 53 (by omega) dX4_judge_49 (by decide) (fun h_49 => ?_) (fun h_49 => ?_)
      · refine z_aload_n 0 dX4_judge_53 rfl rfl ?_
        refine z_geti fl_RX4_37 (by decide) rfl rfl dX4_judge_54 ?_
        rw [s3]
        refine z_if_eq 68 (by omega) dX4_judge_57 (by decide) (fun h_57 => absurd h_57 (by omega)) (fun h_57 => ?_)
        refine z_iload_n 2 dX4_judge_60 rfl rfl ?_
        refine z_aload_n 0 dX4_judge_61 rfl rfl ?_
        refine z_geti fl_RX4_40 (by decide) rfl rfl dX4_judge_62 ?_
        rw [s4]
        refine z_icmp_ge 78 (by omega) (by omega) dX4_judge_65 (by decide) (fun h_65 => ?_) (fun h_65 => ?_)
        · refine z_aload_n 0 dX4_judge_78 rfl rfl ?_
          refine z_dup dX4_judge_79 rfl ?_
          refine z_geti fl_RX4_37 (by decide) rfl rfl dX4_judge_80 ?_
          refine z_iconst dX4_judge_83 ?_
          refine z_iadd dX4_judge_84 ?_
          refine z_puti fp_RX4_37 (by decide) rfl rfl dX4_judge_85 ?_
          exact z_vret rfl dX4_judge_88 (⟨rfl, zF.rf.up (by decide), by rw [jud_ge (by omega) (by omega) (by omega)]; refine ⟨?_, ?_, ?_, ?_⟩ <;> simp [zu, s1, s2, s3, s4]⟩)
        · refine z_aload_n 0 dX4_judge_68 rfl rfl ?_
          refine z_iload_n 1 dX4_judge_69 rfl rfl ?_
          refine z_puti fp_RX4_34 (by decide) rfl rfl dX4_judge_70 ?_
          refine z_aload_n 0 dX4_judge_73 rfl rfl ?_
          refine z_iload_n 2 dX4_judge_74 rfl rfl ?_
          refine z_puti fp_RX4_40 (by decide) rfl rfl dX4_judge_75 ?_
          refine z_aload_n 0 dX4_judge_78 rfl rfl ?_
          refine z_dup dX4_judge_79 rfl ?_
          refine z_geti fl_RX4_37 (by decide) rfl rfl dX4_judge_80 ?_
          refine z_iconst dX4_judge_83 ?_
          refine z_iadd dX4_judge_84 ?_
          refine z_puti fp_RX4_37 (by decide) rfl rfl dX4_judge_85 ?_
          exact z_vret rfl dX4_judge_88 (⟨rfl, (((zF.rf.up (by decide)).up (by decide)).up (by decide)), by rw [jud_lt (by omega) (by omega) (by omega)]; refine ⟨?_, ?_, ?_, ?_⟩ <;> simp [zu, s1, s3]⟩)
      · exact z_vret rfl dX4_judge_52 (⟨rfl, zF.rf, by rw [jud_low (by omega) (by omega)]; exact ⟨s1, s2, s3, s4⟩⟩)
    · refine z_aload_n 0 dX4_judge_40 rfl rfl ?_
      refine z_iconst dX4_judge_41 ?_
      refine z_puti fp_RX4_37 (by decide) rfl rfl dX4_judge_42 ?_
      refine z_goto 53 dX4_judge_45 (by decide) ?_
      refine z_aload_n 0 dX4_judge_53 rfl rfl ?_
      refine z_geti fl_RX4_37 (by decide) rfl rfl dX4_judge_54 ?_
      rw [zu_at]
      refine z_if_eq 68 (by omega) dX4_judge_57 (by decide) (fun h_57 => ?_) (fun h_57 => absurd rfl h_57)
      refine z_aload_n 0 dX4_judge_68 rfl rfl ?_
      refine z_iload_n 1 dX4_judge_69 rfl rfl ?_
      refine z_puti fp_RX4_34 (by decide) rfl rfl dX4_judge_70 ?_
      refine z_aload_n 0 dX4_judge_73 rfl rfl ?_
      refine z_iload_n 2 dX4_judge_74 rfl rfl ?_
      refine z_puti fp_RX4_40 (by decide) rfl rfl dX4_judge_75 ?_
      refine z_aload_n 0 dX4_judge_78 rfl rfl ?_
      refine z_dup dX4_judge_79 rfl ?_
      refine z_geti fl_RX4_37 (by decide) rfl rfl dX4_judge_80 ?_
      refine z_iconst dX4_judge_83 ?_
      refine z_iadd dX4_judge_84 ?_
      refine z_puti fp_RX4_37 (by decide) rfl rfl dX4_judge_85 ?_
      exact z_vret rfl dX4_judge_88 (⟨rfl, (((zF.rf.up (by decide)).up (by decide)).up (by decide)).up (by decide), by rw [jud_new (by omega)]; refine ⟨?_, ?_, ?_, ?_⟩ <;> simp [zu, s1]⟩)
/-- what an order leads to, and its key, behind a suffix -/
def outK (h : Hl) (t : Nat) (suf r : List Nat) : Nat × Nat := (finF h t (r ++ suf) 0, kyN (r ++ suf) 0)
def fol (h : Hl) (v t : Nat) (suf : List Nat) (B : Nat × Nat × Nat) (rs : List (List Nat)) : Nat × Nat × Nat := rs.foldl (fun B r => jud h v B (outK h t suf r)) B
theorem fol_app (h : Hl) (v t : Nat) (suf : List Nat) (B : Nat × Nat × Nat) (a b : List (List Nat)) : fol h v t suf B (a ++ b) = fol h v t suf (fol h v t suf B a) b := List.foldl_append
theorem fol_map (h : Hl) (v t m : Nat) (suf : List Nat) : ∀ (rs : List (List Nat)) (B : Nat × Nat × Nat), fol h v t suf B (rs.map (fun r => r ++ [m])) = fol h v t (m :: suf) B rs
  | [], B => rfl
  | r :: rs, B => by
    show fol h v t suf (jud h v B (outK h t suf (r ++ [m]))) (rs.map (fun r => r ++ [m])) = fol h v t (m :: suf) (jud h v B (outK h t (m :: suf) r)) rs
    rw [fol_map h v t m suf rs]
    have e : outK h t suf (r ++ [m]) = outK h t (m :: suf) r := by unfold outK; rw [List.append_assoc]; rfl
    rw [e]
theorem dfs_lt {h : Hl} : ∀ (n s : Nat) (r : List Nat), r ∈ dfs h n s → ∀ m ∈ r, m < hN h
  | 0, s, r, hr, m, hm => by
    rw [dfs, List.mem_singleton] at hr
    subst hr; cases hm
  | n + 1, s, r, hr, m, hm => by
    rw [dfs, List.mem_flatMap] at hr
    obtain ⟨j, hj, hr⟩ := hr
    split at hr
    · obtain ⟨r', h1, h2⟩ := List.mem_map.mp hr
      subst h2
      rcases List.mem_append.mp hm with h3 | h3
      · exact dfs_lt n _ r' h1 m h3
      · rw [List.mem_singleton] at h3; subst h3; exact List.mem_range.mp hj
    · cases hr
theorem fol_ok {h : Hl} (w : Wf h) {v t : Nat} {suf : List Nat} (hs : ∀ m ∈ suf, m < 16) : ∀ (rs : List (List Nat)) (B : Nat × Nat × Nat) (c : Nat), (∀ r ∈ rs, ∀ m ∈ r, m < 16) → BOk B c → BOk (fol h v t suf B rs) (c + rs.length)
  | [], B, c, _, hB => hB
  | r :: rs, B, c, hr, hB => by
    have h1 : BOk (jud h v B (outK h t suf r)) (c + 1) := jud_ok hB (finF_lt w t _ _) (kyN_lt _ _ (fun m hm => by
      rcases List.mem_append.mp hm with h3 | h3
      · exact hr r List.mem_cons_self m h3
      · exact hs m h3))
    have h2 := fol_ok w (v := v) (t := t) hs rs _ _ (fun r' h' => hr r' (List.mem_cons_of_mem _ h')) h1
    rw [List.length_cons, show c + (rs.length + 1) = c + 1 + rs.length by omega]
    exact h2
theorem sumN_le {f : Nat → Nat} {c : Nat} : ∀ k, (∀ i, i < k → f i ≤ c) → sumN f k ≤ k * c
  | 0, _ => by simp [sumN]
  | k + 1, h => by
    have := sumN_le k (fun i hi => h i (by omega))
    have := h k (by omega)
    rw [sumN, Nat.succ_mul]; omega
theorem dfs_le {h : Hl} (w : Wf h) : ∀ n s, (dfs h n s).length ≤ 6 ^ n
  | 0, s => by simp [dfs]
  | n + 1, s => by
    have w3 := w.2.2.1
    rw [dfs_len]
    refine Nat.le_trans (sumN_le (c := 6 ^ n) _ (fun i hi => ?_)) ?_
    · split
      · exact dfs_le w n _
      · exact Nat.zero_le _
    · rw [Nat.pow_succ, Nat.mul_comm]; exact Nat.mul_le_mul_left _ w3
/-- the part of dfs for the first k motions -/
def dfsK (h : Hl) (n s k : Nat) : List (List Nat) := (List.range k).flatMap (fun m => if clB h m s = true then (dfs h n (nd s (2 ^ m))).map (fun r => r ++ [m]) else [])
theorem dfsK_s (h : Hl) (n s k : Nat) : dfsK h n s (k + 1) = dfsK h n s k ++ (if clB h k s = true then (dfs h n (nd s (2 ^ k))).map (fun r => r ++ [k]) else []) := by
  unfold dfsK
  rw [List.range_succ, List.flatMap_append]
  simp
theorem dfsK_lt {h : Hl} {n s k : Nat} (hk : k ≤ hN h) : ∀ r ∈ dfsK h n s k, ∀ m ∈ r, m < hN h := by
  intro r hr
  refine dfs_lt (n + 1) s r ?_
  rw [dfs, List.mem_flatMap]
  unfold dfsK at hr
  rw [List.mem_flatMap] at hr
  obtain ⟨j, hj, h2⟩ := hr
  exact ⟨j, List.mem_range.mpr (by have := List.mem_range.mp hj; omega), h2⟩
theorem dfsK_len {h : Hl} (w : Wf h) {n s k : Nat} (hk : k ≤ hN h) : (dfsK h n s k).length ≤ 6 * 6 ^ n := by
  have w3 := w.2.2.1
  unfold dfsK
  rw [len_flat]
  refine Nat.le_trans (sumN_le (c := 6 ^ n) _ (fun i hi => ?_)) (Nat.mul_le_mul_right _ (by omega))
  split
  · rw [List.length_map]; exact dfs_le w n _
  · exact Nat.zero_le _
/-- what tryLast leaves -/
def tlQ (h : Hl) (v t n : Nat) (suf : List Nat) (B : Nat × Nat × Nat) (rs : List (List Nat)) (d d' : zD) : Prop := zF [28, 31] d d' ∧ (∀ i, 64 * n ≤ i → d' 28 i = d 28 i) ∧ SC d' v (fol h v t suf B rs)
theorem nd_lt64 {s m N : Nat} (h : s < 2 ^ N) : nd s (2 ^ m) < 2 ^ N := nd_lt h
theorem t_tryLast (l : Launch) {g : zG} (hg : zAmOk g) {h : Hl} (w : Wf h) {v t : Nat} (hv : v < hV h) (ht : t < 512) : ∀ (n : Nat) (d : zD) (s : Nat) (suf : List Nat) (B : Nat × Nat × Nat) (c : Nat), HC 2 d h → LK d h → MD d h → d 26 8 = t → n ≤ 6 → s < 2 ^ hN h → pcN s (hN h) = n → (∀ m ∈ suf, m < 16) → (∀ u, SB u s → d 28 (64 * n + u) = finF h t suf u) → SC d v B → BOk B c → c ≤ 1000000 - 7 * 6 ^ n → zC l g mX4_tryLast (4 + n) [zr g 31, zi ((n : Int) - 1), zi (s : Int), zi (kyN suf n : Nat)] d (fun r d' => r = none ∧ tlQ h v t n suf B (dfs h n s) d d') := by
  have w3 := w.2.2.1
  have hp2 := p64 w3
  intro n
  induction n with
  | zero =>
    intro d s suf B c H K D hT hn hs hpc hsuf hR S hB hcc
    have e0 : d 28 0 = finF h t suf 0 := hR 0 (SB_zero _)
    have hk := kyN_lt suf 0 hsuf
    refine zC_of (L := [(0, _), (1, _), (2, _), (3, _)]) mk_X4_tryLast (Nat.le_of_ble_eq_true rfl) hg rfl (fun x => ?_)
    refine z_iload_n 1 dX4_tryLast_0 rfl rfl ?_
    refine z_if_ge 19 (by omega) dX4_tryLast_1 (by decide) (fun h_1 => absurd h_1 (by omega)) (fun h_1 => ?_)
    refine z_aload_n 0 dX4_tryLast_4 rfl rfl ?_
    refine z_aload_n 0 dX4_tryLast_5 rfl rfl ?_
    refine z_getr fl_RX4_19 (by decide) rfl rfl dX4_tryLast_6 ?_
    refine z_getr fl_RX4_55 (by decide) rfl rfl dX4_tryLast_9 ?_
    refine z_iconst dX4_tryLast_12 ?_
    refine z_iald 0 (by decide) rfl rfl (by omega) (by decide) dX4_tryLast_13 ?_
    rw [e0]
    refine z_iload_n 3 dX4_tryLast_14 rfl rfl ?_
    refine z_cv (t_judge l hg w K (f := finF h t suf 0) (key := kyN suf 0) hv S hB (by omega) (finF_lt w t suf 0) hk) mk_X4_judge mi_X4_judge ml_RX4_59 (by omega) (by decide) rfl rfl rfl rfl (Nat.le_of_ble_eq_true rfl) dX4_tryLast_15 (zvoid fun d_15 q_15 => ?_)
    exact z_vret rfl dX4_tryLast_18 (⟨rfl, q_15.1.mono (by decide), fun i _ => by rw [q_15.1 28 (by decide)], q_15.2⟩)
  | succ n ih =>
    intro d0 s suf B c H K D hT hn hs hpc hsuf hR S hB hcc
    have h6 : 6 ^ (n + 1) = 6 * 6 ^ n := by rw [Nat.pow_succ, Nat.mul_comm]
    have h6p : 0 < 6 ^ n := Nat.pow_pos (by decide)
    have h6le : 6 ^ n ≤ 7776 := Nat.pow_le_pow_right (n := 6) (by decide) (show n ≤ 5 by omega)
    have loop : ∀ (x : zX) (r k : Nat) (d : zD), zF [28, 31] d0 d → (∀ i, 64 * (n + 1) ≤ i → d 28 i = d0 28 i) → SC d v (fol h v t suf B (dfsK h n s k)) → k ≤ hN h → hN h - k < r → zV l x g mX4_tryLast (4 + (n + 1)) (fun r d' => r = none ∧ tlQ h v t (n + 1) suf B (dfs h (n + 1) s) d0 d') 22 [(0, zr g 31), (1, zi (n : Int)), (2, zi (s : Int)), (3, zi (kyN suf (n + 1) : Nat)), (4, zi (k : Int))] [] d := by
      intro x r
      induction r with
      | zero => intro k d hf hro hsc hk hr; omega
      | succ r ihr =>
        intro k d hf hro hsc hk hr
        have H' : HC 2 d h := hf.HC (by decide) H
        have K' : LK d h := K.of (hf 25 (by decide))
        have D' : MD d h := D.of (hf 27 (by decide))
        have hT' : d 26 8 = t := by rw [hf 26 (by decide)]; exact hT
        have h3 : d 2 3 = hN h := H'.1.2.2.2.1
        have hbk : BOk (fol h v t suf B (dfsK h n s k)) (c + (dfsK h n s k).length) := fol_ok w hsuf _ _ _ (fun r hr m hm => by have := dfsK_lt hk r hr m hm; omega) hB
        have hdl := dfsK_len w (n := n) (s := s) hk
        refine z_iload 4 dX4_tryLast_22 rfl ?_
        refine z_aload_n 0 dX4_tryLast_24 rfl rfl ?_
        refine z_getr fl_RX4_9 (by decide) rfl rfl dX4_tryLast_25 ?_
        refine z_geti fl_RX4_43 (by decide) rfl rfl dX4_tryLast_28 ?_
        rw [h3]
        refine z_icmp_ge 93 (by omega) (by omega) dX4_tryLast_31 (by decide) (fun h_31 => ?_) (fun h_31 => ?_)
        · exact z_vret rfl dX4_tryLast_93 (⟨rfl, hf, hro, by rw [show k = hN h by omega] at hsc; exact hsc⟩)
        · have hkN : k < hN h := by omega
          have hb := bit_le hkN w3
          have hkl := key_lt (show k < 16 by omega) n
          have hkk := kyN_lt suf (n + 1) hsuf
          refine z_aload_n 0 dX4_tryLast_34 rfl rfl ?_
          refine z_getr fl_RX4_29 (by decide) rfl rfl dX4_tryLast_35 ?_
          refine z_iload 4 dX4_tryLast_38 rfl ?_
          refine z_iload_n 2 dX4_tryLast_40 rfl rfl ?_
          refine z_cv (t_canBeLast l hg w H' (m := k) (s := s) hkN (by omega)) mk_X0_canBeLast mi_X0_canBeLast ml_RX4_63 (by omega) (by decide) rfl rfl rfl rfl (Nat.le_of_ble_eq_true rfl) dX4_tryLast_41 (zpure ?_)
          refine z_if_eq_b 87 dX4_tryLast_44 (by decide) (fun h_44 => ?_) (fun h_44 => ?_)
          · refine z_iinc 4 (L' := [(0, _), (1, _), (2, _), (3, _), (4, _)]) dX4_tryLast_87 (by decide) rfl rfl rfl ?_
            refine z_goto 22 dX4_tryLast_90 (by decide) ?_
            refine ihr (k + 1) d hf hro ?_ (by omega) (by omega)
            rw [dfsK_s, if_neg (by rw [h_44]; decide), List.append_nil]; exact hsc
          · have hbit : s.testBit k = true := by rw [clB, Bool.and_eq_true] at h_44; exact h_44.1
            have hrest : nd s (2 ^ k) < 2 ^ hN h := nd_lt hs
            have hpr := nd_pc hbit hkN
            refine z_iload_n 2 dX4_tryLast_47 rfl rfl ?_
            refine z_iconst dX4_tryLast_48 ?_
            refine z_iload 4 dX4_tryLast_49 rfl ?_
            refine z_ishl _ (zshl (s := 1) (m := k) (by omega) (by omega)) dX4_tryLast_51 ?_
            rw [Nat.one_mul]
            refine z_iconst dX4_tryLast_52 ?_
            refine z_ixor _ (zxorm _) dX4_tryLast_53 ?_
            refine z_iand _ zandm dX4_tryLast_54 ?_
            refine z_istore (L' := [(0, _), (1, _), (2, _), (3, _), (4, _), (5, _)]) dX4_tryLast_55 (by decide) rfl rfl ?_
            refine z_aload_n 0 dX4_tryLast_57 rfl rfl ?_
            refine z_getr fl_RX4_19 (by decide) rfl rfl dX4_tryLast_58 ?_
            refine z_iload_n 1 dX4_tryLast_61 rfl rfl ?_
            refine z_iload 4 dX4_tryLast_62 rfl ?_
            refine z_iload 5 dX4_tryLast_64 rfl ?_
            refine z_cv (t_stepBack l hg w H' K' D' (p := n) (m := k) (a := nd s (2 ^ k)) (rest := suf) hT' ht hkN hrest (by omega) (fun u hu => by rw [nd_or hbit] at hu; have := SB_le hu; rw [hro _ (by omega)]; exact hR u hu)) mk_X6_stepBack mi_X6_stepBack ml_RX4_69 (by omega) (by decide) rfl rfl rfl rfl (Nat.le_of_ble_eq_true rfl) dX4_tryLast_66 (zvoid fun d_66 q_66 => ?_)
            obtain ⟨b1, b2, b3⟩ := q_66
            refine z_aload_n 0 dX4_tryLast_69 rfl rfl ?_
            refine z_iload_n 1 dX4_tryLast_70 rfl rfl ?_
            refine z_iconst dX4_tryLast_71 ?_
            refine z_isub dX4_tryLast_72 ?_
            refine z_iload 5 dX4_tryLast_73 rfl ?_
            refine z_iload_n 3 dX4_tryLast_75 rfl rfl ?_
            refine z_iload 4 dX4_tryLast_76 rfl ?_
            refine z_iload_n 1 dX4_tryLast_78 rfl rfl ?_
            refine z_cs (t_shiftOf l hg d_66 (p := n) (by omega)) mk_X4_shiftOf ms_X4_shiftOf ml_RX4_72 (by omega) rfl rfl (Nat.le_of_ble_eq_true rfl) dX4_tryLast_79 (zpure ?_)
            refine z_ishl _ (zshl (s := k) (m := 4 * (5 - n)) (by omega) (by omega)) dX4_tryLast_82 ?_
            refine z_ior _ (zor _ _) dX4_tryLast_83 ?_
            refine z_cv (ih d_66 (nd s (2 ^ k)) (k :: suf) (fol h v t suf B (dfsK h n s k)) (c + (dfsK h n s k).length) (b1.HC (by decide) H') (K'.of (b1 25 (by decide))) (D'.of (b1 27 (by decide))) (by rw [b1 26 (by decide)]; exact hT') (by omega) hrest (by omega) (fun m hm => by rcases List.mem_cons.mp hm with rfl | h1; omega; exact hsuf m h1) b3 ⟨by rw [b1 31 (by decide)]; exact hsc.1, by rw [b1 31 (by decide)]; exact hsc.2.1, by rw [b1 31 (by decide)]; exact hsc.2.2.1, by rw [b1 31 (by decide)]; exact hsc.2.2.2⟩ hbk (by omega)) mk_X4_tryLast mi_X4_tryLast ml_RX4_52 (by omega) (by decide) rfl rfl rfl rfl (Nat.le_of_ble_eq_true rfl) dX4_tryLast_84 (zvoid fun d_84 q_84 => ?_)
            obtain ⟨c1, c2, c3⟩ := q_84
            refine z_iinc 4 (L' := [(0, _), (1, _), (2, _), (3, _), (4, _), (5, _)]) dX4_tryLast_87 (by decide) rfl rfl rfl ?_
            refine z_goto 22 dX4_tryLast_90 (by decide) ?_
            refine z_sub (L' := [(0, _), (1, _), (2, _), (3, _), (4, _)]) [0, 1, 2, 3, 4] rfl ?_
            refine ihr (k + 1) d_84 (hf.tr ((b1.mono (by decide)).tr c1)) (fun i hi => by rw [c2 i (by omega), b2 i (by omega)]; exact hro i hi) ?_ (by omega) (by omega)
            rw [dfsK_s, if_pos h_44, fol_app, fol_map]; exact c3
    refine zC_of (L := [(0, _), (1, _), (2, _), (3, _)]) mk_X4_tryLast (Nat.le_of_ble_eq_true rfl) hg rfl (fun x => ?_)
    refine z_LL [(0, _), (1, zi (n : Int)), (2, _), (3, _)] (by rw [show ((n + 1 : Nat) : Int) - 1 = (n : Int) by omega]) ?_
    refine z_iload_n 1 dX4_tryLast_0 rfl rfl ?_
    refine z_if_ge 19 (by omega) dX4_tryLast_1 (by decide) (fun h_1 => ?_) (fun h_1 => absurd h_1 (by omega))
    refine z_iconst dX4_tryLast_19 ?_
    refine z_istore (L' := [(0, _), (1, _), (2, _), (3, _), (4, _)]) dX4_tryLast_20 (by decide) rfl rfl ?_
    exact loop x (hN h + 1) 0 d0 zF.rf (fun i _ => rfl) S (by omega) (by omega)
theorem pc_all (N : Nat) : pcN (2 ^ N - 1) N = N := pcN_full N (fun i hi => by rw [Nat.testBit_two_pow_sub_one]; exact decide_eq_true hi)
theorem t_tryAll (l : Launch) {g : zG} (hg : zAmOk g) {d : zD} {h : Hl} (w : Wf h) (H : HC 2 d h) (K : LK d h) (D : MD d h) {v t : Nat} (hv : v < hV h) (ht : t < 512) : zC l g mX4_tryAll 13 [zr g 31, zi (v : Int), zi (t : Int)] d (fun r d' => r = none ∧ (zF [26, 28, 31] d d' ∧ SC d' v (fol h v t [] (0, 0, 0) (dfs h (hN h) (2 ^ hN h - 1))))) := by
  have w3 := w.2.2.1
  have hp2 := p64 w3
  have hp0 : 0 < 2 ^ hN h := Nat.two_pow_pos _
  have h3 : d 2 3 = hN h := H.1.2.2.2.1
  have h6le : 6 ^ hN h ≤ 46656 := Nat.pow_le_pow_right (n := 6) (by decide) w3
  refine zC_of (L := [(0, _), (1, _), (2, _)]) mk_X4_tryAll (Nat.le_of_ble_eq_true rfl) hg rfl (fun x => ?_)
  refine z_aload_n 0 dX4_tryAll_0 rfl rfl ?_
  refine z_iload_n 1 dX4_tryAll_1 rfl rfl ?_
  refine z_puti fp_RX4_30 (by decide) rfl rfl dX4_tryAll_2 ?_
  refine z_aload_n 0 dX4_tryAll_5 rfl rfl ?_
  refine z_iconst dX4_tryAll_6 ?_
  refine z_puti fp_RX4_34 (by decide) rfl rfl dX4_tryAll_7 ?_
  refine z_aload_n 0 dX4_tryAll_10 rfl rfl ?_
  refine z_iconst dX4_tryAll_11 ?_
  refine z_puti fp_RX4_37 (by decide) rfl rfl dX4_tryAll_12 ?_
  refine z_aload_n 0 dX4_tryAll_15 rfl rfl ?_
  refine z_iconst dX4_tryAll_16 ?_
  refine z_puti fp_RX4_40 (by decide) rfl rfl dX4_tryAll_17 ?_
  generalize hd1 : zu (zu (zu (zu d 31 4 (v : Int)) 31 5 0) 31 6 0) 31 7 0 = d1
  have hf1 : zF [31] d d1 := by rw [← hd1]; exact (((zF.rf.up (by decide)).up (by decide)).up (by decide)).up (by decide)
  have hs1 : SC d1 v (0, 0, 0) := by rw [← hd1]; refine ⟨?_, ?_, ?_, ?_⟩ <;> simp [zu]
  have H1 : HC 2 d1 h := hf1.HC (by decide) H
  have K1 : LK d1 h := K.of (hf1 25 (by decide))
  have D1 : MD d1 h := D.of (hf1 27 (by decide))
  have h31 : d1 2 3 = hN h := by rw [hf1 2 (by decide)]; exact h3
  refine z_iconst dX4_tryAll_20 ?_
  refine z_aload_n 0 dX4_tryAll_21 rfl rfl ?_
  refine z_getr fl_RX4_9 (by decide) rfl rfl dX4_tryAll_22 ?_
  refine z_geti fl_RX4_43 (by decide) rfl rfl dX4_tryAll_25 ?_
  rw [h31]
  refine z_ishl _ (zshl (s := 1) (m := hN h) (by omega) (by omega)) dX4_tryAll_28 ?_
  rw [Nat.one_mul]
  refine z_iconst dX4_tryAll_29 ?_
  refine z_isub dX4_tryAll_30 ?_
  refine z_top ((2 ^ hN h - 1 : Nat) : Int) (by omega) ?_
  refine z_istore_n (L' := [(0, _), (1, _), (2, _), (3, _)]) dX4_tryAll_31 rfl (by decide) rfl rfl ?_
  refine z_aload_n 0 dX4_tryAll_32 rfl rfl ?_
  refine z_getr fl_RX4_19 (by decide) rfl rfl dX4_tryAll_33 ?_
  refine z_iload_n 2 dX4_tryAll_36 rfl rfl ?_
  refine z_aload_n 0 dX4_tryAll_37 rfl rfl ?_
  refine z_getr fl_RX4_9 (by decide) rfl rfl dX4_tryAll_38 ?_
  refine z_geti fl_RX4_43 (by decide) rfl rfl dX4_tryAll_41 ?_
  rw [h31]
  refine z_iload_n 3 dX4_tryAll_44 rfl rfl ?_
  refine z_cv (t_startBack l hg w H1 K1 D1 (t := t) (p := hN h) (a := 2 ^ hN h - 1) (by omega) (by omega)) mk_X6_startBack mi_X6_startBack ml_RX4_48 (by omega) (by decide) rfl rfl rfl rfl (Nat.le_of_ble_eq_true rfl) dX4_tryAll_45 (zvoid fun d_45 q_45 => ?_)
  obtain ⟨b1, b2, b3, b4, b5⟩ := q_45
  have h32 : d_45 2 3 = hN h := by rw [b1 2 (by decide)]; exact h31
  refine z_aload_n 0 dX4_tryAll_48 rfl rfl ?_
  refine z_aload_n 0 dX4_tryAll_49 rfl rfl ?_
  refine z_getr fl_RX4_9 (by decide) rfl rfl dX4_tryAll_50 ?_
  refine z_geti fl_RX4_43 (by decide) rfl rfl dX4_tryAll_53 ?_
  rw [h32]
  refine z_iconst dX4_tryAll_56 ?_
  refine z_isub dX4_tryAll_57 ?_
  refine z_iload_n 3 dX4_tryAll_58 rfl rfl ?_
  refine z_iconst dX4_tryAll_59 ?_
  refine z_cv (t_tryLast l hg w hv ht (hN h) d_45 (2 ^ hN h - 1) [] (0, 0, 0) 0 (b1.HC (by decide) H1) (K1.of (b1 25 (by decide))) (D1.of (b1 27 (by decide))) b3 (by omega) (by omega) (pc_all _) (fun m hm => by cases hm) b5 ⟨by rw [b1 31 (by decide)]; exact hs1.1, by rw [b1 31 (by decide)]; exact hs1.2.1, by rw [b1 31 (by decide)]; exact hs1.2.2.1, by rw [b1 31 (by decide)]; exact hs1.2.2.2⟩ ⟨by decide, by decide, by decide⟩ (by omega)) mk_X4_tryLast mi_X4_tryLast ml_RX4_52 (by omega) (by decide) rfl rfl rfl rfl (Nat.le_of_ble_eq_true rfl) dX4_tryAll_60 (zvoid fun d_60 q_60 => ?_)
  exact z_vret rfl dX4_tryAll_63 (⟨rfl, fun p hp => by rw [q_60.1 p (fun z => hp (by simp_all)), b1 p (fun z => hp (by simp_all)), hf1 p (fun z => hp (by simp_all))], q_60.2.2⟩)
def rkN (key : Nat) : Nat → Nat
  | 0 => 0
  | k + 1 => rkN key k ||| key / 2 ^ (4 * (5 - k)) % 16 * 2 ^ (4 * k)
theorem lp_bestRow {l : Launch} {x : zX} {g : zG} {n : Nat} {Q : Option Value → zD → Prop} {d : zD} {h : Hl} {key : Nat} (hg : zAmOk g) (w : Wf h) (H : HC 2 d h) (hk : d 31 7 = key) (hk2 : key < 2 ^ 24) (hn : 1 < n) (hQ : Q (some (zi (rkN key (hN h) : Nat))) d) : ∀ r k, k ≤ hN h → hN h - k < r → zV l x g mX4_bestRow n Q 4 [(0, zr g 31), (1, zi (rkN key k : Nat)), (2, zi (k : Int))] [] d := by
  have w3 := w.2.2.1
  have h3 : d 2 3 = hN h := H.1.2.2.2.1
  intro r
  induction r with
  | zero => intro k hk hr; omega
  | succ r ih =>
    intro k hkl hr
    refine z_iload_n 2 dX4_bestRow_4 rfl rfl ?_
    refine z_aload_n 0 dX4_bestRow_5 rfl rfl ?_
    refine z_getr fl_RX4_9 (by decide) rfl rfl dX4_bestRow_6 ?_
    refine z_geti fl_RX4_43 (by decide) rfl rfl dX4_bestRow_9 ?_
    rw [h3]
    refine z_icmp_ge 40 (by omega) (by omega) dX4_bestRow_12 (by decide) (fun h_12 => ?_) (fun h_12 => ?_)
    · rw [show k = hN h by omega]
      refine z_iload_n 1 dX4_bestRow_40 rfl rfl ?_
      exact z_iret rfl dX4_bestRow_41 (hQ)
    · have hpw : 2 ^ (4 * k) ≤ 1048576 := Nat.pow_le_pow_right (n := 2) (by decide) (show 4 * k ≤ 20 by omega)
      have hm : key / 2 ^ (4 * (5 - k)) % 16 < 16 := Nat.mod_lt _ (by decide)
      have hml : key / 2 ^ (4 * (5 - k)) % 16 * 2 ^ (4 * k) ≤ 15 * 1048576 := Nat.mul_le_mul (by omega) hpw
      refine z_iload_n 1 dX4_bestRow_15 rfl rfl ?_
      refine z_aload_n 0 dX4_bestRow_16 rfl rfl ?_
      refine z_geti fl_RX4_40 (by decide) rfl rfl dX4_bestRow_17 ?_
      refine z_iload_n 2 dX4_bestRow_20 rfl rfl ?_
      refine z_cs (t_shiftOf l hg d (p := k) (by omega)) mk_X4_shiftOf ms_X4_shiftOf ml_RX4_72 (by omega) rfl rfl (Nat.le_of_ble_eq_true rfl) dX4_bestRow_21 (zpure ?_)
      rw [hk]
      refine z_ishr _ (zshr (s := key) (m := 4 * (5 - k)) (by omega) (by omega)) dX4_bestRow_24 ?_
      refine z_bipush dX4_bestRow_25 (by decide) ?_
      refine z_iand _ (zand _ 15) dX4_bestRow_27 ?_
      rw [and15]
      refine z_iconst dX4_bestRow_28 ?_
      refine z_iload_n 2 dX4_bestRow_29 rfl rfl ?_
      refine z_imul dX4_bestRow_30 ?_
      refine z_top ((4 * k : Nat) : Int) (by omega) ?_
      refine z_ishl _ (zshl (m := 4 * k) (by omega) (by omega)) dX4_bestRow_31 ?_
      refine z_ior _ (zor _ _) dX4_bestRow_32 ?_
      refine z_istore_n (L' := [(0, _), (1, _), (2, _)]) dX4_bestRow_33 rfl (by decide) rfl rfl ?_
      refine z_iinc 2 (L' := [(0, _), (1, _), (2, _)]) dX4_bestRow_34 (by decide) rfl rfl rfl ?_
      refine z_goto 4 dX4_bestRow_37 (by decide) ?_
      exact ih (k + 1) (by omega) (by omega)
theorem t_bestRow (l : Launch) {g : zG} (hg : zAmOk g) {d : zD} {h : Hl} (w : Wf h) (H : HC 2 d h) {key : Nat} (hk : d 31 7 = key) (hk2 : key < 2 ^ 24) : zC l g mX4_bestRow 2 [zr g 31] d (zpu (zi (rkN key (hN h) : Nat)) d) := by
  refine zC_of (L := [(0, _)]) mk_X4_bestRow (Nat.le_of_ble_eq_true rfl) hg rfl (fun x => ?_)
  refine z_iconst dX4_bestRow_0 ?_
  refine z_istore_n (L' := [(0, _), (1, _)]) dX4_bestRow_1 rfl (by decide) rfl rfl ?_
  refine z_iconst dX4_bestRow_2 ?_
  refine z_istore_n (L' := [(0, _), (1, _), (2, _)]) dX4_bestRow_3 rfl (by decide) rfl rfl ?_
  exact lp_bestRow hg w H hk hk2 (by omega) ⟨rfl, rfl⟩ (hN h + 1) 0 (by omega) (by omega)
