/-! texts: tokens, statements (what both sides read) -/
def blk (c : Nat) : Bool := decide (c = 32 ∨ c = 10)
def skF (tp : Nat → Nat) (tl : Nat) : Nat → Nat → Nat
  | 0, p => p
  | f + 1, p => if p < tl ∧ blk (tp p) = true then skF tp tl f (p + 1) else p
/-- the place behind blanks -/
def sk (tp : Nat → Nat) (tl p : Nat) : Nat := skF tp tl (tl - p) p
theorem sk_t {tp : Nat → Nat} {tl p : Nat} (h : p < tl) (hb : blk (tp p) = true) : sk tp tl p = sk tp tl (p + 1) := by
  unfold sk
  rw [show tl - p = (tl - (p + 1)) + 1 by omega, skF, if_pos ⟨h, hb⟩]
theorem sk_f {tp : Nat → Nat} {tl p : Nat} (h : ¬ (p < tl ∧ blk (tp p) = true)) : sk tp tl p = p := by
  unfold sk
  cases tl - p with
  | zero => rfl
  | succ f => rw [skF, if_neg h]
theorem skF_le {tp : Nat → Nat} {tl : Nat} : ∀ f p, p ≤ tl → p ≤ skF tp tl f p ∧ skF tp tl f p ≤ tl
  | 0, p, h => ⟨Nat.le_refl _, h⟩
  | f + 1, p, h => by
    rw [skF]
    split
    · rename_i c
      have := skF_le (tp := tp) f (p + 1) c.1
      omega
    · exact ⟨Nat.le_refl _, h⟩
theorem sk_le {tp : Nat → Nat} {tl p : Nat} (h : p ≤ tl) : p ≤ sk tp tl p ∧ sk tp tl p ≤ tl := skF_le _ p h
theorem skF_end {tp : Nat → Nat} {tl : Nat} : ∀ f p, tl - p ≤ f → ¬ (skF tp tl f p < tl ∧ blk (tp (skF tp tl f p)) = true)
  | 0, p, h => by show ¬ (p < tl ∧ _); omega
  | f + 1, p, h => by
    rw [skF]
    split
    · exact skF_end f (p + 1) (by omega)
    · rename_i c; exact c
theorem sk_end (tp : Nat → Nat) (tl p : Nat) : ¬ (sk tp tl p < tl ∧ blk (tp (sk tp tl p)) = true) := skF_end _ p (Nat.le_refl _)
theorem sk_sk (tp : Nat → Nat) (tl p : Nat) : sk tp tl (sk tp tl p) = sk tp tl p := sk_f (sk_end tp tl p)
def rnF (tp : Nat → Nat) (tl lo hi : Nat) : Nat → Nat → Nat
  | 0, p => p
  | f + 1, p => if p < tl ∧ lo ≤ tp p ∧ tp p ≤ hi then rnF tp tl lo hi f (p + 1) else p
/-- the end of a run of bytes from lo to hi -/
def rn (tp : Nat → Nat) (tl lo hi p : Nat) : Nat := rnF tp tl lo hi (tl - p) p
theorem rn_t {tp : Nat → Nat} {tl lo hi p : Nat} (h : p < tl ∧ lo ≤ tp p ∧ tp p ≤ hi) : rn tp tl lo hi p = rn tp tl lo hi (p + 1) := by
  unfold rn
  rw [show tl - p = (tl - (p + 1)) + 1 by omega, rnF, if_pos h]
theorem rn_f {tp : Nat → Nat} {tl lo hi p : Nat} (h : ¬ (p < tl ∧ lo ≤ tp p ∧ tp p ≤ hi)) : rn tp tl lo hi p = p := by
  unfold rn
  cases tl - p with
  | zero => rfl
  | succ f => rw [rnF, if_neg h]
theorem rnF_le {tp : Nat → Nat} {tl lo hi : Nat} : ∀ f p, p ≤ tl → p ≤ rnF tp tl lo hi f p ∧ rnF tp tl lo hi f p ≤ tl
  | 0, p, h => ⟨Nat.le_refl _, h⟩
  | f + 1, p, h => by
    rw [rnF]
    split
    · rename_i c
      have := rnF_le (tp := tp) (lo := lo) (hi := hi) f (p + 1) c.1
      omega
    · exact ⟨Nat.le_refl _, h⟩
theorem rn_le {tp : Nat → Nat} {tl lo hi p : Nat} (h : p ≤ tl) : p ≤ rn tp tl lo hi p ∧ rn tp tl lo hi p ≤ tl := rnF_le _ p h
theorem rnF_all {tp : Nat → Nat} {tl lo hi : Nat} : ∀ f p i, p ≤ i → i < rnF tp tl lo hi f p → lo ≤ tp i ∧ tp i ≤ hi
  | 0, p, i, h1, h2 => absurd h2 (by rw [rnF]; omega)
  | f + 1, p, i, h1, h2 => by
    rw [rnF] at h2
    split at h2
    · rename_i c
      by_cases e : i = p
      · rw [e]; exact c.2
      · exact rnF_all f (p + 1) i (by omega) h2
    · omega
theorem rn_all {tp : Nat → Nat} {tl lo hi p i : Nat} (h1 : p ≤ i) (h2 : i < rn tp tl lo hi p) : lo ≤ tp i ∧ tp i ≤ hi := rnF_all _ p i h1 h2
def isL (c : Nat) : Prop := 97 ≤ c ∧ c ≤ 122
def isDg (c : Nat) : Prop := 48 ≤ c ∧ c ≤ 57
/-- the token at a cursor: its kind, its end -/
def kd (tp : Nat → Nat) (tl p : Nat) : Nat := if tl ≤ sk tp tl p then 0 else if 97 ≤ tp (sk tp tl p) ∧ tp (sk tp tl p) ≤ 122 then 1 else if 48 ≤ tp (sk tp tl p) ∧ tp (sk tp tl p) ≤ 57 then (if 3 < rn tp tl 48 57 (sk tp tl p) - sk tp tl p then 4 else 2) else 3
def en (tp : Nat → Nat) (tl p : Nat) : Nat := if tl ≤ sk tp tl p then sk tp tl p else if 97 ≤ tp (sk tp tl p) ∧ tp (sk tp tl p) ≤ 122 then rn tp tl 97 122 (sk tp tl p) else if 48 ≤ tp (sk tp tl p) ∧ tp (sk tp tl p) ≤ 57 then rn tp tl 48 57 (sk tp tl p) else sk tp tl p + 1
def nvN (tp : Nat → Nat) (a : Nat) : Nat → Nat
  | 0 => 0
  | k + 1 => nvN tp a k * 10 + tp (a + k) - 48
/-- the number at a cursor -/
def nv (tp : Nat → Nat) (tl p : Nat) : Nat := nvN tp (sk tp tl p) (en tp tl p - sk tp tl p)
theorem en_le {tp : Nat → Nat} {tl p : Nat} (h : p ≤ tl) : sk tp tl p ≤ en tp tl p ∧ en tp tl p ≤ tl := by
  have h1 := sk_le (tp := tp) h
  unfold en
  split
  · omega
  · rename_i c
    split
    · exact rn_le h1.2
    · split
      · exact rn_le h1.2
      · omega
theorem en_lt {tp : Nat → Nat} {tl p : Nat} (h : kd tp tl p ≠ 0) : sk tp tl p < en tp tl p := by
  unfold kd at h
  unfold en
  split at h
  · exact absurd rfl h
  · rename_i c
    rw [if_neg c]
    split
    · rename_i c2
      rw [rn_t ⟨by omega, c2⟩]
      have := rn_le (tp := tp) (lo := 97) (hi := 122) (show sk tp tl p + 1 ≤ tl by omega)
      omega
    · split
      · rename_i c2
        rw [rn_t ⟨by omega, c2⟩]
        have := rn_le (tp := tp) (lo := 48) (hi := 57) (show sk tp tl p + 1 ≤ tl by omega)
        omega
      · omega
/-- the set of a word's letters -/
def wsN (tp : Nat → Nat) (a : Nat) : Nat → Option Nat
  | 0 => some 0
  | k + 1 => match wsN tp a k with
    | none => none
    | some s => if tp (a + k) - 97 < 8 ∧ s.testBit (tp (a + k) - 97) = false then some (s ||| 2 ^ (tp (a + k) - 97)) else none
theorem wsN_lt {tp : Nat → Nat} {a : Nat} : ∀ k s, wsN tp a k = some s → s < 2 ^ 8
  | 0, s, h => by cases h; decide
  | k + 1, s, h => by
    rw [wsN] at h
    split at h
    · cases h
    · rename_i s' hs
      split at h
      · rename_i c
        cases h
        exact or_lt (wsN_lt k s' hs) (Nat.pow_lt_pow_right (by decide) c.1)
      · cases h
theorem wsN_none {tp : Nat → Nat} {a : Nat} : ∀ {k j : Nat}, k ≤ j → wsN tp a k = none → wsN tp a j = none
  | k, 0, hk, h => by rw [show k = 0 by omega] at h; cases h
  | k, j + 1, hk, h => by
    by_cases e : k = j + 1
    · rw [← e]; exact h
    · rw [wsN, wsN_none (show k ≤ j by omega) h]
/-- a set of a least number of letters: a fault, or the place behind it and the set -/
def spSet (tp : Nat → Nat) (tl p least : Nat) : Nat ⊕ (Nat × Nat) := if kd tp tl p = 1 ∧ least ≤ en tp tl p - sk tp tl p then (match wsN tp (sk tp tl p) (en tp tl p - sk tp tl p) with | none => .inl (1 + 8 * sk tp tl p) | some s => .inr (en tp tl p, s)) else .inl (1 + 8 * sk tp tl p)
def isS (tp : Nat → Nat) (tl p c : Nat) : Bool := decide (kd tp tl p = 3 ∧ tp (sk tp tl p) = c)
def spWei (tp : Nat → Nat) (tl p : Nat) : Nat ⊕ (Nat × Int) :=
  if kd tp tl (if isS tp tl p 45 = true then en tp tl p else p) ≠ 2 then .inl (1 + 8 * sk tp tl (if isS tp tl p 45 = true then en tp tl p else p))
  else if 9 < nv tp tl (if isS tp tl p 45 = true then en tp tl p else p) then .inl (2 + 8 * sk tp tl (if isS tp tl p 45 = true then en tp tl p else p))
  else .inr (en tp tl (if isS tp tl p 45 = true then en tp tl p else p), if isS tp tl p 45 = true then -(nv tp tl (if isS tp tl p 45 = true then en tp tl p else p) : Int) else (nv tp tl (if isS tp tl p 45 = true then en tp tl p else p) : Int))
/-- the word at a cursor is the i-th of the six -/
def isW (tp : Nat → Nat) (tl p i : Nat) : Bool := decide (kd tp tl p = 1 ∧ en tp tl p - sk tp tl p = sL i) && (List.range (sL i)).all (fun k => decide (tp (sk tp tl p + k) = sC i k))
/-- one motion more -/
def addM (h : Hl) (so : Nat) (pa : Int) (pl mi : Nat) : Hl := ((hB h, hQ h, hS h, hN h + 1, hV h, hJ h), (fun i => if i = hN h then so else hso h i), (fun i => if i = hN h then pa else hpa h i), (fun i => if i = hN h then pl else hpl h i), (fun i => if i = hN h then mi else hmi h i), hwe h, hjv h, hjs h, hjw h)
def addJ (h : Hl) (v s : Nat) (y : Int) : Hl := ((hB h, hQ h, hS h, hN h, hV h, hJ h + 1), hso h, hpa h, hpl h, hmi h, hwe h, (fun i => if i = hJ h then v else hjv h i), (fun i => if i = hJ h then s else hjs h i), (fun i => if i = hJ h then y else hjw h i))
def addV (h : Hl) (wr : Nat → Int) : Hl := ((hB h, hQ h, hS h, hN h, hV h + 1, hJ h), hso h, hpa h, hpl h, hmi h, (fun j => if 8 * hV h ≤ j ∧ j < 8 * hV h + 8 then wr (j - 8 * hV h) else hwe h j), hjv h, hjs h, hjw h)
def setB (h : Hl) (b : Nat) : Hl := ((b, hQ h, hS h, hN h, hV h, hJ h), h.2)
def setQ (h : Hl) (q : Nat) : Hl := ((hB h, q, hS h, hN h, hV h, hJ h), h.2)
def setS (h : Hl) (s : Int) : Hl := ((hB h, hQ h, s, hN h, hV h, hJ h), h.2)
/-- what an amendment is of: a fault, or the place behind it, the sort, the motion -/
def spOf (tp : Nat → Nat) (tl : Nat) (h : Hl) (p : Nat) : Nat ⊕ (Nat × Nat × Int) :=
  if isW tp tl p 0 = true then .inr (en tp tl p, 0, -1)
  else if isW tp tl p 2 = true then (if hS h = -1 then .inl (3 + 8 * sk tp tl p) else .inr (en tp tl p, 2, hS h))
  else if kd tp tl p = 2 then (if nv tp tl p < hN h ∧ (hso h (nv tp tl p) = 0 ∨ hso h (nv tp tl p) = 2) then .inr (en tp tl p, 3, (nv tp tl p : Int)) else .inl (2 + 8 * sk tp tl p))
  else .inl (1 + 8 * sk tp tl p)
/-- a set behind a sign, perhaps -/
def spSgn (tp : Nat → Nat) (tl p c : Nat) : Nat ⊕ (Nat × Nat) := if isS tp tl p c = true then spSet tp tl (en tp tl p) 1 else .inr (p, 0)
abbrev PS : Type := Nat ⊕ (Nat × Hl × Bool)
def spBill (tp : Nat → Nat) (tl : Nat) (h : Hl) (b : Bool) (p : Nat) : PS := if b = true then .inl (3 + 8 * sk tp tl p) else match spSet tp tl (en tp tl p) 1 with
  | .inl f => .inl f
  | .inr v => .inr (v.1, setB h v.2, true)
def spAm (tp : Nat → Nat) (tl : Nat) (h : Hl) (b : Bool) (p : Nat) : PS := if 6 ≤ hN h then .inl (4 + 8 * sk tp tl p) else match spOf tp tl h (en tp tl p) with
  | .inl f => .inl f
  | .inr o => if isS tp tl o.1 43 = false ∧ isS tp tl o.1 45 = false then .inl (1 + 8 * sk tp tl o.1) else match spSgn tp tl o.1 43 with
    | .inl f => .inl f
    | .inr u => match spSgn tp tl u.1 45 with
      | .inl f => .inl f
      | .inr v => .inr (v.1, addM h o.2.1 o.2.2 u.2 v.2, b)
def spSub (tp : Nat → Nat) (tl : Nat) (h : Hl) (b : Bool) (p : Nat) : PS := if hS h ≠ -1 then .inl (3 + 8 * sk tp tl p) else if 6 ≤ hN h then .inl (4 + 8 * sk tp tl p) else match spSet tp tl (en tp tl p) 1 with
  | .inl f => .inl f
  | .inr v => .inr (v.1, addM (setS h (hN h)) 1 (-1) v.2 0, b)
def spVo (tp : Nat → Nat) (tl : Nat) : Nat → Nat → Nat → (Nat → Int) → Nat ⊕ (Nat × (Nat → Int))
  | 0, p, _, wr => .inr (p, wr)
  | f + 1, p, seen, wr => if kd tp tl p = 1 then (if en tp tl p - sk tp tl p ≠ 1 ∨ ¬ tp (sk tp tl p) - 97 < 8 then .inl (1 + 8 * sk tp tl p) else if seen.testBit (tp (sk tp tl p) - 97) = true then .inl (3 + 8 * sk tp tl p) else match spWei tp tl (en tp tl p) with
    | .inl e => .inl e
    | .inr v => spVo tp tl f v.1 (seen ||| 2 ^ (tp (sk tp tl p) - 97)) (fun c => if c = tp (sk tp tl p) - 97 then v.2 else wr c)) else .inr (p, wr)
def spVot (tp : Nat → Nat) (tl : Nat) (h : Hl) (b : Bool) (p : Nat) : PS := if 9 ≤ hV h then .inl (4 + 8 * sk tp tl p) else match spVo tp tl 9 (en tp tl p) 0 (fun _ => 0) with
  | .inl f => .inl f
  | .inr v => .inr (v.1, addV h v.2, b)
def spJoi (tp : Nat → Nat) (tl : Nat) (h : Hl) (b : Bool) (p : Nat) : PS := if 6 ≤ hJ h then .inl (4 + 8 * sk tp tl p) else if kd tp tl (en tp tl p) ≠ 2 then .inl (1 + 8 * sk tp tl (en tp tl p)) else if hV h ≤ nv tp tl (en tp tl p) then .inl (2 + 8 * sk tp tl (en tp tl p)) else match spSet tp tl (en tp tl (en tp tl p)) 2 with
  | .inl f => .inl f
  | .inr u => match spWei tp tl u.1 with
    | .inl f => .inl f
    | .inr v => .inr (v.1, addJ h (nv tp tl (en tp tl p)) u.2 v.2, b)
def spQuo (tp : Nat → Nat) (tl : Nat) (h : Hl) (b : Bool) (p : Nat) : PS := if hQ h ≠ 0 then .inl (3 + 8 * sk tp tl p) else if kd tp tl (en tp tl p) ≠ 2 then .inl (1 + 8 * sk tp tl (en tp tl p)) else if nv tp tl (en tp tl p) < 1 ∨ 9 < nv tp tl (en tp tl p) then .inl (2 + 8 * sk tp tl (en tp tl p)) else .inr (en tp tl (en tp tl p), setQ h (nv tp tl (en tp tl p)), b)
def spSt (tp : Nat → Nat) (tl : Nat) (h : Hl) (b : Bool) (p : Nat) : PS := if isW tp tl p 0 = true then spBill tp tl h b p else if isW tp tl p 1 = true then spAm tp tl h b p else if isW tp tl p 2 = true then spSub tp tl h b p else if isW tp tl p 3 = true then spVot tp tl h b p else if isW tp tl p 4 = true then spJoi tp tl h b p else if isW tp tl p 5 = true then spQuo tp tl h b p else .inl (1 + 8 * sk tp tl p)
/-- a statement and what ends it -/
def spSe (tp : Nat → Nat) (tl : Nat) (h : Hl) (b : Bool) (p : Nat) : PS := match spSt tp tl h b p with
  | .inl f => .inl f
  | .inr v => if isS tp tl v.1 59 = true then .inr (en tp tl v.1, v.2) else .inl (1 + 8 * sk tp tl v.1)
/-- a text: a fault, or how many statements, and the hall -/
def spTx (tp : Nat → Nat) (tl : Nat) : Nat → Nat → Nat → Hl → Bool → Nat ⊕ (Nat × Hl)
  | 0, _, _, _, _ => .inl 0
  | f + 1, p, n, h, b => if kd tp tl p = 0 then .inr (n, h) else match spSe tp tl h b p with
    | .inl e => .inl e
    | .inr v => spTx tp tl f v.1 (n + 1) v.2.1 v.2.2
/-- nothing told -/
def h0 : Hl := ((0, 0, -1, 0, 0, 0), (fun _ => 0), (fun _ => 0), (fun _ => 0), (fun _ => 0), (fun _ => 0), (fun _ => 0), (fun _ => 0), (fun _ => 0))
def spAll (tp : Nat → Nat) (tl : Nat) : Nat ⊕ (Nat × Hl) := spTx tp tl (tl + 1) 0 0 h0 false
/-! each way on goes forward, and what is told stays well formed -/
theorem spSet_ok {tp : Nat → Nat} {tl p least q s : Nat} (hp : p ≤ tl) (h : spSet tp tl p least = .inr (q, s)) : sk tp tl p < q ∧ q ≤ tl ∧ s < 256 := by
  unfold spSet at h
  split at h
  · rename_i c
    split at h
    · cases h
    · rename_i s' hs
      cases h
      exact ⟨en_lt (by omega), (en_le hp).2, wsN_lt _ _ hs⟩
  · cases h
theorem spWei_ok {tp : Nat → Nat} {tl p q : Nat} {y : Int} (hp : p ≤ tl) (h : spWei tp tl p = .inr (q, y)) : p < q ∧ q ≤ tl ∧ -9 ≤ y ∧ y ≤ 9 := by
  unfold spWei at h
  have h1 := en_le (tp := tp) hp
  have h2 := sk_le (tp := tp) hp
  have hq : p ≤ (if isS tp tl p 45 = true then en tp tl p else p) ∧ (if isS tp tl p 45 = true then en tp tl p else p) ≤ tl := by split <;> omega
  generalize hg : (if isS tp tl p 45 = true then en tp tl p else p) = r at h hq
  split at h
  · cases h
  · rename_i c
    split at h
    · cases h
    · rename_i c2
      cases h
      have h3 := en_le (tp := tp) hq.2
      have h4 := sk_le (tp := tp) hq.2
      have h5 := en_lt (tp := tp) (tl := tl) (p := r) (by omega)
      refine ⟨by omega, by omega, ?_⟩
      split <;> omega
theorem spSgn_ok {tp : Nat → Nat} {tl p c q s : Nat} (hp : p ≤ tl) (h : spSgn tp tl p c = .inr (q, s)) : p ≤ q ∧ q ≤ tl ∧ s < 256 := by
  unfold spSgn at h
  have h1 := en_le (tp := tp) hp
  have h2 := sk_le (tp := tp) hp
  split at h
  · have h3 := spSet_ok h1.2 h
    have h4 := sk_le (tp := tp) h1.2
    omega
  · cases h; omega
theorem spVo_ok {tp : Nat → Nat} {tl : Nat} : ∀ (f p seen q : Nat) (wr wr' : Nat → Int), p ≤ tl → (∀ c, -9 ≤ wr c ∧ wr c ≤ 9) → spVo tp tl f p seen wr = .inr (q, wr') → p ≤ q ∧ q ≤ tl ∧ ∀ c, -9 ≤ wr' c ∧ wr' c ≤ 9
  | 0, p, seen, q, wr, wr', hp, hw, h => by cases h; exact ⟨Nat.le_refl _, hp, hw⟩
  | f + 1, p, seen, q, wr, wr', hp, hw, h => by
    rw [spVo] at h
    have h1 := en_le (tp := tp) hp
    have h2 := sk_le (tp := tp) hp
    split at h
    · split at h
      · cases h
      · split at h
        · cases h
        · split at h
          · cases h
          · rename_i v hv
            obtain ⟨v1, v2⟩ := v
            have h3 := spWei_ok h1.2 hv
            have h4 := spVo_ok f v1 _ q _ wr' h3.2.1 (fun c => by
              dsimp only
              split
              · exact h3.2.2
              · exact hw c) h
            exact ⟨by omega, h4.2⟩
    · cases h; exact ⟨Nat.le_refl _, hp, hw⟩
theorem Wf_h0 : Wf h0 := by
  refine ⟨by decide, by decide, by decide, by decide, by decide, Or.inl rfl, fun i hi => absurd hi (Nat.not_lt_zero i), fun i hi => absurd hi (by show ¬ i < 8 * 0; omega), fun i hi => absurd hi (Nat.not_lt_zero i)⟩
theorem Wf_setB {h : Hl} (w : Wf h) {b : Nat} (hb : b < 256) : Wf (setB h b) := ⟨hb, w.2⟩
theorem Wf_setQ {h : Hl} (w : Wf h) {q : Nat} (hq : q ≤ 9) : Wf (setQ h q) := ⟨w.1, hq, w.2.2⟩
theorem Wf_addV {h : Hl} (w : Wf h) (hv : hV h < 9) {wr : Nat → Int} (hw : ∀ c, -9 ≤ wr c ∧ wr c ≤ 9) : Wf (addV h wr) := by
  obtain ⟨w1, w2, w3, w4, w5, w6, w7, w8, w9⟩ := w
  refine ⟨w1, w2, w3, (show hV h + 1 ≤ 9 by omega), w5, w6, w7, fun j hj => ?_, fun i hi => ?_⟩
  · have hj' : j < 8 * (hV h + 1) := hj
    show -9 ≤ (if 8 * hV h ≤ j ∧ j < 8 * hV h + 8 then wr (j - 8 * hV h) else hwe h j) ∧ (if 8 * hV h ≤ j ∧ j < 8 * hV h + 8 then wr (j - 8 * hV h) else hwe h j) ≤ 9
    split
    · exact hw _
    · exact w8 j (by omega)
  · have := w9 i hi
    exact ⟨(show hjv h i < hV h + 1 by omega), this.2⟩
theorem Wf_addJ {h : Hl} (w : Wf h) (hj : hJ h < 6) {v s : Nat} {y : Int} (hv : v < hV h) (hs : s < 256) (hy : -9 ≤ y ∧ y ≤ 9) : Wf (addJ h v s y) := by
  obtain ⟨w1, w2, w3, w4, w5, w6, w7, w8, w9⟩ := w
  refine ⟨w1, w2, w3, w4, (show hJ h + 1 ≤ 6 by omega), w6, w7, w8, fun i hi => ?_⟩
  have hi' : i < hJ h + 1 := hi
  show (if i = hJ h then v else hjv h i) < hV h ∧ (if i = hJ h then s else hjs h i) < 256 ∧ -9 ≤ (if i = hJ h then y else hjw h i) ∧ (if i = hJ h then y else hjw h i) ≤ 9
  by_cases e : i = hJ h
  · rw [if_pos e, if_pos e, if_pos e]; exact ⟨hv, hs, hy⟩
  · rw [if_neg e, if_neg e, if_neg e]; exact w9 i (by omega)
/-- what a motion told must keep to -/
def mOk (h : Hl) (so : Nat) (pa : Int) : Prop := (so = 0 ∧ pa = -1) ∨ (so = 2 ∧ pa = hS h ∧ hS h ≠ -1) ∨ (so = 3 ∧ 0 ≤ pa ∧ pa < hN h ∧ (hso h pa.toNat = 0 ∨ hso h pa.toNat = 2))
theorem Wf_addM {h : Hl} (w : Wf h) (hn : hN h < 6) {so pl mi : Nat} {pa : Int} (ho : mOk h so pa) (q1 : pl < 256) (q2 : mi < 256) : Wf (addM h so pa pl mi) := by
  obtain ⟨w1, w2, w3, w4, w5, w6, w7, w8, w9⟩ := w
  refine ⟨w1, w2, (show hN h + 1 ≤ 6 by omega), w4, w5, (show hS h = -1 ∨ (0 ≤ hS h ∧ hS h < ((hN h + 1 : Nat) : Int)) by omega), fun i hi => ?_, w8, w9⟩
  have hi' : i < hN h + 1 := hi
  show (if i = hN h then so else hso h i) ≤ 3 ∧ (if i = hN h then pl else hpl h i) < 256 ∧ (if i = hN h then mi else hmi h i) < 256 ∧ ((if i = hN h then so else hso h i) = 1 ↔ hS h = i) ∧ ((if i = hN h then so else hso h i) = 0 ∨ (if i = hN h then so else hso h i) = 1 → (if i = hN h then pa else hpa h i) = -1) ∧ ((if i = hN h then so else hso h i) = 2 → (if i = hN h then pa else hpa h i) = hS h ∧ 0 ≤ hS h ∧ hS h < i) ∧ ((if i = hN h then so else hso h i) = 3 → 0 ≤ (if i = hN h then pa else hpa h i) ∧ (if i = hN h then pa else hpa h i) < i ∧ ((if (if i = hN h then pa else hpa h i).toNat = hN h then so else hso h (if i = hN h then pa else hpa h i).toNat) = 0 ∨ (if (if i = hN h then pa else hpa h i).toNat = hN h then so else hso h (if i = hN h then pa else hpa h i).toNat) = 2))
  by_cases e : i = hN h
  · simp only [if_pos e]
    rcases ho with ⟨o1, o2⟩ | ⟨o1, o2, o3⟩ | ⟨o1, o2, o3, o4⟩
    · refine ⟨by omega, q1, q2, by omega, fun _ => o2, fun z => by omega, fun z => by omega⟩
    · refine ⟨by omega, q1, q2, by omega, fun z => by omega, fun z => by omega, fun z => by omega⟩
    · refine ⟨by omega, q1, q2, by omega, fun z => by omega, fun z => by omega, fun z => ⟨o2, by omega, ?_⟩⟩
      rw [if_neg (by omega)]
      exact o4
  · simp only [if_neg e]
    obtain ⟨a1, a2, a3, a4, a5, a6, a7⟩ := w7 i (by omega)
    refine ⟨a1, a2, a3, a4, a5, a6, fun z => ?_⟩
    obtain ⟨b1, b2, b3⟩ := a7 z
    refine ⟨b1, b2, ?_⟩
    rw [if_neg (by omega)]
    exact b3
theorem Wf_sub {h : Hl} (w : Wf h) (hn : hN h < 6) (hs : hS h = -1) {pl : Nat} (q1 : pl < 256) : Wf (addM (setS h (hN h)) 1 (-1) pl 0) := by
  obtain ⟨w1, w2, w3, w4, w5, w6, w7, w8, w9⟩ := w
  refine ⟨w1, w2, (show hN h + 1 ≤ 6 by omega), w4, w5, (show ((hN h : Nat) : Int) = -1 ∨ (0 ≤ ((hN h : Nat) : Int) ∧ ((hN h : Nat) : Int) < ((hN h + 1 : Nat) : Int)) by omega), fun i hi => ?_, w8, w9⟩
  have hi' : i < hN h + 1 := hi
  show (if i = hN h then 1 else hso h i) ≤ 3 ∧ (if i = hN h then pl else hpl h i) < 256 ∧ (if i = hN h then 0 else hmi h i) < 256 ∧ ((if i = hN h then 1 else hso h i) = 1 ↔ ((hN h : Nat) : Int) = i) ∧ ((if i = hN h then 1 else hso h i) = 0 ∨ (if i = hN h then 1 else hso h i) = 1 → (if i = hN h then -1 else hpa h i) = -1) ∧ ((if i = hN h then 1 else hso h i) = 2 → (if i = hN h then -1 else hpa h i) = ((hN h : Nat) : Int) ∧ 0 ≤ ((hN h : Nat) : Int) ∧ ((hN h : Nat) : Int) < i) ∧ ((if i = hN h then 1 else hso h i) = 3 → 0 ≤ (if i = hN h then -1 else hpa h i) ∧ (if i = hN h then -1 else hpa h i) < i ∧ ((if (if i = hN h then -1 else hpa h i).toNat = hN h then 1 else hso h (if i = hN h then -1 else hpa h i).toNat) = 0 ∨ (if (if i = hN h then -1 else hpa h i).toNat = hN h then 1 else hso h (if i = hN h then -1 else hpa h i).toNat) = 2))
  by_cases e : i = hN h
  · simp only [if_pos e]
    exact ⟨by omega, q1, by omega, ⟨fun _ => by rw [e], fun _ => trivial⟩, fun _ => trivial, fun z => by omega, fun z => by omega⟩
  · simp only [if_neg e]
    obtain ⟨a1, a2, a3, a4, a5, a6, a7⟩ := w7 i (by omega)
    refine ⟨a1, a2, a3, ⟨fun z => by have := a4.mp z; omega, fun z => by omega⟩, a5, fun z => by have := a6 z; omega, fun z => ?_⟩
    obtain ⟨b1, b2, b3⟩ := a7 z
    refine ⟨b1, b2, ?_⟩
    rw [if_neg (by omega)]
    exact b3
theorem spOf_ok {tp : Nat → Nat} {tl : Nat} {h : Hl} {p q so : Nat} {pa : Int} (hp : p ≤ tl) (e : spOf tp tl h p = .inr (q, so, pa)) : q = en tp tl p ∧ mOk h so pa := by
  unfold spOf at e
  split at e
  · cases e; exact ⟨rfl, Or.inl ⟨rfl, rfl⟩⟩
  · split at e
    · split at e
      · cases e
      · rename_i c; cases e; exact ⟨rfl, Or.inr (Or.inl ⟨rfl, rfl, c⟩)⟩
    · split at e
      · split at e
        · rename_i c; cases e
          exact ⟨rfl, Or.inr (Or.inr ⟨rfl, by omega, by omega, by rw [Int.toNat_natCast]; exact c.2⟩)⟩
        · cases e
      · cases e
theorem isW_kd {tp : Nat → Nat} {tl p i : Nat} (h : isW tp tl p i = true) : kd tp tl p = 1 := by
  unfold isW at h
  rw [Bool.and_eq_true, decide_eq_true_eq] at h
  exact h.1.1
theorem spSt_ok {tp : Nat → Nat} {tl : Nat} {h h' : Hl} {b b' : Bool} {p q : Nat} (hp : p ≤ tl) (w : Wf h) (e : spSt tp tl h b p = .inr (q, h', b')) : p < q ∧ q ≤ tl ∧ Wf h' := by
  have h1 := en_le (tp := tp) hp
  have h2 := sk_le (tp := tp) hp
  have h3 := sk_le (tp := tp) h1.2
  unfold spSt at e
  split at e
  · rename_i c
    have h4 := en_lt (tp := tp) (tl := tl) (p := p) (by rw [isW_kd c]; decide)
    unfold spBill at e
    split at e
    · cases e
    · split at e
      · cases e
      · rename_i v hv
        obtain ⟨v1, v2⟩ := v
        have h5 := spSet_ok h1.2 hv
        cases e
        exact ⟨by omega, h5.2.1, Wf_setB w h5.2.2⟩
  · split at e
    · rename_i c
      have h4 := en_lt (tp := tp) (tl := tl) (p := p) (by rw [isW_kd c]; decide)
      unfold spAm at e
      split at e
      · cases e
      · rename_i hn
        split at e
        · cases e
        · rename_i o ho
          obtain ⟨o1, o2, o3⟩ := o
          obtain ⟨h5, h6⟩ := spOf_ok h1.2 ho
          split at e
          · cases e
          · split at e
            · cases e
            · rename_i u hu
              obtain ⟨u1, u2⟩ := u
              split at e
              · cases e
              · rename_i v hv
                obtain ⟨v1, v2⟩ := v
                have h7 := en_le (tp := tp) h1.2
                have h8 := spSgn_ok (by rw [h5]; exact h7.2) hu
                have h9 := spSgn_ok h8.2.1 hv
                cases e
                dsimp only at h5 h8 h9
                exact ⟨by omega, h9.2.1, Wf_addM w (by omega) h6 h8.2.2 h9.2.2⟩
    · split at e
      · rename_i c
        have h4 := en_lt (tp := tp) (tl := tl) (p := p) (by rw [isW_kd c]; decide)
        unfold spSub at e
        split at e
        · cases e
        · rename_i hs
          split at e
          · cases e
          · rename_i hn
            split at e
            · cases e
            · rename_i v hv
              obtain ⟨v1, v2⟩ := v
              have h5 := spSet_ok h1.2 hv
              cases e
              exact ⟨by omega, h5.2.1, Wf_sub w (by omega) (Classical.byContradiction fun z => hs z) h5.2.2⟩
      · split at e
        · rename_i c
          have h4 := en_lt (tp := tp) (tl := tl) (p := p) (by rw [isW_kd c]; decide)
          unfold spVot at e
          split at e
          · cases e
          · rename_i hn
            split at e
            · cases e
            · rename_i v hv
              obtain ⟨v1, v2⟩ := v
              have h5 := spVo_ok 9 _ 0 _ _ _ h1.2 (fun _ => by omega) hv
              cases e
              exact ⟨by omega, h5.2.1, Wf_addV w (by omega) h5.2.2⟩
        · split at e
          · rename_i c
            have h4 := en_lt (tp := tp) (tl := tl) (p := p) (by rw [isW_kd c]; decide)
            unfold spJoi at e
            split at e
            · cases e
            · rename_i hn
              split at e
              · cases e
              · split at e
                · cases e
                · rename_i hv2
                  split at e
                  · cases e
                  · rename_i u hu
                    obtain ⟨u1, u2⟩ := u
                    split at e
                    · cases e
                    · rename_i v hv
                      obtain ⟨v1, v2⟩ := v
                      have h7 := en_le (tp := tp) h1.2
                      have h8 := spSet_ok h7.2 hu
                      have h9 := spWei_ok h8.2.1 hv
                      have h10 := sk_le (tp := tp) h7.2
                      cases e
                      exact ⟨by omega, h9.2.1, Wf_addJ w (by omega) (by omega) h8.2.2 h9.2.2⟩
          · split at e
            · rename_i c
              have h4 := en_lt (tp := tp) (tl := tl) (p := p) (by rw [isW_kd c]; decide)
              unfold spQuo at e
              split at e
              · cases e
              · split at e
                · cases e
                · split at e
                  · cases e
                  · rename_i hq
                    have h7 := en_le (tp := tp) h1.2
                    cases e
                    exact ⟨by omega, h7.2, Wf_setQ w (by omega)⟩
            · cases e
