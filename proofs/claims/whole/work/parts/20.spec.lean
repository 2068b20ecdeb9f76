/-! What a state is, in numbers: the rules, the play as it went point by point. -/
def s_rules (r : Nat → Int32) (a b P G S h k : Nat) : Prop := r 0 = nI a ∧ r 1 = nI b ∧ r 2 = nI P ∧ r 3 = nI G ∧ r 4 = nI S ∧ r 5 = nI h ∧ r 6 = nI k
def s_ok (a b P G S h k : Nat) : Prop := 1 ≤ a ∧ a ≤ 9 ∧ 1 ≤ b ∧ b ≤ 9 ∧ 1 ≤ P ∧ P ≤ 5 ∧ 1 ≤ G ∧ G ≤ 6 ∧ 1 ≤ S ∧ S ≤ 3 ∧ h ≤ P - 2 ∧ k ≤ 2
/-- who has won a game by points i, j -/
def s_won (P k i j : Nat) : Nat :=
  if P ≤ i ∧ j + 2 ≤ i then 1 else if P ≤ j ∧ i + 2 ≤ j then 2
  else if 1 ≤ k ∧ P ≤ i ∧ j < i then 1 else if 1 ≤ k ∧ P ≤ j ∧ i < j then 2
  else if 2 ≤ k ∧ 3 ≤ P ∧ P ≤ i + 1 ∧ j = 0 then 1 else if 2 ≤ k ∧ 3 ≤ P ∧ P ≤ j + 1 ∧ i = 0 then 2 else 0
/-- points (A's without the head start), games, sets, points of A's serve won and lost, of B's, who served the set first, who serves -/
abbrev s_S : Type := Nat × Nat × Nat × Nat × Nat × Nat × Nat × Nat × Nat × Nat × Nat × Nat
def s_hs (h sv : Nat) : Nat := if sv = 0 then h else 0
/-- a game is won by w (0 A, 1 B) -/
def s_game (G w : Nat) : s_S → s_S
  | (_, _, x, y, u, v, aw, al, bw, bl, f, sv) =>
    let x1 := x + (1 - w)
    let y1 := y + w
    if (G ≤ x1 ∧ y1 + 2 ≤ x1) ∨ (G ≤ y1 ∧ x1 + 2 ≤ y1) ∨ 2 * G < x1 + y1 then (0, 0, 0, 0, u + (1 - w), v + w, aw, al, bw, bl, 1 - f, 1 - f)
    else (0, 0, x1, y1, u, v, aw, al, bw, bl, f, 1 - sv)
def s_step (P G h k w : Nat) : s_S → s_S
  | (p, q, x, y, u, v, aw, al, bw, bl, f, sv) =>
    let p1 := p + (1 - w)
    let q1 := q + w
    let z : s_S := (p1, q1, x, y, u, v, (if sv = 0 then aw + (1 - w) else aw), (if sv = 0 then al + w else al), (if sv = 0 then bw else bw + (1 - w)), (if sv = 0 then bl else bl + w), f, sv)
    if s_won P k (p1 + s_hs h sv) q1 = 0 then z else s_game G (s_won P k (p1 + s_hs h sv) q1 - 1) z
def s_0 : s_S := (0, 0, 0, 0, 0, 0, 0, 0, 0, 0, 0, 0)
def s_play (P G h k : Nat) (bits : Nat → Nat) : Nat → s_S
  | 0 => s_0
  | n + 1 => s_step P G h k (bits n) (s_play P G h k bits n)
def s_live (S : Nat) : s_S → Prop
  | (_, _, _, _, u, v, _, _, _, _, _, _) => u < S ∧ v < S
def s_pl (n : Nat) : s_S → Nat → Int32
  | (p, q, x, y, u, v, aw, al, bw, bl, f, sv) => mk13 (nI p) (nI q) (nI x) (nI y) (nI u) (nI v) (nI aw) (nI al) (nI bw) (nI bl) (nI f) (nI sv) (nI n)
def s_ta (S h n : Nat) (ta : Nat → Int32) (fs : Int32) : s_S → Prop
  | (p, q, x, y, u, v, aw, al, bw, bl, f, sv) => ta 0 = nI (p + s_hs h sv) ∧ ta 1 = nI q ∧ ta 2 = nI x ∧ ta 3 = nI y ∧ ta 4 = nI u ∧ ta 5 = nI v ∧ ta 6 = nI sv ∧ ta 7 = nI n ∧ ta 8 = nI aw ∧ ta 9 = nI al ∧ ta 10 = nI bw ∧ ta 11 = nI bl ∧ ta 12 = (if u = S then 0 else if v = S then 1 else -9) ∧ fs = nI f
/-- class and reference agree -/
def z_I (r wn pl : Nat → Int32) (tr tc : Int64) (mr : Nat → Int32) (pd : Int32) (mp ta : Nat → Int32) (fs : Int32) : Prop :=
  tr = tc ∧ ∃ (a b P G S h k n : Nat) (bits : Nat → Nat), s_ok a b P G S h k ∧ s_rules r a b P G S h k ∧ s_rules mr a b P G S h k ∧ n ≤ 400 ∧ pd = nI n ∧
    (∀ j, j < n → bits j ≤ 1 ∧ mp j = nI (bits j) ∧ wn j = nI (1 - bits j)) ∧ (∀ j, j < n → s_live S (s_play P G h k bits j)) ∧
    pl = s_pl n (s_play P G h k bits n) ∧ s_ta S h n ta fs (s_play P G h k bits n)
