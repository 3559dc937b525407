/-! the text as the class keeps it; x: comp 0 length, rightLength, expected; comp 1 the codes -/
def t_code (x : Nat → Nat → Nat) (i : Nat) : Nat := if i < x 0 0 then x 1 i else 0
def t_dig (x : Nat → Nat → Nat) (i : Nat) : Nat := if m_ng (t_code x i) 48 < 10 then m_ng (t_code x i) 48 else 0
def t_beh1 (c : Nat) : Nat := if c = 99 ∨ c = 100 then 1 else if c = 98 ∨ c = 108 then 2 else if c = 119 then 3 else 6
def t_beh (e c : Nat) : Nat := if e = 0 then t_beh1 c else if e = 1 then (if m_ng c 48 < 3 then 0 else 6) else if e = 2 then (if m_ng c 48 < 4 then 0 else 6) else if e = 3 then (if m_ng c 48 < 5 then 4 else 6) else if e = 4 then (if m_ng c 48 < 10 then 5 else 6) else if e = 5 then (if m_ng c 48 < 10 then 0 else 6) else 6
def t_add (x : Nat → Nat → Nat) (c : Nat) : Nat → Nat → Nat := va_up (va_up x 0 (va_up (va_up (va_up (x 0) 0 (x 0 0 + 1)) 1 (if t_beh (x 0 2) c = 6 then x 0 1 else x 0 1 + 1)) 2 (t_beh (x 0 2) c))) 1 (va_up (x 1) (x 0 0) c)
def t_empty (x : Nat → Nat → Nat) : Nat → Nat → Nat := va_up x 0 (va_up (va_up (va_up (x 0) 0 0) 1 0) 2 0)
theorem t_code_lt {x : Nat → Nat → Nat} (h : ∀ k, x 1 k < 2 ^ 31) (i : Nat) : t_code x i < 2 ^ 31 := by
  unfold t_code
  split
  · exact h i
  · omega
theorem t_dig_lt (x : Nat → Nat → Nat) (i : Nat) : t_dig x i < 10 := by
  unfold t_dig
  split <;> omega
theorem t_beh1_le (c : Nat) : t_beh1 c ≤ 6 := by
  unfold t_beh1
  (repeat' split) <;> omega
theorem t_beh_le (e c : Nat) : t_beh e c ≤ 6 := by
  have := t_beh1_le c
  unfold t_beh
  (repeat' split) <;> omega
theorem m_ng_lt {m k : Nat} (hm : m < 2 ^ 31) (hk : k < 2 ^ 31) : m_ng m k < 2 ^ 32 := by
  rcases m_ng_or m k with ⟨h1, h2⟩ | ⟨h1, h2⟩ <;> omega
theorem o_look5 {a p1 p2 p3 p4 p5 : Nat} {o0 o1 o2 o3 o4 o5 : Int} (ha : a < 2 ^ 31) (h1 : ¬ a = p1) (h2 : ¬ a = p2) (h3 : ¬ a = p3) (h4 : ¬ a = p4) (h5 : ¬ a = p5) : Op.lookupswitch.offset [((p1 : Int), o1), ((p2 : Int), o2), ((p3 : Int), o3), ((p4 : Int), o4), ((p5 : Int), o5)] o0 (nI a).toInt = o0 := by
  rw [nI_toInt ha]
  rw [Op.lookupswitch.offset_cons, if_neg (by omega), Op.lookupswitch.offset_cons, if_neg (by omega), Op.lookupswitch.offset_cons, if_neg (by omega), Op.lookupswitch.offset_cons, if_neg (by omega), Op.lookupswitch.offset_cons, if_neg (by omega)]
  rfl
