/-! the codes of the deeds: 0 is done, otherwise what is thrown -/
def mc_come (w : Nat → Nat) (c : Nat) : Nat := if c < 3 then (if m_mode w c = 0 then 0 else 2) else 1
def mc_chalk (w : Nat → Nat) (f x : Nat) : Nat := if f < 5 then (if x < 100 then (if w 3 = 4294967295 then 3 else 0) else 2) else 1
def mc_done (w : Nat → Nat) (c : Nat) : Nat := if c < 3 then (if m_mode w c = 1 then 0 else 2) else 1
def mc_reader (r : Nat) : Nat := if r < 4 then 0 else 1
def mc_begin (w : Nat → Nat) (r : Nat) : Nat := if r < 4 then (if m_ofr w r = 0 then 0 else 2) else 1
def mc_look (w : Nat → Nat) (r : Nat) : Nat := if r < 4 then (if m_ofr w r = 1 then 0 else 2) else 1
def mc_set (x : Nat) : Nat := if 1 ≤ x ∧ x ≤ 20 then 0 else 1
def mc_app (ty c : Nat) : Nat := if 33 ≤ c ∧ c ≤ 126 then (if ty = 60 then 2 else 0) else 1
def m_app (v : Nat → Nat → Nat) (c : Nat) : Nat → Nat → Nat := if mc_app (v 0 1) c = 0 then va_up (va_up v 0 (va_up (va_up (v 0) 1 (v 0 1 + 1)) 2 0)) 3 (va_up (v 3) (v 0 1) c) else va_up v 0 (va_up (v 0) 2 (mc_app (v 0 1) c))
def m_undo (v : Nat → Nat → Nat) : Nat → Nat → Nat := if v 0 0 = 0 then va_up v 0 (va_up (v 0) 2 1) else va_up (va_up v 0 (va_up (va_up (v 0) 0 (v 0 0 - 1)) 2 0)) 1 (m_get (v 1) (v 2) (v 0 0 - 1) 163)
