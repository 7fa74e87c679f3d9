/-! the saved states; the reader of a text, character by character -/
def pPut (S : Nat → Int32) (a : Nat) (T : Nat → Int32) (n mo : Nat) : Nat → Int32 := va_cpy T (upd (upd S a (nI mo)) (a + 1) (nI n)) 0 (a + 2) 120
def pSave (S : Nat → Int32) (h : Nat) (T : Nat → Int32) (n mo : Nat) : Nat → Int32 := if h < 6 then pPut S (h * 122) T n mo else pPut (va_cpy S S 122 0 610) 610 T n mo
def pSaveH (h : Nat) : Nat := if h < 6 then h + 1 else 6
