/-! SHAPES of the class's cells -/
abbrev oArea (ow : Int32) (x0 y0 x1 y1 : Int64) : fe := .inr (0, [.int ow, .long x0, .long y0, .long x1, .long y1])
abbrev oChg (ob rw : Nat) (nx ct : Int32) : fe := .inr (1, [.ref ob, .ref rw, .int nx, .int ct])
abbrev oCon (ow : Option Nat) (cd : Nat) (ct : Int32) : fe := .inr (2, [va_rf ow, .ref cd, .int ct])
abbrev oDraw (s : Int64) : fe := .inr (3, [.long s])
abbrev oLocks (a : Nat) : fe := .inr (4, [.ref a])
abbrev oRow (v : Nat) : fe := .inr (5, [.ref v])
abbrev oRule (f o : Int32) (d : Int64) : fe := .inr (6, [.int f, .int o, .long d])
abbrev oSes (num : Int32) (base now : Nat) (opn : Int32) (ch sd : Nat) : fe := .inr (7, [.int num, .ref base, .ref now, .int opn, .ref ch, .ref sd])
abbrev oSt (r : Nat) : fe := .inr (8, [.ref r])
abbrev aI (t n : Nat) (f : Nat → Int32) : fe := .inl (t, n, .inl f)
abbrev aL (t n : Nat) (f : Nat → Int64) : fe := .inl (t, n, .inr (.inl f))
abbrev aQ (t n : Nat) (f : Nat → Option Nat) : fe := .inl (t, n, .inr (.inr (.inr (.inr f))))
/-- nothing of what was there has changed: cells have come at most -/
def fh_ext (sz : Nat) (h u : FH) : Prop := ∀ a, a < sz → u a = h a
theorem fh_ext.rf {sz : Nat} {h : FH} : fh_ext sz h h := fun _ _ => rfl
theorem fh_ext.up {sz q : Nat} {h u : FH} {e : fe} (he : fh_ext sz h u) (hq : sz ≤ q) : fh_ext sz h (fh_up u q e) := fun a ha => by
  rw [fh_up_ne _ _ (Nat.ne_of_lt (Nat.lt_of_lt_of_le ha hq))]; exact he a ha
theorem fh_ext.trans {sz sz' : Nat} {h u w : FH} (h1 : fh_ext sz h u) (h2 : fh_ext sz' u w) (hs : sz ≤ sz') : fh_ext sz h w := fun a ha => (h2 a (Nat.lt_of_lt_of_le ha hs)).trans (h1 a ha)
theorem fh_ext.at {sz a : Nat} {h u : FH} {e : fe} (he : fh_ext sz h u) (ha : h a = some e) (hl : a < sz) : u a = some e := (he a hl).trans ha
