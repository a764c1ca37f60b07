/-! the text constant's methods -/
theorem yStr {l : Launch} {D : va_G} {b0 : Nat} {bs : Nat × Nat} {cA : Nat → ClassId} {d z : Nat} {r : xMrow} {as : List Value} {M : xM} {post : xPost} (hm : xMet z = some r) (hw : xStrI d z as M post) : xOk l D b0 bs cA (d + 1) z r as M post := sorry
