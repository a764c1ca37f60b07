/-! feed -/
theorem k300 : ∀ k, k < 300 → ¬ Int32.ofNat k < 0 ∧ ¬ (300 : Int32) ≤ Int32.ofNat k ∧ xIn (Int32.ofNat k) 300 = true ∧ Int32.ofNat k + 1 = Int32.ofNat (k + 1) := by decide +kernel
theorem app_s {a l2 : Int32} {n k : Nat} {m : xMem} (hl : ¬ l2 < 0) (hk : k < 300) (hm : m.1 (0 + 255) 4 = Int32.ofNat k) : ∃ m1, fX7_append_3 (0 + 255) a (n + 1) l2 m = fX7_append_3 (0 + 255) a n (l2 + -8) m1 ∧ m1.1 (0 + 255) 4 = Int32.ofNat (k + 1) ∧ ∀ b, b ≠ 255 → b ≠ 256 → m1.1 b = m.1 b := by
  obtain ⟨b1, b2, b3, b4⟩ := k300 k hk
  rw [fX7_append_3, if_neg hl, hm, xLet_e, if_neg b1, xLet_e, if_neg b2, xLet_e, xLet_e, xLet_e, b3, cond_e, xLet_e, put_ne (by decide), hm, xLet_e, xLet_e, xLet_e, fX7_append_52, xLet_e, b4]
  refine ⟨_, Eq.refl _, put_at, ?_⟩
  intro b h0 h1
  rw [put_row h0, put_row h1]
theorem app {a : Int32} {k : Nat} {m : xMem} (hk : k ≤ 296) (hm : m.1 (0 + 255) 4 = Int32.ofNat k) : ∃ m1, fX7_append (0 + 255) a m = some m1 ∧ m1.1 (0 + 255) 4 = Int32.ofNat (k + 4) ∧ ∀ b, b ≠ 255 → b ≠ 256 → m1.1 b = m.1 b := by
  obtain ⟨n, hn⟩ := fuE 4 (by omega)
  rw [fX7_append, fX7_append_0, hn]
  obtain ⟨m1, e1, q1, r1⟩ := app_s (a := a) (l2 := 24) (n := n + 1 + 3) (m := m) (by decide) (show k < 300 by omega) hm
  obtain ⟨m2, e2, q2, r2⟩ := app_s (a := a) (l2 := 16) (n := n + 1 + 2) (m := m1) (by decide) (show k + 1 < 300 by omega) q1
  obtain ⟨m3, e3, q3, r3⟩ := app_s (a := a) (l2 := 8) (n := n + 1 + 1) (m := m2) (by decide) (show k + 2 < 300 by omega) q2
  obtain ⟨m4, e4, q4, r4⟩ := app_s (a := a) (l2 := 0) (n := n + 1) (m := m3) (by decide) (show k + 3 < 300 by omega) q3
  have e5 : fX7_append_3 (0 + 255) a (n + 1) (0 + -8) m4 = some m4 := by
    rw [fX7_append_3, if_pos (by decide)]
  rw [show (24 : Int32) + -8 = 16 by decide] at e1
  rw [show (16 : Int32) + -8 = 8 by decide] at e2
  rw [show (8 : Int32) + -8 = 0 by decide] at e3
  refine ⟨m4, ?_, q4, ?_⟩
  · exact e1.trans (e2.trans (e3.trans (e4.trans e5)))
  · intro b h0 h1
    rw [r4 b h0 h1, r3 b h0 h1, r2 b h0 h1, r1 b h0 h1]
theorem rput_s {a l2 : Int32} {n k : Nat} {m : xMem} (hl : ¬ l2 < 0) (hk : k < 300) (hm : m.1 291 4 = Int32.ofNat k) : ∃ m1, fX12_put_3 291 a (n + 1) l2 m = fX12_put_3 291 a n (l2 - 8) m1 ∧ m1.1 291 4 = Int32.ofNat (k + 1) ∧ ∀ b, b ≠ 291 → b ≠ 295 → m1.1 b = m.1 b := by
  obtain ⟨b1, b2, b3, b4⟩ := k300 k hk
  rw [fX12_put_3, if_neg hl, hm, xLet_e, xLet_e, xLet_e, b3, cond_e, xLet_e, xLet_e, put_ne (by decide), hm, xLet_e, xLet_e, xLet_e, xLet_e, b4]
  refine ⟨_, Eq.refl _, put_at, ?_⟩
  intro b h0 h1
  rw [put_row h0, put_row h1]
theorem rput {a : Int32} {k : Nat} {m : xMem} (hk : k ≤ 296) (hm : m.1 291 4 = Int32.ofNat k) : ∃ m1, fX12_put 291 a m = some m1 ∧ m1.1 291 4 = Int32.ofNat (k + 4) ∧ ∀ b, b ≠ 291 → b ≠ 295 → m1.1 b = m.1 b := by
  obtain ⟨n, hn⟩ := fuE 4 (by omega)
  rw [fX12_put, fX12_put_0, hn]
  obtain ⟨m1, e1, q1, r1⟩ := rput_s (a := a) (l2 := 24) (n := n + 1 + 3) (m := m) (by decide) (show k < 300 by omega) hm
  obtain ⟨m2, e2, q2, r2⟩ := rput_s (a := a) (l2 := 16) (n := n + 1 + 2) (m := m1) (by decide) (show k + 1 < 300 by omega) q1
  obtain ⟨m3, e3, q3, r3⟩ := rput_s (a := a) (l2 := 8) (n := n + 1 + 1) (m := m2) (by decide) (show k + 2 < 300 by omega) q2
  obtain ⟨m4, e4, q4, r4⟩ := rput_s (a := a) (l2 := 0) (n := n + 1) (m := m3) (by decide) (show k + 3 < 300 by omega) q3
  have e5 : fX12_put_3 291 a (n + 1) (0 - 8) m4 = some m4 := by
    rw [fX12_put_3, if_pos (by decide)]
  rw [show (24 : Int32) - 8 = 16 by decide] at e1
  rw [show (16 : Int32) - 8 = 8 by decide] at e2
  rw [show (8 : Int32) - 8 = 0 by decide] at e3
  refine ⟨m4, ?_, q4, ?_⟩
  · exact e1.trans (e2.trans (e3.trans (e4.trans e5)))
  · intro b h0 h1
    rw [r4 b h0 h1, r3 b h0 h1, r2 b h0 h1, r1 b h0 h1]
theorem feed1 {a b c e f : Int32} {m : xMem} (hm : m.1 (0 + 255) 4 = Int32.ofNat 0) : ∃ m1, fX11_feed 0 a b c e f m = some (Int32.ofNat 20, m1) ∧ ∀ b, b ≠ 255 → b ≠ 256 → m1.1 b = m.1 b := by
  have room : fX7_hasRoomFor (0 + 255) 20 m = some (1, m) := by
    rw [fX7_hasRoomFor, fX7_hasRoomFor_0, hm, xLet_e, xLet_e, if_neg (by decide), fX7_hasRoomFor_17]
    rfl
  obtain ⟨m1, e1, q1, r1⟩ := app (a := a) (m := m) (show 0 ≤ 296 by omega) hm
  obtain ⟨m2, e2, q2, r2⟩ := app (a := b) (m := m1) (show 4 ≤ 296 by omega) q1
  obtain ⟨m3, e3, q3, r3⟩ := app (a := c) (m := m2) (show 8 ≤ 296 by omega) q2
  obtain ⟨m4, e4, q4, r4⟩ := app (a := e) (m := m3) (show 12 ≤ 296 by omega) q3
  obtain ⟨m5, e5, q5, r5⟩ := app (a := f) (m := m4) (show 16 ≤ 296 by omega) q4
  refine ⟨m5, ?_, ?_⟩
  · rw [fX11_feed, fX11_feed_0, room, bind_e, if_pos (show ¬ (1 : Int32) = 0 by decide), e1, bind_e, e2, bind_e, e3, bind_e, e4, bind_e, e5, bind_e, q5, xLet_e]
  · intro b h0 h1
    rw [r5 b h0 h1, r4 b h0 h1, r3 b h0 h1, r2 b h0 h1, r1 b h0 h1]
theorem feed2 {a b c e f : Int32} {m : xMem} (hm : m.1 291 4 = Int32.ofNat 0) : ∃ m1, fX12_feed 291 a b c e f m = some (Int32.ofNat 20, m1) := by
  obtain ⟨m1, e1, q1, r1⟩ := rput (a := a) (m := m) (show 0 ≤ 296 by omega) hm
  obtain ⟨m2, e2, q2, r2⟩ := rput (a := b) (m := m1) (show 4 ≤ 296 by omega) q1
  obtain ⟨m3, e3, q3, r3⟩ := rput (a := c) (m := m2) (show 8 ≤ 296 by omega) q2
  obtain ⟨m4, e4, q4, r4⟩ := rput (a := e) (m := m3) (show 12 ≤ 296 by omega) q3
  obtain ⟨m5, e5, q5, r5⟩ := rput (a := f) (m := m4) (show 16 ≤ 296 by omega) q4
  refine ⟨m5, ?_⟩
  rw [fX12_feed, fX12_feed_0, hm, xLet_e, xLet_e, if_pos (by decide), e1, bind_e, e2, bind_e, e3, bind_e, e4, bind_e, e5, bind_e, q5, xLet_e]
theorem alike_feed {a b c e f : Int32} : Alike (fX11_feed 0 a b c e f) (fX12_feed 291 a b c e f) (mB 1610) := by
  obtain ⟨m1, e1, r1⟩ := feed1 (a := a) (b := b) (c := c) (e := e) (f := f) (m := mB 1610) (by rw [rB_255_4]; rfl)
  obtain ⟨m2, e2⟩ := feed2 (a := a) (b := b) (c := c) (e := e) (f := f) (m := m1) (by rw [r1 291 (by omega) (by omega), rB_291_4]; rfl)
  exact ⟨Int32.ofNat 20, m1, m2, e1, e2⟩
