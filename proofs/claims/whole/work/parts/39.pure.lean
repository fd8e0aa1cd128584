theorem law_pure (xs : Nat → Int32) (L : Nat) (hL : L ≤ 3072) : xWp 7 m_Lw_law 18 [xA 51 0, xA 6 1, xA 7 2, xI 0] [] (x_w0 xs L) (fun a _ => a = xI 1) := by
  sorry
