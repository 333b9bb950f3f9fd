/-! a method that stores: our machine does so -/
set_option maxHeartbeats 4000000 in
set_option maxRecDepth 100000 in
theorem ok_c_createWhatIsIn {L : Nat} {xs : Nat → Int32} {T : Nat → Nat → Int64} {D : Nat} {S : (Nat → Nat → Int32)} {P : (Option Value ⊕ Nat) → xj_W → Nat → Nat → Prop} {a b : Int32} (hD : 603 ≤ D) (hd : d_c_createWhatIsIn a b S) (h : ∀ v S9, (v, S9) = f_c_createWhatIsIn a b S → P (.inl none) (SH, S9, T) 0 0) : xj_E (xX L xs) D 63 0 [(0, .ref 0), (1, .int a), (2, .int b)] [] (SH, S, T) P := by
  unfold d_c_createWhatIsIn at hd
  unfold f_c_createWhatIsIn at h
  exact (okk_c_all 600).2.2.2.1 _ _ _ _ _ hD hd h
