/-! a throw begins with new; the cells behind the constructors -/
theorem xhth {L : Nat} {xs : Nat → Int32} : ∀ m pc q, xj_th (xX L xs) m pc = some q → ∃ ix nx, xj_cd (xX L xs) m pc = some (.new ix, nx) := by
  intro mi pc e h
  change xth mi pc = some e at h
  unfold xth at h
  rcases xj_blt h with ⟨-, h⟩ | ⟨-, h⟩
  · rcases xj_blt h with ⟨-, h⟩ | ⟨-, h⟩
    · rcases xj_blt h with ⟨-, h⟩ | ⟨-, h⟩
      · obtain ⟨e207, g207⟩ := xj_beq h
        subst e207
        have h := g207
        rcases xj_blt h with ⟨-, h⟩ | ⟨-, h⟩
        · obtain ⟨e208, g208⟩ := xj_beq h
          subst e208
          have h := g208
          exact ⟨_, _, rfl⟩
        · obtain ⟨e209, g209⟩ := xj_beq h
          subst e209
          have h := g209
          exact ⟨_, _, rfl⟩
      · obtain ⟨e210, g210⟩ := xj_beq h
        subst e210
        have h := g210
        rcases xj_blt h with ⟨-, h⟩ | ⟨-, h⟩
        · obtain ⟨e211, g211⟩ := xj_beq h
          subst e211
          have h := g211
          exact ⟨_, _, rfl⟩
        · obtain ⟨e212, g212⟩ := xj_beq h
          subst e212
          have h := g212
          exact ⟨_, _, rfl⟩
    · rcases xj_blt h with ⟨-, h⟩ | ⟨-, h⟩
      · obtain ⟨e213, g213⟩ := xj_beq h
        subst e213
        have h := g213
        rcases xj_blt h with ⟨-, h⟩ | ⟨-, h⟩
        · obtain ⟨e214, g214⟩ := xj_beq h
          subst e214
          have h := g214
          exact ⟨_, _, rfl⟩
        · obtain ⟨e215, g215⟩ := xj_beq h
          subst e215
          have h := g215
          exact ⟨_, _, rfl⟩
      · obtain ⟨e216, g216⟩ := xj_beq h
        subst e216
        have h := g216
        rcases xj_blt h with ⟨-, h⟩ | ⟨-, h⟩
        · obtain ⟨e217, g217⟩ := xj_beq h
          subst e217
          have h := g217
          exact ⟨_, _, rfl⟩
        · obtain ⟨e218, g218⟩ := xj_beq h
          subst e218
          have h := g218
          exact ⟨_, _, rfl⟩
  · rcases xj_blt h with ⟨-, h⟩ | ⟨-, h⟩
    · rcases xj_blt h with ⟨-, h⟩ | ⟨-, h⟩
      · obtain ⟨e219, g219⟩ := xj_beq h
        subst e219
        have h := g219
        rcases xj_blt h with ⟨-, h⟩ | ⟨-, h⟩
        · obtain ⟨e220, g220⟩ := xj_beq h
          subst e220
          have h := g220
          exact ⟨_, _, rfl⟩
        · obtain ⟨e221, g221⟩ := xj_beq h
          subst e221
          have h := g221
          exact ⟨_, _, rfl⟩
      · obtain ⟨e222, g222⟩ := xj_beq h
        subst e222
        have h := g222
        rcases xj_blt h with ⟨-, h⟩ | ⟨-, h⟩
        · obtain ⟨e223, g223⟩ := xj_beq h
          subst e223
          have h := g223
          exact ⟨_, _, rfl⟩
        · rcases xj_blt h with ⟨-, h⟩ | ⟨-, h⟩
          · obtain ⟨e224, g224⟩ := xj_beq h
            subst e224
            have h := g224
            exact ⟨_, _, rfl⟩
          · obtain ⟨e225, g225⟩ := xj_beq h
            subst e225
            have h := g225
            exact ⟨_, _, rfl⟩
    · rcases xj_blt h with ⟨-, h⟩ | ⟨-, h⟩
      · obtain ⟨e226, g226⟩ := xj_beq h
        subst e226
        have h := g226
        obtain ⟨e227, g227⟩ := xj_beq h
        subst e227
        have h := g227
        exact ⟨_, _, rfl⟩
      · obtain ⟨e228, g228⟩ := xj_beq h
        subst e228
        have h := g228
        obtain ⟨e229, g229⟩ := xj_beq h
        subst e229
        have h := g229
        exact ⟨_, _, rfl⟩
def SH : List xj_S := [.inr (2, [.ref 1, .ref 14, .ref 23, .int 0, .int 0]), .inr (1, [.int 0, .ref 2, .ref 3, .ref 4, .ref 5, .int 0, .ref 6, .ref 7, .ref 8, .ref 9, .ref 10, .ref 11, .ref 12, .ref 13]), .inl (.int, 12), .inl (.int, 12), .inl (.int, 12), .inl (.int, 12), .inl (.int, 16), .inl (.boolean, 16), .inl (.int, 16), .inl (.int, 32), .inl (.int, 32), .inl (.int, 16), .inl (.int, 16), .inl (.int, 16), .inr (0, [.int 0, .int 0, .ref 15, .ref 16, .ref 17, .ref 18, .ref 19, .ref 20, .int 0, .ref 21, .ref 22]), .inl (.int, 40), .inl (.int, 40), .inl (.int, 40), .inl (.int, 40), .inl (.int, 40), .inl (.int, 4), .inl (.int, 48), .inl (.int, 48), .inr (0, [.int 0, .int 0, .ref 24, .ref 25, .ref 26, .ref 27, .ref 28, .ref 29, .int 0, .ref 30, .ref 31]), .inl (.int, 40), .inl (.int, 40), .inl (.int, 40), .inl (.int, 40), .inl (.int, 40), .inl (.int, 4), .inl (.int, 48), .inl (.int, 48), .inr (3, [.int 0, .int 0, .ref 33, .ref 34, .ref 35, .int 0, .ref 36, .ref 37, .ref 38, .ref 39, .ref 40, .ref 41, .ref 42, .ref 43, .ref 44, .int 0, .int 0, .int 0, .ref 45, .ref 46, .ref 47, .ref 48, .ref 49, .ref 50, .int 0, .ref 51, .ref 52, .int 0, .ref 53, .ref 54, .ref 55, .ref 56, .ref 57, .ref 58, .int 0, .ref 59, .ref 60, .int 0, .int 0, .int 0, .ref 61, .ref 62, .ref 63]), .inl (.int, 12), .inl (.int, 12), .inl (.int, 12), .inl (.int, 16), .inl (.boolean, 16), .inl (.int, 16), .inl (.int, 32), .inl (.int, 32), .inl (.boolean, 16), .inl (.int, 16), .inl (.int, 16), .inl (.int, 16), .inl (.int, 40), .inl (.int, 40), .inl (.int, 40), .inl (.int, 40), .inl (.int, 40), .inl (.int, 4), .inl (.int, 48), .inl (.int, 48), .inl (.int, 40), .inl (.int, 40), .inl (.int, 40), .inl (.int, 40), .inl (.int, 40), .inl (.int, 4), .inl (.int, 48), .inl (.int, 48), .inl (.int, 16), .inl (.int, 16), .inl (.int, 16), .inl (.long, 1)]
