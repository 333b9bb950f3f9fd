/-! all that the tables owe, paid -/
theorem xgc : ∀ mi pc i nx, xcd mi pc = some (i, nx) → xj_dec (xbt mi) (xmx mi) pc i nx := by
  intro mi pc i nx h
  unfold xcd at h
  rcases xj_blt h with ⟨-, h⟩ | ⟨-, h⟩
  · rcases xj_blt h with ⟨-, h⟩ | ⟨-, h⟩
    · rcases xj_blt h with ⟨-, h⟩ | ⟨-, h⟩
      · rcases xj_blt h with ⟨-, h⟩ | ⟨-, h⟩
        · rcases xj_blt h with ⟨-, h⟩ | ⟨-, h⟩
          · rcases xj_blt h with ⟨-, h⟩ | ⟨-, h⟩
            · obtain ⟨e1, g1⟩ := xj_beq h
              subst e1
              have h := g1
              exact xd_0 h
            · rcases xj_blt h with ⟨-, h⟩ | ⟨-, h⟩
              · obtain ⟨e2, g2⟩ := xj_beq h
                subst e2
                have h := g2
                exact xd_1 h
              · obtain ⟨e3, g3⟩ := xj_beq h
                subst e3
                have h := g3
                exact xd_2 h
          · rcases xj_blt h with ⟨-, h⟩ | ⟨-, h⟩
            · rcases xj_blt h with ⟨-, h⟩ | ⟨-, h⟩
              · obtain ⟨e4, g4⟩ := xj_beq h
                subst e4
                have h := g4
                exact xd_3 h
              · obtain ⟨e5, g5⟩ := xj_beq h
                subst e5
                have h := g5
                exact xd_4 h
            · rcases xj_blt h with ⟨-, h⟩ | ⟨-, h⟩
              · obtain ⟨e6, g6⟩ := xj_beq h
                subst e6
                have h := g6
                exact xd_5 h
              · obtain ⟨e7, g7⟩ := xj_beq h
                subst e7
                have h := g7
                exact xd_6 h
        · rcases xj_blt h with ⟨-, h⟩ | ⟨-, h⟩
          · rcases xj_blt h with ⟨-, h⟩ | ⟨-, h⟩
            · rcases xj_blt h with ⟨-, h⟩ | ⟨-, h⟩
              · obtain ⟨e8, g8⟩ := xj_beq h
                subst e8
                have h := g8
                exact xd_7 h
              · obtain ⟨e9, g9⟩ := xj_beq h
                subst e9
                have h := g9
                exact xd_8 h
            · rcases xj_blt h with ⟨-, h⟩ | ⟨-, h⟩
              · obtain ⟨e10, g10⟩ := xj_beq h
                subst e10
                have h := g10
                exact xd_9 h
              · obtain ⟨e11, g11⟩ := xj_beq h
                subst e11
                have h := g11
                exact xd_10 h
          · rcases xj_blt h with ⟨-, h⟩ | ⟨-, h⟩
            · rcases xj_blt h with ⟨-, h⟩ | ⟨-, h⟩
              · obtain ⟨e12, g12⟩ := xj_beq h
                subst e12
                have h := g12
                exact xd_11 h
              · obtain ⟨e13, g13⟩ := xj_beq h
                subst e13
                have h := g13
                exact xd_12 h
            · rcases xj_blt h with ⟨-, h⟩ | ⟨-, h⟩
              · obtain ⟨e14, g14⟩ := xj_beq h
                subst e14
                have h := g14
                exact xd_13 h
              · obtain ⟨e15, g15⟩ := xj_beq h
                subst e15
                have h := g15
                exact xd_14 h
      · rcases xj_blt h with ⟨-, h⟩ | ⟨-, h⟩
        · rcases xj_blt h with ⟨-, h⟩ | ⟨-, h⟩
          · rcases xj_blt h with ⟨-, h⟩ | ⟨-, h⟩
            · obtain ⟨e16, g16⟩ := xj_beq h
              subst e16
              have h := g16
              exact xd_15 h
            · rcases xj_blt h with ⟨-, h⟩ | ⟨-, h⟩
              · obtain ⟨e17, g17⟩ := xj_beq h
                subst e17
                have h := g17
                exact xd_16 h
              · obtain ⟨e18, g18⟩ := xj_beq h
                subst e18
                have h := g18
                exact xd_17 h
          · rcases xj_blt h with ⟨-, h⟩ | ⟨-, h⟩
            · rcases xj_blt h with ⟨-, h⟩ | ⟨-, h⟩
              · obtain ⟨e19, g19⟩ := xj_beq h
                subst e19
                have h := g19
                exact xd_18 h
              · obtain ⟨e20, g20⟩ := xj_beq h
                subst e20
                have h := g20
                exact xd_19 h
            · rcases xj_blt h with ⟨-, h⟩ | ⟨-, h⟩
              · obtain ⟨e21, g21⟩ := xj_beq h
                subst e21
                have h := g21
                exact xd_20 h
              · obtain ⟨e22, g22⟩ := xj_beq h
                subst e22
                have h := g22
                exact xd_21 h
        · rcases xj_blt h with ⟨-, h⟩ | ⟨-, h⟩
          · rcases xj_blt h with ⟨-, h⟩ | ⟨-, h⟩
            · rcases xj_blt h with ⟨-, h⟩ | ⟨-, h⟩
              · obtain ⟨e23, g23⟩ := xj_beq h
                subst e23
                have h := g23
                exact xd_22 h
              · obtain ⟨e24, g24⟩ := xj_beq h
                subst e24
                have h := g24
                exact xd_23 h
            · rcases xj_blt h with ⟨-, h⟩ | ⟨-, h⟩
              · obtain ⟨e25, g25⟩ := xj_beq h
                subst e25
                have h := g25
                exact xd_24 h
              · obtain ⟨e26, g26⟩ := xj_beq h
                subst e26
                have h := g26
                exact xd_25 h
          · rcases xj_blt h with ⟨-, h⟩ | ⟨-, h⟩
            · rcases xj_blt h with ⟨-, h⟩ | ⟨-, h⟩
              · obtain ⟨e27, g27⟩ := xj_beq h
                subst e27
                have h := g27
                exact xd_26 h
              · obtain ⟨e28, g28⟩ := xj_beq h
                subst e28
                have h := g28
                exact xd_27 h
            · rcases xj_blt h with ⟨-, h⟩ | ⟨-, h⟩
              · obtain ⟨e29, g29⟩ := xj_beq h
                subst e29
                have h := g29
                exact xd_28 h
              · obtain ⟨e30, g30⟩ := xj_beq h
                subst e30
                have h := g30
                exact xd_29 h
    · rcases xj_blt h with ⟨-, h⟩ | ⟨-, h⟩
      · rcases xj_blt h with ⟨-, h⟩ | ⟨-, h⟩
        · rcases xj_blt h with ⟨-, h⟩ | ⟨-, h⟩
          · rcases xj_blt h with ⟨-, h⟩ | ⟨-, h⟩
            · obtain ⟨e31, g31⟩ := xj_beq h
              subst e31
              have h := g31
              exact xd_30 h
            · rcases xj_blt h with ⟨-, h⟩ | ⟨-, h⟩
              · obtain ⟨e32, g32⟩ := xj_beq h
                subst e32
                have h := g32
                exact xd_31 h
              · obtain ⟨e33, g33⟩ := xj_beq h
                subst e33
                have h := g33
                exact xd_32 h
          · rcases xj_blt h with ⟨-, h⟩ | ⟨-, h⟩
            · rcases xj_blt h with ⟨-, h⟩ | ⟨-, h⟩
              · obtain ⟨e34, g34⟩ := xj_beq h
                subst e34
                have h := g34
                exact xd_33 h
              · obtain ⟨e35, g35⟩ := xj_beq h
                subst e35
                have h := g35
                exact xd_34 h
            · rcases xj_blt h with ⟨-, h⟩ | ⟨-, h⟩
              · obtain ⟨e36, g36⟩ := xj_beq h
                subst e36
                have h := g36
                exact xd_35 h
              · obtain ⟨e37, g37⟩ := xj_beq h
                subst e37
                have h := g37
                exact xd_36 h
        · rcases xj_blt h with ⟨-, h⟩ | ⟨-, h⟩
          · rcases xj_blt h with ⟨-, h⟩ | ⟨-, h⟩
            · rcases xj_blt h with ⟨-, h⟩ | ⟨-, h⟩
              · obtain ⟨e38, g38⟩ := xj_beq h
                subst e38
                have h := g38
                exact xd_37 h
              · obtain ⟨e39, g39⟩ := xj_beq h
                subst e39
                have h := g39
                exact xd_38 h
            · rcases xj_blt h with ⟨-, h⟩ | ⟨-, h⟩
              · obtain ⟨e40, g40⟩ := xj_beq h
                subst e40
                have h := g40
                exact xd_39 h
              · obtain ⟨e41, g41⟩ := xj_beq h
                subst e41
                have h := g41
                exact xd_40 h
          · rcases xj_blt h with ⟨-, h⟩ | ⟨-, h⟩
            · rcases xj_blt h with ⟨-, h⟩ | ⟨-, h⟩
              · obtain ⟨e42, g42⟩ := xj_beq h
                subst e42
                have h := g42
                exact xd_41 h
              · obtain ⟨e43, g43⟩ := xj_beq h
                subst e43
                have h := g43
                exact xd_42 h
            · rcases xj_blt h with ⟨-, h⟩ | ⟨-, h⟩
              · obtain ⟨e44, g44⟩ := xj_beq h
                subst e44
                have h := g44
                exact xd_43 h
              · obtain ⟨e45, g45⟩ := xj_beq h
                subst e45
                have h := g45
                exact xd_44 h
      · rcases xj_blt h with ⟨-, h⟩ | ⟨-, h⟩
        · rcases xj_blt h with ⟨-, h⟩ | ⟨-, h⟩
          · rcases xj_blt h with ⟨-, h⟩ | ⟨-, h⟩
            · obtain ⟨e46, g46⟩ := xj_beq h
              subst e46
              have h := g46
              exact xd_45 h
            · rcases xj_blt h with ⟨-, h⟩ | ⟨-, h⟩
              · obtain ⟨e47, g47⟩ := xj_beq h
                subst e47
                have h := g47
                exact xd_46 h
              · obtain ⟨e48, g48⟩ := xj_beq h
                subst e48
                have h := g48
                exact xd_47 h
          · rcases xj_blt h with ⟨-, h⟩ | ⟨-, h⟩
            · rcases xj_blt h with ⟨-, h⟩ | ⟨-, h⟩
              · obtain ⟨e49, g49⟩ := xj_beq h
                subst e49
                have h := g49
                exact xd_48 h
              · obtain ⟨e50, g50⟩ := xj_beq h
                subst e50
                have h := g50
                exact xd_49 h
            · rcases xj_blt h with ⟨-, h⟩ | ⟨-, h⟩
              · obtain ⟨e51, g51⟩ := xj_beq h
                subst e51
                have h := g51
                exact xd_50 h
              · obtain ⟨e52, g52⟩ := xj_beq h
                subst e52
                have h := g52
                exact xd_51 h
        · rcases xj_blt h with ⟨-, h⟩ | ⟨-, h⟩
          · rcases xj_blt h with ⟨-, h⟩ | ⟨-, h⟩
            · rcases xj_blt h with ⟨-, h⟩ | ⟨-, h⟩
              · obtain ⟨e53, g53⟩ := xj_beq h
                subst e53
                have h := g53
                exact xd_52 h
              · obtain ⟨e54, g54⟩ := xj_beq h
                subst e54
                have h := g54
                exact xd_53 h
            · rcases xj_blt h with ⟨-, h⟩ | ⟨-, h⟩
              · obtain ⟨e55, g55⟩ := xj_beq h
                subst e55
                have h := g55
                exact xd_54 h
              · obtain ⟨e56, g56⟩ := xj_beq h
                subst e56
                have h := g56
                exact xd_55 h
          · rcases xj_blt h with ⟨-, h⟩ | ⟨-, h⟩
            · rcases xj_blt h with ⟨-, h⟩ | ⟨-, h⟩
              · obtain ⟨e57, g57⟩ := xj_beq h
                subst e57
                have h := g57
                exact xd_56 h
              · obtain ⟨e58, g58⟩ := xj_beq h
                subst e58
                have h := g58
                exact xd_57 h
            · rcases xj_blt h with ⟨-, h⟩ | ⟨-, h⟩
              · obtain ⟨e59, g59⟩ := xj_beq h
                subst e59
                have h := g59
                exact xd_58 h
              · obtain ⟨e60, g60⟩ := xj_beq h
                subst e60
                have h := g60
                exact xd_59 h
  · rcases xj_blt h with ⟨-, h⟩ | ⟨-, h⟩
    · rcases xj_blt h with ⟨-, h⟩ | ⟨-, h⟩
      · rcases xj_blt h with ⟨-, h⟩ | ⟨-, h⟩
        · rcases xj_blt h with ⟨-, h⟩ | ⟨-, h⟩
          · rcases xj_blt h with ⟨-, h⟩ | ⟨-, h⟩
            · obtain ⟨e61, g61⟩ := xj_beq h
              subst e61
              have h := g61
              exact xd_60 h
            · rcases xj_blt h with ⟨-, h⟩ | ⟨-, h⟩
              · obtain ⟨e62, g62⟩ := xj_beq h
                subst e62
                have h := g62
                exact xd_61 h
              · obtain ⟨e63, g63⟩ := xj_beq h
                subst e63
                have h := g63
                exact xd_62 h
          · rcases xj_blt h with ⟨-, h⟩ | ⟨-, h⟩
            · rcases xj_blt h with ⟨-, h⟩ | ⟨-, h⟩
              · obtain ⟨e64, g64⟩ := xj_beq h
                subst e64
                have h := g64
                exact xd_63 h
              · obtain ⟨e65, g65⟩ := xj_beq h
                subst e65
                have h := g65
                exact xd_64 h
            · rcases xj_blt h with ⟨-, h⟩ | ⟨-, h⟩
              · obtain ⟨e66, g66⟩ := xj_beq h
                subst e66
                have h := g66
                exact xd_65 h
              · obtain ⟨e67, g67⟩ := xj_beq h
                subst e67
                have h := g67
                exact xd_66 h
        · rcases xj_blt h with ⟨-, h⟩ | ⟨-, h⟩
          · rcases xj_blt h with ⟨-, h⟩ | ⟨-, h⟩
            · rcases xj_blt h with ⟨-, h⟩ | ⟨-, h⟩
              · obtain ⟨e68, g68⟩ := xj_beq h
                subst e68
                have h := g68
                exact xd_67 h
              · obtain ⟨e69, g69⟩ := xj_beq h
                subst e69
                have h := g69
                exact xd_68 h
            · rcases xj_blt h with ⟨-, h⟩ | ⟨-, h⟩
              · obtain ⟨e70, g70⟩ := xj_beq h
                subst e70
                have h := g70
                exact xd_69 h
              · obtain ⟨e71, g71⟩ := xj_beq h
                subst e71
                have h := g71
                exact xd_70 h
          · rcases xj_blt h with ⟨-, h⟩ | ⟨-, h⟩
            · rcases xj_blt h with ⟨-, h⟩ | ⟨-, h⟩
              · obtain ⟨e72, g72⟩ := xj_beq h
                subst e72
                have h := g72
                exact xd_71 h
              · obtain ⟨e73, g73⟩ := xj_beq h
                subst e73
                have h := g73
                exact xd_72 h
            · rcases xj_blt h with ⟨-, h⟩ | ⟨-, h⟩
              · obtain ⟨e74, g74⟩ := xj_beq h
                subst e74
                have h := g74
                exact xd_73 h
              · obtain ⟨e75, g75⟩ := xj_beq h
                subst e75
                have h := g75
                exact xd_74 h
      · rcases xj_blt h with ⟨-, h⟩ | ⟨-, h⟩
        · rcases xj_blt h with ⟨-, h⟩ | ⟨-, h⟩
          · rcases xj_blt h with ⟨-, h⟩ | ⟨-, h⟩
            · obtain ⟨e76, g76⟩ := xj_beq h
              subst e76
              have h := g76
              exact xd_75 h
            · rcases xj_blt h with ⟨-, h⟩ | ⟨-, h⟩
              · obtain ⟨e77, g77⟩ := xj_beq h
                subst e77
                have h := g77
                exact xd_76 h
              · obtain ⟨e78, g78⟩ := xj_beq h
                subst e78
                have h := g78
                exact xd_77 h
          · rcases xj_blt h with ⟨-, h⟩ | ⟨-, h⟩
            · rcases xj_blt h with ⟨-, h⟩ | ⟨-, h⟩
              · obtain ⟨e79, g79⟩ := xj_beq h
                subst e79
                have h := g79
                exact xd_78 h
              · obtain ⟨e80, g80⟩ := xj_beq h
                subst e80
                have h := g80
                exact xd_79 h
            · rcases xj_blt h with ⟨-, h⟩ | ⟨-, h⟩
              · obtain ⟨e81, g81⟩ := xj_beq h
                subst e81
                have h := g81
                exact xd_80 h
              · obtain ⟨e82, g82⟩ := xj_beq h
                subst e82
                have h := g82
                exact xd_81 h
        · rcases xj_blt h with ⟨-, h⟩ | ⟨-, h⟩
          · rcases xj_blt h with ⟨-, h⟩ | ⟨-, h⟩
            · rcases xj_blt h with ⟨-, h⟩ | ⟨-, h⟩
              · obtain ⟨e83, g83⟩ := xj_beq h
                subst e83
                have h := g83
                exact xd_82 h
              · obtain ⟨e84, g84⟩ := xj_beq h
                subst e84
                have h := g84
                exact xd_83 h
            · rcases xj_blt h with ⟨-, h⟩ | ⟨-, h⟩
              · obtain ⟨e85, g85⟩ := xj_beq h
                subst e85
                have h := g85
                exact xd_84 h
              · obtain ⟨e86, g86⟩ := xj_beq h
                subst e86
                have h := g86
                exact xd_85 h
          · rcases xj_blt h with ⟨-, h⟩ | ⟨-, h⟩
            · rcases xj_blt h with ⟨-, h⟩ | ⟨-, h⟩
              · obtain ⟨e87, g87⟩ := xj_beq h
                subst e87
                have h := g87
                exact xd_86 h
              · obtain ⟨e88, g88⟩ := xj_beq h
                subst e88
                have h := g88
                exact xd_87 h
            · rcases xj_blt h with ⟨-, h⟩ | ⟨-, h⟩
              · obtain ⟨e89, g89⟩ := xj_beq h
                subst e89
                have h := g89
                exact xd_88 h
              · obtain ⟨e90, g90⟩ := xj_beq h
                subst e90
                have h := g90
                exact xd_89 h
    · rcases xj_blt h with ⟨-, h⟩ | ⟨-, h⟩
      · rcases xj_blt h with ⟨-, h⟩ | ⟨-, h⟩
        · rcases xj_blt h with ⟨-, h⟩ | ⟨-, h⟩
          · rcases xj_blt h with ⟨-, h⟩ | ⟨-, h⟩
            · obtain ⟨e91, g91⟩ := xj_beq h
              subst e91
              have h := g91
              exact xd_90 h
            · rcases xj_blt h with ⟨-, h⟩ | ⟨-, h⟩
              · obtain ⟨e92, g92⟩ := xj_beq h
                subst e92
                have h := g92
                exact xd_91 h
              · obtain ⟨e93, g93⟩ := xj_beq h
                subst e93
                have h := g93
                exact xd_92 h
          · rcases xj_blt h with ⟨-, h⟩ | ⟨-, h⟩
            · rcases xj_blt h with ⟨-, h⟩ | ⟨-, h⟩
              · obtain ⟨e94, g94⟩ := xj_beq h
                subst e94
                have h := g94
                exact xd_93 h
              · obtain ⟨e95, g95⟩ := xj_beq h
                subst e95
                have h := g95
                exact xd_94 h
            · rcases xj_blt h with ⟨-, h⟩ | ⟨-, h⟩
              · obtain ⟨e96, g96⟩ := xj_beq h
                subst e96
                have h := g96
                exact xd_95 h
              · obtain ⟨e97, g97⟩ := xj_beq h
                subst e97
                have h := g97
                exact xd_96 h
        · rcases xj_blt h with ⟨-, h⟩ | ⟨-, h⟩
          · rcases xj_blt h with ⟨-, h⟩ | ⟨-, h⟩
            · rcases xj_blt h with ⟨-, h⟩ | ⟨-, h⟩
              · obtain ⟨e98, g98⟩ := xj_beq h
                subst e98
                have h := g98
                exact xd_97 h
              · obtain ⟨e99, g99⟩ := xj_beq h
                subst e99
                have h := g99
                exact xd_98 h
            · rcases xj_blt h with ⟨-, h⟩ | ⟨-, h⟩
              · obtain ⟨e100, g100⟩ := xj_beq h
                subst e100
                have h := g100
                exact xd_99 h
              · obtain ⟨e101, g101⟩ := xj_beq h
                subst e101
                have h := g101
                exact xd_100 h
          · rcases xj_blt h with ⟨-, h⟩ | ⟨-, h⟩
            · rcases xj_blt h with ⟨-, h⟩ | ⟨-, h⟩
              · obtain ⟨e102, g102⟩ := xj_beq h
                subst e102
                have h := g102
                exact xd_101 h
              · obtain ⟨e103, g103⟩ := xj_beq h
                subst e103
                have h := g103
                exact xd_102 h
            · rcases xj_blt h with ⟨-, h⟩ | ⟨-, h⟩
              · obtain ⟨e104, g104⟩ := xj_beq h
                subst e104
                have h := g104
                exact xd_103 h
              · obtain ⟨e105, g105⟩ := xj_beq h
                subst e105
                have h := g105
                exact xd_104 h
      · rcases xj_blt h with ⟨-, h⟩ | ⟨-, h⟩
        · rcases xj_blt h with ⟨-, h⟩ | ⟨-, h⟩
          · rcases xj_blt h with ⟨-, h⟩ | ⟨-, h⟩
            · rcases xj_blt h with ⟨-, h⟩ | ⟨-, h⟩
              · obtain ⟨e106, g106⟩ := xj_beq h
                subst e106
                have h := g106
                exact xd_105 h
              · obtain ⟨e107, g107⟩ := xj_beq h
                subst e107
                have h := g107
                exact xd_106 h
            · rcases xj_blt h with ⟨-, h⟩ | ⟨-, h⟩
              · obtain ⟨e108, g108⟩ := xj_beq h
                subst e108
                have h := g108
                exact xd_107 h
              · obtain ⟨e109, g109⟩ := xj_beq h
                subst e109
                have h := g109
                exact xd_108 h
          · rcases xj_blt h with ⟨-, h⟩ | ⟨-, h⟩
            · rcases xj_blt h with ⟨-, h⟩ | ⟨-, h⟩
              · obtain ⟨e110, g110⟩ := xj_beq h
                subst e110
                have h := g110
                exact xd_109 h
              · obtain ⟨e111, g111⟩ := xj_beq h
                subst e111
                have h := g111
                exact xd_110 h
            · rcases xj_blt h with ⟨-, h⟩ | ⟨-, h⟩
              · obtain ⟨e112, g112⟩ := xj_beq h
                subst e112
                have h := g112
                exact xd_111 h
              · obtain ⟨e113, g113⟩ := xj_beq h
                subst e113
                have h := g113
                exact xd_112 h
        · rcases xj_blt h with ⟨-, h⟩ | ⟨-, h⟩
          · rcases xj_blt h with ⟨-, h⟩ | ⟨-, h⟩
            · rcases xj_blt h with ⟨-, h⟩ | ⟨-, h⟩
              · obtain ⟨e114, g114⟩ := xj_beq h
                subst e114
                have h := g114
                exact xd_113 h
              · obtain ⟨e115, g115⟩ := xj_beq h
                subst e115
                have h := g115
                exact xd_114 h
            · rcases xj_blt h with ⟨-, h⟩ | ⟨-, h⟩
              · obtain ⟨e116, g116⟩ := xj_beq h
                subst e116
                have h := g116
                exact xd_115 h
              · obtain ⟨e117, g117⟩ := xj_beq h
                subst e117
                have h := g117
                exact xd_116 h
          · rcases xj_blt h with ⟨-, h⟩ | ⟨-, h⟩
            · rcases xj_blt h with ⟨-, h⟩ | ⟨-, h⟩
              · obtain ⟨e118, g118⟩ := xj_beq h
                subst e118
                have h := g118
                exact xd_117 h
              · obtain ⟨e119, g119⟩ := xj_beq h
                subst e119
                have h := g119
                exact xd_118 h
            · rcases xj_blt h with ⟨-, h⟩ | ⟨-, h⟩
              · obtain ⟨e120, g120⟩ := xj_beq h
                subst e120
                have h := g120
                exact xd_119 h
              · obtain ⟨e121, g121⟩ := xj_beq h
                subst e121
                have h := g121
                exact xd_120 h
theorem xgt : ∀ mi pc e, xth mi pc = some e → xj_GT xyN xbt xhh xcm xwk xsl xex mi pc e := by
  intro mi pc e h
  unfold xth at h
  rcases xj_blt h with ⟨-, h⟩ | ⟨-, h⟩
  · rcases xj_blt h with ⟨-, h⟩ | ⟨-, h⟩
    · rcases xj_blt h with ⟨-, h⟩ | ⟨-, h⟩
      · obtain ⟨e122, g122⟩ := xj_beq h
        subst e122
        have h := g122
        rcases xj_blt h with ⟨-, h⟩ | ⟨-, h⟩
        · obtain ⟨e123, g123⟩ := xj_beq h
          subst e123
          have h := g123
          cases h
          exact xg_28_22
        · obtain ⟨e124, g124⟩ := xj_beq h
          subst e124
          have h := g124
          cases h
          exact xg_28_85
      · obtain ⟨e125, g125⟩ := xj_beq h
        subst e125
        have h := g125
        rcases xj_blt h with ⟨-, h⟩ | ⟨-, h⟩
        · obtain ⟨e126, g126⟩ := xj_beq h
          subst e126
          have h := g126
          cases h
          exact xg_29_22
        · obtain ⟨e127, g127⟩ := xj_beq h
          subst e127
          have h := g127
          cases h
          exact xg_29_44
    · rcases xj_blt h with ⟨-, h⟩ | ⟨-, h⟩
      · obtain ⟨e128, g128⟩ := xj_beq h
        subst e128
        have h := g128
        rcases xj_blt h with ⟨-, h⟩ | ⟨-, h⟩
        · obtain ⟨e129, g129⟩ := xj_beq h
          subst e129
          have h := g129
          cases h
          exact xg_30_21
        · obtain ⟨e130, g130⟩ := xj_beq h
          subst e130
          have h := g130
          cases h
          exact xg_30_55
      · obtain ⟨e131, g131⟩ := xj_beq h
        subst e131
        have h := g131
        rcases xj_blt h with ⟨-, h⟩ | ⟨-, h⟩
        · obtain ⟨e132, g132⟩ := xj_beq h
          subst e132
          have h := g132
          cases h
          exact xg_31_10
        · obtain ⟨e133, g133⟩ := xj_beq h
          subst e133
          have h := g133
          cases h
          exact xg_31_47
  · rcases xj_blt h with ⟨-, h⟩ | ⟨-, h⟩
    · rcases xj_blt h with ⟨-, h⟩ | ⟨-, h⟩
      · obtain ⟨e134, g134⟩ := xj_beq h
        subst e134
        have h := g134
        rcases xj_blt h with ⟨-, h⟩ | ⟨-, h⟩
        · obtain ⟨e135, g135⟩ := xj_beq h
          subst e135
          have h := g135
          cases h
          exact xg_32_10
        · obtain ⟨e136, g136⟩ := xj_beq h
          subst e136
          have h := g136
          cases h
          exact xg_32_31
      · obtain ⟨e137, g137⟩ := xj_beq h
        subst e137
        have h := g137
        rcases xj_blt h with ⟨-, h⟩ | ⟨-, h⟩
        · obtain ⟨e138, g138⟩ := xj_beq h
          subst e138
          have h := g138
          cases h
          exact xg_33_11
        · rcases xj_blt h with ⟨-, h⟩ | ⟨-, h⟩
          · obtain ⟨e139, g139⟩ := xj_beq h
            subst e139
            have h := g139
            cases h
            exact xg_33_28
          · obtain ⟨e140, g140⟩ := xj_beq h
            subst e140
            have h := g140
            cases h
            exact xg_33_47
    · rcases xj_blt h with ⟨-, h⟩ | ⟨-, h⟩
      · obtain ⟨e141, g141⟩ := xj_beq h
        subst e141
        have h := g141
        obtain ⟨e142, g142⟩ := xj_beq h
        subst e142
        have h := g142
        cases h
        exact xg_34_7
      · obtain ⟨e143, g143⟩ := xj_beq h
        subst e143
        have h := g143
        obtain ⟨e144, g144⟩ := xj_beq h
        subst e144
        have h := g144
        cases h
        exact xg_48_96
theorem xgh : ∀ mi pc e hp, xca mi pc e = some (some hp) → xj_GH xyN xhh xcm xwk xnc (xex e).1 mi pc hp := by
  intro mi pc e hp h
  unfold xca at h
  rcases xj_blt h with ⟨-, h⟩ | ⟨-, h⟩
  · cases h
  · rcases xj_blt h with ⟨-, h⟩ | ⟨-, h⟩
    · rcases xj_blt h with ⟨-, h⟩ | ⟨-, h⟩
      · obtain ⟨e145, g145⟩ := xj_beq h
        subst e145
        have h := g145
        obtain ⟨e146, g146⟩ := xj_beq h
        subst e146
        have h := g146
        rcases xj_blt h with ⟨-, h⟩ | ⟨-, h⟩
        · obtain ⟨e147, g147⟩ := xj_beq h
          subst e147
          have h := g147
          cases h
          exact xh_114_0
        · obtain ⟨e148, g148⟩ := xj_beq h
          subst e148
          have h := g148
          cases h
          exact xh_114_1
      · rcases xj_blt h with ⟨-, h⟩ | ⟨-, h⟩
        · obtain ⟨e149, g149⟩ := xj_beq h
          subst e149
          have h := g149
          obtain ⟨e150, g150⟩ := xj_beq h
          subst e150
          have h := g150
          rcases xj_blt h with ⟨-, h⟩ | ⟨-, h⟩
          · obtain ⟨e151, g151⟩ := xj_beq h
            subst e151
            have h := g151
            cases h
            exact xh_115_0
          · obtain ⟨e152, g152⟩ := xj_beq h
            subst e152
            have h := g152
            cases h
            exact xh_115_1
        · obtain ⟨e153, g153⟩ := xj_beq h
          subst e153
          have h := g153
          obtain ⟨e154, g154⟩ := xj_beq h
          subst e154
          have h := g154
          rcases xj_blt h with ⟨-, h⟩ | ⟨-, h⟩
          · obtain ⟨e155, g155⟩ := xj_beq h
            subst e155
            have h := g155
            cases h
            exact xh_116_0
          · obtain ⟨e156, g156⟩ := xj_beq h
            subst e156
            have h := g156
            cases h
            exact xh_116_1
    · rcases xj_blt h with ⟨-, h⟩ | ⟨-, h⟩
      · rcases xj_blt h with ⟨-, h⟩ | ⟨-, h⟩
        · obtain ⟨e157, g157⟩ := xj_beq h
          subst e157
          have h := g157
          obtain ⟨e158, g158⟩ := xj_beq h
          subst e158
          have h := g158
          rcases xj_blt h with ⟨-, h⟩ | ⟨-, h⟩
          · obtain ⟨e159, g159⟩ := xj_beq h
            subst e159
            have h := g159
            cases h
            exact xh_117_0
          · obtain ⟨e160, g160⟩ := xj_beq h
            subst e160
            have h := g160
            cases h
            exact xh_117_1
        · obtain ⟨e161, g161⟩ := xj_beq h
          subst e161
          have h := g161
          obtain ⟨e162, g162⟩ := xj_beq h
          subst e162
          have h := g162
          rcases xj_blt h with ⟨-, h⟩ | ⟨-, h⟩
          · obtain ⟨e163, g163⟩ := xj_beq h
            subst e163
            have h := g163
            cases h
            exact xh_118_0
          · rcases xj_blt h with ⟨-, h⟩ | ⟨-, h⟩
            · obtain ⟨e164, g164⟩ := xj_beq h
              subst e164
              have h := g164
              cases h
              exact xh_118_1
            · obtain ⟨e165, g165⟩ := xj_beq h
              subst e165
              have h := g165
              cases h
              exact xh_118_2
      · rcases xj_blt h with ⟨-, h⟩ | ⟨-, h⟩
        · obtain ⟨e166, g166⟩ := xj_beq h
          subst e166
          have h := g166
          obtain ⟨e167, g167⟩ := xj_beq h
          subst e167
          have h := g167
          rcases xj_blt h with ⟨-, h⟩ | ⟨-, h⟩
          · rcases xj_blt h with ⟨-, h⟩ | ⟨-, h⟩
            · obtain ⟨e168, g168⟩ := xj_beq h
              subst e168
              have h := g168
              cases h
              exact xh_119_0
            · obtain ⟨e169, g169⟩ := xj_beq h
              subst e169
              have h := g169
              cases h
              exact xh_119_1
          · rcases xj_blt h with ⟨-, h⟩ | ⟨-, h⟩
            · obtain ⟨e170, g170⟩ := xj_beq h
              subst e170
              have h := g170
              cases h
              exact xh_119_2
            · obtain ⟨e171, g171⟩ := xj_beq h
              subst e171
              have h := g171
              cases h
              exact xh_119_3
        · obtain ⟨e172, g172⟩ := xj_beq h
          subst e172
          have h := g172
          obtain ⟨e173, g173⟩ := xj_beq h
          subst e173
          have h := g173
          rcases xj_blt h with ⟨-, h⟩ | ⟨-, h⟩
          · obtain ⟨e174, g174⟩ := xj_beq h
            subst e174
            have h := g174
            cases h
            exact xh_120_1
          · obtain ⟨e175, g175⟩ := xj_beq h
            subst e175
            have h := g175
            cases h
            exact xh_120_2
theorem xgp : ∀ mi pc e, xca mi pc e = some none → xhh mi = [] := by
  intro mi pc e h
  unfold xca at h
  rcases xj_blt h with ⟨hl, -⟩ | ⟨-, h⟩
  · unfold xhh
    have : Nat.blt mi 114 = true := Nat.ble_eq_true_of_le hl
    rw [this]
    rfl
  · exfalso
    rcases xj_blt h with ⟨-, h⟩ | ⟨-, h⟩
    · rcases xj_blt h with ⟨-, h⟩ | ⟨-, h⟩
      · obtain ⟨e176, g176⟩ := xj_beq h
        subst e176
        have h := g176
        obtain ⟨e177, g177⟩ := xj_beq h
        subst e177
        have h := g177
        rcases xj_blt h with ⟨-, h⟩ | ⟨-, h⟩
        · obtain ⟨e178, g178⟩ := xj_beq h
          subst e178
          have h := g178
          cases h
        · obtain ⟨e179, g179⟩ := xj_beq h
          subst e179
          have h := g179
          cases h
      · rcases xj_blt h with ⟨-, h⟩ | ⟨-, h⟩
        · obtain ⟨e180, g180⟩ := xj_beq h
          subst e180
          have h := g180
          obtain ⟨e181, g181⟩ := xj_beq h
          subst e181
          have h := g181
          rcases xj_blt h with ⟨-, h⟩ | ⟨-, h⟩
          · obtain ⟨e182, g182⟩ := xj_beq h
            subst e182
            have h := g182
            cases h
          · obtain ⟨e183, g183⟩ := xj_beq h
            subst e183
            have h := g183
            cases h
        · obtain ⟨e184, g184⟩ := xj_beq h
          subst e184
          have h := g184
          obtain ⟨e185, g185⟩ := xj_beq h
          subst e185
          have h := g185
          rcases xj_blt h with ⟨-, h⟩ | ⟨-, h⟩
          · obtain ⟨e186, g186⟩ := xj_beq h
            subst e186
            have h := g186
            cases h
          · obtain ⟨e187, g187⟩ := xj_beq h
            subst e187
            have h := g187
            cases h
    · rcases xj_blt h with ⟨-, h⟩ | ⟨-, h⟩
      · rcases xj_blt h with ⟨-, h⟩ | ⟨-, h⟩
        · obtain ⟨e188, g188⟩ := xj_beq h
          subst e188
          have h := g188
          obtain ⟨e189, g189⟩ := xj_beq h
          subst e189
          have h := g189
          rcases xj_blt h with ⟨-, h⟩ | ⟨-, h⟩
          · obtain ⟨e190, g190⟩ := xj_beq h
            subst e190
            have h := g190
            cases h
          · obtain ⟨e191, g191⟩ := xj_beq h
            subst e191
            have h := g191
            cases h
        · obtain ⟨e192, g192⟩ := xj_beq h
          subst e192
          have h := g192
          obtain ⟨e193, g193⟩ := xj_beq h
          subst e193
          have h := g193
          rcases xj_blt h with ⟨-, h⟩ | ⟨-, h⟩
          · obtain ⟨e194, g194⟩ := xj_beq h
            subst e194
            have h := g194
            cases h
          · rcases xj_blt h with ⟨-, h⟩ | ⟨-, h⟩
            · obtain ⟨e195, g195⟩ := xj_beq h
              subst e195
              have h := g195
              cases h
            · obtain ⟨e196, g196⟩ := xj_beq h
              subst e196
              have h := g196
              cases h
      · rcases xj_blt h with ⟨-, h⟩ | ⟨-, h⟩
        · obtain ⟨e197, g197⟩ := xj_beq h
          subst e197
          have h := g197
          obtain ⟨e198, g198⟩ := xj_beq h
          subst e198
          have h := g198
          rcases xj_blt h with ⟨-, h⟩ | ⟨-, h⟩
          · rcases xj_blt h with ⟨-, h⟩ | ⟨-, h⟩
            · obtain ⟨e199, g199⟩ := xj_beq h
              subst e199
              have h := g199
              cases h
            · obtain ⟨e200, g200⟩ := xj_beq h
              subst e200
              have h := g200
              cases h
          · rcases xj_blt h with ⟨-, h⟩ | ⟨-, h⟩
            · obtain ⟨e201, g201⟩ := xj_beq h
              subst e201
              have h := g201
              cases h
            · obtain ⟨e202, g202⟩ := xj_beq h
              subst e202
              have h := g202
              cases h
        · obtain ⟨e203, g203⟩ := xj_beq h
          subst e203
          have h := g203
          obtain ⟨e204, g204⟩ := xj_beq h
          subst e204
          have h := g204
          rcases xj_blt h with ⟨-, h⟩ | ⟨-, h⟩
          · obtain ⟨e205, g205⟩ := xj_beq h
            subst e205
            have h := g205
            cases h
          · obtain ⟨e206, g206⟩ := xj_beq h
            subst e206
            have h := g206
            cases h
theorem xgf : ∀ mi ix ci k so, xfl mi ix = some (ci, k, so) → ∃ (C : String) (T : u_T) (N : Nat) (ty0 : Nat → FieldType), xcl[ci]? = some (C, T, N) ∧ (∀ w ∈ u_ws C T N, w ∈ xcm) ∧ (∀ k, k < N → parseFieldDescriptor (T k).2.2.1 = some (ty0 k)) ∧ (∀ a, a < N → ∀ b, b < N → a ≠ b → (T a).2.1 ≠ (T b).2.1) ∧ k < N ∧
    Jvm.Cond.fieldLink (xyN mi).cls ix (T k).1 (T k).2.1 (T k).2.2.1 ∈ xcm ∧
    (so = 0 → ty0 k = .int ∧ (T k).2.2.2 = false) ∧ (so = 1 → ty0 k = .boolean ∧ (T k).2.2.2 = false) ∧ (so = 2 → ((∃ t, ty0 k = .array t) ∨ ∃ n, ty0 k = .object n) ∧ (T k).2.2.2 = true ∧ (T k).1 = (xyN mi).cls ∧ (xyN mi).name = "<init>") := by
  intro mi ix ci k so h
  unfold xfl at h
  have key : ∀ o i own, xow mi = o → xin mi = i → o ≠ 9 → xcn o = own → (xfT o i).all (xj_flk own i) = true → (xfT o i).lookup ix = some (ci, k, so) → ∃ (C : String) (T : u_T) (N : Nat) (ty0 : Nat → FieldType), xcl[ci]? = some (C, T, N) ∧ (∀ w ∈ u_ws C T N, w ∈ xcm) ∧ (∀ k, k < N → parseFieldDescriptor (T k).2.2.1 = some (ty0 k)) ∧ (∀ a, a < N → ∀ b, b < N → a ≠ b → (T a).2.1 ≠ (T b).2.1) ∧ k < N ∧
    Jvm.Cond.fieldLink (xyN mi).cls ix (T k).1 (T k).2.1 (T k).2.2.1 ∈ xcm ∧
    (so = 0 → ty0 k = .int ∧ (T k).2.2.2 = false) ∧ (so = 1 → ty0 k = .boolean ∧ (T k).2.2.2 = false) ∧ (so = 2 → ((∃ t, ty0 k = .array t) ∨ ∃ n, ty0 k = .object n) ∧ (T k).2.2.2 = true ∧ (T k).1 = (xyN mi).cls ∧ (xyN mi).name = "<init>") := by
    intro o i own ho hi h9 hn hall hl
    have hc : (xyN mi).cls = own := by rw [xcls (by rw [ho]; exact h9), ho, hn]
    obtain ⟨C, T, N, ty0, a1, a2, a3, a4, a5, a6, a7, a8, a9⟩ := xj_flk_ok hall hl
    refine ⟨C, T, N, ty0, a1, a2, a3, a4, a5, by rw [hc]; exact a6, a7, a8, fun e => ?_⟩
    obtain ⟨b1, b2, b3, b4⟩ := a9 e
    exact ⟨b1, b2, by rw [hc]; exact b3, (xcls0 mi (xlt (by rw [ho]; exact h9))).2 (hi.trans b4)⟩
  cases hi : xin mi with
  | false =>
    rw [hi] at h
    match ho : xow mi with
    | 0 => rw [ho] at h; cases h
    | 1 => rw [ho] at h; cases h
    | 2 => rw [ho] at h; exact key 2 false "CaseDesk$Life" ho hi (by decide) rfl xF2n_ok h
    | 3 => rw [ho] at h; exact key 3 false "CaseDesk$Plan" ho hi (by decide) rfl xF3n_ok h
    | 4 => rw [ho] at h; exact key 4 false "CaseDesk" ho hi (by decide) rfl xF4n_ok h
    | 5 => rw [ho] at h; exact key 5 false "CaseDeskModel" ho hi (by decide) rfl xF5n_ok h
    | 6 => rw [ho] at h; cases h
    | 7 => rw [ho] at h; cases h
    | 8 => rw [ho] at h; cases h
    | 9 => rw [ho] at h; cases h
    | n + 10 => rw [ho] at h; cases h
  | true =>
    rw [hi] at h
    match ho : xow mi with
    | 0 => rw [ho] at h; cases h
    | 1 => rw [ho] at h; cases h
    | 2 => rw [ho] at h; exact key 2 true "CaseDesk$Life" ho hi (by decide) rfl xF2i_ok h
    | 3 => rw [ho] at h; exact key 3 true "CaseDesk$Plan" ho hi (by decide) rfl xF3i_ok h
    | 4 => rw [ho] at h; exact key 4 true "CaseDesk" ho hi (by decide) rfl xF4i_ok h
    | 5 => rw [ho] at h; exact key 5 true "CaseDeskModel" ho hi (by decide) rfl xF5i_ok h
    | 6 => rw [ho] at h; cases h
    | 7 => rw [ho] at h; cases h
    | 8 => rw [ho] at h; cases h
    | 9 => rw [ho] at h; cases h
    | n + 10 => rw [ho] at h; cases h
theorem xgm0 : ∀ mi ix kd y k, xml mi ix = some (kd, y, k) → xow mi ≠ 9 ∧ xGMb (xyN mi).cls (ix, kd, y, k) = true := by
  intro mi ix kd y k h
  unfold xml at h
  have key : ∀ o own, xow mi = o → o ≠ 9 → xcn o = own → (xmT o).all (xGMb own) = true → (xmT o).lookup ix = some (kd, y, k) → xow mi ≠ 9 ∧ xGMb (xyN mi).cls (ix, kd, y, k) = true := by
    intro o own ho h9 hn hall hl
    have h8 : xow mi ≠ 9 := by rw [ho]; exact h9
    have hc : (xyN mi).cls = own := by rw [xcls h8, ho, hn]
    refine ⟨h8, ?_⟩
    rw [hc]
    exact List.all_eq_true.mp hall _ (xj_lku hl)
  match ho : xow mi with
  | 0 => rw [ho] at h; exact ⟨by decide, (key 0 "CaseDeskLaw" ho (by decide) rfl xM0_ok h).2⟩
  | 1 => rw [ho] at h; exact ⟨by decide, (key 1 "java/lang/Math" ho (by decide) rfl xM1_ok h).2⟩
  | 2 => rw [ho] at h; exact ⟨by decide, (key 2 "CaseDesk$Life" ho (by decide) rfl xM2_ok h).2⟩
  | 3 => rw [ho] at h; exact ⟨by decide, (key 3 "CaseDesk$Plan" ho (by decide) rfl xM3_ok h).2⟩
  | 4 => rw [ho] at h; exact ⟨by decide, (key 4 "CaseDesk" ho (by decide) rfl xM4_ok h).2⟩
  | 5 => rw [ho] at h; exact ⟨by decide, (key 5 "CaseDeskModel" ho (by decide) rfl xM5_ok h).2⟩
  | 6 => rw [ho] at h; cases h
  | 7 => rw [ho] at h; cases h
  | 8 => rw [ho] at h; cases h
  | 9 => rw [ho] at h; cases h
  | n + 10 => rw [ho] at h; cases h
theorem xgn : ∀ (L : Nat) (xs : Nat → Int32) mi ix ci fs, xnw mi ix = some (ci, fs) → xj_GN (xX L xs) xyN xcm xcl mi ix ci fs := by
  intro L xs mi ix ci fs h
  unfold xnw at h
  have hc : xow mi ≠ 9 → (xyN mi).cls = xcn (xow mi) := xcls
  match ho : xow mi with
  | 0 =>
    rw [ho] at h
    have ho9 : (xyN mi).cls = "CaseDeskLaw" := by rw [hc (by rw [ho]; decide), ho]; rfl
    have hm := xj_lku h
    simp only [xnT, xN0, List.mem_cons, List.not_mem_nil, or_false, Prod.mk.injEq] at hm
    rcases hm with ⟨rfl, rfl, rfl⟩ | ⟨rfl, rfl, rfl⟩
    · exact xn_0_8 ho9
    · exact xn_0_44 ho9
  | 1 => rw [ho] at h; cases h
  | 2 => rw [ho] at h; cases h
  | 3 => rw [ho] at h; cases h
  | 4 =>
    rw [ho] at h
    have ho9 : (xyN mi).cls = "CaseDesk" := by rw [hc (by rw [ho]; decide), ho]; rfl
    have hm := xj_lku h
    simp only [xnT, xN4, List.mem_cons, List.not_mem_nil, or_false, Prod.mk.injEq] at hm
    rcases hm with ⟨rfl, rfl, rfl⟩ | ⟨rfl, rfl, rfl⟩
    · exact xn_4_7 ho9
    · exact xn_4_16 ho9
  | 5 => rw [ho] at h; cases h
  | 6 => rw [ho] at h; cases h
  | 7 => rw [ho] at h; cases h
  | 8 => rw [ho] at h; cases h
  | 9 => rw [ho] at h; cases h
  | n + 10 => rw [ho] at h; cases h
theorem xgs_ok : ∀ mi ix a, xgs mi ix = some a → a = 1001 ∧ ∃ host, Jvm.Cond.fieldLinkNest (xyN mi).cls ix "CaseDesk" "STATE_AFTER" "[I" host ∈ xwk := by
  intro mi ix a h
  unfold xgs at h
  obtain ⟨ho, h⟩ := xj_beq h
  obtain ⟨rfl, h⟩ := xj_beq h
  cases h
  refine ⟨rfl, "CaseDesk", ?_⟩
  rw [xcls (by rw [ho]; decide), ho]
  decide +kernel
theorem xgv_ok (L : Nat) (xs : Nat → Int32) : ∀ a n f, xgv L xs a = some (n, f) → 1000 ≤ a ∧ a < 2000 := by
  intro a n f h
  unfold xgv at h
  cases hb : Nat.beq a 1000 with
  | true => have := Nat.eq_of_beq_eq_true hb; omega
  | false =>
    rw [hb] at h
    obtain ⟨rfl, -⟩ := xj_beq (show cond (Nat.beq a 1001) (some (10, xst)) none = some (n, f) from h)
    omega
theorem xGl (L : Nat) (xs : Nat → Int32) : xj_Gl (xX L xs) xyN xbt xmx xhh xcm xwk xcl xsl xnc xex := by
  refine ⟨xcm_good, xwk_ok, xgc, xgf, fun mi ix a b h => xGMb_9 (xgm0 mi ix 9 a b h).2, fun mi ix a b h => xGMb_8 (xgm0 mi ix 8 a b h).2, xgs_ok, xgv_ok L xs, fun mi ix kd y k h hk => xGMb_ok (xgm0 mi ix kd y k h).2 hk rfl, xgn L xs, ⟨by decide +kernel, by decide +kernel, by decide +kernel⟩, xgt, xgp, xgh⟩
