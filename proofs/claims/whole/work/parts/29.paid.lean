/-! all that the tables owe, paid -/
theorem xgc : ∀ mi pc i nx, xcd mi pc = some (i, nx) → xj_dec (xbt mi) (xmx mi) pc i nx := by
  intro mi pc i nx h
  unfold xcd at h
  rcases xj_blt h with ⟨-, h⟩ | ⟨-, h⟩
  · rcases xj_blt h with ⟨-, h⟩ | ⟨-, h⟩
    · rcases xj_blt h with ⟨-, h⟩ | ⟨-, h⟩
      · rcases xj_blt h with ⟨-, h⟩ | ⟨-, h⟩
        · rcases xj_blt h with ⟨-, h⟩ | ⟨-, h⟩
          · rcases xj_blt h with ⟨-, h⟩ | ⟨-, h⟩
            · obtain ⟨rfl, h⟩ := xj_beq h
              exact xd_0 h
            · rcases xj_blt h with ⟨-, h⟩ | ⟨-, h⟩
              · obtain ⟨rfl, h⟩ := xj_beq h
                exact xd_1 h
              · obtain ⟨rfl, h⟩ := xj_beq h
                exact xd_2 h
          · rcases xj_blt h with ⟨-, h⟩ | ⟨-, h⟩
            · rcases xj_blt h with ⟨-, h⟩ | ⟨-, h⟩
              · obtain ⟨rfl, h⟩ := xj_beq h
                exact xd_3 h
              · obtain ⟨rfl, h⟩ := xj_beq h
                exact xd_4 h
            · rcases xj_blt h with ⟨-, h⟩ | ⟨-, h⟩
              · obtain ⟨rfl, h⟩ := xj_beq h
                exact xd_5 h
              · obtain ⟨rfl, h⟩ := xj_beq h
                exact xd_6 h
        · rcases xj_blt h with ⟨-, h⟩ | ⟨-, h⟩
          · rcases xj_blt h with ⟨-, h⟩ | ⟨-, h⟩
            · rcases xj_blt h with ⟨-, h⟩ | ⟨-, h⟩
              · obtain ⟨rfl, h⟩ := xj_beq h
                exact xd_7 h
              · obtain ⟨rfl, h⟩ := xj_beq h
                exact xd_8 h
            · rcases xj_blt h with ⟨-, h⟩ | ⟨-, h⟩
              · obtain ⟨rfl, h⟩ := xj_beq h
                exact xd_9 h
              · obtain ⟨rfl, h⟩ := xj_beq h
                exact xd_10 h
          · rcases xj_blt h with ⟨-, h⟩ | ⟨-, h⟩
            · rcases xj_blt h with ⟨-, h⟩ | ⟨-, h⟩
              · obtain ⟨rfl, h⟩ := xj_beq h
                exact xd_11 h
              · obtain ⟨rfl, h⟩ := xj_beq h
                exact xd_12 h
            · rcases xj_blt h with ⟨-, h⟩ | ⟨-, h⟩
              · obtain ⟨rfl, h⟩ := xj_beq h
                exact xd_13 h
              · obtain ⟨rfl, h⟩ := xj_beq h
                exact xd_14 h
      · rcases xj_blt h with ⟨-, h⟩ | ⟨-, h⟩
        · rcases xj_blt h with ⟨-, h⟩ | ⟨-, h⟩
          · rcases xj_blt h with ⟨-, h⟩ | ⟨-, h⟩
            · obtain ⟨rfl, h⟩ := xj_beq h
              exact xd_15 h
            · rcases xj_blt h with ⟨-, h⟩ | ⟨-, h⟩
              · obtain ⟨rfl, h⟩ := xj_beq h
                exact xd_16 h
              · obtain ⟨rfl, h⟩ := xj_beq h
                exact xd_17 h
          · rcases xj_blt h with ⟨-, h⟩ | ⟨-, h⟩
            · rcases xj_blt h with ⟨-, h⟩ | ⟨-, h⟩
              · obtain ⟨rfl, h⟩ := xj_beq h
                exact xd_18 h
              · obtain ⟨rfl, h⟩ := xj_beq h
                exact xd_19 h
            · rcases xj_blt h with ⟨-, h⟩ | ⟨-, h⟩
              · obtain ⟨rfl, h⟩ := xj_beq h
                exact xd_20 h
              · obtain ⟨rfl, h⟩ := xj_beq h
                exact xd_21 h
        · rcases xj_blt h with ⟨-, h⟩ | ⟨-, h⟩
          · rcases xj_blt h with ⟨-, h⟩ | ⟨-, h⟩
            · rcases xj_blt h with ⟨-, h⟩ | ⟨-, h⟩
              · obtain ⟨rfl, h⟩ := xj_beq h
                exact xd_22 h
              · obtain ⟨rfl, h⟩ := xj_beq h
                exact xd_23 h
            · rcases xj_blt h with ⟨-, h⟩ | ⟨-, h⟩
              · obtain ⟨rfl, h⟩ := xj_beq h
                exact xd_24 h
              · obtain ⟨rfl, h⟩ := xj_beq h
                exact xd_25 h
          · rcases xj_blt h with ⟨-, h⟩ | ⟨-, h⟩
            · rcases xj_blt h with ⟨-, h⟩ | ⟨-, h⟩
              · obtain ⟨rfl, h⟩ := xj_beq h
                exact xd_26 h
              · obtain ⟨rfl, h⟩ := xj_beq h
                exact xd_27 h
            · rcases xj_blt h with ⟨-, h⟩ | ⟨-, h⟩
              · obtain ⟨rfl, h⟩ := xj_beq h
                exact xd_28 h
              · obtain ⟨rfl, h⟩ := xj_beq h
                exact xd_29 h
    · rcases xj_blt h with ⟨-, h⟩ | ⟨-, h⟩
      · rcases xj_blt h with ⟨-, h⟩ | ⟨-, h⟩
        · rcases xj_blt h with ⟨-, h⟩ | ⟨-, h⟩
          · rcases xj_blt h with ⟨-, h⟩ | ⟨-, h⟩
            · obtain ⟨rfl, h⟩ := xj_beq h
              exact xd_30 h
            · rcases xj_blt h with ⟨-, h⟩ | ⟨-, h⟩
              · obtain ⟨rfl, h⟩ := xj_beq h
                exact xd_31 h
              · obtain ⟨rfl, h⟩ := xj_beq h
                exact xd_32 h
          · rcases xj_blt h with ⟨-, h⟩ | ⟨-, h⟩
            · rcases xj_blt h with ⟨-, h⟩ | ⟨-, h⟩
              · obtain ⟨rfl, h⟩ := xj_beq h
                exact xd_33 h
              · obtain ⟨rfl, h⟩ := xj_beq h
                exact xd_34 h
            · rcases xj_blt h with ⟨-, h⟩ | ⟨-, h⟩
              · obtain ⟨rfl, h⟩ := xj_beq h
                exact xd_35 h
              · obtain ⟨rfl, h⟩ := xj_beq h
                exact xd_36 h
        · rcases xj_blt h with ⟨-, h⟩ | ⟨-, h⟩
          · rcases xj_blt h with ⟨-, h⟩ | ⟨-, h⟩
            · rcases xj_blt h with ⟨-, h⟩ | ⟨-, h⟩
              · obtain ⟨rfl, h⟩ := xj_beq h
                exact xd_37 h
              · obtain ⟨rfl, h⟩ := xj_beq h
                exact xd_38 h
            · rcases xj_blt h with ⟨-, h⟩ | ⟨-, h⟩
              · obtain ⟨rfl, h⟩ := xj_beq h
                exact xd_39 h
              · obtain ⟨rfl, h⟩ := xj_beq h
                exact xd_40 h
          · rcases xj_blt h with ⟨-, h⟩ | ⟨-, h⟩
            · rcases xj_blt h with ⟨-, h⟩ | ⟨-, h⟩
              · obtain ⟨rfl, h⟩ := xj_beq h
                exact xd_41 h
              · obtain ⟨rfl, h⟩ := xj_beq h
                exact xd_42 h
            · rcases xj_blt h with ⟨-, h⟩ | ⟨-, h⟩
              · obtain ⟨rfl, h⟩ := xj_beq h
                exact xd_43 h
              · obtain ⟨rfl, h⟩ := xj_beq h
                exact xd_44 h
      · rcases xj_blt h with ⟨-, h⟩ | ⟨-, h⟩
        · rcases xj_blt h with ⟨-, h⟩ | ⟨-, h⟩
          · rcases xj_blt h with ⟨-, h⟩ | ⟨-, h⟩
            · obtain ⟨rfl, h⟩ := xj_beq h
              exact xd_45 h
            · rcases xj_blt h with ⟨-, h⟩ | ⟨-, h⟩
              · obtain ⟨rfl, h⟩ := xj_beq h
                exact xd_46 h
              · obtain ⟨rfl, h⟩ := xj_beq h
                exact xd_47 h
          · rcases xj_blt h with ⟨-, h⟩ | ⟨-, h⟩
            · rcases xj_blt h with ⟨-, h⟩ | ⟨-, h⟩
              · obtain ⟨rfl, h⟩ := xj_beq h
                exact xd_48 h
              · obtain ⟨rfl, h⟩ := xj_beq h
                exact xd_49 h
            · rcases xj_blt h with ⟨-, h⟩ | ⟨-, h⟩
              · obtain ⟨rfl, h⟩ := xj_beq h
                exact xd_50 h
              · obtain ⟨rfl, h⟩ := xj_beq h
                exact xd_51 h
        · rcases xj_blt h with ⟨-, h⟩ | ⟨-, h⟩
          · rcases xj_blt h with ⟨-, h⟩ | ⟨-, h⟩
            · rcases xj_blt h with ⟨-, h⟩ | ⟨-, h⟩
              · obtain ⟨rfl, h⟩ := xj_beq h
                exact xd_52 h
              · obtain ⟨rfl, h⟩ := xj_beq h
                exact xd_53 h
            · rcases xj_blt h with ⟨-, h⟩ | ⟨-, h⟩
              · obtain ⟨rfl, h⟩ := xj_beq h
                exact xd_54 h
              · obtain ⟨rfl, h⟩ := xj_beq h
                exact xd_55 h
          · rcases xj_blt h with ⟨-, h⟩ | ⟨-, h⟩
            · rcases xj_blt h with ⟨-, h⟩ | ⟨-, h⟩
              · obtain ⟨rfl, h⟩ := xj_beq h
                exact xd_56 h
              · obtain ⟨rfl, h⟩ := xj_beq h
                exact xd_57 h
            · rcases xj_blt h with ⟨-, h⟩ | ⟨-, h⟩
              · obtain ⟨rfl, h⟩ := xj_beq h
                exact xd_58 h
              · obtain ⟨rfl, h⟩ := xj_beq h
                exact xd_59 h
  · rcases xj_blt h with ⟨-, h⟩ | ⟨-, h⟩
    · rcases xj_blt h with ⟨-, h⟩ | ⟨-, h⟩
      · rcases xj_blt h with ⟨-, h⟩ | ⟨-, h⟩
        · rcases xj_blt h with ⟨-, h⟩ | ⟨-, h⟩
          · rcases xj_blt h with ⟨-, h⟩ | ⟨-, h⟩
            · obtain ⟨rfl, h⟩ := xj_beq h
              exact xd_60 h
            · rcases xj_blt h with ⟨-, h⟩ | ⟨-, h⟩
              · obtain ⟨rfl, h⟩ := xj_beq h
                exact xd_61 h
              · obtain ⟨rfl, h⟩ := xj_beq h
                exact xd_62 h
          · rcases xj_blt h with ⟨-, h⟩ | ⟨-, h⟩
            · rcases xj_blt h with ⟨-, h⟩ | ⟨-, h⟩
              · obtain ⟨rfl, h⟩ := xj_beq h
                exact xd_63 h
              · obtain ⟨rfl, h⟩ := xj_beq h
                exact xd_64 h
            · rcases xj_blt h with ⟨-, h⟩ | ⟨-, h⟩
              · obtain ⟨rfl, h⟩ := xj_beq h
                exact xd_65 h
              · obtain ⟨rfl, h⟩ := xj_beq h
                exact xd_66 h
        · rcases xj_blt h with ⟨-, h⟩ | ⟨-, h⟩
          · rcases xj_blt h with ⟨-, h⟩ | ⟨-, h⟩
            · rcases xj_blt h with ⟨-, h⟩ | ⟨-, h⟩
              · obtain ⟨rfl, h⟩ := xj_beq h
                exact xd_67 h
              · obtain ⟨rfl, h⟩ := xj_beq h
                exact xd_68 h
            · rcases xj_blt h with ⟨-, h⟩ | ⟨-, h⟩
              · obtain ⟨rfl, h⟩ := xj_beq h
                exact xd_69 h
              · obtain ⟨rfl, h⟩ := xj_beq h
                exact xd_70 h
          · rcases xj_blt h with ⟨-, h⟩ | ⟨-, h⟩
            · rcases xj_blt h with ⟨-, h⟩ | ⟨-, h⟩
              · obtain ⟨rfl, h⟩ := xj_beq h
                exact xd_71 h
              · obtain ⟨rfl, h⟩ := xj_beq h
                exact xd_72 h
            · rcases xj_blt h with ⟨-, h⟩ | ⟨-, h⟩
              · obtain ⟨rfl, h⟩ := xj_beq h
                exact xd_73 h
              · obtain ⟨rfl, h⟩ := xj_beq h
                exact xd_74 h
      · rcases xj_blt h with ⟨-, h⟩ | ⟨-, h⟩
        · rcases xj_blt h with ⟨-, h⟩ | ⟨-, h⟩
          · rcases xj_blt h with ⟨-, h⟩ | ⟨-, h⟩
            · obtain ⟨rfl, h⟩ := xj_beq h
              exact xd_75 h
            · rcases xj_blt h with ⟨-, h⟩ | ⟨-, h⟩
              · obtain ⟨rfl, h⟩ := xj_beq h
                exact xd_76 h
              · obtain ⟨rfl, h⟩ := xj_beq h
                exact xd_77 h
          · rcases xj_blt h with ⟨-, h⟩ | ⟨-, h⟩
            · rcases xj_blt h with ⟨-, h⟩ | ⟨-, h⟩
              · obtain ⟨rfl, h⟩ := xj_beq h
                exact xd_78 h
              · obtain ⟨rfl, h⟩ := xj_beq h
                exact xd_79 h
            · rcases xj_blt h with ⟨-, h⟩ | ⟨-, h⟩
              · obtain ⟨rfl, h⟩ := xj_beq h
                exact xd_80 h
              · obtain ⟨rfl, h⟩ := xj_beq h
                exact xd_81 h
        · rcases xj_blt h with ⟨-, h⟩ | ⟨-, h⟩
          · rcases xj_blt h with ⟨-, h⟩ | ⟨-, h⟩
            · rcases xj_blt h with ⟨-, h⟩ | ⟨-, h⟩
              · obtain ⟨rfl, h⟩ := xj_beq h
                exact xd_82 h
              · obtain ⟨rfl, h⟩ := xj_beq h
                exact xd_83 h
            · rcases xj_blt h with ⟨-, h⟩ | ⟨-, h⟩
              · obtain ⟨rfl, h⟩ := xj_beq h
                exact xd_84 h
              · obtain ⟨rfl, h⟩ := xj_beq h
                exact xd_85 h
          · rcases xj_blt h with ⟨-, h⟩ | ⟨-, h⟩
            · rcases xj_blt h with ⟨-, h⟩ | ⟨-, h⟩
              · obtain ⟨rfl, h⟩ := xj_beq h
                exact xd_86 h
              · obtain ⟨rfl, h⟩ := xj_beq h
                exact xd_87 h
            · rcases xj_blt h with ⟨-, h⟩ | ⟨-, h⟩
              · obtain ⟨rfl, h⟩ := xj_beq h
                exact xd_88 h
              · obtain ⟨rfl, h⟩ := xj_beq h
                exact xd_89 h
    · rcases xj_blt h with ⟨-, h⟩ | ⟨-, h⟩
      · rcases xj_blt h with ⟨-, h⟩ | ⟨-, h⟩
        · rcases xj_blt h with ⟨-, h⟩ | ⟨-, h⟩
          · rcases xj_blt h with ⟨-, h⟩ | ⟨-, h⟩
            · obtain ⟨rfl, h⟩ := xj_beq h
              exact xd_90 h
            · rcases xj_blt h with ⟨-, h⟩ | ⟨-, h⟩
              · obtain ⟨rfl, h⟩ := xj_beq h
                exact xd_91 h
              · obtain ⟨rfl, h⟩ := xj_beq h
                exact xd_92 h
          · rcases xj_blt h with ⟨-, h⟩ | ⟨-, h⟩
            · rcases xj_blt h with ⟨-, h⟩ | ⟨-, h⟩
              · obtain ⟨rfl, h⟩ := xj_beq h
                exact xd_93 h
              · obtain ⟨rfl, h⟩ := xj_beq h
                exact xd_94 h
            · rcases xj_blt h with ⟨-, h⟩ | ⟨-, h⟩
              · obtain ⟨rfl, h⟩ := xj_beq h
                exact xd_95 h
              · obtain ⟨rfl, h⟩ := xj_beq h
                exact xd_96 h
        · rcases xj_blt h with ⟨-, h⟩ | ⟨-, h⟩
          · rcases xj_blt h with ⟨-, h⟩ | ⟨-, h⟩
            · rcases xj_blt h with ⟨-, h⟩ | ⟨-, h⟩
              · obtain ⟨rfl, h⟩ := xj_beq h
                exact xd_97 h
              · obtain ⟨rfl, h⟩ := xj_beq h
                exact xd_98 h
            · rcases xj_blt h with ⟨-, h⟩ | ⟨-, h⟩
              · obtain ⟨rfl, h⟩ := xj_beq h
                exact xd_99 h
              · obtain ⟨rfl, h⟩ := xj_beq h
                exact xd_100 h
          · rcases xj_blt h with ⟨-, h⟩ | ⟨-, h⟩
            · rcases xj_blt h with ⟨-, h⟩ | ⟨-, h⟩
              · obtain ⟨rfl, h⟩ := xj_beq h
                exact xd_101 h
              · obtain ⟨rfl, h⟩ := xj_beq h
                exact xd_102 h
            · rcases xj_blt h with ⟨-, h⟩ | ⟨-, h⟩
              · obtain ⟨rfl, h⟩ := xj_beq h
                exact xd_103 h
              · obtain ⟨rfl, h⟩ := xj_beq h
                exact xd_104 h
      · rcases xj_blt h with ⟨-, h⟩ | ⟨-, h⟩
        · rcases xj_blt h with ⟨-, h⟩ | ⟨-, h⟩
          · rcases xj_blt h with ⟨-, h⟩ | ⟨-, h⟩
            · rcases xj_blt h with ⟨-, h⟩ | ⟨-, h⟩
              · obtain ⟨rfl, h⟩ := xj_beq h
                exact xd_105 h
              · obtain ⟨rfl, h⟩ := xj_beq h
                exact xd_106 h
            · rcases xj_blt h with ⟨-, h⟩ | ⟨-, h⟩
              · obtain ⟨rfl, h⟩ := xj_beq h
                exact xd_107 h
              · obtain ⟨rfl, h⟩ := xj_beq h
                exact xd_108 h
          · rcases xj_blt h with ⟨-, h⟩ | ⟨-, h⟩
            · rcases xj_blt h with ⟨-, h⟩ | ⟨-, h⟩
              · obtain ⟨rfl, h⟩ := xj_beq h
                exact xd_109 h
              · obtain ⟨rfl, h⟩ := xj_beq h
                exact xd_110 h
            · rcases xj_blt h with ⟨-, h⟩ | ⟨-, h⟩
              · obtain ⟨rfl, h⟩ := xj_beq h
                exact xd_111 h
              · obtain ⟨rfl, h⟩ := xj_beq h
                exact xd_112 h
        · rcases xj_blt h with ⟨-, h⟩ | ⟨-, h⟩
          · rcases xj_blt h with ⟨-, h⟩ | ⟨-, h⟩
            · rcases xj_blt h with ⟨-, h⟩ | ⟨-, h⟩
              · obtain ⟨rfl, h⟩ := xj_beq h
                exact xd_113 h
              · obtain ⟨rfl, h⟩ := xj_beq h
                exact xd_114 h
            · rcases xj_blt h with ⟨-, h⟩ | ⟨-, h⟩
              · obtain ⟨rfl, h⟩ := xj_beq h
                exact xd_115 h
              · obtain ⟨rfl, h⟩ := xj_beq h
                exact xd_116 h
          · rcases xj_blt h with ⟨-, h⟩ | ⟨-, h⟩
            · rcases xj_blt h with ⟨-, h⟩ | ⟨-, h⟩
              · obtain ⟨rfl, h⟩ := xj_beq h
                exact xd_117 h
              · obtain ⟨rfl, h⟩ := xj_beq h
                exact xd_118 h
            · rcases xj_blt h with ⟨-, h⟩ | ⟨-, h⟩
              · obtain ⟨rfl, h⟩ := xj_beq h
                exact xd_119 h
              · obtain ⟨rfl, h⟩ := xj_beq h
                exact xd_120 h
theorem xgt : ∀ mi pc e, xth mi pc = some e → xj_GT xyN xbt xhh xcm xwk xsl xex mi pc e := by
  intro mi pc e h
  unfold xth at h
  rcases xj_blt h with ⟨-, h⟩ | ⟨-, h⟩
  · rcases xj_blt h with ⟨-, h⟩ | ⟨-, h⟩
    · rcases xj_blt h with ⟨-, h⟩ | ⟨-, h⟩
      · obtain ⟨rfl, h⟩ := xj_beq h
        rcases xj_blt h with ⟨-, h⟩ | ⟨-, h⟩
        · obtain ⟨rfl, h⟩ := xj_beq h
          cases h
          exact xg_28_22
        · obtain ⟨rfl, h⟩ := xj_beq h
          cases h
          exact xg_28_85
      · obtain ⟨rfl, h⟩ := xj_beq h
        rcases xj_blt h with ⟨-, h⟩ | ⟨-, h⟩
        · obtain ⟨rfl, h⟩ := xj_beq h
          cases h
          exact xg_29_22
        · obtain ⟨rfl, h⟩ := xj_beq h
          cases h
          exact xg_29_44
    · rcases xj_blt h with ⟨-, h⟩ | ⟨-, h⟩
      · obtain ⟨rfl, h⟩ := xj_beq h
        rcases xj_blt h with ⟨-, h⟩ | ⟨-, h⟩
        · obtain ⟨rfl, h⟩ := xj_beq h
          cases h
          exact xg_30_21
        · obtain ⟨rfl, h⟩ := xj_beq h
          cases h
          exact xg_30_55
      · obtain ⟨rfl, h⟩ := xj_beq h
        rcases xj_blt h with ⟨-, h⟩ | ⟨-, h⟩
        · obtain ⟨rfl, h⟩ := xj_beq h
          cases h
          exact xg_31_10
        · obtain ⟨rfl, h⟩ := xj_beq h
          cases h
          exact xg_31_47
  · rcases xj_blt h with ⟨-, h⟩ | ⟨-, h⟩
    · rcases xj_blt h with ⟨-, h⟩ | ⟨-, h⟩
      · obtain ⟨rfl, h⟩ := xj_beq h
        rcases xj_blt h with ⟨-, h⟩ | ⟨-, h⟩
        · obtain ⟨rfl, h⟩ := xj_beq h
          cases h
          exact xg_32_10
        · obtain ⟨rfl, h⟩ := xj_beq h
          cases h
          exact xg_32_31
      · obtain ⟨rfl, h⟩ := xj_beq h
        rcases xj_blt h with ⟨-, h⟩ | ⟨-, h⟩
        · obtain ⟨rfl, h⟩ := xj_beq h
          cases h
          exact xg_33_11
        · rcases xj_blt h with ⟨-, h⟩ | ⟨-, h⟩
          · obtain ⟨rfl, h⟩ := xj_beq h
            cases h
            exact xg_33_28
          · obtain ⟨rfl, h⟩ := xj_beq h
            cases h
            exact xg_33_47
    · rcases xj_blt h with ⟨-, h⟩ | ⟨-, h⟩
      · obtain ⟨rfl, h⟩ := xj_beq h
        obtain ⟨rfl, h⟩ := xj_beq h
        cases h
        exact xg_34_7
      · obtain ⟨rfl, h⟩ := xj_beq h
        obtain ⟨rfl, h⟩ := xj_beq h
        cases h
        exact xg_48_96
theorem xgh : ∀ mi pc e hp, xca mi pc e = some (some hp) → xj_GH xyN xhh xcm xwk xnc (xex e).1 mi pc hp := by
  intro mi pc e hp h
  unfold xca at h
  rcases xj_blt h with ⟨-, h⟩ | ⟨-, h⟩
  · cases h
  · rcases xj_blt h with ⟨-, h⟩ | ⟨-, h⟩
    · rcases xj_blt h with ⟨-, h⟩ | ⟨-, h⟩
      · obtain ⟨rfl, h⟩ := xj_beq h
        obtain ⟨rfl, h⟩ := xj_beq h
        rcases xj_blt h with ⟨-, h⟩ | ⟨-, h⟩
        · obtain ⟨rfl, h⟩ := xj_beq h
          cases h
          exact xh_114_0
        · obtain ⟨rfl, h⟩ := xj_beq h
          cases h
          exact xh_114_1
      · rcases xj_blt h with ⟨-, h⟩ | ⟨-, h⟩
        · obtain ⟨rfl, h⟩ := xj_beq h
          obtain ⟨rfl, h⟩ := xj_beq h
          rcases xj_blt h with ⟨-, h⟩ | ⟨-, h⟩
          · obtain ⟨rfl, h⟩ := xj_beq h
            cases h
            exact xh_115_0
          · obtain ⟨rfl, h⟩ := xj_beq h
            cases h
            exact xh_115_1
        · obtain ⟨rfl, h⟩ := xj_beq h
          obtain ⟨rfl, h⟩ := xj_beq h
          rcases xj_blt h with ⟨-, h⟩ | ⟨-, h⟩
          · obtain ⟨rfl, h⟩ := xj_beq h
            cases h
            exact xh_116_0
          · obtain ⟨rfl, h⟩ := xj_beq h
            cases h
            exact xh_116_1
    · rcases xj_blt h with ⟨-, h⟩ | ⟨-, h⟩
      · rcases xj_blt h with ⟨-, h⟩ | ⟨-, h⟩
        · obtain ⟨rfl, h⟩ := xj_beq h
          obtain ⟨rfl, h⟩ := xj_beq h
          rcases xj_blt h with ⟨-, h⟩ | ⟨-, h⟩
          · obtain ⟨rfl, h⟩ := xj_beq h
            cases h
            exact xh_117_0
          · obtain ⟨rfl, h⟩ := xj_beq h
            cases h
            exact xh_117_1
        · obtain ⟨rfl, h⟩ := xj_beq h
          obtain ⟨rfl, h⟩ := xj_beq h
          rcases xj_blt h with ⟨-, h⟩ | ⟨-, h⟩
          · obtain ⟨rfl, h⟩ := xj_beq h
            cases h
            exact xh_118_0
          · rcases xj_blt h with ⟨-, h⟩ | ⟨-, h⟩
            · obtain ⟨rfl, h⟩ := xj_beq h
              cases h
              exact xh_118_1
            · obtain ⟨rfl, h⟩ := xj_beq h
              cases h
              exact xh_118_2
      · rcases xj_blt h with ⟨-, h⟩ | ⟨-, h⟩
        · obtain ⟨rfl, h⟩ := xj_beq h
          obtain ⟨rfl, h⟩ := xj_beq h
          rcases xj_blt h with ⟨-, h⟩ | ⟨-, h⟩
          · rcases xj_blt h with ⟨-, h⟩ | ⟨-, h⟩
            · obtain ⟨rfl, h⟩ := xj_beq h
              cases h
              exact xh_119_0
            · obtain ⟨rfl, h⟩ := xj_beq h
              cases h
              exact xh_119_1
          · rcases xj_blt h with ⟨-, h⟩ | ⟨-, h⟩
            · obtain ⟨rfl, h⟩ := xj_beq h
              cases h
              exact xh_119_2
            · obtain ⟨rfl, h⟩ := xj_beq h
              cases h
              exact xh_119_3
        · obtain ⟨rfl, h⟩ := xj_beq h
          obtain ⟨rfl, h⟩ := xj_beq h
          rcases xj_blt h with ⟨-, h⟩ | ⟨-, h⟩
          · obtain ⟨rfl, h⟩ := xj_beq h
            cases h
            exact xh_120_1
          · obtain ⟨rfl, h⟩ := xj_beq h
            cases h
            exact xh_120_2
theorem xgp : ∀ mi pc e, xca mi pc e = some none → xhh mi = [] := by
  intro mi pc e h
  unfold xca at h
  rcases xj_blt h with ⟨hl, -⟩ | ⟨-, h⟩
  · unfold xhh
    have : Nat.blt mi 114 = true := Nat.ble_eq_true_of_le hl
    rw [this]
    rfl
  · exfalso
    rcases xj_blt h with ⟨-, h⟩ | ⟨-, h⟩
    · rcases xj_blt h with ⟨-, h⟩ | ⟨-, h⟩
      · obtain ⟨rfl, h⟩ := xj_beq h
        obtain ⟨rfl, h⟩ := xj_beq h
        rcases xj_blt h with ⟨-, h⟩ | ⟨-, h⟩
        · obtain ⟨rfl, h⟩ := xj_beq h
          cases h
        · obtain ⟨rfl, h⟩ := xj_beq h
          cases h
      · rcases xj_blt h with ⟨-, h⟩ | ⟨-, h⟩
        · obtain ⟨rfl, h⟩ := xj_beq h
          obtain ⟨rfl, h⟩ := xj_beq h
          rcases xj_blt h with ⟨-, h⟩ | ⟨-, h⟩
          · obtain ⟨rfl, h⟩ := xj_beq h
            cases h
          · obtain ⟨rfl, h⟩ := xj_beq h
            cases h
        · obtain ⟨rfl, h⟩ := xj_beq h
          obtain ⟨rfl, h⟩ := xj_beq h
          rcases xj_blt h with ⟨-, h⟩ | ⟨-, h⟩
          · obtain ⟨rfl, h⟩ := xj_beq h
            cases h
          · obtain ⟨rfl, h⟩ := xj_beq h
            cases h
    · rcases xj_blt h with ⟨-, h⟩ | ⟨-, h⟩
      · rcases xj_blt h with ⟨-, h⟩ | ⟨-, h⟩
        · obtain ⟨rfl, h⟩ := xj_beq h
          obtain ⟨rfl, h⟩ := xj_beq h
          rcases xj_blt h with ⟨-, h⟩ | ⟨-, h⟩
          · obtain ⟨rfl, h⟩ := xj_beq h
            cases h
          · obtain ⟨rfl, h⟩ := xj_beq h
            cases h
        · obtain ⟨rfl, h⟩ := xj_beq h
          obtain ⟨rfl, h⟩ := xj_beq h
          rcases xj_blt h with ⟨-, h⟩ | ⟨-, h⟩
          · obtain ⟨rfl, h⟩ := xj_beq h
            cases h
          · rcases xj_blt h with ⟨-, h⟩ | ⟨-, h⟩
            · obtain ⟨rfl, h⟩ := xj_beq h
              cases h
            · obtain ⟨rfl, h⟩ := xj_beq h
              cases h
      · rcases xj_blt h with ⟨-, h⟩ | ⟨-, h⟩
        · obtain ⟨rfl, h⟩ := xj_beq h
          obtain ⟨rfl, h⟩ := xj_beq h
          rcases xj_blt h with ⟨-, h⟩ | ⟨-, h⟩
          · rcases xj_blt h with ⟨-, h⟩ | ⟨-, h⟩
            · obtain ⟨rfl, h⟩ := xj_beq h
              cases h
            · obtain ⟨rfl, h⟩ := xj_beq h
              cases h
          · rcases xj_blt h with ⟨-, h⟩ | ⟨-, h⟩
            · obtain ⟨rfl, h⟩ := xj_beq h
              cases h
            · obtain ⟨rfl, h⟩ := xj_beq h
              cases h
        · obtain ⟨rfl, h⟩ := xj_beq h
          obtain ⟨rfl, h⟩ := xj_beq h
          rcases xj_blt h with ⟨-, h⟩ | ⟨-, h⟩
          · obtain ⟨rfl, h⟩ := xj_beq h
            cases h
          · obtain ⟨rfl, h⟩ := xj_beq h
            cases h
theorem xgf : ∀ mi ix ci k so, xfl mi ix = some (ci, k, so) → ∃ (C : String) (T : u_T) (N : Nat) (ty0 : Nat → FieldType), xcl[ci]? = some (C, T, N) ∧ (∀ w ∈ u_ws C T N, w ∈ xcm) ∧ (∀ k, k < N → parseFieldDescriptor (T k).2.2.1 = some (ty0 k)) ∧ (∀ a, a < N → ∀ b, b < N → a ≠ b → (T a).2.1 ≠ (T b).2.1) ∧ k < N ∧
    Jvm.Cond.fieldLink (xyN mi).cls ix (T k).1 (T k).2.1 (T k).2.2.1 ∈ xcm ∧
    (so = 0 → ty0 k = .int ∧ (T k).2.2.2 = false) ∧ (so = 1 → ty0 k = .boolean ∧ (T k).2.2.2 = false) ∧ (so = 2 → ((∃ t, ty0 k = .array t) ∨ ∃ n, ty0 k = .object n) ∧ (T k).2.2.2 = true ∧ (T k).1 = (xyN mi).cls ∧ (xyN mi).name = "<init>") := by
  intro mi ix ci k so h
  unfold xfl at h
  have key : ∀ o i own, xow mi = o → xin mi = i → o ≠ 9 → xcn o = own → (xfT o i).all (xj_flk own i) = true → (xfT o i).lookup ix = some (ci, k, so) → ∃ (C : String) (T : u_T) (N : Nat) (ty0 : Nat → FieldType), xcl[ci]? = some (C, T, N) ∧ (∀ w ∈ u_ws C T N, w ∈ xcm) ∧ (∀ k, k < N → parseFieldDescriptor (T k).2.2.1 = some (ty0 k)) ∧ (∀ a, a < N → ∀ b, b < N → a ≠ b → (T a).2.1 ≠ (T b).2.1) ∧ k < N ∧
    Jvm.Cond.fieldLink (xyN mi).cls ix (T k).1 (T k).2.1 (T k).2.2.1 ∈ xcm ∧
    (so = 0 → ty0 k = .int ∧ (T k).2.2.2 = false) ∧ (so = 1 → ty0 k = .boolean ∧ (T k).2.2.2 = false) ∧ (so = 2 → ((∃ t, ty0 k = .array t) ∨ ∃ n, ty0 k = .object n) ∧ (T k).2.2.2 = true ∧ (T k).1 = (xyN mi).cls ∧ (xyN mi).name = "<init>") := by
    intro o i own ho hi h9 hn hall hl
    have hc : (xyN mi).cls = own := by rw [xcls (by rw [ho]; exact h9), ho, hn]
    obtain ⟨C, T, N, ty0, a1, a2, a3, a4, a5, a6, a7, a8, a9⟩ := xj_flk_ok hall hl
    refine ⟨C, T, N, ty0, a1, a2, a3, a4, a5, by rw [hc]; exact a6, a7, a8, fun e => ?_⟩
    obtain ⟨b1, b2, b3, b4⟩ := a9 e
    exact ⟨b1, b2, by rw [hc]; exact b3, (xcls0 mi (xlt (by rw [ho]; exact h9))).2 (hi.trans b4)⟩
  cases hi : xin mi with
  | false =>
    rw [hi] at h
    match ho : xow mi with
    | 0 => rw [ho] at h; cases h
    | 1 => rw [ho] at h; cases h
    | 2 => rw [ho] at h; exact key 2 false "CaseDesk$Life" ho hi (by decide) rfl xF2n_ok h
    | 3 => rw [ho] at h; exact key 3 false "CaseDesk$Plan" ho hi (by decide) rfl xF3n_ok h
    | 4 => rw [ho] at h; exact key 4 false "CaseDesk" ho hi (by decide) rfl xF4n_ok h
    | 5 => rw [ho] at h; exact key 5 false "CaseDeskModel" ho hi (by decide) rfl xF5n_ok h
    | 6 => rw [ho] at h; cases h
    | 7 => rw [ho] at h; cases h
    | 8 => rw [ho] at h; cases h
    | 9 => rw [ho] at h; cases h
    | n + 10 => rw [ho] at h; cases h
  | true =>
    rw [hi] at h
    match ho : xow mi with
    | 0 => rw [ho] at h; cases h
    | 1 => rw [ho] at h; cases h
    | 2 => rw [ho] at h; exact key 2 true "CaseDesk$Life" ho hi (by decide) rfl xF2i_ok h
    | 3 => rw [ho] at h; exact key 3 true "CaseDesk$Plan" ho hi (by decide) rfl xF3i_ok h
    | 4 => rw [ho] at h; exact key 4 true "CaseDesk" ho hi (by decide) rfl xF4i_ok h
    | 5 => rw [ho] at h; exact key 5 true "CaseDeskModel" ho hi (by decide) rfl xF5i_ok h
    | 6 => rw [ho] at h; cases h
    | 7 => rw [ho] at h; cases h
    | 8 => rw [ho] at h; cases h
    | 9 => rw [ho] at h; cases h
    | n + 10 => rw [ho] at h; cases h
theorem xgm0 : ∀ mi ix kd y k, xml mi ix = some (kd, y, k) → xow mi ≠ 9 ∧ xGMb (xyN mi).cls (ix, kd, y, k) = true := by
  intro mi ix kd y k h
  unfold xml at h
  have key : ∀ o own, xow mi = o → o ≠ 9 → xcn o = own → (xmT o).all (xGMb own) = true → (xmT o).lookup ix = some (kd, y, k) → xow mi ≠ 9 ∧ xGMb (xyN mi).cls (ix, kd, y, k) = true := by
    intro o own ho h9 hn hall hl
    have h8 : xow mi ≠ 9 := by rw [ho]; exact h9
    have hc : (xyN mi).cls = own := by rw [xcls h8, ho, hn]
    refine ⟨h8, ?_⟩
    rw [hc]
    exact List.all_eq_true.mp hall _ (xj_lku hl)
  match ho : xow mi with
  | 0 => rw [ho] at h; exact key 0 "CaseDeskLaw" ho (by decide) rfl xM0_ok h
  | 1 => rw [ho] at h; exact key 1 "java/lang/Math" ho (by decide) rfl xM1_ok h
  | 2 => rw [ho] at h; exact key 2 "CaseDesk$Life" ho (by decide) rfl xM2_ok h
  | 3 => rw [ho] at h; exact key 3 "CaseDesk$Plan" ho (by decide) rfl xM3_ok h
  | 4 => rw [ho] at h; exact key 4 "CaseDesk" ho (by decide) rfl xM4_ok h
  | 5 => rw [ho] at h; exact key 5 "CaseDeskModel" ho (by decide) rfl xM5_ok h
  | 6 => rw [ho] at h; cases h
  | 7 => rw [ho] at h; cases h
  | 8 => rw [ho] at h; cases h
  | 9 => rw [ho] at h; cases h
  | n + 10 => rw [ho] at h; cases h
theorem xgn : ∀ (L : Nat) (xs : Nat → Int32) mi ix ci fs, xnw mi ix = some (ci, fs) → xj_GN (xX L xs) xyN xcm xcl mi ix ci fs := by
  intro L xs mi ix ci fs h
  unfold xnw at h
  have hc : xow mi ≠ 9 → (xyN mi).cls = xcn (xow mi) := xcls
  match ho : xow mi with
  | 0 =>
    rw [ho] at h
    have ho9 : (xyN mi).cls = "CaseDeskLaw" := by rw [hc (by rw [ho]; decide), ho]; rfl
    have hm := xj_lku h
    simp only [xnT, xN0, List.mem_cons, List.not_mem_nil, or_false, Prod.mk.injEq] at hm
    rcases hm with ⟨rfl, rfl, rfl⟩ | ⟨rfl, rfl, rfl⟩
    · exact xn_0_8 ho9
    · exact xn_0_44 ho9
  | 1 => rw [ho] at h; cases h
  | 2 => rw [ho] at h; cases h
  | 3 => rw [ho] at h; cases h
  | 4 =>
    rw [ho] at h
    have ho9 : (xyN mi).cls = "CaseDesk" := by rw [hc (by rw [ho]; decide), ho]; rfl
    have hm := xj_lku h
    simp only [xnT, xN4, List.mem_cons, List.not_mem_nil, or_false, Prod.mk.injEq] at hm
    rcases hm with ⟨rfl, rfl, rfl⟩ | ⟨rfl, rfl, rfl⟩
    · exact xn_4_7 ho9
    · exact xn_4_16 ho9
  | 5 => rw [ho] at h; cases h
  | 6 => rw [ho] at h; cases h
  | 7 => rw [ho] at h; cases h
  | 8 => rw [ho] at h; cases h
  | 9 => rw [ho] at h; cases h
  | n + 10 => rw [ho] at h; cases h
theorem xgs_ok : ∀ mi ix a, xgs mi ix = some a → a = 1001 ∧ ∃ host, Jvm.Cond.fieldLinkNest (xyN mi).cls ix "CaseDesk" "STATE_AFTER" "[I" host ∈ xwk := by
  intro mi ix a h
  unfold xgs at h
  obtain ⟨ho, h⟩ := xj_beq h
  obtain ⟨rfl, h⟩ := xj_beq h
  cases h
  refine ⟨rfl, "CaseDesk", ?_⟩
  rw [xcls (by rw [ho]; decide), ho]
  decide +kernel
theorem xgv_ok (L : Nat) (xs : Nat → Int32) : ∀ a n f, xgv L xs a = some (n, f) → 1000 ≤ a ∧ a < 2000 := by
  intro a n f h
  unfold xgv at h
  cases hb : Nat.beq a 1000 with
  | true => have := Nat.eq_of_beq_eq_true hb; omega
  | false =>
    rw [hb] at h
    obtain ⟨rfl, -⟩ := xj_beq (show cond (Nat.beq a 1001) (some (10, xst)) none = some (n, f) from h)
    omega
theorem xGl (L : Nat) (xs : Nat → Int32) : xj_Gl (xX L xs) xyN xbt xmx xhh xcm xwk xcl xsl xnc xex := by
  refine ⟨xcm_good, xwk_ok, xgc, xgf, fun mi ix a b h => xGMb_9 (xgm0 mi ix 9 a b h).2, fun mi ix a b h => xGMb_8 (xgm0 mi ix 8 a b h).2, xgs_ok, xgv_ok L xs, fun mi ix kd y k h hk => xGMb_ok (xgm0 mi ix kd y k h).2 hk rfl, xgn L xs, ⟨by decide +kernel, by decide +kernel, by decide +kernel⟩, xgt, xgp, xgh⟩
