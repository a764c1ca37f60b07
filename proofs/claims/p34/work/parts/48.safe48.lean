/-! SAFETY of the class's methods, printed by wip/tools/vc.py -/
theorem fX7_readEither_8_s {R : xMem} {a0 : Nat} {a1 : Nat} (ha0 : a0 ∈ pReader) (ha1 : a1 ∈ pText) : ∀ (fuel : Nat), ∀ (l2 : Int32) (l3 : Int32) (m : xMem), ((0 ≤ l2.toInt ∧ l2.toInt ≤ 1) ∧ (0 ≤ l3.toInt ∧ l3.toInt ≤ 300)) → IC R m → 2147483648 - l3.toInt < (fuel : Int) → vOk (PM (IC R) (fun x : Int32 => (0 ≤ x.toInt ∧ x.toInt ≤ 1))) (fX7_readEither_8 a0 a1 fuel l2 l3 m) := by
  intro fuel
  induction fuel with
  | zero =>
    intro l2 l3 m hp hI hmu
    have tl2 := tiB l2
    have tl3 := tiB l3
    exfalso; omega
  | succ fuel ih =>
    intro l2 l3 m hp hI hmu
    have tl2 := tiB l2
    have tl3 := tiB l3
    have c0 : (0 : Int32).toInt = 0 := rfl
    have c1 : (1 : Int32).toInt = 1 := rfl
    have c23 : (23 : Int32).toInt = 23 := rfl
    have c300 : (300 : Int32).toInt = 300 := rfl
    rw [fX7_readEither_8]
    refine vLe (fun h1 => ?_) (fun h2 => ?_)
    · unfold fX7_readEither_57
      refine vB (by omega) ?_
      refine rM hI ?_
      first | exact True.intro | omega
    · refine vEq (fun h3 => ?_) (fun h4 => ?_)
      · unfold fX7_readEither_57
        refine vB (by omega) ?_
        refine rM hI ?_
        first | exact True.intro | omega
      · refine vBindP (fX7_kind_s ha0 hI) fun v5 ev5 qv5 => ?_
        try dsimp only
        have fv5 := tiB v5
        refine vNe (fun h6 => ?_) (fun h7 => ?_)
        · unfold fX7_readEither_57
          refine vB (by omega) ?_
          refine rM hI ?_
          first | exact True.intro | omega
        · refine vR fun v8 ev8 => ?_
          have fv8 := tiB v8
          refine vI fun v9 ev9 fv9 => ?_
          refine vR fun m10 em10 => ?_
          have hm10 : IC R m10 := by rw [em10]; exact IC_put hI (qReader_ok8 _ ha0)
          refine vBindM (fX7_readBoth_s ha0 ha1 hm10) fun v11 m12 hm12 qv11 => ?_
          try dsimp only
          have fv11 := tiB v11
          refine vOk_bind (fX10_add_s ha1 hm12) fun m13 hm13 => ?_
          refine vA (by omega) fun v14 ev14 fv14 => ?_
          exact ih _ _ _ (by omega) hm13 (by omega)
theorem fX7_readEither_s {R : xMem} {a0 : Nat} {a1 : Nat} {m : xMem} (ha0 : a0 ∈ pReader) (ha1 : a1 ∈ pText) (hI : IC R m) : vOk (PM (IC R) (fun x : Int32 => (0 ≤ x.toInt ∧ x.toInt ≤ 1))) (fX7_readEither a0 a1 m) := by
  have c0 : (0 : Int32).toInt = 0 := rfl
  unfold fX7_readEither
  unfold fX7_readEither_0
  refine vBindM (fX7_readBoth_s ha0 ha1 hI) fun v1 m2 hm2 qv1 => ?_
  try dsimp only
  have fv1 := tiB v1
  have cF := xFu
  exact fX7_readEither_8_s ha0 ha1 _ _ _ _ (by omega) hm2 (by omega)
theorem fX10_close_s {R : xMem} {a0 : Nat} {m : xMem} (ha0 : a0 ∈ pText) (hI : IC R m) : vOk (IC R) (fX10_close a0 m) := by
  have c0 : (0 : Int32).toInt = 0 := rfl
  have c1 : (1 : Int32).toInt = 1 := rfl
  have c10 : (10 : Int32).toInt = 10 := rfl
  unfold fX10_close
  unfold fX10_close_0
  refine vR fun v1 ev1 => ?_
  have fv1 := tiB v1
  refine vLe (fun h2 => ?_) (fun h3 => ?_)
  · unfold fX10_close_34
    exact vOk_some hI
  · refine vAl (ev1) ?_
    refine vLt (fun h4 => ?_) (fun h5 => ?_)
    · unfold fX10_close_34
      exact vOk_some hI
    · refine vAl (ev1) ?_
      refine vS (by omega) fun v6 ev6 fv6 => ?_
      refine vR fun v7 ev7 => ?_
      have fv7 := tiB v7
      refine vIn (by omega) (by omega) fun n8 => ?_
      refine vR fun m9 em9 => ?_
      have hm9 : IC R m9 := by rw [em9]; exact IC_arr hI (qText_4_inArr _ ha0)
      unfold fX10_close_34
      exact vOk_some hm9
theorem fX7_readClause_s {R : xMem} {a0 : Nat} {a1 : Nat} {m : xMem} (ha0 : a0 ∈ pReader) (ha1 : a1 ∈ pText) (hI : IC R m) : vOk (PM (IC R) (fun x : Int32 => (0 ≤ x.toInt ∧ x.toInt ≤ 1))) (fX7_readClause a0 a1 m) := by
  have c0 : (0 : Int32).toInt = 0 := rfl
  have c1 : (1 : Int32).toInt = 1 := rfl
  have c2 : (2 : Int32).toInt = 2 := rfl
  have c4 : (4 : Int32).toInt = 4 := rfl
  have c6 : (6 : Int32).toInt = 6 := rfl
  have c10 : (10 : Int32).toInt = 10 := rfl
  have c15 : (15 : Int32).toInt = 15 := rfl
  have c20 : (20 : Int32).toInt = 20 := rfl
  unfold fX7_readClause
  unfold fX7_readClause_0
  refine vBindP (fX7_kind_s ha0 hI) fun v1 ev1 qv1 => ?_
  try dsimp only
  have fv1 := tiB v1
  refine vI fun v2 ev2 fv2 => ?_
  refine vR fun m3 em3 => ?_
  have hm3 : IC R m3 := by rw [em3]; exact IC_put hI (qReader_ok9 _ ha0)
  refine vAl (xP_eqE em3) ?_
  refine vEq (fun h4 => ?_) (fun h5 => ?_)
  · unfold fX7_readClause_40
    refine vAl (xP_eqE em3) ?_
    refine vNe (fun h6 => ?_) (fun h7 => ?_)
    · exfalso; omega
    · refine vBindP (fX10_has_s ha1 hm3) fun v8 ev8 qv8 => ?_
      try dsimp only
      have fv8 := tiB v8
      refine vEq (fun h9 => ?_) (fun h10 => ?_)
      · unfold fX7_readClause_61
        refine vR fun v11 ev11 => ?_
        have fv11 := tiB v11
        refine vLt (fun h12 => ?_) (fun h13 => ?_)
        · refine vR fun v14 ev14 => ?_
          have fv14 := tiB v14
          refine vI fun v15 ev15 fv15 => ?_
          refine vR fun m16 em16 => ?_
          have hm16 : IC R m16 := by rw [em16]; exact IC_put hm3 (qReader_ok8 _ ha0)
          refine vAl ((xP_eqE em3).trans (xP_slE em16 (by omega))) ?_
          refine vOk_bind (fX10_open_s ha1 hm16) fun m17 hm17 => ?_
          refine vR fun v18 ev18 => ?_
          have fv18 := tiB v18
          refine vNe (fun h19 => ?_) (fun h20 => ?_)
          · refine vBindM (fX7_readEither_s ha0 ha1 hm17) fun v21 m22 hm22 qv21 => ?_
            try dsimp only
            have fv21 := tiB v21
            unfold fX7_readClause_116
            refine vOk_bind (fX10_close_s ha1 hm22) fun m23 hm23 => ?_
            refine vEq (fun h24 => ?_) (fun h25 => ?_)
            · unfold fX7_readClause_140
              refine vR fun v26 ev26 => ?_
              have fv26 := tiB v26
              refine vI fun v27 ev27 fv27 => ?_
              refine vR fun m28 em28 => ?_
              have hm28 : IC R m28 := by rw [em28]; exact IC_put hm23 (qReader_ok8 _ ha0)
              refine vB (by omega) ?_
              refine rM hm28 ?_
              first | exact True.intro | omega
            · refine vBindP (fX7_kind_s ha0 hm23) fun v29 ev29 qv29 => ?_
              try dsimp only
              have fv29 := tiB v29
              refine vEq (fun h30 => ?_) (fun h31 => ?_)
              · unfold fX7_readClause_140
                refine vR fun v32 ev32 => ?_
                have fv32 := tiB v32
                refine vI fun v33 ev33 fv33 => ?_
                refine vR fun m34 em34 => ?_
                have hm34 : IC R m34 := by rw [em34]; exact IC_put hm23 (qReader_ok8 _ ha0)
                refine vB (by omega) ?_
                refine rM hm34 ?_
                first | exact True.intro | omega
              · refine vBindM (fX7_fails_s ha0 hm23) fun v35 m36 hm36 qv35 => ?_
                try dsimp only
                have fv35 := tiB v35
                refine vB (by omega) ?_
                refine rM hm36 ?_
                first | exact True.intro | omega
          · refine vBindM (fX7_readSum_s ha0 ha1 (by omega) hm17) fun v37 m38 hm38 qv37 => ?_
            try dsimp only
            have fv37 := tiB v37
            unfold fX7_readClause_116
            refine vOk_bind (fX10_close_s ha1 hm38) fun m39 hm39 => ?_
            refine vEq (fun h40 => ?_) (fun h41 => ?_)
            · unfold fX7_readClause_140
              refine vR fun v42 ev42 => ?_
              have fv42 := tiB v42
              refine vI fun v43 ev43 fv43 => ?_
              refine vR fun m44 em44 => ?_
              have hm44 : IC R m44 := by rw [em44]; exact IC_put hm39 (qReader_ok8 _ ha0)
              refine vB (by omega) ?_
              refine rM hm44 ?_
              first | exact True.intro | omega
            · refine vBindP (fX7_kind_s ha0 hm39) fun v45 ev45 qv45 => ?_
              try dsimp only
              have fv45 := tiB v45
              refine vEq (fun h46 => ?_) (fun h47 => ?_)
              · unfold fX7_readClause_140
                refine vR fun v48 ev48 => ?_
                have fv48 := tiB v48
                refine vI fun v49 ev49 fv49 => ?_
                refine vR fun m50 em50 => ?_
                have hm50 : IC R m50 := by rw [em50]; exact IC_put hm39 (qReader_ok8 _ ha0)
                refine vB (by omega) ?_
                refine rM hm50 ?_
                first | exact True.intro | omega
              · refine vBindM (fX7_fails_s ha0 hm39) fun v51 m52 hm52 qv51 => ?_
                try dsimp only
                have fv51 := tiB v51
                refine vB (by omega) ?_
                refine rM hm52 ?_
                first | exact True.intro | omega
        · refine vBindM (fX7_fails_s ha0 hm3) fun v53 m54 hm54 qv53 => ?_
          try dsimp only
          have fv53 := tiB v53
          refine vB (by omega) ?_
          refine rM hm54 ?_
          first | exact True.intro | omega
      · refine vBindM (fX7_fails_s ha0 hm3) fun v55 m56 hm56 qv55 => ?_
        try dsimp only
        have fv55 := tiB v55
        refine vB (by omega) ?_
        refine rM hm56 ?_
        first | exact True.intro | omega
  · refine vAl (xP_eqE em3) ?_
    refine vEq (fun h57 => ?_) (fun h58 => ?_)
    · unfold fX7_readClause_40
      refine vAl (xP_eqE em3) ?_
      refine vNe (fun h59 => ?_) (fun h60 => ?_)
      · unfold fX7_readClause_61
        refine vR fun v61 ev61 => ?_
        have fv61 := tiB v61
        refine vLt (fun h62 => ?_) (fun h63 => ?_)
        · refine vR fun v64 ev64 => ?_
          have fv64 := tiB v64
          refine vI fun v65 ev65 fv65 => ?_
          refine vR fun m66 em66 => ?_
          have hm66 : IC R m66 := by rw [em66]; exact IC_put hm3 (qReader_ok8 _ ha0)
          refine vAl ((xP_eqE em3).trans (xP_slE em66 (by omega))) ?_
          refine vOk_bind (fX10_open_s ha1 hm66) fun m67 hm67 => ?_
          refine vR fun v68 ev68 => ?_
          have fv68 := tiB v68
          refine vNe (fun h69 => ?_) (fun h70 => ?_)
          · refine vBindM (fX7_readEither_s ha0 ha1 hm67) fun v71 m72 hm72 qv71 => ?_
            try dsimp only
            have fv71 := tiB v71
            unfold fX7_readClause_116
            refine vOk_bind (fX10_close_s ha1 hm72) fun m73 hm73 => ?_
            refine vEq (fun h74 => ?_) (fun h75 => ?_)
            · unfold fX7_readClause_140
              refine vR fun v76 ev76 => ?_
              have fv76 := tiB v76
              refine vI fun v77 ev77 fv77 => ?_
              refine vR fun m78 em78 => ?_
              have hm78 : IC R m78 := by rw [em78]; exact IC_put hm73 (qReader_ok8 _ ha0)
              refine vB (by omega) ?_
              refine rM hm78 ?_
              first | exact True.intro | omega
            · refine vBindP (fX7_kind_s ha0 hm73) fun v79 ev79 qv79 => ?_
              try dsimp only
              have fv79 := tiB v79
              refine vEq (fun h80 => ?_) (fun h81 => ?_)
              · unfold fX7_readClause_140
                refine vR fun v82 ev82 => ?_
                have fv82 := tiB v82
                refine vI fun v83 ev83 fv83 => ?_
                refine vR fun m84 em84 => ?_
                have hm84 : IC R m84 := by rw [em84]; exact IC_put hm73 (qReader_ok8 _ ha0)
                refine vB (by omega) ?_
                refine rM hm84 ?_
                first | exact True.intro | omega
              · refine vBindM (fX7_fails_s ha0 hm73) fun v85 m86 hm86 qv85 => ?_
                try dsimp only
                have fv85 := tiB v85
                refine vB (by omega) ?_
                refine rM hm86 ?_
                first | exact True.intro | omega
          · refine vBindM (fX7_readSum_s ha0 ha1 (by omega) hm67) fun v87 m88 hm88 qv87 => ?_
            try dsimp only
            have fv87 := tiB v87
            unfold fX7_readClause_116
            refine vOk_bind (fX10_close_s ha1 hm88) fun m89 hm89 => ?_
            refine vEq (fun h90 => ?_) (fun h91 => ?_)
            · unfold fX7_readClause_140
              refine vR fun v92 ev92 => ?_
              have fv92 := tiB v92
              refine vI fun v93 ev93 fv93 => ?_
              refine vR fun m94 em94 => ?_
              have hm94 : IC R m94 := by rw [em94]; exact IC_put hm89 (qReader_ok8 _ ha0)
              refine vB (by omega) ?_
              refine rM hm94 ?_
              first | exact True.intro | omega
            · refine vBindP (fX7_kind_s ha0 hm89) fun v95 ev95 qv95 => ?_
              try dsimp only
              have fv95 := tiB v95
              refine vEq (fun h96 => ?_) (fun h97 => ?_)
              · unfold fX7_readClause_140
                refine vR fun v98 ev98 => ?_
                have fv98 := tiB v98
                refine vI fun v99 ev99 fv99 => ?_
                refine vR fun m100 em100 => ?_
                have hm100 : IC R m100 := by rw [em100]; exact IC_put hm89 (qReader_ok8 _ ha0)
                refine vB (by omega) ?_
                refine rM hm100 ?_
                first | exact True.intro | omega
              · refine vBindM (fX7_fails_s ha0 hm89) fun v101 m102 hm102 qv101 => ?_
                try dsimp only
                have fv101 := tiB v101
                refine vB (by omega) ?_
                refine rM hm102 ?_
                first | exact True.intro | omega
        · refine vBindM (fX7_fails_s ha0 hm3) fun v103 m104 hm104 qv103 => ?_
          try dsimp only
          have fv103 := tiB v103
          refine vB (by omega) ?_
          refine rM hm104 ?_
          first | exact True.intro | omega
      · exfalso; omega
    · refine vAl (xP_eqE em3) ?_
      refine vEq (fun h105 => ?_) (fun h106 => ?_)
      · unfold fX7_readClause_40
        refine vAl (xP_eqE em3) ?_
        refine vNe (fun h107 => ?_) (fun h108 => ?_)
        · unfold fX7_readClause_61
          refine vR fun v109 ev109 => ?_
          have fv109 := tiB v109
          refine vLt (fun h110 => ?_) (fun h111 => ?_)
          · refine vR fun v112 ev112 => ?_
            have fv112 := tiB v112
            refine vI fun v113 ev113 fv113 => ?_
            refine vR fun m114 em114 => ?_
            have hm114 : IC R m114 := by rw [em114]; exact IC_put hm3 (qReader_ok8 _ ha0)
            refine vAl ((xP_eqE em3).trans (xP_slE em114 (by omega))) ?_
            refine vOk_bind (fX10_open_s ha1 hm114) fun m115 hm115 => ?_
            refine vR fun v116 ev116 => ?_
            have fv116 := tiB v116
            refine vNe (fun h117 => ?_) (fun h118 => ?_)
            · refine vBindM (fX7_readEither_s ha0 ha1 hm115) fun v119 m120 hm120 qv119 => ?_
              try dsimp only
              have fv119 := tiB v119
              unfold fX7_readClause_116
              refine vOk_bind (fX10_close_s ha1 hm120) fun m121 hm121 => ?_
              refine vEq (fun h122 => ?_) (fun h123 => ?_)
              · unfold fX7_readClause_140
                refine vR fun v124 ev124 => ?_
                have fv124 := tiB v124
                refine vI fun v125 ev125 fv125 => ?_
                refine vR fun m126 em126 => ?_
                have hm126 : IC R m126 := by rw [em126]; exact IC_put hm121 (qReader_ok8 _ ha0)
                refine vB (by omega) ?_
                refine rM hm126 ?_
                first | exact True.intro | omega
              · refine vBindP (fX7_kind_s ha0 hm121) fun v127 ev127 qv127 => ?_
                try dsimp only
                have fv127 := tiB v127
                refine vEq (fun h128 => ?_) (fun h129 => ?_)
                · unfold fX7_readClause_140
                  refine vR fun v130 ev130 => ?_
                  have fv130 := tiB v130
                  refine vI fun v131 ev131 fv131 => ?_
                  refine vR fun m132 em132 => ?_
                  have hm132 : IC R m132 := by rw [em132]; exact IC_put hm121 (qReader_ok8 _ ha0)
                  refine vB (by omega) ?_
                  refine rM hm132 ?_
                  first | exact True.intro | omega
                · refine vBindM (fX7_fails_s ha0 hm121) fun v133 m134 hm134 qv133 => ?_
                  try dsimp only
                  have fv133 := tiB v133
                  refine vB (by omega) ?_
                  refine rM hm134 ?_
                  first | exact True.intro | omega
            · refine vBindM (fX7_readSum_s ha0 ha1 (by omega) hm115) fun v135 m136 hm136 qv135 => ?_
              try dsimp only
              have fv135 := tiB v135
              unfold fX7_readClause_116
              refine vOk_bind (fX10_close_s ha1 hm136) fun m137 hm137 => ?_
              refine vEq (fun h138 => ?_) (fun h139 => ?_)
              · unfold fX7_readClause_140
                refine vR fun v140 ev140 => ?_
                have fv140 := tiB v140
                refine vI fun v141 ev141 fv141 => ?_
                refine vR fun m142 em142 => ?_
                have hm142 : IC R m142 := by rw [em142]; exact IC_put hm137 (qReader_ok8 _ ha0)
                refine vB (by omega) ?_
                refine rM hm142 ?_
                first | exact True.intro | omega
              · refine vBindP (fX7_kind_s ha0 hm137) fun v143 ev143 qv143 => ?_
                try dsimp only
                have fv143 := tiB v143
                refine vEq (fun h144 => ?_) (fun h145 => ?_)
                · unfold fX7_readClause_140
                  refine vR fun v146 ev146 => ?_
                  have fv146 := tiB v146
                  refine vI fun v147 ev147 fv147 => ?_
                  refine vR fun m148 em148 => ?_
                  have hm148 : IC R m148 := by rw [em148]; exact IC_put hm137 (qReader_ok8 _ ha0)
                  refine vB (by omega) ?_
                  refine rM hm148 ?_
                  first | exact True.intro | omega
                · refine vBindM (fX7_fails_s ha0 hm137) fun v149 m150 hm150 qv149 => ?_
                  try dsimp only
                  have fv149 := tiB v149
                  refine vB (by omega) ?_
                  refine rM hm150 ?_
                  first | exact True.intro | omega
          · refine vBindM (fX7_fails_s ha0 hm3) fun v151 m152 hm152 qv151 => ?_
            try dsimp only
            have fv151 := tiB v151
            refine vB (by omega) ?_
            refine rM hm152 ?_
            first | exact True.intro | omega
        · exfalso; omega
      · refine vBindM (fX7_fails_s ha0 hm3) fun v153 m154 hm154 qv153 => ?_
        try dsimp only
        have fv153 := tiB v153
        refine vB (by omega) ?_
        refine rM hm154 ?_
        first | exact True.intro | omega
theorem fX7_addToken_s {R : xMem} {a0 : Nat} {a1 : Int32} {a2 : Int32} {a3 : Int32} {m : xMem} (ha0 : a0 ∈ pReader) (hI : IC R m) : vOk (IC R) (fX7_addToken a0 a1 a2 a3 m) := by
  have ta1 := tiB a1
  have ta2 := tiB a2
  have ta3 := tiB a3
  have c0 : (0 : Int32).toInt = 0 := rfl
  have c1 : (1 : Int32).toInt = 1 := rfl
  have c301 : (301 : Int32).toInt = 301 := rfl
  unfold fX7_addToken
  unfold fX7_addToken_0
  refine vR fun v1 ev1 => ?_
  have fv1 := tiB v1
  refine vLt (fun h2 => ?_) (fun h3 => ?_)
  · unfold fX7_addToken_59
    exact vOk_some hI
  · refine vAl (ev1) ?_
    refine vLe (fun h4 => ?_) (fun h5 => ?_)
    · unfold fX7_addToken_59
      exact vOk_some hI
    · refine vAl (ev1) ?_
      refine vIn (by omega) (by omega) fun n6 => ?_
      refine vR fun m7 em7 => ?_
      have hm7 : IC R m7 := by rw [em7]; exact IC_arr hI (qReader_2_inArr _ ha0)
      refine vAl ((ev1).trans (xP_plE em7 (by omega))) ?_
      refine vIn (by omega) (by omega) fun n8 => ?_
      refine vR fun m9 em9 => ?_
      have hm9 : IC R m9 := by rw [em9]; exact IC_arr hm7 (qReader_3_inArr _ ha0)
      refine vAl (((ev1).trans (xP_plE em7 (by omega))).trans (xP_plE em9 (by omega))) ?_
      refine vIn (by omega) (by omega) fun n10 => ?_
      refine vR fun m11 em11 => ?_
      have hm11 : IC R m11 := by rw [em11]; exact IC_arr hm9 (qReader_4_inArr _ ha0)
      refine vAl ((((ev1).trans (xP_plE em7 (by omega))).trans (xP_plE em9 (by omega))).trans (xP_plE em11 (by omega))) ?_
      refine vA (by omega) fun v12 ev12 fv12 => ?_
      refine vR fun m13 em13 => ?_
      have hm13 : IC R m13 := by rw [em13]; exact IC_put hm11 (qReader_ok7 _ ha0)
      unfold fX7_addToken_59
      exact vOk_some hm13
theorem fX7_isDigit_s {R : xMem} {a0 : Int32} {m : xMem} (hI : IC R m) : vOk (PP m (fun x : Int32 => (0 ≤ x.toInt ∧ x.toInt ≤ 1) ∧ (x.toInt = 0 ∨ ((48 ≤ a0.toInt ∧ a0.toInt ≤ 57))))) (fX7_isDigit a0 m) := by
  have ta0 := tiB a0
  have c0 : (0 : Int32).toInt = 0 := rfl
  have c1 : (1 : Int32).toInt = 1 := rfl
  have c48 : (48 : Int32).toInt = 48 := rfl
  have c57 : (57 : Int32).toInt = 57 := rfl
  unfold fX7_isDigit
  unfold fX7_isDigit_0
  refine vLt (fun h1 => ?_) (fun h2 => ?_)
  · unfold fX7_isDigit_16
    unfold fX7_isDigit_17
    refine vB (by omega) ?_
    refine rP ?_
    first | exact True.intro | omega
  · refine vLt (fun h3 => ?_) (fun h4 => ?_)
    · unfold fX7_isDigit_16
      unfold fX7_isDigit_17
      refine vB (by omega) ?_
      refine rP ?_
      first | exact True.intro | omega
    · unfold fX7_isDigit_17
      refine vB (by omega) ?_
      refine rP ?_
      first | exact True.intro | omega
theorem fX7_signOf_s {R : xMem} {a0 : Int32} {m : xMem} (hI : IC R m) : vOk (PP m (fun x : Int32 => (1 ≤ x.toInt ∧ x.toInt ≤ 15))) (fX7_signOf a0 m) := by
  have ta0 := tiB a0
  have c1 : (1 : Int32).toInt = 1 := rfl
  have c3 : (3 : Int32).toInt = 3 := rfl
  have c5 : (5 : Int32).toInt = 5 := rfl
  have c7 : (7 : Int32).toInt = 7 := rfl
  have c8 : (8 : Int32).toInt = 8 := rfl
  have c9 : (9 : Int32).toInt = 9 := rfl
  have c10 : (10 : Int32).toInt = 10 := rfl
  have c11 : (11 : Int32).toInt = 11 := rfl
  have c12 : (12 : Int32).toInt = 12 := rfl
  have c13 : (13 : Int32).toInt = 13 := rfl
  have c14 : (14 : Int32).toInt = 14 := rfl
  have c15 : (15 : Int32).toInt = 15 := rfl
  have c35 : (35 : Int32).toInt = 35 := rfl
  have c36 : (36 : Int32).toInt = 36 := rfl
  have c37 : (37 : Int32).toInt = 37 := rfl
  have c38 : (38 : Int32).toInt = 38 := rfl
  have c39 : (39 : Int32).toInt = 39 := rfl
  have c40 : (40 : Int32).toInt = 40 := rfl
  have c41 : (41 : Int32).toInt = 41 := rfl
  have c42 : (42 : Int32).toInt = 42 := rfl
  have c43 : (43 : Int32).toInt = 43 := rfl
  have c44 : (44 : Int32).toInt = 44 := rfl
  have c45 : (45 : Int32).toInt = 45 := rfl
  have c46 : (46 : Int32).toInt = 46 := rfl
  have c47 : (47 : Int32).toInt = 47 := rfl
  have c48 : (48 : Int32).toInt = 48 := rfl
  have c49 : (49 : Int32).toInt = 49 := rfl
  have c50 : (50 : Int32).toInt = 50 := rfl
  have c51 : (51 : Int32).toInt = 51 := rfl
  have c52 : (52 : Int32).toInt = 52 := rfl
  have c53 : (53 : Int32).toInt = 53 := rfl
  have c54 : (54 : Int32).toInt = 54 := rfl
  have c55 : (55 : Int32).toInt = 55 := rfl
  have c56 : (56 : Int32).toInt = 56 := rfl
  have c57 : (57 : Int32).toInt = 57 := rfl
  have c58 : (58 : Int32).toInt = 58 := rfl
  have c59 : (59 : Int32).toInt = 59 := rfl
  have c60 : (60 : Int32).toInt = 60 := rfl
  have c61 : (61 : Int32).toInt = 61 := rfl
  have c62 : (62 : Int32).toInt = 62 := rfl
  unfold fX7_signOf
  unfold fX7_signOf_0
  refine vEq (fun h1 => ?_) (fun h2 => ?_)
  · refine rP ?_
    first | exact True.intro | omega
  · refine vEq (fun h3 => ?_) (fun h4 => ?_)
    · refine rP ?_
      first | exact True.intro | omega
    · refine vEq (fun h5 => ?_) (fun h6 => ?_)
      · refine rP ?_
        first | exact True.intro | omega
      · refine vEq (fun h7 => ?_) (fun h8 => ?_)
        · refine rP ?_
          first | exact True.intro | omega
        · refine vEq (fun h9 => ?_) (fun h10 => ?_)
          · refine rP ?_
            first | exact True.intro | omega
          · refine vEq (fun h11 => ?_) (fun h12 => ?_)
            · refine rP ?_
              first | exact True.intro | omega
            · refine vEq (fun h13 => ?_) (fun h14 => ?_)
              · refine rP ?_
                first | exact True.intro | omega
              · refine vEq (fun h15 => ?_) (fun h16 => ?_)
                · refine rP ?_
                  first | exact True.intro | omega
                · refine vEq (fun h17 => ?_) (fun h18 => ?_)
                  · refine rP ?_
                    first | exact True.intro | omega
                  · refine vEq (fun h19 => ?_) (fun h20 => ?_)
                    · refine rP ?_
                      first | exact True.intro | omega
                    · refine vEq (fun h21 => ?_) (fun h22 => ?_)
                      · refine rP ?_
                        first | exact True.intro | omega
                      · refine vEq (fun h23 => ?_) (fun h24 => ?_)
                        · refine rP ?_
                          first | exact True.intro | omega
                        · refine vEq (fun h25 => ?_) (fun h26 => ?_)
                          · refine rP ?_
                            first | exact True.intro | omega
                          · refine vEq (fun h27 => ?_) (fun h28 => ?_)
                            · refine rP ?_
                              first | exact True.intro | omega
                            · refine vEq (fun h29 => ?_) (fun h30 => ?_)
                              · refine rP ?_
                                first | exact True.intro | omega
                              · refine vEq (fun h31 => ?_) (fun h32 => ?_)
                                · refine rP ?_
                                  first | exact True.intro | omega
                                · refine vEq (fun h33 => ?_) (fun h34 => ?_)
                                  · refine rP ?_
                                    first | exact True.intro | omega
                                  · refine vEq (fun h35 => ?_) (fun h36 => ?_)
                                    · refine rP ?_
                                      first | exact True.intro | omega
                                    · refine vEq (fun h37 => ?_) (fun h38 => ?_)
                                      · refine rP ?_
                                        first | exact True.intro | omega
                                      · refine vEq (fun h39 => ?_) (fun h40 => ?_)
                                        · refine rP ?_
                                          first | exact True.intro | omega
                                        · refine vEq (fun h41 => ?_) (fun h42 => ?_)
                                          · refine rP ?_
                                            first | exact True.intro | omega
                                          · refine vEq (fun h43 => ?_) (fun h44 => ?_)
                                            · refine rP ?_
                                              first | exact True.intro | omega
                                            · refine vEq (fun h45 => ?_) (fun h46 => ?_)
                                              · refine rP ?_
                                                first | exact True.intro | omega
                                              · refine vEq (fun h47 => ?_) (fun h48 => ?_)
                                                · refine rP ?_
                                                  first | exact True.intro | omega
                                                · refine vEq (fun h49 => ?_) (fun h50 => ?_)
                                                  · refine rP ?_
                                                    first | exact True.intro | omega
                                                  · refine vEq (fun h51 => ?_) (fun h52 => ?_)
                                                    · refine rP ?_
                                                      first | exact True.intro | omega
                                                    · refine vEq (fun h53 => ?_) (fun h54 => ?_)
                                                      · refine rP ?_
                                                        first | exact True.intro | omega
                                                      · refine vEq (fun h55 => ?_) (fun h56 => ?_)
                                                        · refine rP ?_
                                                          first | exact True.intro | omega
                                                        · refine rP ?_
                                                          first | exact True.intro | omega
theorem fX7_byteAt_s {R : xMem} {a0 : Nat} {a1 : Int32} {m : xMem} (ha0 : a0 ∈ pReader) (hI : IC R m) : vOk (PP m (fun x : Int32 => (x.toInt = -1 ∨ ((0 ≤ a1.toInt ∧ a1.toInt ≤ 299))))) (fX7_byteAt a0 a1 m) := by
  have ta1 := tiB a1
  have cm1 : (-1 : Int32).toInt = -1 := rfl
  have c0 : (0 : Int32).toInt = 0 := rfl
  have c300 : (300 : Int32).toInt = 300 := rfl
  unfold fX7_byteAt
  unfold fX7_byteAt_0
  refine vLt (fun h1 => ?_) (fun h2 => ?_)
  · unfold fX7_byteAt_30
    unfold fX7_byteAt_31
    refine rP ?_
    first | exact True.intro | omega
  · refine vR fun v3 ev3 => ?_
    have fv3 := tiB v3
    refine vLe (fun h4 => ?_) (fun h5 => ?_)
    · unfold fX7_byteAt_30
      unfold fX7_byteAt_31
      refine rP ?_
      first | exact True.intro | omega
    · refine vLe (fun h6 => ?_) (fun h7 => ?_)
      · unfold fX7_byteAt_30
        unfold fX7_byteAt_31
        refine rP ?_
        first | exact True.intro | omega
      · refine vIn (by omega) (by omega) fun n8 => ?_
        refine vR fun v9 ev9 => ?_
        have fv9 := tiB v9
        unfold fX7_byteAt_31
        refine rP ?_
        first | exact True.intro | omega
theorem fX7_isLetter_s {R : xMem} {a0 : Int32} {m : xMem} (hI : IC R m) : vOk (PP m (fun x : Int32 => (0 ≤ x.toInt ∧ x.toInt ≤ 1) ∧ (x.toInt = 0 ∨ ((65 ≤ a0.toInt ∧ a0.toInt ≤ 122))))) (fX7_isLetter a0 m) := by
  have ta0 := tiB a0
  have c0 : (0 : Int32).toInt = 0 := rfl
  have c1 : (1 : Int32).toInt = 1 := rfl
  have c65 : (65 : Int32).toInt = 65 := rfl
  have c90 : (90 : Int32).toInt = 90 := rfl
  have c97 : (97 : Int32).toInt = 97 := rfl
  have c122 : (122 : Int32).toInt = 122 := rfl
  unfold fX7_isLetter
  unfold fX7_isLetter_0
  refine vLt (fun h1 => ?_) (fun h2 => ?_)
  · unfold fX7_isLetter_12
    refine vLt (fun h3 => ?_) (fun h4 => ?_)
    · unfold fX7_isLetter_28
      unfold fX7_isLetter_29
      refine vB (by omega) ?_
      refine rP ?_
      first | exact True.intro | omega
    · refine vLt (fun h5 => ?_) (fun h6 => ?_)
      · unfold fX7_isLetter_28
        unfold fX7_isLetter_29
        refine vB (by omega) ?_
        refine rP ?_
        first | exact True.intro | omega
      · unfold fX7_isLetter_24
        unfold fX7_isLetter_29
        refine vB (by omega) ?_
        refine rP ?_
        first | exact True.intro | omega
  · refine vLe (fun h7 => ?_) (fun h8 => ?_)
    · unfold fX7_isLetter_24
      unfold fX7_isLetter_29
      refine vB (by omega) ?_
      refine rP ?_
      first | exact True.intro | omega
    · unfold fX7_isLetter_12
      refine vLt (fun h9 => ?_) (fun h10 => ?_)
      · exfalso; omega
      · refine vLt (fun h11 => ?_) (fun h12 => ?_)
        · unfold fX7_isLetter_28
          unfold fX7_isLetter_29
          refine vB (by omega) ?_
          refine rP ?_
          first | exact True.intro | omega
        · exfalso; omega
theorem fX7_isWord_29_s {R : xMem} {a0 : Nat} {a1 : Int32} {a2 : Int32} {a3 : Int32} {a4 : Int32} {m : xMem} (ha0 : a0 ∈ pReader) (hI : IC R m) : ∀ (fuel : Nat), ∀ (l5 : Int32), ((0 ≤ a3.toInt ∧ a3.toInt ≤ 2147483647) ∧ (-2147483648 ≤ a4.toInt ∧ a4.toInt ≤ 73) ∧ (0 ≤ l5.toInt ∧ l5.toInt ≤ 2147483647)) → 2147483648 - l5.toInt < (fuel : Int) → vOk (PP m (fun x : Int32 => (0 ≤ x.toInt ∧ x.toInt ≤ 1) ∧ (x.toInt = 0 ∨ ((0 ≤ a3.toInt ∧ a3.toInt ≤ 2147483647) ∧ (-2147483648 ≤ a4.toInt ∧ a4.toInt ≤ 73))))) (fX7_isWord_29 a0 a1 a2 a3 a4 fuel l5 m) := by
  intro fuel
  induction fuel with
  | zero =>
    intro l5 hp hmu
    have ta1 := tiB a1
    have ta2 := tiB a2
    have ta3 := tiB a3
    have ta4 := tiB a4
    have tl5 := tiB l5
    exfalso; omega
  | succ fuel ih =>
    intro l5 hp hmu
    have ta1 := tiB a1
    have ta2 := tiB a2
    have ta3 := tiB a3
    have ta4 := tiB a4
    have tl5 := tiB l5
    have c0 : (0 : Int32).toInt = 0 := rfl
    have c1 : (1 : Int32).toInt = 1 := rfl
    rw [fX7_isWord_29]
    refine vLe (fun h1 => ?_) (fun h2 => ?_)
    · refine rP ?_
      first | exact True.intro | omega
    · refine vIn (by omega) (by omega) fun n3 => ?_
      refine vI fun v4 ev4 fv4 => ?_
      refine vI fun v5 ev5 fv5 => ?_
      refine vI fun v6 ev6 fv6 => ?_
      refine vBindP (fX7_byteAt_s ha0 hI) fun v7 ev7 qv7 => ?_
      try dsimp only
      have fv7 := tiB v7
      refine vEq (fun h8 => ?_) (fun h9 => ?_)
      · refine vA (by omega) fun v10 ev10 fv10 => ?_
        exact ih _ (by omega) (by omega)
      · refine rP ?_
        first | exact True.intro | omega
theorem fX7_isWord_s {R : xMem} {a0 : Nat} {a1 : Int32} {a2 : Int32} {a3 : Int32} {a4 : Int32} {m : xMem} (ha0 : a0 ∈ pReader) (hI : IC R m) : vOk (PP m (fun x : Int32 => (0 ≤ x.toInt ∧ x.toInt ≤ 1) ∧ (x.toInt = 0 ∨ ((0 ≤ a3.toInt ∧ a3.toInt ≤ 2147483647) ∧ (-2147483648 ≤ a4.toInt ∧ a4.toInt ≤ 73))))) (fX7_isWord a0 a1 a2 a3 a4 m) := by
  have ta1 := tiB a1
  have ta2 := tiB a2
  have ta3 := tiB a3
  have ta4 := tiB a4
  have c0 : (0 : Int32).toInt = 0 := rfl
  have c73 : (73 : Int32).toInt = 73 := rfl
  unfold fX7_isWord
  unfold fX7_isWord_0
  refine vI fun v1 ev1 fv1 => ?_
  refine vI fun v2 ev2 fv2 => ?_
  refine vNe (fun h3 => ?_) (fun h4 => ?_)
  · unfold fX7_isWord_24
    refine rP ?_
    first | exact True.intro | omega
  · refine vLt (fun h5 => ?_) (fun h6 => ?_)
    · unfold fX7_isWord_24
      refine rP ?_
      first | exact True.intro | omega
    · refine vLe (fun h7 => ?_) (fun h8 => ?_)
      · have cF := xFu
        exact fX7_isWord_29_s ha0 hI _ _ (by omega) (by omega)
      · unfold fX7_isWord_24
        refine rP ?_
        first | exact True.intro | omega
theorem fX7_addWord_9_s {R : xMem} {a0 : Nat} {a1 : Int32} {a2 : Int32} (ha0 : a0 ∈ pReader) : ∀ (fuel : Nat), ∀ (l3 : Int32) (l4 : Int32) (l5 : Int32) (m : xMem), ((0 ≤ l4.toInt ∧ l4.toInt ≤ 73) ∧ (0 ≤ l5.toInt ∧ l5.toInt ≤ 73)) → IC R m → 2147483648 - l5.toInt < (fuel : Int) → vOk (IC R) (fX7_addWord_9 a0 a1 a2 fuel l3 l4 l5 m) := by
  intro fuel
  induction fuel with
  | zero =>
    intro l3 l4 l5 m hp hI hmu
    have ta1 := tiB a1
    have ta2 := tiB a2
    have tl3 := tiB l3
    have tl4 := tiB l4
    have tl5 := tiB l5
    exfalso; omega
  | succ fuel ih =>
    intro l3 l4 l5 m hp hI hmu
    have ta1 := tiB a1
    have ta2 := tiB a2
    have tl3 := tiB l3
    have tl4 := tiB l4
    have tl5 := tiB l5
    have c0 : (0 : Int32).toInt = 0 := rfl
    have c1 : (1 : Int32).toInt = 1 := rfl
    have c26 : (26 : Int32).toInt = 26 := rfl
    have c32 : (32 : Int32).toInt = 32 := rfl
    have c73 : (73 : Int32).toInt = 73 := rfl
    rw [fX7_addWord_9]
    refine vLe (fun h1 => ?_) (fun h2 => ?_)
    · refine vOk_bind (fX7_addToken_s ha0 hI) fun m3 hm3 => ?_
      exact vOk_some hm3
    · refine vIn (by omega) (by omega) fun n4 => ?_
      refine vI fun v5 ev5 fv5 => ?_
      refine vNe (fun h6 => ?_) (fun h7 => ?_)
      · unfold fX7_addWord_69
        refine vA (by omega) fun v8 ev8 fv8 => ?_
        exact ih _ _ _ _ (by omega) hI (by omega)
      · refine vBindP (fX7_isWord_s ha0 hI) fun v9 ev9 qv9 => ?_
        try dsimp only
        have fv9 := tiB v9
        refine vEq (fun h10 => ?_) (fun h11 => ?_)
        · refine vI fun v12 ev12 fv12 => ?_
          refine vA (by omega) fun v13 ev13 fv13 => ?_
          unfold fX7_addWord_69
          refine vAl ev13 ?_
          exact ih _ _ _ _ (by omega) hI (by omega)
        · have g14 := qv9.2.resolve_left (by omega)
          refine vMin fun v15 ev15 fv15 => ?_
          refine vI fun v16 ev16 fv16 => ?_
          refine vOk_bind (fX7_addToken_s ha0 hI) fun m17 hm17 => ?_
          exact vOk_some hm17
theorem fX7_addWord_s {R : xMem} {a0 : Nat} {a1 : Int32} {a2 : Int32} {m : xMem} (ha0 : a0 ∈ pReader) (hI : IC R m) : vOk (IC R) (fX7_addWord a0 a1 a2 m) := by
  have ta1 := tiB a1
  have ta2 := tiB a2
  have c0 : (0 : Int32).toInt = 0 := rfl
  have c20 : (20 : Int32).toInt = 20 := rfl
  unfold fX7_addWord
  unfold fX7_addWord_0
  have cF := xFu
  exact fX7_addWord_9_s ha0 _ _ _ _ _ (by omega) hI (by omega)
theorem fX7_cutOne_33_s {R : xMem} {a0 : Nat} {a1 : Int32} (ha0 : a0 ∈ pReader) : ∀ (fuel : Nat), ∀ (l3 : Int32) (m : xMem), IC R m → 2147483648 - l3.toInt < (fuel : Int) → vOk (PM (IC R) (fun _ : Int32 => True)) (fX7_cutOne_33 a0 a1 fuel l3 m) := by
  intro fuel
  induction fuel with
  | zero =>
    intro l3 m hI hmu
    have ta1 := tiB a1
    have tl3 := tiB l3
    exfalso; omega
  | succ fuel ih =>
    intro l3 m hI hmu
    have ta1 := tiB a1
    have tl3 := tiB l3
    have c0 : (0 : Int32).toInt = 0 := rfl
    have c1 : (1 : Int32).toInt = 1 := rfl
    rw [fX7_cutOne_33]
    refine vR fun v1 ev1 => ?_
    have fv1 := tiB v1
    refine vLe (fun h2 => ?_) (fun h3 => ?_)
    · unfold fX7_cutOne_58
      refine vOk_bind (fX7_addWord_s ha0 hI) fun m4 hm4 => ?_
      unfold fX7_cutOne_180
      refine rM hm4 ?_
      first | exact True.intro | omega
    · refine vBindP (fX7_byteAt_s ha0 hI) fun v5 ev5 qv5 => ?_
      try dsimp only
      have fv5 := tiB v5
      refine vBindP (fX7_isLetter_s hI) fun v6 ev6 qv6 => ?_
      try dsimp only
      have fv6 := tiB v6
      refine vEq (fun h7 => ?_) (fun h8 => ?_)
      · unfold fX7_cutOne_58
        refine vOk_bind (fX7_addWord_s ha0 hI) fun m9 hm9 => ?_
        unfold fX7_cutOne_180
        refine rM hm9 ?_
        first | exact True.intro | omega
      · have g10 := qv6.2.resolve_left (by omega)
        refine vA (by omega) fun v11 ev11 fv11 => ?_
        exact ih _ _ hI (by omega)
theorem fX7_cutOne_80_s {R : xMem} {a0 : Nat} {a1 : Int32} (ha0 : a0 ∈ pReader) : ∀ (fuel : Nat), ∀ (l3 : Int32) (l4 : Int32) (m : xMem), ((0 ≤ l4.toInt ∧ l4.toInt ≤ 10000)) → IC R m → 2147483648 - l3.toInt < (fuel : Int) → vOk (PM (IC R) (fun _ : Int32 => True)) (fX7_cutOne_80 a0 a1 fuel l3 l4 m) := by
  intro fuel
  induction fuel with
  | zero =>
    intro l3 l4 m hp hI hmu
    have ta1 := tiB a1
    have tl3 := tiB l3
    have tl4 := tiB l4
    exfalso; omega
  | succ fuel ih =>
    intro l3 l4 m hp hI hmu
    have ta1 := tiB a1
    have tl3 := tiB l3
    have tl4 := tiB l4
    have c0 : (0 : Int32).toInt = 0 := rfl
    have c1 : (1 : Int32).toInt = 1 := rfl
    have c2 : (2 : Int32).toInt = 2 := rfl
    have c10 : (10 : Int32).toInt = 10 := rfl
    have c48 : (48 : Int32).toInt = 48 := rfl
    have c10000 : (10000 : Int32).toInt = 10000 := rfl
    rw [fX7_cutOne_80]
    refine vR fun v1 ev1 => ?_
    have fv1 := tiB v1
    refine vLe (fun h2 => ?_) (fun h3 => ?_)
    · unfold fX7_cutOne_127
      refine vOk_bind (fX7_addToken_s ha0 hI) fun m4 hm4 => ?_
      unfold fX7_cutOne_180
      refine rM hm4 ?_
      first | exact True.intro | omega
    · refine vBindP (fX7_byteAt_s ha0 hI) fun v5 ev5 qv5 => ?_
      try dsimp only
      have fv5 := tiB v5
      refine vBindP (fX7_isDigit_s hI) fun v6 ev6 qv6 => ?_
      try dsimp only
      have fv6 := tiB v6
      refine vEq (fun h7 => ?_) (fun h8 => ?_)
      · unfold fX7_cutOne_127
        refine vOk_bind (fX7_addToken_s ha0 hI) fun m9 hm9 => ?_
        unfold fX7_cutOne_180
        refine rM hm9 ?_
        first | exact True.intro | omega
      · have g10 := qv6.2.resolve_left (by omega)
        refine vM (v := 10 * l4.toInt) (by rw [c10]; exact Int.mul_comm _ _) (by omega) fun v11 ev11 fv11 => ?_
        refine vAlB ev5 ?_
        try dsimp only
        refine vA (by omega) fun v13 ev13 fv13 => ?_
        refine vS (by omega) fun v14 ev14 fv14 => ?_
        refine vMin fun v15 ev15 fv15 => ?_
        refine vA (by omega) fun v16 ev16 fv16 => ?_
        exact ih _ _ _ (by omega) hI (by omega)
theorem fX7_cutOne_s {R : xMem} {a0 : Nat} {a1 : Int32} {m : xMem} (ha0 : a0 ∈ pReader) (hI : IC R m) : vOk (PM (IC R) (fun _ : Int32 => True)) (fX7_cutOne a0 a1 m) := by
  have ta1 := tiB a1
  have c0 : (0 : Int32).toInt = 0 := rfl
  have c1 : (1 : Int32).toInt = 1 := rfl
  have c3 : (3 : Int32).toInt = 3 := rfl
  have c5 : (5 : Int32).toInt = 5 := rfl
  have c10 : (10 : Int32).toInt = 10 := rfl
  have c32 : (32 : Int32).toInt = 32 := rfl
  have c48 : (48 : Int32).toInt = 48 := rfl
  have c61 : (61 : Int32).toInt = 61 := rfl
  unfold fX7_cutOne
  unfold fX7_cutOne_0
  refine vBindP (fX7_byteAt_s ha0 hI) fun v1 ev1 qv1 => ?_
  try dsimp only
  have fv1 := tiB v1
  refine vEq (fun h2 => ?_) (fun h3 => ?_)
  · have g4 := qv1.resolve_left (by omega)
    unfold fX7_cutOne_18
    refine vA (by omega) fun v5 ev5 fv5 => ?_
    refine rM hI ?_
    first | exact True.intro | omega
  · refine vNe (fun h6 => ?_) (fun h7 => ?_)
    · refine vI fun v8 ev8 fv8 => ?_
      refine vBindP (fX7_isLetter_s hI) fun v9 ev9 qv9 => ?_
      try dsimp only
      have fv9 := tiB v9
      refine vEq (fun h10 => ?_) (fun h11 => ?_)
      · refine vBindP (fX7_isDigit_s hI) fun v12 ev12 qv12 => ?_
        try dsimp only
        have fv12 := tiB v12
        refine vEq (fun h13 => ?_) (fun h14 => ?_)
        · refine vBindP (fX7_signOf_s hI) fun v15 ev15 qv15 => ?_
          try dsimp only
          have fv15 := tiB v15
          refine vEq (fun h16 => ?_) (fun h17 => ?_)
          · unfold fX7_cutOne_156
            refine vBindP (fX7_byteAt_s ha0 hI) fun v18 ev18 qv18 => ?_
            try dsimp only
            have fv18 := tiB v18
            refine vNe (fun h19 => ?_) (fun h20 => ?_)
            · unfold fX7_cutOne_172
              refine vOk_bind (fX7_addToken_s ha0 hI) fun m21 hm21 => ?_
              unfold fX7_cutOne_180
              refine rM hm21 ?_
              first | exact True.intro | omega
            · have g22 := qv18.resolve_left (by omega)
              refine vA (by omega) fun v23 ev23 fv23 => ?_
              refine vA (by omega) fun v24 ev24 fv24 => ?_
              unfold fX7_cutOne_172
              refine vOk_bind (fX7_addToken_s ha0 hI) fun m25 hm25 => ?_
              unfold fX7_cutOne_180
              refine rM hm25 ?_
              first | exact True.intro | omega
          · refine vNe (fun h26 => ?_) (fun h27 => ?_)
            · unfold fX7_cutOne_172
              refine vOk_bind (fX7_addToken_s ha0 hI) fun m28 hm28 => ?_
              unfold fX7_cutOne_180
              refine rM hm28 ?_
              first | exact True.intro | omega
            · unfold fX7_cutOne_156
              refine vBindP (fX7_byteAt_s ha0 hI) fun v29 ev29 qv29 => ?_
              try dsimp only
              have fv29 := tiB v29
              refine vNe (fun h30 => ?_) (fun h31 => ?_)
              · unfold fX7_cutOne_172
                refine vOk_bind (fX7_addToken_s ha0 hI) fun m32 hm32 => ?_
                unfold fX7_cutOne_180
                refine rM hm32 ?_
                first | exact True.intro | omega
              · have g33 := qv29.resolve_left (by omega)
                refine vA (by omega) fun v34 ev34 fv34 => ?_
                refine vA (by omega) fun v35 ev35 fv35 => ?_
                unfold fX7_cutOne_172
                refine vOk_bind (fX7_addToken_s ha0 hI) fun m36 hm36 => ?_
                unfold fX7_cutOne_180
                refine rM hm36 ?_
                first | exact True.intro | omega
        · have g37 := qv12.2.resolve_left (by omega)
          refine vS (by omega) fun v38 ev38 fv38 => ?_
          have cF := xFu
          exact fX7_cutOne_80_s ha0 _ _ _ _ (by omega) hI (by omega)
      · have g39 := qv9.2.resolve_left (by omega)
        have cF := xFu
        exact fX7_cutOne_33_s ha0 _ _ _ hI (by omega)
    · have g40 := qv1.resolve_left (by omega)
      unfold fX7_cutOne_18
      refine vA (by omega) fun v41 ev41 fv41 => ?_
      refine rM hI ?_
      first | exact True.intro | omega
theorem fX7_cut_9_s {R : xMem} {a0 : Nat} (ha0 : a0 ∈ pReader) : ∀ (fuel : Nat), ∀ (l1 : Int32) (l2 : Int32) (m : xMem), ((0 ≤ l2.toInt ∧ l2.toInt ≤ 300)) → IC R m → 2147483648 - l2.toInt < (fuel : Int) → vOk (IC R) (fX7_cut_9 a0 fuel l1 l2 m) := by
  intro fuel
  induction fuel with
  | zero =>
    intro l1 l2 m hp hI hmu
    have tl1 := tiB l1
    have tl2 := tiB l2
    exfalso; omega
  | succ fuel ih =>
    intro l1 l2 m hp hI hmu
    have tl1 := tiB l1
    have tl2 := tiB l2
    have c0 : (0 : Int32).toInt = 0 := rfl
    have c1 : (1 : Int32).toInt = 1 := rfl
    have c300 : (300 : Int32).toInt = 300 := rfl
    rw [fX7_cut_9]
    refine vLe (fun h1 => ?_) (fun h2 => ?_)
    · unfold fX7_cut_36
      refine vR fun v3 ev3 => ?_
      have fv3 := tiB v3
      refine vOk_bind (fX7_addToken_s ha0 hI) fun m4 hm4 => ?_
      exact vOk_some hm4
    · refine vR fun v5 ev5 => ?_
      have fv5 := tiB v5
      refine vLe (fun h6 => ?_) (fun h7 => ?_)
      · unfold fX7_cut_36
        refine vAl (ev5) ?_
        refine vOk_bind (fX7_addToken_s ha0 hI) fun m8 hm8 => ?_
        exact vOk_some hm8
      · refine vBindM (fX7_cutOne_s ha0 hI) fun v9 m10 hm10 qv9 => ?_
        try dsimp only
        have fv9 := tiB v9
        refine vA (by omega) fun v11 ev11 fv11 => ?_
        exact ih _ _ _ (by omega) hm10 (by omega)
theorem fX7_cut_s {R : xMem} {a0 : Nat} {m : xMem} (ha0 : a0 ∈ pReader) (hI : IC R m) : vOk (IC R) (fX7_cut a0 m) := by
  have c0 : (0 : Int32).toInt = 0 := rfl
  unfold fX7_cut
  unfold fX7_cut_0
  refine vR fun m1 em1 => ?_
  have hm1 : IC R m1 := by rw [em1]; exact IC_put hI (qReader_ok7 _ ha0)
  have cF := xFu
  exact fX7_cut_9_s ha0 _ _ _ _ (by omega) hm1 (by omega)
theorem fX7_readInto_36_s {R : xMem} {a0 : Nat} {a1 : Nat} (ha0 : a0 ∈ pReader) (ha1 : a1 ∈ pText) : ∀ (fuel : Nat), ∀ (l2 : Int32) (m : xMem), ((0 ≤ l2.toInt ∧ l2.toInt ≤ 2147483647)) → IC R m → 2147483648 - l2.toInt < (fuel : Int) → vOk (PM (IC R) (fun x : Int32 => (0 ≤ x.toInt ∧ x.toInt ≤ 1))) (fX7_readInto_36 a0 a1 fuel l2 m) := by
  intro fuel
  induction fuel with
  | zero =>
    intro l2 m hp hI hmu
    have tl2 := tiB l2
    exfalso; omega
  | succ fuel ih =>
    intro l2 m hp hI hmu
    have tl2 := tiB l2
    have c0 : (0 : Int32).toInt = 0 := rfl
    have c1 : (1 : Int32).toInt = 1 := rfl
    rw [fX7_readInto_36]
    refine vR fun v1 ev1 => ?_
    have fv1 := tiB v1
    refine vLe (fun h2 => ?_) (fun h3 => ?_)
    · unfold fX7_readInto_67
      refine rM hI ?_
      first | exact True.intro | omega
    · refine vBindP (fX7_kind_s ha0 hI) fun v4 ev4 qv4 => ?_
      try dsimp only
      have fv4 := tiB v4
      refine vEq (fun h5 => ?_) (fun h6 => ?_)
      · unfold fX7_readInto_67
        refine rM hI ?_
        first | exact True.intro | omega
      · refine vBindM (fX7_readClause_s ha0 ha1 hI) fun v7 m8 hm8 qv7 => ?_
        try dsimp only
        have fv7 := tiB v7
        refine vNe (fun h9 => ?_) (fun h10 => ?_)
        · refine vA (by omega) fun v11 ev11 fv11 => ?_
          exact ih _ _ (by omega) hm8 (by omega)
        · refine rM hm8 ?_
          first | exact True.intro | omega
theorem fX7_readInto_s {R : xMem} {a0 : Nat} {a1 : Nat} {m : xMem} (ha0 : a0 ∈ pReader) (ha1 : a1 ∈ pText) (hI : IC R m) : vOk (PM (IC R) (fun x : Int32 => (0 ≤ x.toInt ∧ x.toInt ≤ 1))) (fX7_readInto a0 a1 m) := by
  have cm1 : (-1 : Int32).toInt = -1 := rfl
  have c0 : (0 : Int32).toInt = 0 := rfl
  unfold fX7_readInto
  unfold fX7_readInto_0
  refine vOk_bind (fX7_cut_s ha0 hI) fun m1 hm1 => ?_
  refine vR fun m2 em2 => ?_
  have hm2 : IC R m2 := by rw [em2]; exact IC_put hm1 (qReader_ok4 _ ha0)
  refine vR fun m3 em3 => ?_
  have hm3 : IC R m3 := by rw [em3]; exact IC_put hm2 (qReader_ok8 _ ha0)
  refine vR fun m4 em4 => ?_
  have hm4 : IC R m4 := by rw [em4]; exact IC_put hm3 (qReader_ok5 _ ha0)
  refine vR fun m5 em5 => ?_
  have hm5 : IC R m5 := by rw [em5]; exact IC_put hm4 (qReader_ok6 _ ha0)
  refine vR fun m6 em6 => ?_
  have hm6 : IC R m6 := by rw [em6]; exact IC_put hm5 (qText_ok5 _ ha1)
  refine vR fun m7 em7 => ?_
  have hm7 : IC R m7 := by rw [em7]; exact IC_put hm6 (qText_ok6 _ ha1)
  have cF := xFu
  exact fX7_readInto_36_s ha0 ha1 _ _ _ (by omega) hm7 (by omega)
theorem fX11_text_s {R : xMem} {a0 : Nat} {m : xMem} (ha0 : a0 ∈ pMS) (hI : IC R m) : vOk (PM (IC R) (fun _ : Int32 => True)) (fX11_text a0 m) := by
  have cm1 : (-1 : Int32).toInt = -1 := rfl
  have c0 : (0 : Int32).toInt = 0 := rfl
  have c1 : (1 : Int32).toInt = 1 := rfl
  have c3 : (3 : Int32).toInt = 3 := rfl
  unfold fX11_text
  unfold fX11_text_0
  refine vR fun v1 ev1 => ?_
  have fv1 := tiB v1
  refine vBindP (fX11_within_s hI) fun v2 ev2 qv2 => ?_
  try dsimp only
  have fv2 := tiB v2
  refine vNe (fun h3 => ?_) (fun h4 => ?_)
  · have g5 := qv2.2.resolve_left (by omega)
    refine vAl (ev1) ?_
    refine vIn (by omega) (by omega) fun n6 => ?_
    refine vR fun r7 er7 => ?_
    have hr7 : r7 ∈ pText := by rw [er7]; exact (qMS_267_m6_4_inText _ ha0 _ n6)
    refine vBindM (fX7_readInto_s (qMS_255_inReader _ ha0) hr7 hI) fun v8 m9 hm9 qv8 => ?_
    try dsimp only
    have fv8 := tiB v8
    refine vNe (fun h10 => ?_) (fun h11 => ?_)
    · refine vR fun v12 ev12 => ?_
      have fv12 := tiB v12
      refine vI fun v13 ev13 fv13 => ?_
      refine vR fun m14 em14 => ?_
      have hm14 : IC R m14 := by rw [em14]; exact IC_put hm9 (qMS_1_ok10 _ ha0)
      refine vAl (xP_eqE em14) ?_
      refine vI fun v15 ev15 fv15 => ?_
      refine rM hm14 ?_
      first | exact True.intro | omega
    · refine rM hm9 ?_
      first | exact True.intro | omega
  · refine rM hI ?_
    first | exact True.intro | omega
theorem fX11_fault_s {R : xMem} {a0 : Nat} {a1 : Int32} {m : xMem} (ha0 : a0 ∈ pMS) (hI : IC R m) : vOk (PP m (fun x : Int32 => (x.toInt = -1 ∨ ((0 ≤ a1.toInt ∧ a1.toInt ≤ 1))))) (fX11_fault a0 a1 m) := by
  have ta1 := tiB a1
  have cm1 : (-1 : Int32).toInt = -1 := rfl
  have c0 : (0 : Int32).toInt = 0 := rfl
  have c1 : (1 : Int32).toInt = 1 := rfl
  unfold fX11_fault
  unfold fX11_fault_0
  refine vNe (fun h1 => ?_) (fun h2 => ?_)
  · refine vNe (fun h3 => ?_) (fun h4 => ?_)
    · unfold fX11_fault_28
      refine rP ?_
      first | exact True.intro | omega
    · refine vR fun v5 ev5 => ?_
      have fv5 := tiB v5
      unfold fX11_fault_28
      refine rP ?_
      first | exact True.intro | omega
  · refine vR fun v6 ev6 => ?_
    have fv6 := tiB v6
    refine rP ?_
    first | exact True.intro | omega
theorem fX11_by_s {R : xMem} {a0 : Nat} {a1 : Int32} {m : xMem} (ha0 : a0 ∈ pMS) (hI : IC R m) : vOk (PM (IC R) (fun x : Int32 => (0 ≤ x.toInt ∧ x.toInt ≤ 1) ∧ (x.toInt = 0 ∨ ((-1 ≤ a1.toInt ∧ a1.toInt ≤ 2147483647))))) (fX11_by a0 a1 m) := by
  have ta1 := tiB a1
  have cm1 : (-1 : Int32).toInt = -1 := rfl
  have c0 : (0 : Int32).toInt = 0 := rfl
  have c1 : (1 : Int32).toInt = 1 := rfl
  unfold fX11_by
  unfold fX11_by_0
  refine vR fun v1 ev1 => ?_
  have fv1 := tiB v1
  refine vI fun v2 ev2 fv2 => ?_
  refine vBindP (fX11_within_s hI) fun v3 ev3 qv3 => ?_
  try dsimp only
  have fv3 := tiB v3
  refine vNe (fun h4 => ?_) (fun h5 => ?_)
  · have g6 := qv3.2.resolve_left (by omega)
    refine vR fun m7 em7 => ?_
    have hm7 : IC R m7 := by rw [em7]; exact IC_put hI (qMS_1_ok11 _ ha0)
    refine rM hm7 ?_
    first | exact True.intro | omega
  · refine rM hI ?_
    first | exact True.intro | omega
theorem fX2_isOver_s {R : xMem} {a0 : Nat} {m : xMem} (ha0 : a0 ∈ pHall) (hI : IC R m) : vOk (PP m (fun x : Int32 => (0 ≤ x.toInt ∧ x.toInt ≤ 1))) (fX2_isOver a0 m) := by
  have c0 : (0 : Int32).toInt = 0 := rfl
  have c1 : (1 : Int32).toInt = 1 := rfl
  unfold fX2_isOver
  unfold fX2_isOver_0
  refine vR fun v1 ev1 => ?_
  have fv1 := tiB v1
  refine vR fun v2 ev2 => ?_
  have fv2 := tiB v2
  refine vLe (fun h3 => ?_) (fun h4 => ?_)
  · unfold fX2_isOver_16
    refine vB (by omega) ?_
    refine rP ?_
    first | exact True.intro | omega
  · unfold fX2_isOver_16
    refine vB (by omega) ?_
    refine rP ?_
    first | exact True.intro | omega
theorem fX6_countSecond_9_s {R : xMem} {a0 : Nat} {a1 : Nat} (ha0 : a0 ∈ pMover) (ha1 : a1 ∈ pStation) : ∀ (fuel : Nat), ∀ (l2 : Int64) (l4 : Int32) (m : xMem), ((0 ≤ l4.toInt ∧ l4.toInt ≤ 6)) → IC R m → 2147483648 - l4.toInt < (fuel : Int) → vOk (IC R) (fX6_countSecond_9 a0 a1 fuel l2 l4 m) := by
  intro fuel
  induction fuel with
  | zero =>
    intro l2 l4 m hp hI hmu
    have tl4 := tiB l4
    exfalso; omega
  | succ fuel ih =>
    intro l2 l4 m hp hI hmu
    have tl4 := tiB l4
    have cm1 : (-1 : Int32).toInt = -1 := rfl
    have c0 : (0 : Int32).toInt = 0 := rfl
    have c1 : (1 : Int32).toInt = 1 := rfl
    have c6 : (6 : Int32).toInt = 6 := rfl
    rw [fX6_countSecond_9]
    refine vR fun v1 ev1 => ?_
    have fv1 := tiB v1
    refine vLe (fun h2 => ?_) (fun h3 => ?_)
    · unfold fX6_countSecond_104
      refine vAny fun v4 => ?_
      refine vI fun v5 ev5 fv5 => ?_
      refine vR fun m6 em6 => ?_
      have hm6 : IC R m6 := by rw [em6]; exact IC_put hI (qStation_ok13 _ ha1)
      exact vOk_some hm6
    · refine vLe (fun h7 => ?_) (fun h8 => ?_)
      · unfold fX6_countSecond_104
        refine vAny fun v9 => ?_
        refine vI fun v10 ev10 fv10 => ?_
        refine vR fun m11 em11 => ?_
        have hm11 : IC R m11 := by rw [em11]; exact IC_put hI (qStation_ok13 _ ha1)
        exact vOk_some hm11
      · refine vIn (by omega) (by omega) fun n12 => ?_
        refine vR fun r13 er13 => ?_
        have hr13 : r13 ∈ pHall := by rw [er13]; exact (qStation_15_m3_6_inHall _ ha1 _ n12)
        refine vR fun v14 ev14 => ?_
        have fv14 := tiB v14
        refine vR fun v15 ev15 => ?_
        refine vR fun v16 ev16 => ?_
        have fv16 := tiB v16
        refine vR fun v17 ev17 => ?_
        refine vAny fun v18 => ?_
        refine vAny fun v19 => ?_
        refine vR fun v20 ev20 => ?_
        have fv20 : 0 ≤ v20.toInt ∧ v20.toInt ≤ 1 := by rw [ev20]; exact IC.bc hI _ _ (qHall_bc8 _ hr13)
        refine vEq (fun h21 => ?_) (fun h22 => ?_)
        · unfold fX6_countSecond_72
          refine vR fun v23 ev23 => ?_
          have fv23 := tiB v23
          refine vNe (fun h24 => ?_) (fun h25 => ?_)
          · unfold fX6_countSecond_98
            refine vA (by omega) fun v26 ev26 fv26 => ?_
            exact ih _ _ _ (by omega) hI (by omega)
          · refine vBindP (fX2_isOver_s hr13 hI) fun v27 ev27 qv27 => ?_
            try dsimp only
            have fv27 := tiB v27
            refine vEq (fun h28 => ?_) (fun h29 => ?_)
            · unfold fX6_countSecond_98
              refine vA (by omega) fun v30 ev30 fv30 => ?_
              exact ih _ _ _ (by omega) hI (by omega)
            · refine vR fun v31 ev31 => ?_
              have fv31 := tiB v31
              refine vR fun m32 em32 => ?_
              have hm32 : IC R m32 := by rw [em32]; exact IC_put hI (qHall_ok7 _ hr13)
              unfold fX6_countSecond_98
              refine vA (by omega) fun v33 ev33 fv33 => ?_
              exact ih _ _ _ (by omega) hm32 (by omega)
        · refine vR fun v34 ev34 => ?_
          have fv34 := tiB v34
          refine vI fun v35 ev35 fv35 => ?_
          refine vR fun m36 em36 => ?_
          have hm36 : IC R m36 := by rw [em36]; exact IC_put hI (qHall_ok6 _ hr13)
          unfold fX6_countSecond_72
          refine vR fun v37 ev37 => ?_
          have fv37 := tiB v37
          refine vNe (fun h38 => ?_) (fun h39 => ?_)
          · unfold fX6_countSecond_98
            refine vA (by omega) fun v40 ev40 fv40 => ?_
            exact ih _ _ _ (by omega) hm36 (by omega)
          · refine vBindP (fX2_isOver_s hr13 hm36) fun v41 ev41 qv41 => ?_
            try dsimp only
            have fv41 := tiB v41
            refine vEq (fun h42 => ?_) (fun h43 => ?_)
            · unfold fX6_countSecond_98
              refine vA (by omega) fun v44 ev44 fv44 => ?_
              exact ih _ _ _ (by omega) hm36 (by omega)
            · refine vR fun v45 ev45 => ?_
              have fv45 := tiB v45
              refine vR fun m46 em46 => ?_
              have hm46 : IC R m46 := by rw [em46]; exact IC_put hm36 (qHall_ok7 _ hr13)
              unfold fX6_countSecond_98
              refine vA (by omega) fun v47 ev47 fv47 => ?_
              exact ih _ _ _ (by omega) hm46 (by omega)
theorem fX6_countSecond_s {R : xMem} {a0 : Nat} {a1 : Nat} {m : xMem} (ha0 : a0 ∈ pMover) (ha1 : a1 ∈ pStation) (hI : IC R m) : vOk (IC R) (fX6_countSecond a0 a1 m) := by
  have c0 : (0 : Int32).toInt = 0 := rfl
  unfold fX6_countSecond
  unfold fX6_countSecond_0
  refine vR fun v1 ev1 => ?_
  have fv1 := tiB v1
  refine vR fun v2 ev2 => ?_
  have cF := xFu
  exact fX6_countSecond_9_s ha0 ha1 _ _ _ _ (by omega) hI (by omega)
theorem fX2_changeOutside_s {R : xMem} {a0 : Nat} {a1 : Int32} {a2 : Int32} {a3 : Int32} {m : xMem} (ha0 : a0 ∈ pHall) (hI : IC R m) : vOk (IC R) (fX2_changeOutside a0 a1 a2 a3 m) := by
  have ta1 := tiB a1
  have ta2 := tiB a2
  have ta3 := tiB a3
  have c0 : (0 : Int32).toInt = 0 := rfl
  have c6 : (6 : Int32).toInt = 6 := rfl
  have c12 : (12 : Int32).toInt = 12 := rfl
  unfold fX2_changeOutside
  unfold fX2_changeOutside_0
  refine vI fun v1 ev1 fv1 => ?_
  refine vI fun v2 ev2 fv2 => ?_
  refine vLt (fun h3 => ?_) (fun h4 => ?_)
  · unfold fX2_changeOutside_44
    exact vOk_some hI
  · refine vLe (fun h5 => ?_) (fun h6 => ?_)
    · unfold fX2_changeOutside_44
      exact vOk_some hI
    · refine vIn (by omega) (by omega) fun n7 => ?_
      refine vR fun v8 ev8 => ?_
      have fv8 := tiB v8
      refine vI fun v9 ev9 fv9 => ?_
      refine vIn (by omega) (by omega) fun n10 => ?_
      refine vR fun m11 em11 => ?_
      have hm11 : IC R m11 := by rw [em11]; exact IC_arr hI (qHall_2_inArr _ ha0)
      refine vR fun v12 ev12 => ?_
      have fv12 := tiB v12
      refine vI fun v13 ev13 fv13 => ?_
      refine vR fun m14 em14 => ?_
      have hm14 : IC R m14 := by rw [em14]; exact IC_put hm11 (qHall_ok5 _ ha0)
      unfold fX2_changeOutside_44
      exact vOk_some hm14
theorem fX2_change_s {R : xMem} {a0 : Nat} {a1 : Int32} {a2 : Int32} {a3 : Int32} {m : xMem} (ha0 : a0 ∈ pHall) (hI : IC R m) : vOk (IC R) (fX2_change a0 a1 a2 a3 m) := by
  have ta1 := tiB a1
  have ta2 := tiB a2
  have ta3 := tiB a3
  have c0 : (0 : Int32).toInt = 0 := rfl
  have c6 : (6 : Int32).toInt = 6 := rfl
  have c12 : (12 : Int32).toInt = 12 := rfl
  unfold fX2_change
  unfold fX2_change_0
  refine vI fun v1 ev1 fv1 => ?_
  refine vI fun v2 ev2 fv2 => ?_
  refine vLt (fun h3 => ?_) (fun h4 => ?_)
  · unfold fX2_change_44
    exact vOk_some hI
  · refine vLe (fun h5 => ?_) (fun h6 => ?_)
    · unfold fX2_change_44
      exact vOk_some hI
    · refine vIn (by omega) (by omega) fun n7 => ?_
      refine vR fun v8 ev8 => ?_
      have fv8 := tiB v8
      refine vI fun v9 ev9 fv9 => ?_
      refine vIn (by omega) (by omega) fun n10 => ?_
      refine vR fun m11 em11 => ?_
      have hm11 : IC R m11 := by rw [em11]; exact IC_arr hI (qHall_1_inArr _ ha0)
      refine vR fun v12 ev12 => ?_
      have fv12 := tiB v12
      refine vI fun v13 ev13 fv13 => ?_
      refine vR fun m14 em14 => ?_
      have hm14 : IC R m14 := by rw [em14]; exact IC_put hm11 (qHall_ok4 _ ha0)
      unfold fX2_change_44
      exact vOk_some hm14
theorem fX9_comeTo_s {R : xMem} {a0 : Nat} {a1 : Int32} {a2 : Int32} {a3 : Int32} {a4 : Int32} {m : xMem} (ha0 : a0 ∈ pStation) (hI : IC R m) : vOk (IC R) (fX9_comeTo a0 a1 a2 a3 a4 m) := by
  have ta1 := tiB a1
  have ta2 := tiB a2
  have ta3 := tiB a3
  have ta4 := tiB a4
  have c0 : (0 : Int32).toInt = 0 := rfl
  unfold fX9_comeTo
  unfold fX9_comeTo_0
  refine vNe (fun h1 => ?_) (fun h2 => ?_)
  · refine vBindP (fX9_hasHall_s ha0 hI) fun v3 ev3 qv3 => ?_
    try dsimp only
    have fv3 := tiB v3
    refine vEq (fun h4 => ?_) (fun h5 => ?_)
    · unfold fX9_comeTo_40
      exact vOk_some hI
    · have g6 := qv3.2.resolve_left (by omega)
      refine vIn (by omega) (by omega) fun n7 => ?_
      refine vR fun r8 er8 => ?_
      have hr8 : r8 ∈ pHall := by rw [er8]; exact (qStation_15_m3_6_inHall _ ha0 _ n7)
      refine vOk_bind (fX2_change_s hr8 hI) fun m9 hm9 => ?_
      unfold fX9_comeTo_40
      exact vOk_some hm9
  · refine vR fun v10 ev10 => ?_
    have fv10 := tiB v10
    refine vI fun v11 ev11 fv11 => ?_
    refine vR fun m12 em12 => ?_
    have hm12 : IC R m12 := by rw [em12]; exact IC_put hI (qStation_ok12 _ ha0)
    unfold fX9_comeTo_40
    exact vOk_some hm12
