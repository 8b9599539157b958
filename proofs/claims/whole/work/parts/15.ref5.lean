/-! MappedProcessorModel.execute(I)V -/
theorem d_Ref_execute_0 : decode b_Ref_execute 0 = .ok (.aload_n 0, 1) := by decide +kernel
theorem d_Ref_execute_1 : decode b_Ref_execute 1 = .ok (.invokevirtual 116, 3) := by decide +kernel
theorem d_Ref_execute_4 : decode b_Ref_execute 4 = .ok (.istore_n 2, 1) := by decide +kernel
theorem d_Ref_execute_5 : decode b_Ref_execute 5 = .ok (.iload_n 1, 1) := by decide +kernel
theorem d_Ref_execute_6 : decode b_Ref_execute 6 = .ok (.iconst 3, 1) := by decide +kernel
theorem d_Ref_execute_7 : decode b_Ref_execute 7 = .ok (.if_icmp .ne 11, 3) := by decide +kernel
theorem d_Ref_execute_10 : decode b_Ref_execute 10 = .ok (.aload_n 0, 1) := by decide +kernel
theorem d_Ref_execute_11 : decode b_Ref_execute 11 = .ok (.iload_n 2, 1) := by decide +kernel
theorem d_Ref_execute_12 : decode b_Ref_execute 12 = .ok (.invokevirtual 120, 3) := by decide +kernel
theorem d_Ref_execute_15 : decode b_Ref_execute 15 = .ok (.goto 268, 3) := by decide +kernel
theorem d_Ref_execute_18 : decode b_Ref_execute 18 = .ok (.iload_n 1, 1) := by decide +kernel
theorem d_Ref_execute_19 : decode b_Ref_execute 19 = .ok (.bipush 7, 2) := by decide +kernel
theorem d_Ref_execute_21 : decode b_Ref_execute 21 = .ok (.if_icmp .lt 24, 3) := by decide +kernel
theorem d_Ref_execute_24 : decode b_Ref_execute 24 = .ok (.iload_n 1, 1) := by decide +kernel
theorem d_Ref_execute_25 : decode b_Ref_execute 25 = .ok (.bipush 15, 2) := by decide +kernel
theorem d_Ref_execute_27 : decode b_Ref_execute 27 = .ok (.if_icmp .gt 18, 3) := by decide +kernel
theorem d_Ref_execute_30 : decode b_Ref_execute 30 = .ok (.iload_n 1, 1) := by decide +kernel
theorem d_Ref_execute_31 : decode b_Ref_execute 31 = .ok (.bipush 9, 2) := by decide +kernel
theorem d_Ref_execute_33 : decode b_Ref_execute 33 = .ok (.if_icmp .eq 12, 3) := by decide +kernel
theorem d_Ref_execute_36 : decode b_Ref_execute 36 = .ok (.aload_n 0, 1) := by decide +kernel
theorem d_Ref_execute_37 : decode b_Ref_execute 37 = .ok (.iload_n 1, 1) := by decide +kernel
theorem d_Ref_execute_38 : decode b_Ref_execute 38 = .ok (.iload_n 2, 1) := by decide +kernel
theorem d_Ref_execute_39 : decode b_Ref_execute 39 = .ok (.invokevirtual 123, 3) := by decide +kernel
theorem d_Ref_execute_42 : decode b_Ref_execute 42 = .ok (.goto 241, 3) := by decide +kernel
theorem d_Ref_execute_45 : decode b_Ref_execute 45 = .ok (.iload_n 1, 1) := by decide +kernel
theorem d_Ref_execute_46 : decode b_Ref_execute 46 = .ok (.bipush 16, 2) := by decide +kernel
theorem d_Ref_execute_48 : decode b_Ref_execute 48 = .ok (.if_icmp .ne 32, 3) := by decide +kernel
theorem d_Ref_execute_51 : decode b_Ref_execute 51 = .ok (.aload_n 0, 1) := by decide +kernel
theorem d_Ref_execute_52 : decode b_Ref_execute 52 = .ok (.aload_n 0, 1) := by decide +kernel
theorem d_Ref_execute_53 : decode b_Ref_execute 53 = .ok (.getfield 82, 3) := by decide +kernel
theorem d_Ref_execute_56 : decode b_Ref_execute 56 = .ok (.iload_n 2, 1) := by decide +kernel
theorem d_Ref_execute_57 : decode b_Ref_execute 57 = .ok (.bipush (-4), 2) := by decide +kernel
theorem d_Ref_execute_59 : decode b_Ref_execute 59 = .ok (.iand, 1) := by decide +kernel
theorem d_Ref_execute_60 : decode b_Ref_execute 60 = .ok (.aload_n 0, 1) := by decide +kernel
theorem d_Ref_execute_61 : decode b_Ref_execute 61 = .ok (.getfield 79, 3) := by decide +kernel
theorem d_Ref_execute_64 : decode b_Ref_execute 64 = .ok (.iconst 2, 1) := by decide +kernel
theorem d_Ref_execute_65 : decode b_Ref_execute 65 = .ok (.iand, 1) := by decide +kernel
theorem d_Ref_execute_66 : decode b_Ref_execute 66 = .ok (.ifCond .ne 7, 3) := by decide +kernel
theorem d_Ref_execute_69 : decode b_Ref_execute 69 = .ok (.iconst 1, 1) := by decide +kernel
theorem d_Ref_execute_70 : decode b_Ref_execute 70 = .ok (.goto 4, 3) := by decide +kernel
theorem d_Ref_execute_73 : decode b_Ref_execute 73 = .ok (.iconst 0, 1) := by decide +kernel
theorem d_Ref_execute_74 : decode b_Ref_execute 74 = .ok (.invokevirtual 126, 3) := by decide +kernel
theorem d_Ref_execute_77 : decode b_Ref_execute 77 = .ok (.goto 206, 3) := by decide +kernel
theorem d_Ref_execute_80 : decode b_Ref_execute 80 = .ok (.iload_n 1, 1) := by decide +kernel
theorem d_Ref_execute_81 : decode b_Ref_execute 81 = .ok (.bipush 17, 2) := by decide +kernel
theorem d_Ref_execute_83 : decode b_Ref_execute 83 = .ok (.if_icmp .ne 29, 3) := by decide +kernel
theorem d_Ref_execute_86 : decode b_Ref_execute 86 = .ok (.aload_n 0, 1) := by decide +kernel
theorem d_Ref_execute_87 : decode b_Ref_execute 87 = .ok (.sipush 3072, 3) := by decide +kernel
theorem d_Ref_execute_90 : decode b_Ref_execute 90 = .ok (.iconst 0, 1) := by decide +kernel
theorem d_Ref_execute_91 : decode b_Ref_execute 91 = .ok (.invokevirtual 61, 3) := by decide +kernel
theorem d_Ref_execute_94 : decode b_Ref_execute 94 = .ok (.aload_n 0, 1) := by decide +kernel
theorem d_Ref_execute_95 : decode b_Ref_execute 95 = .ok (.getfield 13, 3) := by decide +kernel
theorem d_Ref_execute_98 : decode b_Ref_execute 98 = .ok (.bipush 6, 2) := by decide +kernel
theorem d_Ref_execute_100 : decode b_Ref_execute 100 = .ok (.aload_n 0, 1) := by decide +kernel
theorem d_Ref_execute_101 : decode b_Ref_execute 101 = .ok (.getfield 13, 3) := by decide +kernel
theorem d_Ref_execute_104 : decode b_Ref_execute 104 = .ok (.iconst 0, 1) := by decide +kernel
theorem d_Ref_execute_105 : decode b_Ref_execute 105 = .ok (.iaload, 1) := by decide +kernel
theorem d_Ref_execute_106 : decode b_Ref_execute 106 = .ok (.iconst 4, 1) := by decide +kernel
theorem d_Ref_execute_107 : decode b_Ref_execute 107 = .ok (.iadd, 1) := by decide +kernel
theorem d_Ref_execute_108 : decode b_Ref_execute 108 = .ok (.iastore, 1) := by decide +kernel
theorem d_Ref_execute_109 : decode b_Ref_execute 109 = .ok (.goto 174, 3) := by decide +kernel
theorem d_Ref_execute_112 : decode b_Ref_execute 112 = .ok (.iload_n 1, 1) := by decide +kernel
theorem d_Ref_execute_113 : decode b_Ref_execute 113 = .ok (.bipush 18, 2) := by decide +kernel
theorem d_Ref_execute_115 : decode b_Ref_execute 115 = .ok (.if_icmp .ne 39, 3) := by decide +kernel
theorem d_Ref_execute_118 : decode b_Ref_execute 118 = .ok (.aload_n 0, 1) := by decide +kernel
theorem d_Ref_execute_119 : decode b_Ref_execute 119 = .ok (.bipush 20, 2) := by decide +kernel
theorem d_Ref_execute_121 : decode b_Ref_execute 121 = .ok (.aload_n 0, 1) := by decide +kernel
theorem d_Ref_execute_122 : decode b_Ref_execute 122 = .ok (.getfield 79, 3) := by decide +kernel
theorem d_Ref_execute_125 : decode b_Ref_execute 125 = .ok (.bipush 6, 2) := by decide +kernel
theorem d_Ref_execute_127 : decode b_Ref_execute 127 = .ok (.ishl, 1) := by decide +kernel
theorem d_Ref_execute_128 : decode b_Ref_execute 128 = .ok (.bipush 6, 2) := by decide +kernel
theorem d_Ref_execute_130 : decode b_Ref_execute 130 = .ok (.ishr, 1) := by decide +kernel
theorem d_Ref_execute_131 : decode b_Ref_execute 131 = .ok (.bipush (-4), 2) := by decide +kernel
theorem d_Ref_execute_133 : decode b_Ref_execute 133 = .ok (.iand, 1) := by decide +kernel
theorem d_Ref_execute_134 : decode b_Ref_execute 134 = .ok (.aload_n 0, 1) := by decide +kernel
theorem d_Ref_execute_135 : decode b_Ref_execute 135 = .ok (.getfield 79, 3) := by decide +kernel
theorem d_Ref_execute_138 : decode b_Ref_execute 138 = .ok (.iconst 2, 1) := by decide +kernel
theorem d_Ref_execute_139 : decode b_Ref_execute 139 = .ok (.iand, 1) := by decide +kernel
theorem d_Ref_execute_140 : decode b_Ref_execute 140 = .ok (.ifCond .ne 7, 3) := by decide +kernel
theorem d_Ref_execute_143 : decode b_Ref_execute 143 = .ok (.iconst 1, 1) := by decide +kernel
theorem d_Ref_execute_144 : decode b_Ref_execute 144 = .ok (.goto 4, 3) := by decide +kernel
theorem d_Ref_execute_147 : decode b_Ref_execute 147 = .ok (.iconst 0, 1) := by decide +kernel
theorem d_Ref_execute_148 : decode b_Ref_execute 148 = .ok (.invokevirtual 126, 3) := by decide +kernel
theorem d_Ref_execute_151 : decode b_Ref_execute 151 = .ok (.goto 132, 3) := by decide +kernel
theorem d_Ref_execute_154 : decode b_Ref_execute 154 = .ok (.iload_n 1, 1) := by decide +kernel
theorem d_Ref_execute_155 : decode b_Ref_execute 155 = .ok (.bipush 19, 2) := by decide +kernel
theorem d_Ref_execute_157 : decode b_Ref_execute 157 = .ok (.if_icmp .ne 20, 3) := by decide +kernel
theorem d_Ref_execute_160 : decode b_Ref_execute 160 = .ok (.aload_n 0, 1) := by decide +kernel
theorem d_Ref_execute_161 : decode b_Ref_execute 161 = .ok (.aload_n 0, 1) := by decide +kernel
theorem d_Ref_execute_162 : decode b_Ref_execute 162 = .ok (.getfield 79, 3) := by decide +kernel
theorem d_Ref_execute_165 : decode b_Ref_execute 165 = .ok (.iconst 1, 1) := by decide +kernel
theorem d_Ref_execute_166 : decode b_Ref_execute 166 = .ok (.ishr, 1) := by decide +kernel
theorem d_Ref_execute_167 : decode b_Ref_execute 167 = .ok (.sipush 1023, 3) := by decide +kernel
theorem d_Ref_execute_170 : decode b_Ref_execute 170 = .ok (.iand, 1) := by decide +kernel
theorem d_Ref_execute_171 : decode b_Ref_execute 171 = .ok (.invokevirtual 130, 3) := by decide +kernel
theorem d_Ref_execute_174 : decode b_Ref_execute 174 = .ok (.goto 109, 3) := by decide +kernel
theorem d_Ref_execute_177 : decode b_Ref_execute 177 = .ok (.iload_n 1, 1) := by decide +kernel
theorem d_Ref_execute_178 : decode b_Ref_execute 178 = .ok (.bipush 20, 2) := by decide +kernel
theorem d_Ref_execute_180 : decode b_Ref_execute 180 = .ok (.if_icmp .eq 15, 3) := by decide +kernel
theorem d_Ref_execute_183 : decode b_Ref_execute 183 = .ok (.iload_n 1, 1) := by decide +kernel
theorem d_Ref_execute_184 : decode b_Ref_execute 184 = .ok (.bipush 21, 2) := by decide +kernel
theorem d_Ref_execute_186 : decode b_Ref_execute 186 = .ok (.if_icmp .eq 9, 3) := by decide +kernel
theorem d_Ref_execute_189 : decode b_Ref_execute 189 = .ok (.iload_n 1, 1) := by decide +kernel
theorem d_Ref_execute_190 : decode b_Ref_execute 190 = .ok (.bipush 23, 2) := by decide +kernel
theorem d_Ref_execute_192 : decode b_Ref_execute 192 = .ok (.if_icmp .ne 11, 3) := by decide +kernel
theorem d_Ref_execute_195 : decode b_Ref_execute 195 = .ok (.aload_n 0, 1) := by decide +kernel
theorem d_Ref_execute_196 : decode b_Ref_execute 196 = .ok (.iload_n 1, 1) := by decide +kernel
theorem d_Ref_execute_197 : decode b_Ref_execute 197 = .ok (.invokevirtual 133, 3) := by decide +kernel
theorem d_Ref_execute_200 : decode b_Ref_execute 200 = .ok (.goto 83, 3) := by decide +kernel
theorem d_Ref_execute_203 : decode b_Ref_execute 203 = .ok (.iload_n 1, 1) := by decide +kernel
theorem d_Ref_execute_204 : decode b_Ref_execute 204 = .ok (.bipush 24, 2) := by decide +kernel
theorem d_Ref_execute_206 : decode b_Ref_execute 206 = .ok (.if_icmp .lt 17, 3) := by decide +kernel
theorem d_Ref_execute_209 : decode b_Ref_execute 209 = .ok (.iload_n 1, 1) := by decide +kernel
theorem d_Ref_execute_210 : decode b_Ref_execute 210 = .ok (.bipush 29, 2) := by decide +kernel
theorem d_Ref_execute_212 : decode b_Ref_execute 212 = .ok (.if_icmp .gt 11, 3) := by decide +kernel
theorem d_Ref_execute_215 : decode b_Ref_execute 215 = .ok (.aload_n 0, 1) := by decide +kernel
theorem d_Ref_execute_216 : decode b_Ref_execute 216 = .ok (.iload_n 1, 1) := by decide +kernel
theorem d_Ref_execute_217 : decode b_Ref_execute 217 = .ok (.invokevirtual 136, 3) := by decide +kernel
theorem d_Ref_execute_220 : decode b_Ref_execute 220 = .ok (.goto 63, 3) := by decide +kernel
theorem d_Ref_execute_223 : decode b_Ref_execute 223 = .ok (.iload_n 1, 1) := by decide +kernel
theorem d_Ref_execute_224 : decode b_Ref_execute 224 = .ok (.bipush 31, 2) := by decide +kernel
theorem d_Ref_execute_226 : decode b_Ref_execute 226 = .ok (.if_icmp .ne 20, 3) := by decide +kernel
theorem d_Ref_execute_229 : decode b_Ref_execute 229 = .ok (.aload_n 0, 1) := by decide +kernel
theorem d_Ref_execute_230 : decode b_Ref_execute 230 = .ok (.aload_n 0, 1) := by decide +kernel
theorem d_Ref_execute_231 : decode b_Ref_execute 231 = .ok (.getfield 79, 3) := by decide +kernel
theorem d_Ref_execute_234 : decode b_Ref_execute 234 = .ok (.iconst 1, 1) := by decide +kernel
theorem d_Ref_execute_235 : decode b_Ref_execute 235 = .ok (.ishr, 1) := by decide +kernel
theorem d_Ref_execute_236 : decode b_Ref_execute 236 = .ok (.sipush 1023, 3) := by decide +kernel
theorem d_Ref_execute_239 : decode b_Ref_execute 239 = .ok (.iand, 1) := by decide +kernel
theorem d_Ref_execute_240 : decode b_Ref_execute 240 = .ok (.invokevirtual 139, 3) := by decide +kernel
theorem d_Ref_execute_243 : decode b_Ref_execute 243 = .ok (.goto 40, 3) := by decide +kernel
theorem d_Ref_execute_246 : decode b_Ref_execute 246 = .ok (.iload_n 1, 1) := by decide +kernel
theorem d_Ref_execute_247 : decode b_Ref_execute 247 = .ok (.bipush 32, 2) := by decide +kernel
theorem d_Ref_execute_249 : decode b_Ref_execute 249 = .ok (.if_icmp .lt 9, 3) := by decide +kernel
theorem d_Ref_execute_252 : decode b_Ref_execute 252 = .ok (.iload_n 1, 1) := by decide +kernel
theorem d_Ref_execute_253 : decode b_Ref_execute 253 = .ok (.bipush 40, 2) := by decide +kernel
theorem d_Ref_execute_255 : decode b_Ref_execute 255 = .ok (.if_icmp .le 15, 3) := by decide +kernel
theorem d_Ref_execute_258 : decode b_Ref_execute 258 = .ok (.iload_n 1, 1) := by decide +kernel
theorem d_Ref_execute_259 : decode b_Ref_execute 259 = .ok (.bipush 42, 2) := by decide +kernel
theorem d_Ref_execute_261 : decode b_Ref_execute 261 = .ok (.if_icmp .eq 9, 3) := by decide +kernel
theorem d_Ref_execute_264 : decode b_Ref_execute 264 = .ok (.iload_n 1, 1) := by decide +kernel
theorem d_Ref_execute_265 : decode b_Ref_execute 265 = .ok (.bipush 44, 2) := by decide +kernel
theorem d_Ref_execute_267 : decode b_Ref_execute 267 = .ok (.if_icmp .ne 12, 3) := by decide +kernel
theorem d_Ref_execute_270 : decode b_Ref_execute 270 = .ok (.aload_n 0, 1) := by decide +kernel
theorem d_Ref_execute_271 : decode b_Ref_execute 271 = .ok (.iload_n 1, 1) := by decide +kernel
theorem d_Ref_execute_272 : decode b_Ref_execute 272 = .ok (.iload_n 2, 1) := by decide +kernel
theorem d_Ref_execute_273 : decode b_Ref_execute 273 = .ok (.invokevirtual 142, 3) := by decide +kernel
theorem d_Ref_execute_276 : decode b_Ref_execute 276 = .ok (.goto 7, 3) := by decide +kernel
theorem d_Ref_execute_279 : decode b_Ref_execute 279 = .ok (.aload_n 0, 1) := by decide +kernel
theorem d_Ref_execute_280 : decode b_Ref_execute 280 = .ok (.invokevirtual 145, 3) := by decide +kernel
theorem d_Ref_execute_283 : decode b_Ref_execute 283 = .ok (.return_, 1) := by decide +kernel
def f_Ref_execute (p0 : Int32) (rg : Nat → Int32) (rs : Nat → Int32) (rm : Nat → Int32) (rl : Int32) (rr : Int32) (re : Int32) (rc : Int32) (rd : Int32) (ra : Int32) (rb : Int32) (rn : Int32) (rf : Int32) (rw : Int32) : (Nat → Int32) × (Nat → Int32) × (Nat → Int32) × Int32 × Int32 × Int32 × Int32 × Int32 × Int32 :=
  if p0 = (3 : Int32) then
    let t693 := (f_Ref_trap (f_Ref_signed16 rc) rg rs rl rd ra rn rf)
    (rg, t693.1, rm, t693.2.1, rr, re, t693.2.2.1, t693.2.2.2, rw)
  else
    if p0 < (7 : Int32) then
      if p0 = (16 : Int32) then
        let t245 := (f_Ref_branch rd ((f_Ref_signed16 rc) &&& (-4 : Int32)) (if (rc &&& (2 : Int32)) = (0 : Int32) then (1 : Int32) else (0 : Int32)) rs rc ra)
        (rg, t245.1, rm, rl, rr, re, t245.2, rf, rw)
      else
        if p0 = (17 : Int32) then
          let t239 := (f_Ref_exception (3072 : Int32) (0 : Int32) rs)
          (rg, (upd t239.1 6 ((t239.1 0) + (4 : Int32))), rm, t239.2.1, rr, re, t239.2.2.1, t239.2.2.2, rw)
        else
          if p0 = (18 : Int32) then
            let t238 := (f_Ref_branch (20 : Int32) ((shr (shl rc (6 : Int32)) (6 : Int32)) &&& (-4 : Int32)) (if (rc &&& (2 : Int32)) = (0 : Int32) then (1 : Int32) else (0 : Int32)) rs rc ra)
            (rg, t238.1, rm, rl, rr, re, t238.2, rf, rw)
          else
            if p0 = (19 : Int32) then
              let t232 := (f_Ref_conditions ((shr rc (1 : Int32)) &&& (1023 : Int32)) rs rl rc rd ra rb rn rf)
              (rg, t232.1, rm, t232.2.1, rr, re, t232.2.2.1, t232.2.2.2, rw)
            else
              if p0 = (20 : Int32) then
                let t92 := (f_Ref_rotate p0 rg rs rc rd ra rb)
                (t92.1, t92.2, rm, rl, rr, re, rn, rf, rw)
              else
                if p0 = (21 : Int32) then
                  let t97 := (f_Ref_rotate p0 rg rs rc rd ra rb)
                  (t97.1, t97.2, rm, rl, rr, re, rn, rf, rw)
                else
                  if p0 = (23 : Int32) then
                    let t231 := (f_Ref_rotate p0 rg rs rc rd ra rb)
                    (t231.1, t231.2, rm, rl, rr, re, rn, rf, rw)
                  else
                    if p0 < (24 : Int32) then
                      if p0 = (31 : Int32) then
                        let t171 := (f_Ref_extended ((shr rc (1 : Int32)) &&& (1023 : Int32)) rg rs rm rl rr re rc rd ra rb rn rf rw)
                        (t171.1, t171.2.1, t171.2.2.1, t171.2.2.2.1, t171.2.2.2.2.1, t171.2.2.2.2.2.1, t171.2.2.2.2.2.2.1, t171.2.2.2.2.2.2.2.1, t171.2.2.2.2.2.2.2.2)
                      else
                        if p0 < (32 : Int32) then
                          if p0 = (42 : Int32) then
                            let t148 := (f_Ref_access p0 (f_Ref_signed16 rc) rg rs rm rl rr re rd ra rn rf rw)
                            (t148.1, t148.2.1, t148.2.2.1, t148.2.2.2.1, t148.2.2.2.2.1, t148.2.2.2.2.2.1, t148.2.2.2.2.2.2.1, t148.2.2.2.2.2.2.2.1, t148.2.2.2.2.2.2.2.2)
                          else
                            if p0 = (44 : Int32) then
                              let t154 := (f_Ref_access p0 (f_Ref_signed16 rc) rg rs rm rl rr re rd ra rn rf rw)
                              (t154.1, t154.2.1, t154.2.2.1, t154.2.2.2.1, t154.2.2.2.2.1, t154.2.2.2.2.2.1, t154.2.2.2.2.2.2.1, t154.2.2.2.2.2.2.2.1, t154.2.2.2.2.2.2.2.2)
                            else
                              let t153 := (f_Ref_unlisted rs)
                              (rg, t153.1, rm, t153.2.1, rr, re, t153.2.2.1, t153.2.2.2, rw)
                        else
                          if p0 ≤ (40 : Int32) then
                            let t159 := (f_Ref_access p0 (f_Ref_signed16 rc) rg rs rm rl rr re rd ra rn rf rw)
                            (t159.1, t159.2.1, t159.2.2.1, t159.2.2.2.1, t159.2.2.2.2.1, t159.2.2.2.2.2.1, t159.2.2.2.2.2.2.1, t159.2.2.2.2.2.2.2.1, t159.2.2.2.2.2.2.2.2)
                          else
                            if p0 = (42 : Int32) then
                              let t164 := (f_Ref_access p0 (f_Ref_signed16 rc) rg rs rm rl rr re rd ra rn rf rw)
                              (t164.1, t164.2.1, t164.2.2.1, t164.2.2.2.1, t164.2.2.2.2.1, t164.2.2.2.2.2.1, t164.2.2.2.2.2.2.1, t164.2.2.2.2.2.2.2.1, t164.2.2.2.2.2.2.2.2)
                            else
                              if p0 = (44 : Int32) then
                                let t170 := (f_Ref_access p0 (f_Ref_signed16 rc) rg rs rm rl rr re rd ra rn rf rw)
                                (t170.1, t170.2.1, t170.2.2.1, t170.2.2.2.1, t170.2.2.2.2.1, t170.2.2.2.2.2.1, t170.2.2.2.2.2.2.1, t170.2.2.2.2.2.2.2.1, t170.2.2.2.2.2.2.2.2)
                              else
                                let t169 := (f_Ref_unlisted rs)
                                (rg, t169.1, rm, t169.2.1, rr, re, t169.2.2.1, t169.2.2.2, rw)
                    else
                      if (29 : Int32) < p0 then
                        if p0 = (31 : Int32) then
                          let t229 := (f_Ref_extended ((shr rc (1 : Int32)) &&& (1023 : Int32)) rg rs rm rl rr re rc rd ra rb rn rf rw)
                          (t229.1, t229.2.1, t229.2.2.1, t229.2.2.2.1, t229.2.2.2.2.1, t229.2.2.2.2.2.1, t229.2.2.2.2.2.2.1, t229.2.2.2.2.2.2.2.1, t229.2.2.2.2.2.2.2.2)
                        else
                          if p0 < (32 : Int32) then
                            if p0 = (42 : Int32) then
                              let t206 := (f_Ref_access p0 (f_Ref_signed16 rc) rg rs rm rl rr re rd ra rn rf rw)
                              (t206.1, t206.2.1, t206.2.2.1, t206.2.2.2.1, t206.2.2.2.2.1, t206.2.2.2.2.2.1, t206.2.2.2.2.2.2.1, t206.2.2.2.2.2.2.2.1, t206.2.2.2.2.2.2.2.2)
                            else
                              if p0 = (44 : Int32) then
                                let t212 := (f_Ref_access p0 (f_Ref_signed16 rc) rg rs rm rl rr re rd ra rn rf rw)
                                (t212.1, t212.2.1, t212.2.2.1, t212.2.2.2.1, t212.2.2.2.2.1, t212.2.2.2.2.2.1, t212.2.2.2.2.2.2.1, t212.2.2.2.2.2.2.2.1, t212.2.2.2.2.2.2.2.2)
                              else
                                let t211 := (f_Ref_unlisted rs)
                                (rg, t211.1, rm, t211.2.1, rr, re, t211.2.2.1, t211.2.2.2, rw)
                          else
                            if p0 ≤ (40 : Int32) then
                              let t217 := (f_Ref_access p0 (f_Ref_signed16 rc) rg rs rm rl rr re rd ra rn rf rw)
                              (t217.1, t217.2.1, t217.2.2.1, t217.2.2.2.1, t217.2.2.2.2.1, t217.2.2.2.2.2.1, t217.2.2.2.2.2.2.1, t217.2.2.2.2.2.2.2.1, t217.2.2.2.2.2.2.2.2)
                            else
                              if p0 = (42 : Int32) then
                                let t222 := (f_Ref_access p0 (f_Ref_signed16 rc) rg rs rm rl rr re rd ra rn rf rw)
                                (t222.1, t222.2.1, t222.2.2.1, t222.2.2.2.1, t222.2.2.2.2.1, t222.2.2.2.2.2.1, t222.2.2.2.2.2.2.1, t222.2.2.2.2.2.2.2.1, t222.2.2.2.2.2.2.2.2)
                              else
                                if p0 = (44 : Int32) then
                                  let t228 := (f_Ref_access p0 (f_Ref_signed16 rc) rg rs rm rl rr re rd ra rn rf rw)
                                  (t228.1, t228.2.1, t228.2.2.1, t228.2.2.2.1, t228.2.2.2.2.1, t228.2.2.2.2.2.1, t228.2.2.2.2.2.2.1, t228.2.2.2.2.2.2.2.1, t228.2.2.2.2.2.2.2.2)
                                else
                                  let t227 := (f_Ref_unlisted rs)
                                  (rg, t227.1, rm, t227.2.1, rr, re, t227.2.2.1, t227.2.2.2, rw)
                      else
                        let t230 := (f_Ref_logical p0 rg rs rc rd ra)
                        (t230.1, t230.2, rm, rl, rr, re, rn, rf, rw)
    else
      if (15 : Int32) < p0 then
        if p0 = (16 : Int32) then
          let t468 := (f_Ref_branch rd ((f_Ref_signed16 rc) &&& (-4 : Int32)) (if (rc &&& (2 : Int32)) = (0 : Int32) then (1 : Int32) else (0 : Int32)) rs rc ra)
          (rg, t468.1, rm, rl, rr, re, t468.2, rf, rw)
        else
          if p0 = (17 : Int32) then
            let t462 := (f_Ref_exception (3072 : Int32) (0 : Int32) rs)
            (rg, (upd t462.1 6 ((t462.1 0) + (4 : Int32))), rm, t462.2.1, rr, re, t462.2.2.1, t462.2.2.2, rw)
          else
            if p0 = (18 : Int32) then
              let t461 := (f_Ref_branch (20 : Int32) ((shr (shl rc (6 : Int32)) (6 : Int32)) &&& (-4 : Int32)) (if (rc &&& (2 : Int32)) = (0 : Int32) then (1 : Int32) else (0 : Int32)) rs rc ra)
              (rg, t461.1, rm, rl, rr, re, t461.2, rf, rw)
            else
              if p0 = (19 : Int32) then
                let t455 := (f_Ref_conditions ((shr rc (1 : Int32)) &&& (1023 : Int32)) rs rl rc rd ra rb rn rf)
                (rg, t455.1, rm, t455.2.1, rr, re, t455.2.2.1, t455.2.2.2, rw)
              else
                if p0 = (20 : Int32) then
                  let t315 := (f_Ref_rotate p0 rg rs rc rd ra rb)
                  (t315.1, t315.2, rm, rl, rr, re, rn, rf, rw)
                else
                  if p0 = (21 : Int32) then
                    let t320 := (f_Ref_rotate p0 rg rs rc rd ra rb)
                    (t320.1, t320.2, rm, rl, rr, re, rn, rf, rw)
                  else
                    if p0 = (23 : Int32) then
                      let t454 := (f_Ref_rotate p0 rg rs rc rd ra rb)
                      (t454.1, t454.2, rm, rl, rr, re, rn, rf, rw)
                    else
                      if p0 < (24 : Int32) then
                        if p0 = (31 : Int32) then
                          let t394 := (f_Ref_extended ((shr rc (1 : Int32)) &&& (1023 : Int32)) rg rs rm rl rr re rc rd ra rb rn rf rw)
                          (t394.1, t394.2.1, t394.2.2.1, t394.2.2.2.1, t394.2.2.2.2.1, t394.2.2.2.2.2.1, t394.2.2.2.2.2.2.1, t394.2.2.2.2.2.2.2.1, t394.2.2.2.2.2.2.2.2)
                        else
                          if p0 < (32 : Int32) then
                            if p0 = (42 : Int32) then
                              let t371 := (f_Ref_access p0 (f_Ref_signed16 rc) rg rs rm rl rr re rd ra rn rf rw)
                              (t371.1, t371.2.1, t371.2.2.1, t371.2.2.2.1, t371.2.2.2.2.1, t371.2.2.2.2.2.1, t371.2.2.2.2.2.2.1, t371.2.2.2.2.2.2.2.1, t371.2.2.2.2.2.2.2.2)
                            else
                              if p0 = (44 : Int32) then
                                let t377 := (f_Ref_access p0 (f_Ref_signed16 rc) rg rs rm rl rr re rd ra rn rf rw)
                                (t377.1, t377.2.1, t377.2.2.1, t377.2.2.2.1, t377.2.2.2.2.1, t377.2.2.2.2.2.1, t377.2.2.2.2.2.2.1, t377.2.2.2.2.2.2.2.1, t377.2.2.2.2.2.2.2.2)
                              else
                                let t376 := (f_Ref_unlisted rs)
                                (rg, t376.1, rm, t376.2.1, rr, re, t376.2.2.1, t376.2.2.2, rw)
                          else
                            if p0 ≤ (40 : Int32) then
                              let t382 := (f_Ref_access p0 (f_Ref_signed16 rc) rg rs rm rl rr re rd ra rn rf rw)
                              (t382.1, t382.2.1, t382.2.2.1, t382.2.2.2.1, t382.2.2.2.2.1, t382.2.2.2.2.2.1, t382.2.2.2.2.2.2.1, t382.2.2.2.2.2.2.2.1, t382.2.2.2.2.2.2.2.2)
                            else
                              if p0 = (42 : Int32) then
                                let t387 := (f_Ref_access p0 (f_Ref_signed16 rc) rg rs rm rl rr re rd ra rn rf rw)
                                (t387.1, t387.2.1, t387.2.2.1, t387.2.2.2.1, t387.2.2.2.2.1, t387.2.2.2.2.2.1, t387.2.2.2.2.2.2.1, t387.2.2.2.2.2.2.2.1, t387.2.2.2.2.2.2.2.2)
                              else
                                if p0 = (44 : Int32) then
                                  let t393 := (f_Ref_access p0 (f_Ref_signed16 rc) rg rs rm rl rr re rd ra rn rf rw)
                                  (t393.1, t393.2.1, t393.2.2.1, t393.2.2.2.1, t393.2.2.2.2.1, t393.2.2.2.2.2.1, t393.2.2.2.2.2.2.1, t393.2.2.2.2.2.2.2.1, t393.2.2.2.2.2.2.2.2)
                                else
                                  let t392 := (f_Ref_unlisted rs)
                                  (rg, t392.1, rm, t392.2.1, rr, re, t392.2.2.1, t392.2.2.2, rw)
                      else
                        if (29 : Int32) < p0 then
                          if p0 = (31 : Int32) then
                            let t452 := (f_Ref_extended ((shr rc (1 : Int32)) &&& (1023 : Int32)) rg rs rm rl rr re rc rd ra rb rn rf rw)
                            (t452.1, t452.2.1, t452.2.2.1, t452.2.2.2.1, t452.2.2.2.2.1, t452.2.2.2.2.2.1, t452.2.2.2.2.2.2.1, t452.2.2.2.2.2.2.2.1, t452.2.2.2.2.2.2.2.2)
                          else
                            if p0 < (32 : Int32) then
                              if p0 = (42 : Int32) then
                                let t429 := (f_Ref_access p0 (f_Ref_signed16 rc) rg rs rm rl rr re rd ra rn rf rw)
                                (t429.1, t429.2.1, t429.2.2.1, t429.2.2.2.1, t429.2.2.2.2.1, t429.2.2.2.2.2.1, t429.2.2.2.2.2.2.1, t429.2.2.2.2.2.2.2.1, t429.2.2.2.2.2.2.2.2)
                              else
                                if p0 = (44 : Int32) then
                                  let t435 := (f_Ref_access p0 (f_Ref_signed16 rc) rg rs rm rl rr re rd ra rn rf rw)
                                  (t435.1, t435.2.1, t435.2.2.1, t435.2.2.2.1, t435.2.2.2.2.1, t435.2.2.2.2.2.1, t435.2.2.2.2.2.2.1, t435.2.2.2.2.2.2.2.1, t435.2.2.2.2.2.2.2.2)
                                else
                                  let t434 := (f_Ref_unlisted rs)
                                  (rg, t434.1, rm, t434.2.1, rr, re, t434.2.2.1, t434.2.2.2, rw)
                            else
                              if p0 ≤ (40 : Int32) then
                                let t440 := (f_Ref_access p0 (f_Ref_signed16 rc) rg rs rm rl rr re rd ra rn rf rw)
                                (t440.1, t440.2.1, t440.2.2.1, t440.2.2.2.1, t440.2.2.2.2.1, t440.2.2.2.2.2.1, t440.2.2.2.2.2.2.1, t440.2.2.2.2.2.2.2.1, t440.2.2.2.2.2.2.2.2)
                              else
                                if p0 = (42 : Int32) then
                                  let t445 := (f_Ref_access p0 (f_Ref_signed16 rc) rg rs rm rl rr re rd ra rn rf rw)
                                  (t445.1, t445.2.1, t445.2.2.1, t445.2.2.2.1, t445.2.2.2.2.1, t445.2.2.2.2.2.1, t445.2.2.2.2.2.2.1, t445.2.2.2.2.2.2.2.1, t445.2.2.2.2.2.2.2.2)
                                else
                                  if p0 = (44 : Int32) then
                                    let t451 := (f_Ref_access p0 (f_Ref_signed16 rc) rg rs rm rl rr re rd ra rn rf rw)
                                    (t451.1, t451.2.1, t451.2.2.1, t451.2.2.2.1, t451.2.2.2.2.1, t451.2.2.2.2.2.1, t451.2.2.2.2.2.2.1, t451.2.2.2.2.2.2.2.1, t451.2.2.2.2.2.2.2.2)
                                  else
                                    let t450 := (f_Ref_unlisted rs)
                                    (rg, t450.1, rm, t450.2.1, rr, re, t450.2.2.1, t450.2.2.2, rw)
                        else
                          let t453 := (f_Ref_logical p0 rg rs rc rd ra)
                          (t453.1, t453.2, rm, rl, rr, re, rn, rf, rw)
      else
        if p0 = (9 : Int32) then
          if p0 = (16 : Int32) then
            let t691 := (f_Ref_branch rd ((f_Ref_signed16 rc) &&& (-4 : Int32)) (if (rc &&& (2 : Int32)) = (0 : Int32) then (1 : Int32) else (0 : Int32)) rs rc ra)
            (rg, t691.1, rm, rl, rr, re, t691.2, rf, rw)
          else
            if p0 = (17 : Int32) then
              let t685 := (f_Ref_exception (3072 : Int32) (0 : Int32) rs)
              (rg, (upd t685.1 6 ((t685.1 0) + (4 : Int32))), rm, t685.2.1, rr, re, t685.2.2.1, t685.2.2.2, rw)
            else
              if p0 = (18 : Int32) then
                let t684 := (f_Ref_branch (20 : Int32) ((shr (shl rc (6 : Int32)) (6 : Int32)) &&& (-4 : Int32)) (if (rc &&& (2 : Int32)) = (0 : Int32) then (1 : Int32) else (0 : Int32)) rs rc ra)
                (rg, t684.1, rm, rl, rr, re, t684.2, rf, rw)
              else
                if p0 = (19 : Int32) then
                  let t678 := (f_Ref_conditions ((shr rc (1 : Int32)) &&& (1023 : Int32)) rs rl rc rd ra rb rn rf)
                  (rg, t678.1, rm, t678.2.1, rr, re, t678.2.2.1, t678.2.2.2, rw)
                else
                  if p0 = (20 : Int32) then
                    let t538 := (f_Ref_rotate p0 rg rs rc rd ra rb)
                    (t538.1, t538.2, rm, rl, rr, re, rn, rf, rw)
                  else
                    if p0 = (21 : Int32) then
                      let t543 := (f_Ref_rotate p0 rg rs rc rd ra rb)
                      (t543.1, t543.2, rm, rl, rr, re, rn, rf, rw)
                    else
                      if p0 = (23 : Int32) then
                        let t677 := (f_Ref_rotate p0 rg rs rc rd ra rb)
                        (t677.1, t677.2, rm, rl, rr, re, rn, rf, rw)
                      else
                        if p0 < (24 : Int32) then
                          if p0 = (31 : Int32) then
                            let t617 := (f_Ref_extended ((shr rc (1 : Int32)) &&& (1023 : Int32)) rg rs rm rl rr re rc rd ra rb rn rf rw)
                            (t617.1, t617.2.1, t617.2.2.1, t617.2.2.2.1, t617.2.2.2.2.1, t617.2.2.2.2.2.1, t617.2.2.2.2.2.2.1, t617.2.2.2.2.2.2.2.1, t617.2.2.2.2.2.2.2.2)
                          else
                            if p0 < (32 : Int32) then
                              if p0 = (42 : Int32) then
                                let t594 := (f_Ref_access p0 (f_Ref_signed16 rc) rg rs rm rl rr re rd ra rn rf rw)
                                (t594.1, t594.2.1, t594.2.2.1, t594.2.2.2.1, t594.2.2.2.2.1, t594.2.2.2.2.2.1, t594.2.2.2.2.2.2.1, t594.2.2.2.2.2.2.2.1, t594.2.2.2.2.2.2.2.2)
                              else
                                if p0 = (44 : Int32) then
                                  let t600 := (f_Ref_access p0 (f_Ref_signed16 rc) rg rs rm rl rr re rd ra rn rf rw)
                                  (t600.1, t600.2.1, t600.2.2.1, t600.2.2.2.1, t600.2.2.2.2.1, t600.2.2.2.2.2.1, t600.2.2.2.2.2.2.1, t600.2.2.2.2.2.2.2.1, t600.2.2.2.2.2.2.2.2)
                                else
                                  let t599 := (f_Ref_unlisted rs)
                                  (rg, t599.1, rm, t599.2.1, rr, re, t599.2.2.1, t599.2.2.2, rw)
                            else
                              if p0 ≤ (40 : Int32) then
                                let t605 := (f_Ref_access p0 (f_Ref_signed16 rc) rg rs rm rl rr re rd ra rn rf rw)
                                (t605.1, t605.2.1, t605.2.2.1, t605.2.2.2.1, t605.2.2.2.2.1, t605.2.2.2.2.2.1, t605.2.2.2.2.2.2.1, t605.2.2.2.2.2.2.2.1, t605.2.2.2.2.2.2.2.2)
                              else
                                if p0 = (42 : Int32) then
                                  let t610 := (f_Ref_access p0 (f_Ref_signed16 rc) rg rs rm rl rr re rd ra rn rf rw)
                                  (t610.1, t610.2.1, t610.2.2.1, t610.2.2.2.1, t610.2.2.2.2.1, t610.2.2.2.2.2.1, t610.2.2.2.2.2.2.1, t610.2.2.2.2.2.2.2.1, t610.2.2.2.2.2.2.2.2)
                                else
                                  if p0 = (44 : Int32) then
                                    let t616 := (f_Ref_access p0 (f_Ref_signed16 rc) rg rs rm rl rr re rd ra rn rf rw)
                                    (t616.1, t616.2.1, t616.2.2.1, t616.2.2.2.1, t616.2.2.2.2.1, t616.2.2.2.2.2.1, t616.2.2.2.2.2.2.1, t616.2.2.2.2.2.2.2.1, t616.2.2.2.2.2.2.2.2)
                                  else
                                    let t615 := (f_Ref_unlisted rs)
                                    (rg, t615.1, rm, t615.2.1, rr, re, t615.2.2.1, t615.2.2.2, rw)
                        else
                          if (29 : Int32) < p0 then
                            if p0 = (31 : Int32) then
                              let t675 := (f_Ref_extended ((shr rc (1 : Int32)) &&& (1023 : Int32)) rg rs rm rl rr re rc rd ra rb rn rf rw)
                              (t675.1, t675.2.1, t675.2.2.1, t675.2.2.2.1, t675.2.2.2.2.1, t675.2.2.2.2.2.1, t675.2.2.2.2.2.2.1, t675.2.2.2.2.2.2.2.1, t675.2.2.2.2.2.2.2.2)
                            else
                              if p0 < (32 : Int32) then
                                if p0 = (42 : Int32) then
                                  let t652 := (f_Ref_access p0 (f_Ref_signed16 rc) rg rs rm rl rr re rd ra rn rf rw)
                                  (t652.1, t652.2.1, t652.2.2.1, t652.2.2.2.1, t652.2.2.2.2.1, t652.2.2.2.2.2.1, t652.2.2.2.2.2.2.1, t652.2.2.2.2.2.2.2.1, t652.2.2.2.2.2.2.2.2)
                                else
                                  if p0 = (44 : Int32) then
                                    let t658 := (f_Ref_access p0 (f_Ref_signed16 rc) rg rs rm rl rr re rd ra rn rf rw)
                                    (t658.1, t658.2.1, t658.2.2.1, t658.2.2.2.1, t658.2.2.2.2.1, t658.2.2.2.2.2.1, t658.2.2.2.2.2.2.1, t658.2.2.2.2.2.2.2.1, t658.2.2.2.2.2.2.2.2)
                                  else
                                    let t657 := (f_Ref_unlisted rs)
                                    (rg, t657.1, rm, t657.2.1, rr, re, t657.2.2.1, t657.2.2.2, rw)
                              else
                                if p0 ≤ (40 : Int32) then
                                  let t663 := (f_Ref_access p0 (f_Ref_signed16 rc) rg rs rm rl rr re rd ra rn rf rw)
                                  (t663.1, t663.2.1, t663.2.2.1, t663.2.2.2.1, t663.2.2.2.2.1, t663.2.2.2.2.2.1, t663.2.2.2.2.2.2.1, t663.2.2.2.2.2.2.2.1, t663.2.2.2.2.2.2.2.2)
                                else
                                  if p0 = (42 : Int32) then
                                    let t668 := (f_Ref_access p0 (f_Ref_signed16 rc) rg rs rm rl rr re rd ra rn rf rw)
                                    (t668.1, t668.2.1, t668.2.2.1, t668.2.2.2.1, t668.2.2.2.2.1, t668.2.2.2.2.2.1, t668.2.2.2.2.2.2.1, t668.2.2.2.2.2.2.2.1, t668.2.2.2.2.2.2.2.2)
                                  else
                                    if p0 = (44 : Int32) then
                                      let t674 := (f_Ref_access p0 (f_Ref_signed16 rc) rg rs rm rl rr re rd ra rn rf rw)
                                      (t674.1, t674.2.1, t674.2.2.1, t674.2.2.2.1, t674.2.2.2.2.1, t674.2.2.2.2.2.1, t674.2.2.2.2.2.2.1, t674.2.2.2.2.2.2.2.1, t674.2.2.2.2.2.2.2.2)
                                    else
                                      let t673 := (f_Ref_unlisted rs)
                                      (rg, t673.1, rm, t673.2.1, rr, re, t673.2.2.1, t673.2.2.2, rw)
                          else
                            let t676 := (f_Ref_logical p0 rg rs rc rd ra)
                            (t676.1, t676.2, rm, rl, rr, re, rn, rf, rw)
        else
          let t692 := (f_Ref_immediate p0 (f_Ref_signed16 rc) rg rs rc rd ra)
          (t692.1, t692.2, rm, rl, rr, re, rn, rf, rw)
def rq_Ref_execute (z : (Nat → Int32) × (Nat → Int32) × (Nat → Int32) × Int32 × Int32 × Int32 × Int32 × Int32 × Int32) : Prop := isB z.2.2.2.2.2.2.2.1
set_option maxHeartbeats 4000000 in
set_option maxRecDepth 100000 in
theorem rq0_Ref_execute (p0 : Int32) (rg : Nat → Int32) (rs : Nat → Int32) (rm : Nat → Int32) (rl : Int32) (rr : Int32) (re : Int32) (rc : Int32) (rd : Int32) (ra : Int32) (rb : Int32) (rn : Int32) (rf : Int32) (rw : Int32) (h : isB rf) : rq_Ref_execute (f_Ref_execute p0 rg rs rm rl rr re rc rd ra rb rn rf rw) := by
  unfold f_Ref_execute
  try dsimp only
  repeat' (with_reducible refine pred_ite ?_ ?_)
  all_goals (unfold rq_Ref_execute)
  all_goals (try dsimp only)
  all_goals first | with_reducible exact h | with_reducible exact ib0 | with_reducible exact ib1 | with_reducible exact rb_Ref_exception _ _ _ | with_reducible exact rb_Ref_unlisted _ | with_reducible exact rb_Ref_trap _ _ _ _ _ _ _ _ (by first | with_reducible exact h | with_reducible exact ib0 | with_reducible exact ib1 | with_reducible exact rb_Ref_exception _ _ _ | with_reducible exact rb_Ref_unlisted _ | with_reducible exact rb_Ref_trap _ _ _ _ _ _ _ _ (by first | with_reducible exact h | with_reducible exact ib0 | with_reducible exact ib1 | with_reducible exact rb_Ref_exception _ _ _ | with_reducible exact rb_Ref_unlisted _) | with_reducible exact rb_Ref_conditions _ _ _ _ _ _ _ _ _ (by first | with_reducible exact h | with_reducible exact ib0 | with_reducible exact ib1 | with_reducible exact rb_Ref_exception _ _ _ | with_reducible exact rb_Ref_unlisted _) | with_reducible exact rb_Ref_extended _ _ _ _ _ _ _ _ _ _ _ _ _ _ (by first | with_reducible exact h | with_reducible exact ib0 | with_reducible exact ib1 | with_reducible exact rb_Ref_exception _ _ _ | with_reducible exact rb_Ref_unlisted _) | with_reducible exact rb_Ref_access _ _ _ _ _ _ _ _ _ _ _ _ _ (by first | with_reducible exact h | with_reducible exact ib0 | with_reducible exact ib1 | with_reducible exact rb_Ref_exception _ _ _ | with_reducible exact rb_Ref_unlisted _)) | with_reducible exact rb_Ref_conditions _ _ _ _ _ _ _ _ _ (by first | with_reducible exact h | with_reducible exact ib0 | with_reducible exact ib1 | with_reducible exact rb_Ref_exception _ _ _ | with_reducible exact rb_Ref_unlisted _ | with_reducible exact rb_Ref_trap _ _ _ _ _ _ _ _ (by first | with_reducible exact h | with_reducible exact ib0 | with_reducible exact ib1 | with_reducible exact rb_Ref_exception _ _ _ | with_reducible exact rb_Ref_unlisted _) | with_reducible exact rb_Ref_conditions _ _ _ _ _ _ _ _ _ (by first | with_reducible exact h | with_reducible exact ib0 | with_reducible exact ib1 | with_reducible exact rb_Ref_exception _ _ _ | with_reducible exact rb_Ref_unlisted _) | with_reducible exact rb_Ref_extended _ _ _ _ _ _ _ _ _ _ _ _ _ _ (by first | with_reducible exact h | with_reducible exact ib0 | with_reducible exact ib1 | with_reducible exact rb_Ref_exception _ _ _ | with_reducible exact rb_Ref_unlisted _) | with_reducible exact rb_Ref_access _ _ _ _ _ _ _ _ _ _ _ _ _ (by first | with_reducible exact h | with_reducible exact ib0 | with_reducible exact ib1 | with_reducible exact rb_Ref_exception _ _ _ | with_reducible exact rb_Ref_unlisted _)) | with_reducible exact rb_Ref_extended _ _ _ _ _ _ _ _ _ _ _ _ _ _ (by first | with_reducible exact h | with_reducible exact ib0 | with_reducible exact ib1 | with_reducible exact rb_Ref_exception _ _ _ | with_reducible exact rb_Ref_unlisted _ | with_reducible exact rb_Ref_trap _ _ _ _ _ _ _ _ (by first | with_reducible exact h | with_reducible exact ib0 | with_reducible exact ib1 | with_reducible exact rb_Ref_exception _ _ _ | with_reducible exact rb_Ref_unlisted _) | with_reducible exact rb_Ref_conditions _ _ _ _ _ _ _ _ _ (by first | with_reducible exact h | with_reducible exact ib0 | with_reducible exact ib1 | with_reducible exact rb_Ref_exception _ _ _ | with_reducible exact rb_Ref_unlisted _) | with_reducible exact rb_Ref_extended _ _ _ _ _ _ _ _ _ _ _ _ _ _ (by first | with_reducible exact h | with_reducible exact ib0 | with_reducible exact ib1 | with_reducible exact rb_Ref_exception _ _ _ | with_reducible exact rb_Ref_unlisted _) | with_reducible exact rb_Ref_access _ _ _ _ _ _ _ _ _ _ _ _ _ (by first | with_reducible exact h | with_reducible exact ib0 | with_reducible exact ib1 | with_reducible exact rb_Ref_exception _ _ _ | with_reducible exact rb_Ref_unlisted _)) | with_reducible exact rb_Ref_access _ _ _ _ _ _ _ _ _ _ _ _ _ (by first | with_reducible exact h | with_reducible exact ib0 | with_reducible exact ib1 | with_reducible exact rb_Ref_exception _ _ _ | with_reducible exact rb_Ref_unlisted _ | with_reducible exact rb_Ref_trap _ _ _ _ _ _ _ _ (by first | with_reducible exact h | with_reducible exact ib0 | with_reducible exact ib1 | with_reducible exact rb_Ref_exception _ _ _ | with_reducible exact rb_Ref_unlisted _) | with_reducible exact rb_Ref_conditions _ _ _ _ _ _ _ _ _ (by first | with_reducible exact h | with_reducible exact ib0 | with_reducible exact ib1 | with_reducible exact rb_Ref_exception _ _ _ | with_reducible exact rb_Ref_unlisted _) | with_reducible exact rb_Ref_extended _ _ _ _ _ _ _ _ _ _ _ _ _ _ (by first | with_reducible exact h | with_reducible exact ib0 | with_reducible exact ib1 | with_reducible exact rb_Ref_exception _ _ _ | with_reducible exact rb_Ref_unlisted _) | with_reducible exact rb_Ref_access _ _ _ _ _ _ _ _ _ _ _ _ _ (by first | with_reducible exact h | with_reducible exact ib0 | with_reducible exact ib1 | with_reducible exact rb_Ref_exception _ _ _ | with_reducible exact rb_Ref_unlisted _))
theorem rb_Ref_execute (p0 : Int32) (rg : Nat → Int32) (rs : Nat → Int32) (rm : Nat → Int32) (rl : Int32) (rr : Int32) (re : Int32) (rc : Int32) (rd : Int32) (ra : Int32) (rb : Int32) (rn : Int32) (rf : Int32) (rw : Int32) (h : isB rf) : isB (f_Ref_execute p0 rg rs rm rl rr re rc rd ra rb rn rf rw).2.2.2.2.2.2.2.1 := rq0_Ref_execute p0 rg rs rm rl rr re rc rd ra rb rn rf rw h
set_option maxHeartbeats 4000000 in
set_option maxRecDepth 100000 in
theorem c_Ref_execute (l : Launch) (D : va_G) (aT bG bS bM : Nat) (dG dS dM : ClassId) (rg : Nat → Int32) (rs : Nat → Int32) (rm : Nat → Int32) (rl : Int32) (rk : Int32) (rr : Int32) (re : Int32) (rc : Int32) (rd : Int32) (ra : Int32) (rb : Int32) (rn : Int32) (rf : Int32) (rw : Int32) (p0 : Int32) (hra : vp_in ra 32) (hrd : vp_in rd 32) (hrb : vp_in rb 32) : kMv l y_Ref_execute b_Ref_execute 3 none 6 159 D kCl [(dG, .int), (dS, .int), (dM, .int)] [.ref aT, .int p0] [(aT, .inr (11, [.ref bG, .ref bS, .ref bM, .int rl, .int rk, .int rr, .int re, .int rc, .int rd, .int ra, .int rb, .int rn, .int rf, .int rw])), (bG, .inl (dG, 32, .inl rg)), (bS, .inl (dS, 48, .inl rs)), (bM, .inl (dM, 16384, .inl rm))] [(aT, .inr (11, [.ref bG, .ref bS, .ref bM, .int (f_Ref_execute p0 rg rs rm rl rr re rc rd ra rb rn rf rw).2.2.2.1, .int rk, .int (f_Ref_execute p0 rg rs rm rl rr re rc rd ra rb rn rf rw).2.2.2.2.1, .int (f_Ref_execute p0 rg rs rm rl rr re rc rd ra rb rn rf rw).2.2.2.2.2.1, .int rc, .int rd, .int ra, .int rb, .int (f_Ref_execute p0 rg rs rm rl rr re rc rd ra rb rn rf rw).2.2.2.2.2.2.1, .int (f_Ref_execute p0 rg rs rm rl rr re rc rd ra rb rn rf rw).2.2.2.2.2.2.2.1, .int (f_Ref_execute p0 rg rs rm rl rr re rc rd ra rb rn rf rw).2.2.2.2.2.2.2.2])), (bG, .inl (dG, 32, .inl (f_Ref_execute p0 rg rs rm rl rr re rc rd ra rb rn rf rw).1)), (bS, .inl (dS, 48, .inl (f_Ref_execute p0 rg rs rm rl rr re rc rd ra rb rn rf rw).2.1)), (bM, .inl (dM, 16384, .inl (f_Ref_execute p0 rg rs rm rl rr re rc rd ra rb rn rf rw).2.2.1))] := by
  refine k_entry (Qc := fun A => kQv D kCl [(dG, .int), (dS, .int), (dM, .int)] [(aT, .inr (11, [.ref bG, .ref bS, .ref bM, .int (f_Ref_execute p0 rg rs rm rl rr re rc rd ra rb rn rf rw).2.2.2.1, .int rk, .int (f_Ref_execute p0 rg rs rm rl rr re rc rd ra rb rn rf rw).2.2.2.2.1, .int (f_Ref_execute p0 rg rs rm rl rr re rc rd ra rb rn rf rw).2.2.2.2.2.1, .int rc, .int rd, .int ra, .int rb, .int (f_Ref_execute p0 rg rs rm rl rr re rc rd ra rb rn rf rw).2.2.2.2.2.2.1, .int (f_Ref_execute p0 rg rs rm rl rr re rc rd ra rb rn rf rw).2.2.2.2.2.2.2.1, .int (f_Ref_execute p0 rg rs rm rl rr re rc rd ra rb rn rf rw).2.2.2.2.2.2.2.2])), (bG, .inl (dG, 32, .inl (f_Ref_execute p0 rg rs rm rl rr re rc rd ra rb rn rf rw).1)), (bS, .inl (dS, 48, .inl (f_Ref_execute p0 rg rs rm rl rr re rc rd ra rb rn rf rw).2.1)), (bM, .inl (dM, 16384, .inl (f_Ref_execute p0 rg rs rm rl rr re rc rd ra rb rn rf rw).2.2.1))] A) (lv := [(0, .ref aT), (1, .int p0)]) (by decide) (Nat.le_of_ble_eq_true rfl) rfl ?_
  intro p e s m below meth c A ls hx hb hr hml hB hown hlocks hin hA hK hN hP hD hS hl
  have hown : s.vm.findClass "MappedProcessorModel" = some m.cls := hown
  refine lv_aload_n hx hb d_Ref_execute_0 rfl (lv_at hl 0 rfl) ?_
  refine k_cVi (As := []) (rest := []) (wr := []) (wj := [(aT, .inr (11, [.ref bG, .ref bS, .ref bM, .int rl, .int rk, .int rr, .int re, .int rc, .int rd, .int ra, .int rb, .int rn, .int rf, .int rw])), (bG, .inl (dG, 32, .inl rg)), (bS, .inl (dS, 48, .inl rs)), (bM, .inl (dM, 16384, .inl rm))]) ⟨hx, hb, hml, hown, hB⟩ (c_Ref_signed16 l D aT bG bS bM dG dS dM rg rs rm rl rk rr re rc rd ra rb rn rf rw) yl_Ref_signed16 mw_761 hK hN hP hD hS hA [0, 1, 2] [0, 1, 2, 3] [] [0, 1, 2, 3] rfl rfl rfl rfl (by decide +kernel) 0 rfl rfl rfl rfl hl.1 rfl (Nat.le_of_ble_eq_true rfl) ⟨Nat.le_of_ble_eq_true rfl, Nat.le_of_ble_eq_true rfl⟩ d_Ref_execute_1 ⟨Nat.le_of_ble_eq_true rfl, Nat.le_of_ble_eq_true rfl⟩ (fun H locs hP hD hS => ?_)
  refine lv_istore_n (lv' := [(2, .int (f_Ref_signed16 rc)), (0, .ref aT), (1, .int p0)]) hx hb d_Ref_execute_4 rfl hl (by decide) rfl (fun ls hl => ?_)
  refine lv_iload_n hx hb d_Ref_execute_5 rfl (lv_at hl 2 rfl) ?_
  refine lv_iconst (v := (3 : Int32)) hx hb d_Ref_execute_6 (by decide) ?_
  refine lv_icmp_ne (tgt := 18) hx hb d_Ref_execute_7 (by decide) (fun (h22 : ¬ p0 = (3 : Int32)) => ?_) (fun (h22 : p0 = (3 : Int32)) => ?_)
  · refine lv_iload_n hx hb d_Ref_execute_18 rfl (lv_at hl 2 rfl) ?_
    refine lv_bipush (v := (7 : Int32)) hx hb d_Ref_execute_19 (by decide) ?_
    refine lv_icmp_lt (tgt := 45) hx hb d_Ref_execute_21 (by decide) (fun (h41 : p0 < (7 : Int32)) => ?_) (fun (h41 : ¬ p0 < (7 : Int32)) => ?_)
    · refine lv_iload_n hx hb d_Ref_execute_45 rfl (lv_at hl 2 rfl) ?_
      refine lv_bipush (v := (16 : Int32)) hx hb d_Ref_execute_46 (by decide) ?_
      refine lv_icmp_ne (tgt := 80) hx hb d_Ref_execute_48 (by decide) (fun (h57 : ¬ p0 = (16 : Int32)) => ?_) (fun (h57 : p0 = (16 : Int32)) => ?_)
      · refine lv_iload_n hx hb d_Ref_execute_80 rfl (lv_at hl 2 rfl) ?_
        refine lv_bipush (v := (17 : Int32)) hx hb d_Ref_execute_81 (by decide) ?_
        refine lv_icmp_ne (tgt := 112) hx hb d_Ref_execute_83 (by decide) (fun (h70 : ¬ p0 = (17 : Int32)) => ?_) (fun (h70 : p0 = (17 : Int32)) => ?_)
        · refine lv_iload_n hx hb d_Ref_execute_112 rfl (lv_at hl 2 rfl) ?_
          refine lv_bipush (v := (18 : Int32)) hx hb d_Ref_execute_113 (by decide) ?_
          refine lv_icmp_ne (tgt := 154) hx hb d_Ref_execute_115 (by decide) (fun (h80 : ¬ p0 = (18 : Int32)) => ?_) (fun (h80 : p0 = (18 : Int32)) => ?_)
          · refine lv_iload_n hx hb d_Ref_execute_154 rfl (lv_at hl 2 rfl) ?_
            refine lv_bipush (v := (19 : Int32)) hx hb d_Ref_execute_155 (by decide) ?_
            refine lv_icmp_ne (tgt := 177) hx hb d_Ref_execute_157 (by decide) (fun (h87 : ¬ p0 = (19 : Int32)) => ?_) (fun (h87 : p0 = (19 : Int32)) => ?_)
            · refine lv_iload_n hx hb d_Ref_execute_177 rfl (lv_at hl 2 rfl) ?_
              refine lv_bipush (v := (20 : Int32)) hx hb d_Ref_execute_178 (by decide) ?_
              refine lv_icmp_eq (tgt := 195) hx hb d_Ref_execute_180 (by decide) (fun (h91 : p0 = (20 : Int32)) => ?_) (fun (h91 : ¬ p0 = (20 : Int32)) => ?_)
              · refine lv_aload_n hx hb d_Ref_execute_195 rfl (lv_at hl 1 rfl) ?_
                refine lv_iload_n hx hb d_Ref_execute_196 rfl (lv_at hl 2 rfl) ?_
                let t92 := (f_Ref_rotate p0 rg rs rc rd ra rb)
                refine k_cVv (As := [.int p0]) (rest := []) (wr := []) (wj := [(aT, .inr (11, [.ref bG, .ref bS, .ref bM, .int rl, .int rk, .int rr, .int re, .int rc, .int rd, .int ra, .int rb, .int rn, .int rf, .int rw])), (bG, .inl (dG, 32, .inl t92.1)), (bS, .inl (dS, 48, .inl t92.2)), (bM, .inl (dM, 16384, .inl rm))]) ⟨hx, hb, hml, hown, hB⟩ (c_Ref_rotate l D aT bG bS bM dG dS dM rg rs rm rl rk rr re rc rd ra rb rn rf rw p0 hra hrd hrb) yl_Ref_rotate mw_832 hK hN hP hD hS hA [0, 1, 2] [0, 1, 2, 3] [] [0, 1, 2, 3] rfl rfl rfl rfl (by decide +kernel) 0 rfl rfl rfl rfl hl.1 rfl (Nat.le_of_ble_eq_true rfl) ⟨Nat.le_of_ble_eq_true rfl, Nat.le_of_ble_eq_true rfl⟩ d_Ref_execute_197 ⟨Nat.le_of_ble_eq_true rfl, Nat.le_of_ble_eq_true rfl⟩ (fun H locs hP hD hS => ?_)
                refine lv_goto (tgt := 283) hx hb d_Ref_execute_200 (by decide) ?_
                have ef : f_Ref_execute p0 rg rs rm rl rr re rc rd ra rb rn rf rw = (t92.1, t92.2, rm, rl, rr, re, rn, rf, rw) := by unfold f_Ref_execute; try dsimp only; rw [if_neg h22, if_pos h41, if_neg h57, if_neg h70, if_neg h80, if_neg h87, if_pos h91]
                exact k_vret hx hb hr hlocks hK hP hD hS [0, 1, 2, 3] rfl (by rw [ef] <;> rfl) d_Ref_execute_283
              · refine lv_iload_n hx hb d_Ref_execute_183 rfl (lv_at hl 2 rfl) ?_
                refine lv_bipush (v := (21 : Int32)) hx hb d_Ref_execute_184 (by decide) ?_
                refine lv_icmp_eq (tgt := 195) hx hb d_Ref_execute_186 (by decide) (fun (h96 : p0 = (21 : Int32)) => ?_) (fun (h96 : ¬ p0 = (21 : Int32)) => ?_)
                · refine lv_aload_n hx hb d_Ref_execute_195 rfl (lv_at hl 1 rfl) ?_
                  refine lv_iload_n hx hb d_Ref_execute_196 rfl (lv_at hl 2 rfl) ?_
                  let t97 := (f_Ref_rotate p0 rg rs rc rd ra rb)
                  refine k_cVv (As := [.int p0]) (rest := []) (wr := []) (wj := [(aT, .inr (11, [.ref bG, .ref bS, .ref bM, .int rl, .int rk, .int rr, .int re, .int rc, .int rd, .int ra, .int rb, .int rn, .int rf, .int rw])), (bG, .inl (dG, 32, .inl t97.1)), (bS, .inl (dS, 48, .inl t97.2)), (bM, .inl (dM, 16384, .inl rm))]) ⟨hx, hb, hml, hown, hB⟩ (c_Ref_rotate l D aT bG bS bM dG dS dM rg rs rm rl rk rr re rc rd ra rb rn rf rw p0 hra hrd hrb) yl_Ref_rotate mw_832 hK hN hP hD hS hA [0, 1, 2] [0, 1, 2, 3] [] [0, 1, 2, 3] rfl rfl rfl rfl (by decide +kernel) 0 rfl rfl rfl rfl hl.1 rfl (Nat.le_of_ble_eq_true rfl) ⟨Nat.le_of_ble_eq_true rfl, Nat.le_of_ble_eq_true rfl⟩ d_Ref_execute_197 ⟨Nat.le_of_ble_eq_true rfl, Nat.le_of_ble_eq_true rfl⟩ (fun H locs hP hD hS => ?_)
                  refine lv_goto (tgt := 283) hx hb d_Ref_execute_200 (by decide) ?_
                  have ef : f_Ref_execute p0 rg rs rm rl rr re rc rd ra rb rn rf rw = (t97.1, t97.2, rm, rl, rr, re, rn, rf, rw) := by unfold f_Ref_execute; try dsimp only; rw [if_neg h22, if_pos h41, if_neg h57, if_neg h70, if_neg h80, if_neg h87, if_neg h91, if_pos h96]
                  exact k_vret hx hb hr hlocks hK hP hD hS [0, 1, 2, 3] rfl (by rw [ef] <;> rfl) d_Ref_execute_283
                · refine lv_iload_n hx hb d_Ref_execute_189 rfl (lv_at hl 2 rfl) ?_
                  refine lv_bipush (v := (23 : Int32)) hx hb d_Ref_execute_190 (by decide) ?_
                  refine lv_icmp_ne (tgt := 203) hx hb d_Ref_execute_192 (by decide) (fun (h113 : ¬ p0 = (23 : Int32)) => ?_) (fun (h113 : p0 = (23 : Int32)) => ?_)
                  · refine lv_iload_n hx hb d_Ref_execute_203 rfl (lv_at hl 2 rfl) ?_
                    refine lv_bipush (v := (24 : Int32)) hx hb d_Ref_execute_204 (by decide) ?_
                    refine lv_icmp_lt (tgt := 223) hx hb d_Ref_execute_206 (by decide) (fun (h126 : p0 < (24 : Int32)) => ?_) (fun (h126 : ¬ p0 < (24 : Int32)) => ?_)
                    · refine lv_iload_n hx hb d_Ref_execute_223 rfl (lv_at hl 2 rfl) ?_
                      refine lv_bipush (v := (31 : Int32)) hx hb d_Ref_execute_224 (by decide) ?_
                      refine lv_icmp_ne (tgt := 246) hx hb d_Ref_execute_226 (by decide) (fun (h136 : ¬ p0 = (31 : Int32)) => ?_) (fun (h136 : p0 = (31 : Int32)) => ?_)
                      · refine lv_iload_n hx hb d_Ref_execute_246 rfl (lv_at hl 2 rfl) ?_
                        refine lv_bipush (v := (32 : Int32)) hx hb d_Ref_execute_247 (by decide) ?_
                        refine lv_icmp_lt (tgt := 258) hx hb d_Ref_execute_249 (by decide) (fun (h143 : p0 < (32 : Int32)) => ?_) (fun (h143 : ¬ p0 < (32 : Int32)) => ?_)
                        · refine lv_iload_n hx hb d_Ref_execute_258 rfl (lv_at hl 2 rfl) ?_
                          refine lv_bipush (v := (42 : Int32)) hx hb d_Ref_execute_259 (by decide) ?_
                          refine lv_icmp_eq (tgt := 270) hx hb d_Ref_execute_261 (by decide) (fun (h147 : p0 = (42 : Int32)) => ?_) (fun (h147 : ¬ p0 = (42 : Int32)) => ?_)
                          · refine lv_aload_n hx hb d_Ref_execute_270 rfl (lv_at hl 1 rfl) ?_
                            refine lv_iload_n hx hb d_Ref_execute_271 rfl (lv_at hl 2 rfl) ?_
                            refine lv_iload_n hx hb d_Ref_execute_272 rfl (lv_at hl 0 rfl) ?_
                            let t148 := (f_Ref_access p0 (f_Ref_signed16 rc) rg rs rm rl rr re rd ra rn rf rw)
                            refine k_cVv (As := [.int p0, .int (f_Ref_signed16 rc)]) (rest := []) (wr := []) (wj := [(aT, .inr (11, [.ref bG, .ref bS, .ref bM, .int t148.2.2.2.1, .int rk, .int t148.2.2.2.2.1, .int t148.2.2.2.2.2.1, .int rc, .int rd, .int ra, .int rb, .int t148.2.2.2.2.2.2.1, .int t148.2.2.2.2.2.2.2.1, .int t148.2.2.2.2.2.2.2.2])), (bG, .inl (dG, 32, .inl t148.1)), (bS, .inl (dS, 48, .inl t148.2.1)), (bM, .inl (dM, 16384, .inl t148.2.2.1))]) ⟨hx, hb, hml, hown, hB⟩ (c_Ref_access l D aT bG bS bM dG dS dM rg rs rm rl rk rr re rc rd ra rb rn rf rw p0 (f_Ref_signed16 rc) hra hrd) yl_Ref_access mw_908 hK hN hP hD hS hA [0, 1, 2] [0, 1, 2, 3] [] [0, 1, 2, 3] rfl rfl rfl rfl (by decide +kernel) 0 rfl rfl rfl rfl hl.1 rfl (Nat.le_of_ble_eq_true rfl) ⟨Nat.le_of_ble_eq_true rfl, Nat.le_of_ble_eq_true rfl⟩ d_Ref_execute_273 ⟨Nat.le_of_ble_eq_true rfl, Nat.le_of_ble_eq_true rfl⟩ (fun H locs hP hD hS => ?_)
                            refine lv_goto (tgt := 283) hx hb d_Ref_execute_276 (by decide) ?_
                            have ef : f_Ref_execute p0 rg rs rm rl rr re rc rd ra rb rn rf rw = (t148.1, t148.2.1, t148.2.2.1, t148.2.2.2.1, t148.2.2.2.2.1, t148.2.2.2.2.2.1, t148.2.2.2.2.2.2.1, t148.2.2.2.2.2.2.2.1, t148.2.2.2.2.2.2.2.2) := by unfold f_Ref_execute; try dsimp only; rw [if_neg h22, if_pos h41, if_neg h57, if_neg h70, if_neg h80, if_neg h87, if_neg h91, if_neg h96, if_neg h113, if_pos h126, if_neg h136, if_pos h143, if_pos h147]
                            exact k_vret hx hb hr hlocks hK hP hD hS [0, 1, 2, 3] rfl (by rw [ef] <;> rfl) d_Ref_execute_283
                          · refine lv_iload_n hx hb d_Ref_execute_264 rfl (lv_at hl 2 rfl) ?_
                            refine lv_bipush (v := (44 : Int32)) hx hb d_Ref_execute_265 (by decide) ?_
                            refine lv_icmp_ne (tgt := 279) hx hb d_Ref_execute_267 (by decide) (fun (h152 : ¬ p0 = (44 : Int32)) => ?_) (fun (h152 : p0 = (44 : Int32)) => ?_)
                            · refine lv_aload_n hx hb d_Ref_execute_279 rfl (lv_at hl 1 rfl) ?_
                              let t153 := (f_Ref_unlisted rs)
                              refine k_cVv (As := []) (rest := []) (wr := []) (wj := [(aT, .inr (11, [.ref bG, .ref bS, .ref bM, .int t153.2.1, .int rk, .int rr, .int re, .int rc, .int rd, .int ra, .int rb, .int t153.2.2.1, .int t153.2.2.2, .int rw])), (bG, .inl (dG, 32, .inl rg)), (bS, .inl (dS, 48, .inl t153.1)), (bM, .inl (dM, 16384, .inl rm))]) ⟨hx, hb, hml, hown, hB⟩ (c_Ref_unlisted l D aT bG bS bM dG dS dM rg rs rm rl rk rr re rc rd ra rb rn rf rw) yl_Ref_unlisted mw_827 hK hN hP hD hS hA [0, 1, 2] [0, 1, 2, 3] [] [0, 1, 2, 3] rfl rfl rfl rfl (by decide +kernel) 0 rfl rfl rfl rfl hl.1 rfl (Nat.le_of_ble_eq_true rfl) ⟨Nat.le_of_ble_eq_true rfl, Nat.le_of_ble_eq_true rfl⟩ d_Ref_execute_280 ⟨Nat.le_of_ble_eq_true rfl, Nat.le_of_ble_eq_true rfl⟩ (fun H locs hP hD hS => ?_)
                              have ef : f_Ref_execute p0 rg rs rm rl rr re rc rd ra rb rn rf rw = (rg, t153.1, rm, t153.2.1, rr, re, t153.2.2.1, t153.2.2.2, rw) := by unfold f_Ref_execute; try dsimp only; rw [if_neg h22, if_pos h41, if_neg h57, if_neg h70, if_neg h80, if_neg h87, if_neg h91, if_neg h96, if_neg h113, if_pos h126, if_neg h136, if_pos h143, if_neg h147, if_neg h152]
                              exact k_vret hx hb hr hlocks hK hP hD hS [0, 1, 2, 3] rfl (by rw [ef] <;> rfl) d_Ref_execute_283
                            · refine lv_aload_n hx hb d_Ref_execute_270 rfl (lv_at hl 1 rfl) ?_
                              refine lv_iload_n hx hb d_Ref_execute_271 rfl (lv_at hl 2 rfl) ?_
                              refine lv_iload_n hx hb d_Ref_execute_272 rfl (lv_at hl 0 rfl) ?_
                              let t154 := (f_Ref_access p0 (f_Ref_signed16 rc) rg rs rm rl rr re rd ra rn rf rw)
                              refine k_cVv (As := [.int p0, .int (f_Ref_signed16 rc)]) (rest := []) (wr := []) (wj := [(aT, .inr (11, [.ref bG, .ref bS, .ref bM, .int t154.2.2.2.1, .int rk, .int t154.2.2.2.2.1, .int t154.2.2.2.2.2.1, .int rc, .int rd, .int ra, .int rb, .int t154.2.2.2.2.2.2.1, .int t154.2.2.2.2.2.2.2.1, .int t154.2.2.2.2.2.2.2.2])), (bG, .inl (dG, 32, .inl t154.1)), (bS, .inl (dS, 48, .inl t154.2.1)), (bM, .inl (dM, 16384, .inl t154.2.2.1))]) ⟨hx, hb, hml, hown, hB⟩ (c_Ref_access l D aT bG bS bM dG dS dM rg rs rm rl rk rr re rc rd ra rb rn rf rw p0 (f_Ref_signed16 rc) hra hrd) yl_Ref_access mw_908 hK hN hP hD hS hA [0, 1, 2] [0, 1, 2, 3] [] [0, 1, 2, 3] rfl rfl rfl rfl (by decide +kernel) 0 rfl rfl rfl rfl hl.1 rfl (Nat.le_of_ble_eq_true rfl) ⟨Nat.le_of_ble_eq_true rfl, Nat.le_of_ble_eq_true rfl⟩ d_Ref_execute_273 ⟨Nat.le_of_ble_eq_true rfl, Nat.le_of_ble_eq_true rfl⟩ (fun H locs hP hD hS => ?_)
                              refine lv_goto (tgt := 283) hx hb d_Ref_execute_276 (by decide) ?_
                              have ef : f_Ref_execute p0 rg rs rm rl rr re rc rd ra rb rn rf rw = (t154.1, t154.2.1, t154.2.2.1, t154.2.2.2.1, t154.2.2.2.2.1, t154.2.2.2.2.2.1, t154.2.2.2.2.2.2.1, t154.2.2.2.2.2.2.2.1, t154.2.2.2.2.2.2.2.2) := by unfold f_Ref_execute; try dsimp only; rw [if_neg h22, if_pos h41, if_neg h57, if_neg h70, if_neg h80, if_neg h87, if_neg h91, if_neg h96, if_neg h113, if_pos h126, if_neg h136, if_pos h143, if_neg h147, if_pos h152]
                              exact k_vret hx hb hr hlocks hK hP hD hS [0, 1, 2, 3] rfl (by rw [ef] <;> rfl) d_Ref_execute_283
                        · refine lv_iload_n hx hb d_Ref_execute_252 rfl (lv_at hl 2 rfl) ?_
                          refine lv_bipush (v := (40 : Int32)) hx hb d_Ref_execute_253 (by decide) ?_
                          refine lv_icmp_le (tgt := 270) hx hb d_Ref_execute_255 (by decide) (fun (h158 : p0 ≤ (40 : Int32)) => ?_) (fun (h158 : ¬ p0 ≤ (40 : Int32)) => ?_)
                          · refine lv_aload_n hx hb d_Ref_execute_270 rfl (lv_at hl 1 rfl) ?_
                            refine lv_iload_n hx hb d_Ref_execute_271 rfl (lv_at hl 2 rfl) ?_
                            refine lv_iload_n hx hb d_Ref_execute_272 rfl (lv_at hl 0 rfl) ?_
                            let t159 := (f_Ref_access p0 (f_Ref_signed16 rc) rg rs rm rl rr re rd ra rn rf rw)
                            refine k_cVv (As := [.int p0, .int (f_Ref_signed16 rc)]) (rest := []) (wr := []) (wj := [(aT, .inr (11, [.ref bG, .ref bS, .ref bM, .int t159.2.2.2.1, .int rk, .int t159.2.2.2.2.1, .int t159.2.2.2.2.2.1, .int rc, .int rd, .int ra, .int rb, .int t159.2.2.2.2.2.2.1, .int t159.2.2.2.2.2.2.2.1, .int t159.2.2.2.2.2.2.2.2])), (bG, .inl (dG, 32, .inl t159.1)), (bS, .inl (dS, 48, .inl t159.2.1)), (bM, .inl (dM, 16384, .inl t159.2.2.1))]) ⟨hx, hb, hml, hown, hB⟩ (c_Ref_access l D aT bG bS bM dG dS dM rg rs rm rl rk rr re rc rd ra rb rn rf rw p0 (f_Ref_signed16 rc) hra hrd) yl_Ref_access mw_908 hK hN hP hD hS hA [0, 1, 2] [0, 1, 2, 3] [] [0, 1, 2, 3] rfl rfl rfl rfl (by decide +kernel) 0 rfl rfl rfl rfl hl.1 rfl (Nat.le_of_ble_eq_true rfl) ⟨Nat.le_of_ble_eq_true rfl, Nat.le_of_ble_eq_true rfl⟩ d_Ref_execute_273 ⟨Nat.le_of_ble_eq_true rfl, Nat.le_of_ble_eq_true rfl⟩ (fun H locs hP hD hS => ?_)
                            refine lv_goto (tgt := 283) hx hb d_Ref_execute_276 (by decide) ?_
                            have ef : f_Ref_execute p0 rg rs rm rl rr re rc rd ra rb rn rf rw = (t159.1, t159.2.1, t159.2.2.1, t159.2.2.2.1, t159.2.2.2.2.1, t159.2.2.2.2.2.1, t159.2.2.2.2.2.2.1, t159.2.2.2.2.2.2.2.1, t159.2.2.2.2.2.2.2.2) := by unfold f_Ref_execute; try dsimp only; rw [if_neg h22, if_pos h41, if_neg h57, if_neg h70, if_neg h80, if_neg h87, if_neg h91, if_neg h96, if_neg h113, if_pos h126, if_neg h136, if_neg h143, if_pos h158]
                            exact k_vret hx hb hr hlocks hK hP hD hS [0, 1, 2, 3] rfl (by rw [ef] <;> rfl) d_Ref_execute_283
                          · refine lv_iload_n hx hb d_Ref_execute_258 rfl (lv_at hl 2 rfl) ?_
                            refine lv_bipush (v := (42 : Int32)) hx hb d_Ref_execute_259 (by decide) ?_
                            refine lv_icmp_eq (tgt := 270) hx hb d_Ref_execute_261 (by decide) (fun (h163 : p0 = (42 : Int32)) => ?_) (fun (h163 : ¬ p0 = (42 : Int32)) => ?_)
                            · refine lv_aload_n hx hb d_Ref_execute_270 rfl (lv_at hl 1 rfl) ?_
                              refine lv_iload_n hx hb d_Ref_execute_271 rfl (lv_at hl 2 rfl) ?_
                              refine lv_iload_n hx hb d_Ref_execute_272 rfl (lv_at hl 0 rfl) ?_
                              let t164 := (f_Ref_access p0 (f_Ref_signed16 rc) rg rs rm rl rr re rd ra rn rf rw)
                              refine k_cVv (As := [.int p0, .int (f_Ref_signed16 rc)]) (rest := []) (wr := []) (wj := [(aT, .inr (11, [.ref bG, .ref bS, .ref bM, .int t164.2.2.2.1, .int rk, .int t164.2.2.2.2.1, .int t164.2.2.2.2.2.1, .int rc, .int rd, .int ra, .int rb, .int t164.2.2.2.2.2.2.1, .int t164.2.2.2.2.2.2.2.1, .int t164.2.2.2.2.2.2.2.2])), (bG, .inl (dG, 32, .inl t164.1)), (bS, .inl (dS, 48, .inl t164.2.1)), (bM, .inl (dM, 16384, .inl t164.2.2.1))]) ⟨hx, hb, hml, hown, hB⟩ (c_Ref_access l D aT bG bS bM dG dS dM rg rs rm rl rk rr re rc rd ra rb rn rf rw p0 (f_Ref_signed16 rc) hra hrd) yl_Ref_access mw_908 hK hN hP hD hS hA [0, 1, 2] [0, 1, 2, 3] [] [0, 1, 2, 3] rfl rfl rfl rfl (by decide +kernel) 0 rfl rfl rfl rfl hl.1 rfl (Nat.le_of_ble_eq_true rfl) ⟨Nat.le_of_ble_eq_true rfl, Nat.le_of_ble_eq_true rfl⟩ d_Ref_execute_273 ⟨Nat.le_of_ble_eq_true rfl, Nat.le_of_ble_eq_true rfl⟩ (fun H locs hP hD hS => ?_)
                              refine lv_goto (tgt := 283) hx hb d_Ref_execute_276 (by decide) ?_
                              have ef : f_Ref_execute p0 rg rs rm rl rr re rc rd ra rb rn rf rw = (t164.1, t164.2.1, t164.2.2.1, t164.2.2.2.1, t164.2.2.2.2.1, t164.2.2.2.2.2.1, t164.2.2.2.2.2.2.1, t164.2.2.2.2.2.2.2.1, t164.2.2.2.2.2.2.2.2) := by unfold f_Ref_execute; try dsimp only; rw [if_neg h22, if_pos h41, if_neg h57, if_neg h70, if_neg h80, if_neg h87, if_neg h91, if_neg h96, if_neg h113, if_pos h126, if_neg h136, if_neg h143, if_neg h158, if_pos h163]
                              exact k_vret hx hb hr hlocks hK hP hD hS [0, 1, 2, 3] rfl (by rw [ef] <;> rfl) d_Ref_execute_283
                            · refine lv_iload_n hx hb d_Ref_execute_264 rfl (lv_at hl 2 rfl) ?_
                              refine lv_bipush (v := (44 : Int32)) hx hb d_Ref_execute_265 (by decide) ?_
                              refine lv_icmp_ne (tgt := 279) hx hb d_Ref_execute_267 (by decide) (fun (h168 : ¬ p0 = (44 : Int32)) => ?_) (fun (h168 : p0 = (44 : Int32)) => ?_)
                              · refine lv_aload_n hx hb d_Ref_execute_279 rfl (lv_at hl 1 rfl) ?_
                                let t169 := (f_Ref_unlisted rs)
                                refine k_cVv (As := []) (rest := []) (wr := []) (wj := [(aT, .inr (11, [.ref bG, .ref bS, .ref bM, .int t169.2.1, .int rk, .int rr, .int re, .int rc, .int rd, .int ra, .int rb, .int t169.2.2.1, .int t169.2.2.2, .int rw])), (bG, .inl (dG, 32, .inl rg)), (bS, .inl (dS, 48, .inl t169.1)), (bM, .inl (dM, 16384, .inl rm))]) ⟨hx, hb, hml, hown, hB⟩ (c_Ref_unlisted l D aT bG bS bM dG dS dM rg rs rm rl rk rr re rc rd ra rb rn rf rw) yl_Ref_unlisted mw_827 hK hN hP hD hS hA [0, 1, 2] [0, 1, 2, 3] [] [0, 1, 2, 3] rfl rfl rfl rfl (by decide +kernel) 0 rfl rfl rfl rfl hl.1 rfl (Nat.le_of_ble_eq_true rfl) ⟨Nat.le_of_ble_eq_true rfl, Nat.le_of_ble_eq_true rfl⟩ d_Ref_execute_280 ⟨Nat.le_of_ble_eq_true rfl, Nat.le_of_ble_eq_true rfl⟩ (fun H locs hP hD hS => ?_)
                                have ef : f_Ref_execute p0 rg rs rm rl rr re rc rd ra rb rn rf rw = (rg, t169.1, rm, t169.2.1, rr, re, t169.2.2.1, t169.2.2.2, rw) := by unfold f_Ref_execute; try dsimp only; rw [if_neg h22, if_pos h41, if_neg h57, if_neg h70, if_neg h80, if_neg h87, if_neg h91, if_neg h96, if_neg h113, if_pos h126, if_neg h136, if_neg h143, if_neg h158, if_neg h163, if_neg h168]
                                exact k_vret hx hb hr hlocks hK hP hD hS [0, 1, 2, 3] rfl (by rw [ef] <;> rfl) d_Ref_execute_283
                              · refine lv_aload_n hx hb d_Ref_execute_270 rfl (lv_at hl 1 rfl) ?_
                                refine lv_iload_n hx hb d_Ref_execute_271 rfl (lv_at hl 2 rfl) ?_
                                refine lv_iload_n hx hb d_Ref_execute_272 rfl (lv_at hl 0 rfl) ?_
                                let t170 := (f_Ref_access p0 (f_Ref_signed16 rc) rg rs rm rl rr re rd ra rn rf rw)
                                refine k_cVv (As := [.int p0, .int (f_Ref_signed16 rc)]) (rest := []) (wr := []) (wj := [(aT, .inr (11, [.ref bG, .ref bS, .ref bM, .int t170.2.2.2.1, .int rk, .int t170.2.2.2.2.1, .int t170.2.2.2.2.2.1, .int rc, .int rd, .int ra, .int rb, .int t170.2.2.2.2.2.2.1, .int t170.2.2.2.2.2.2.2.1, .int t170.2.2.2.2.2.2.2.2])), (bG, .inl (dG, 32, .inl t170.1)), (bS, .inl (dS, 48, .inl t170.2.1)), (bM, .inl (dM, 16384, .inl t170.2.2.1))]) ⟨hx, hb, hml, hown, hB⟩ (c_Ref_access l D aT bG bS bM dG dS dM rg rs rm rl rk rr re rc rd ra rb rn rf rw p0 (f_Ref_signed16 rc) hra hrd) yl_Ref_access mw_908 hK hN hP hD hS hA [0, 1, 2] [0, 1, 2, 3] [] [0, 1, 2, 3] rfl rfl rfl rfl (by decide +kernel) 0 rfl rfl rfl rfl hl.1 rfl (Nat.le_of_ble_eq_true rfl) ⟨Nat.le_of_ble_eq_true rfl, Nat.le_of_ble_eq_true rfl⟩ d_Ref_execute_273 ⟨Nat.le_of_ble_eq_true rfl, Nat.le_of_ble_eq_true rfl⟩ (fun H locs hP hD hS => ?_)
                                refine lv_goto (tgt := 283) hx hb d_Ref_execute_276 (by decide) ?_
                                have ef : f_Ref_execute p0 rg rs rm rl rr re rc rd ra rb rn rf rw = (t170.1, t170.2.1, t170.2.2.1, t170.2.2.2.1, t170.2.2.2.2.1, t170.2.2.2.2.2.1, t170.2.2.2.2.2.2.1, t170.2.2.2.2.2.2.2.1, t170.2.2.2.2.2.2.2.2) := by unfold f_Ref_execute; try dsimp only; rw [if_neg h22, if_pos h41, if_neg h57, if_neg h70, if_neg h80, if_neg h87, if_neg h91, if_neg h96, if_neg h113, if_pos h126, if_neg h136, if_neg h143, if_neg h158, if_neg h163, if_pos h168]
                                exact k_vret hx hb hr hlocks hK hP hD hS [0, 1, 2, 3] rfl (by rw [ef] <;> rfl) d_Ref_execute_283
                      · refine lv_aload_n hx hb d_Ref_execute_229 rfl (lv_at hl 1 rfl) ?_
                        refine lv_aload_n hx hb d_Ref_execute_230 rfl (lv_at hl 1 rfl) ?_
                        refine va_get (D := D) (ci := 11) (v := .int rc) (C := "MappedProcessorModel") (T := T_Ref) (N := 14) hx hb hB iw_Ref hown hK hP 0 rfl rfl 7 (by decide) (hB _ mw_650) (fun _ h9 => h9) rfl d_Ref_execute_231 ?_
                        refine lv_iconst (v := (1 : Int32)) hx hb d_Ref_execute_234 (by decide) ?_
                        refine lv_ishr hx hb d_Ref_execute_235 ?_
                        refine lv_sipush (v := (1023 : Int32)) hx hb d_Ref_execute_236 (by decide) ?_
                        refine lv_iand hx hb d_Ref_execute_239 ?_
                        let t171 := (f_Ref_extended ((shr rc (1 : Int32)) &&& (1023 : Int32)) rg rs rm rl rr re rc rd ra rb rn rf rw)
                        refine k_cVv (As := [.int ((shr rc (1 : Int32)) &&& (1023 : Int32))]) (rest := []) (wr := []) (wj := [(aT, .inr (11, [.ref bG, .ref bS, .ref bM, .int t171.2.2.2.1, .int rk, .int t171.2.2.2.2.1, .int t171.2.2.2.2.2.1, .int rc, .int rd, .int ra, .int rb, .int t171.2.2.2.2.2.2.1, .int t171.2.2.2.2.2.2.2.1, .int t171.2.2.2.2.2.2.2.2])), (bG, .inl (dG, 32, .inl t171.1)), (bS, .inl (dS, 48, .inl t171.2.1)), (bM, .inl (dM, 16384, .inl t171.2.2.1))]) ⟨hx, hb, hml, hown, hB⟩ (c_Ref_extended l D aT bG bS bM dG dS dM rg rs rm rl rk rr re rc rd ra rb rn rf rw ((shr rc (1 : Int32)) &&& (1023 : Int32)) hra hrd hrb) yl_Ref_extended mw_850 hK hN hP hD hS hA [0, 1, 2] [0, 1, 2, 3] [] [0, 1, 2, 3] rfl rfl rfl rfl (by decide +kernel) 0 rfl rfl rfl rfl hl.1 rfl (Nat.le_of_ble_eq_true rfl) ⟨Nat.le_of_ble_eq_true rfl, Nat.le_of_ble_eq_true rfl⟩ d_Ref_execute_240 ⟨Nat.le_of_ble_eq_true rfl, Nat.le_of_ble_eq_true rfl⟩ (fun H locs hP hD hS => ?_)
                        refine lv_goto (tgt := 283) hx hb d_Ref_execute_243 (by decide) ?_
                        have ef : f_Ref_execute p0 rg rs rm rl rr re rc rd ra rb rn rf rw = (t171.1, t171.2.1, t171.2.2.1, t171.2.2.2.1, t171.2.2.2.2.1, t171.2.2.2.2.2.1, t171.2.2.2.2.2.2.1, t171.2.2.2.2.2.2.2.1, t171.2.2.2.2.2.2.2.2) := by unfold f_Ref_execute; try dsimp only; rw [if_neg h22, if_pos h41, if_neg h57, if_neg h70, if_neg h80, if_neg h87, if_neg h91, if_neg h96, if_neg h113, if_pos h126, if_pos h136]
                        exact k_vret hx hb hr hlocks hK hP hD hS [0, 1, 2, 3] rfl (by rw [ef] <;> rfl) d_Ref_execute_283
                    · refine lv_iload_n hx hb d_Ref_execute_209 rfl (lv_at hl 2 rfl) ?_
                      refine lv_bipush (v := (29 : Int32)) hx hb d_Ref_execute_210 (by decide) ?_
                      refine lv_icmp_gt (tgt := 223) hx hb d_Ref_execute_212 (by decide) (fun (h184 : (29 : Int32) < p0) => ?_) (fun (h184 : ¬ (29 : Int32) < p0) => ?_)
                      · refine lv_iload_n hx hb d_Ref_execute_223 rfl (lv_at hl 2 rfl) ?_
                        refine lv_bipush (v := (31 : Int32)) hx hb d_Ref_execute_224 (by decide) ?_
                        refine lv_icmp_ne (tgt := 246) hx hb d_Ref_execute_226 (by decide) (fun (h194 : ¬ p0 = (31 : Int32)) => ?_) (fun (h194 : p0 = (31 : Int32)) => ?_)
                        · refine lv_iload_n hx hb d_Ref_execute_246 rfl (lv_at hl 2 rfl) ?_
                          refine lv_bipush (v := (32 : Int32)) hx hb d_Ref_execute_247 (by decide) ?_
                          refine lv_icmp_lt (tgt := 258) hx hb d_Ref_execute_249 (by decide) (fun (h201 : p0 < (32 : Int32)) => ?_) (fun (h201 : ¬ p0 < (32 : Int32)) => ?_)
                          · refine lv_iload_n hx hb d_Ref_execute_258 rfl (lv_at hl 2 rfl) ?_
                            refine lv_bipush (v := (42 : Int32)) hx hb d_Ref_execute_259 (by decide) ?_
                            refine lv_icmp_eq (tgt := 270) hx hb d_Ref_execute_261 (by decide) (fun (h205 : p0 = (42 : Int32)) => ?_) (fun (h205 : ¬ p0 = (42 : Int32)) => ?_)
                            · refine lv_aload_n hx hb d_Ref_execute_270 rfl (lv_at hl 1 rfl) ?_
                              refine lv_iload_n hx hb d_Ref_execute_271 rfl (lv_at hl 2 rfl) ?_
                              refine lv_iload_n hx hb d_Ref_execute_272 rfl (lv_at hl 0 rfl) ?_
                              let t206 := (f_Ref_access p0 (f_Ref_signed16 rc) rg rs rm rl rr re rd ra rn rf rw)
                              refine k_cVv (As := [.int p0, .int (f_Ref_signed16 rc)]) (rest := []) (wr := []) (wj := [(aT, .inr (11, [.ref bG, .ref bS, .ref bM, .int t206.2.2.2.1, .int rk, .int t206.2.2.2.2.1, .int t206.2.2.2.2.2.1, .int rc, .int rd, .int ra, .int rb, .int t206.2.2.2.2.2.2.1, .int t206.2.2.2.2.2.2.2.1, .int t206.2.2.2.2.2.2.2.2])), (bG, .inl (dG, 32, .inl t206.1)), (bS, .inl (dS, 48, .inl t206.2.1)), (bM, .inl (dM, 16384, .inl t206.2.2.1))]) ⟨hx, hb, hml, hown, hB⟩ (c_Ref_access l D aT bG bS bM dG dS dM rg rs rm rl rk rr re rc rd ra rb rn rf rw p0 (f_Ref_signed16 rc) hra hrd) yl_Ref_access mw_908 hK hN hP hD hS hA [0, 1, 2] [0, 1, 2, 3] [] [0, 1, 2, 3] rfl rfl rfl rfl (by decide +kernel) 0 rfl rfl rfl rfl hl.1 rfl (Nat.le_of_ble_eq_true rfl) ⟨Nat.le_of_ble_eq_true rfl, Nat.le_of_ble_eq_true rfl⟩ d_Ref_execute_273 ⟨Nat.le_of_ble_eq_true rfl, Nat.le_of_ble_eq_true rfl⟩ (fun H locs hP hD hS => ?_)
                              refine lv_goto (tgt := 283) hx hb d_Ref_execute_276 (by decide) ?_
                              have ef : f_Ref_execute p0 rg rs rm rl rr re rc rd ra rb rn rf rw = (t206.1, t206.2.1, t206.2.2.1, t206.2.2.2.1, t206.2.2.2.2.1, t206.2.2.2.2.2.1, t206.2.2.2.2.2.2.1, t206.2.2.2.2.2.2.2.1, t206.2.2.2.2.2.2.2.2) := by unfold f_Ref_execute; try dsimp only; rw [if_neg h22, if_pos h41, if_neg h57, if_neg h70, if_neg h80, if_neg h87, if_neg h91, if_neg h96, if_neg h113, if_neg h126, if_pos h184, if_neg h194, if_pos h201, if_pos h205]
                              exact k_vret hx hb hr hlocks hK hP hD hS [0, 1, 2, 3] rfl (by rw [ef] <;> rfl) d_Ref_execute_283
                            · refine lv_iload_n hx hb d_Ref_execute_264 rfl (lv_at hl 2 rfl) ?_
                              refine lv_bipush (v := (44 : Int32)) hx hb d_Ref_execute_265 (by decide) ?_
                              refine lv_icmp_ne (tgt := 279) hx hb d_Ref_execute_267 (by decide) (fun (h210 : ¬ p0 = (44 : Int32)) => ?_) (fun (h210 : p0 = (44 : Int32)) => ?_)
                              · refine lv_aload_n hx hb d_Ref_execute_279 rfl (lv_at hl 1 rfl) ?_
                                let t211 := (f_Ref_unlisted rs)
                                refine k_cVv (As := []) (rest := []) (wr := []) (wj := [(aT, .inr (11, [.ref bG, .ref bS, .ref bM, .int t211.2.1, .int rk, .int rr, .int re, .int rc, .int rd, .int ra, .int rb, .int t211.2.2.1, .int t211.2.2.2, .int rw])), (bG, .inl (dG, 32, .inl rg)), (bS, .inl (dS, 48, .inl t211.1)), (bM, .inl (dM, 16384, .inl rm))]) ⟨hx, hb, hml, hown, hB⟩ (c_Ref_unlisted l D aT bG bS bM dG dS dM rg rs rm rl rk rr re rc rd ra rb rn rf rw) yl_Ref_unlisted mw_827 hK hN hP hD hS hA [0, 1, 2] [0, 1, 2, 3] [] [0, 1, 2, 3] rfl rfl rfl rfl (by decide +kernel) 0 rfl rfl rfl rfl hl.1 rfl (Nat.le_of_ble_eq_true rfl) ⟨Nat.le_of_ble_eq_true rfl, Nat.le_of_ble_eq_true rfl⟩ d_Ref_execute_280 ⟨Nat.le_of_ble_eq_true rfl, Nat.le_of_ble_eq_true rfl⟩ (fun H locs hP hD hS => ?_)
                                have ef : f_Ref_execute p0 rg rs rm rl rr re rc rd ra rb rn rf rw = (rg, t211.1, rm, t211.2.1, rr, re, t211.2.2.1, t211.2.2.2, rw) := by unfold f_Ref_execute; try dsimp only; rw [if_neg h22, if_pos h41, if_neg h57, if_neg h70, if_neg h80, if_neg h87, if_neg h91, if_neg h96, if_neg h113, if_neg h126, if_pos h184, if_neg h194, if_pos h201, if_neg h205, if_neg h210]
                                exact k_vret hx hb hr hlocks hK hP hD hS [0, 1, 2, 3] rfl (by rw [ef] <;> rfl) d_Ref_execute_283
                              · refine lv_aload_n hx hb d_Ref_execute_270 rfl (lv_at hl 1 rfl) ?_
                                refine lv_iload_n hx hb d_Ref_execute_271 rfl (lv_at hl 2 rfl) ?_
                                refine lv_iload_n hx hb d_Ref_execute_272 rfl (lv_at hl 0 rfl) ?_
                                let t212 := (f_Ref_access p0 (f_Ref_signed16 rc) rg rs rm rl rr re rd ra rn rf rw)
                                refine k_cVv (As := [.int p0, .int (f_Ref_signed16 rc)]) (rest := []) (wr := []) (wj := [(aT, .inr (11, [.ref bG, .ref bS, .ref bM, .int t212.2.2.2.1, .int rk, .int t212.2.2.2.2.1, .int t212.2.2.2.2.2.1, .int rc, .int rd, .int ra, .int rb, .int t212.2.2.2.2.2.2.1, .int t212.2.2.2.2.2.2.2.1, .int t212.2.2.2.2.2.2.2.2])), (bG, .inl (dG, 32, .inl t212.1)), (bS, .inl (dS, 48, .inl t212.2.1)), (bM, .inl (dM, 16384, .inl t212.2.2.1))]) ⟨hx, hb, hml, hown, hB⟩ (c_Ref_access l D aT bG bS bM dG dS dM rg rs rm rl rk rr re rc rd ra rb rn rf rw p0 (f_Ref_signed16 rc) hra hrd) yl_Ref_access mw_908 hK hN hP hD hS hA [0, 1, 2] [0, 1, 2, 3] [] [0, 1, 2, 3] rfl rfl rfl rfl (by decide +kernel) 0 rfl rfl rfl rfl hl.1 rfl (Nat.le_of_ble_eq_true rfl) ⟨Nat.le_of_ble_eq_true rfl, Nat.le_of_ble_eq_true rfl⟩ d_Ref_execute_273 ⟨Nat.le_of_ble_eq_true rfl, Nat.le_of_ble_eq_true rfl⟩ (fun H locs hP hD hS => ?_)
                                refine lv_goto (tgt := 283) hx hb d_Ref_execute_276 (by decide) ?_
                                have ef : f_Ref_execute p0 rg rs rm rl rr re rc rd ra rb rn rf rw = (t212.1, t212.2.1, t212.2.2.1, t212.2.2.2.1, t212.2.2.2.2.1, t212.2.2.2.2.2.1, t212.2.2.2.2.2.2.1, t212.2.2.2.2.2.2.2.1, t212.2.2.2.2.2.2.2.2) := by unfold f_Ref_execute; try dsimp only; rw [if_neg h22, if_pos h41, if_neg h57, if_neg h70, if_neg h80, if_neg h87, if_neg h91, if_neg h96, if_neg h113, if_neg h126, if_pos h184, if_neg h194, if_pos h201, if_neg h205, if_pos h210]
                                exact k_vret hx hb hr hlocks hK hP hD hS [0, 1, 2, 3] rfl (by rw [ef] <;> rfl) d_Ref_execute_283
                          · refine lv_iload_n hx hb d_Ref_execute_252 rfl (lv_at hl 2 rfl) ?_
                            refine lv_bipush (v := (40 : Int32)) hx hb d_Ref_execute_253 (by decide) ?_
                            refine lv_icmp_le (tgt := 270) hx hb d_Ref_execute_255 (by decide) (fun (h216 : p0 ≤ (40 : Int32)) => ?_) (fun (h216 : ¬ p0 ≤ (40 : Int32)) => ?_)
                            · refine lv_aload_n hx hb d_Ref_execute_270 rfl (lv_at hl 1 rfl) ?_
                              refine lv_iload_n hx hb d_Ref_execute_271 rfl (lv_at hl 2 rfl) ?_
                              refine lv_iload_n hx hb d_Ref_execute_272 rfl (lv_at hl 0 rfl) ?_
                              let t217 := (f_Ref_access p0 (f_Ref_signed16 rc) rg rs rm rl rr re rd ra rn rf rw)
                              refine k_cVv (As := [.int p0, .int (f_Ref_signed16 rc)]) (rest := []) (wr := []) (wj := [(aT, .inr (11, [.ref bG, .ref bS, .ref bM, .int t217.2.2.2.1, .int rk, .int t217.2.2.2.2.1, .int t217.2.2.2.2.2.1, .int rc, .int rd, .int ra, .int rb, .int t217.2.2.2.2.2.2.1, .int t217.2.2.2.2.2.2.2.1, .int t217.2.2.2.2.2.2.2.2])), (bG, .inl (dG, 32, .inl t217.1)), (bS, .inl (dS, 48, .inl t217.2.1)), (bM, .inl (dM, 16384, .inl t217.2.2.1))]) ⟨hx, hb, hml, hown, hB⟩ (c_Ref_access l D aT bG bS bM dG dS dM rg rs rm rl rk rr re rc rd ra rb rn rf rw p0 (f_Ref_signed16 rc) hra hrd) yl_Ref_access mw_908 hK hN hP hD hS hA [0, 1, 2] [0, 1, 2, 3] [] [0, 1, 2, 3] rfl rfl rfl rfl (by decide +kernel) 0 rfl rfl rfl rfl hl.1 rfl (Nat.le_of_ble_eq_true rfl) ⟨Nat.le_of_ble_eq_true rfl, Nat.le_of_ble_eq_true rfl⟩ d_Ref_execute_273 ⟨Nat.le_of_ble_eq_true rfl, Nat.le_of_ble_eq_true rfl⟩ (fun H locs hP hD hS => ?_)
                              refine lv_goto (tgt := 283) hx hb d_Ref_execute_276 (by decide) ?_
                              have ef : f_Ref_execute p0 rg rs rm rl rr re rc rd ra rb rn rf rw = (t217.1, t217.2.1, t217.2.2.1, t217.2.2.2.1, t217.2.2.2.2.1, t217.2.2.2.2.2.1, t217.2.2.2.2.2.2.1, t217.2.2.2.2.2.2.2.1, t217.2.2.2.2.2.2.2.2) := by unfold f_Ref_execute; try dsimp only; rw [if_neg h22, if_pos h41, if_neg h57, if_neg h70, if_neg h80, if_neg h87, if_neg h91, if_neg h96, if_neg h113, if_neg h126, if_pos h184, if_neg h194, if_neg h201, if_pos h216]
                              exact k_vret hx hb hr hlocks hK hP hD hS [0, 1, 2, 3] rfl (by rw [ef] <;> rfl) d_Ref_execute_283
                            · refine lv_iload_n hx hb d_Ref_execute_258 rfl (lv_at hl 2 rfl) ?_
                              refine lv_bipush (v := (42 : Int32)) hx hb d_Ref_execute_259 (by decide) ?_
                              refine lv_icmp_eq (tgt := 270) hx hb d_Ref_execute_261 (by decide) (fun (h221 : p0 = (42 : Int32)) => ?_) (fun (h221 : ¬ p0 = (42 : Int32)) => ?_)
                              · refine lv_aload_n hx hb d_Ref_execute_270 rfl (lv_at hl 1 rfl) ?_
                                refine lv_iload_n hx hb d_Ref_execute_271 rfl (lv_at hl 2 rfl) ?_
                                refine lv_iload_n hx hb d_Ref_execute_272 rfl (lv_at hl 0 rfl) ?_
                                let t222 := (f_Ref_access p0 (f_Ref_signed16 rc) rg rs rm rl rr re rd ra rn rf rw)
                                refine k_cVv (As := [.int p0, .int (f_Ref_signed16 rc)]) (rest := []) (wr := []) (wj := [(aT, .inr (11, [.ref bG, .ref bS, .ref bM, .int t222.2.2.2.1, .int rk, .int t222.2.2.2.2.1, .int t222.2.2.2.2.2.1, .int rc, .int rd, .int ra, .int rb, .int t222.2.2.2.2.2.2.1, .int t222.2.2.2.2.2.2.2.1, .int t222.2.2.2.2.2.2.2.2])), (bG, .inl (dG, 32, .inl t222.1)), (bS, .inl (dS, 48, .inl t222.2.1)), (bM, .inl (dM, 16384, .inl t222.2.2.1))]) ⟨hx, hb, hml, hown, hB⟩ (c_Ref_access l D aT bG bS bM dG dS dM rg rs rm rl rk rr re rc rd ra rb rn rf rw p0 (f_Ref_signed16 rc) hra hrd) yl_Ref_access mw_908 hK hN hP hD hS hA [0, 1, 2] [0, 1, 2, 3] [] [0, 1, 2, 3] rfl rfl rfl rfl (by decide +kernel) 0 rfl rfl rfl rfl hl.1 rfl (Nat.le_of_ble_eq_true rfl) ⟨Nat.le_of_ble_eq_true rfl, Nat.le_of_ble_eq_true rfl⟩ d_Ref_execute_273 ⟨Nat.le_of_ble_eq_true rfl, Nat.le_of_ble_eq_true rfl⟩ (fun H locs hP hD hS => ?_)
                                refine lv_goto (tgt := 283) hx hb d_Ref_execute_276 (by decide) ?_
                                have ef : f_Ref_execute p0 rg rs rm rl rr re rc rd ra rb rn rf rw = (t222.1, t222.2.1, t222.2.2.1, t222.2.2.2.1, t222.2.2.2.2.1, t222.2.2.2.2.2.1, t222.2.2.2.2.2.2.1, t222.2.2.2.2.2.2.2.1, t222.2.2.2.2.2.2.2.2) := by unfold f_Ref_execute; try dsimp only; rw [if_neg h22, if_pos h41, if_neg h57, if_neg h70, if_neg h80, if_neg h87, if_neg h91, if_neg h96, if_neg h113, if_neg h126, if_pos h184, if_neg h194, if_neg h201, if_neg h216, if_pos h221]
                                exact k_vret hx hb hr hlocks hK hP hD hS [0, 1, 2, 3] rfl (by rw [ef] <;> rfl) d_Ref_execute_283
                              · refine lv_iload_n hx hb d_Ref_execute_264 rfl (lv_at hl 2 rfl) ?_
                                refine lv_bipush (v := (44 : Int32)) hx hb d_Ref_execute_265 (by decide) ?_
                                refine lv_icmp_ne (tgt := 279) hx hb d_Ref_execute_267 (by decide) (fun (h226 : ¬ p0 = (44 : Int32)) => ?_) (fun (h226 : p0 = (44 : Int32)) => ?_)
                                · refine lv_aload_n hx hb d_Ref_execute_279 rfl (lv_at hl 1 rfl) ?_
                                  let t227 := (f_Ref_unlisted rs)
                                  refine k_cVv (As := []) (rest := []) (wr := []) (wj := [(aT, .inr (11, [.ref bG, .ref bS, .ref bM, .int t227.2.1, .int rk, .int rr, .int re, .int rc, .int rd, .int ra, .int rb, .int t227.2.2.1, .int t227.2.2.2, .int rw])), (bG, .inl (dG, 32, .inl rg)), (bS, .inl (dS, 48, .inl t227.1)), (bM, .inl (dM, 16384, .inl rm))]) ⟨hx, hb, hml, hown, hB⟩ (c_Ref_unlisted l D aT bG bS bM dG dS dM rg rs rm rl rk rr re rc rd ra rb rn rf rw) yl_Ref_unlisted mw_827 hK hN hP hD hS hA [0, 1, 2] [0, 1, 2, 3] [] [0, 1, 2, 3] rfl rfl rfl rfl (by decide +kernel) 0 rfl rfl rfl rfl hl.1 rfl (Nat.le_of_ble_eq_true rfl) ⟨Nat.le_of_ble_eq_true rfl, Nat.le_of_ble_eq_true rfl⟩ d_Ref_execute_280 ⟨Nat.le_of_ble_eq_true rfl, Nat.le_of_ble_eq_true rfl⟩ (fun H locs hP hD hS => ?_)
                                  have ef : f_Ref_execute p0 rg rs rm rl rr re rc rd ra rb rn rf rw = (rg, t227.1, rm, t227.2.1, rr, re, t227.2.2.1, t227.2.2.2, rw) := by unfold f_Ref_execute; try dsimp only; rw [if_neg h22, if_pos h41, if_neg h57, if_neg h70, if_neg h80, if_neg h87, if_neg h91, if_neg h96, if_neg h113, if_neg h126, if_pos h184, if_neg h194, if_neg h201, if_neg h216, if_neg h221, if_neg h226]
                                  exact k_vret hx hb hr hlocks hK hP hD hS [0, 1, 2, 3] rfl (by rw [ef] <;> rfl) d_Ref_execute_283
                                · refine lv_aload_n hx hb d_Ref_execute_270 rfl (lv_at hl 1 rfl) ?_
                                  refine lv_iload_n hx hb d_Ref_execute_271 rfl (lv_at hl 2 rfl) ?_
                                  refine lv_iload_n hx hb d_Ref_execute_272 rfl (lv_at hl 0 rfl) ?_
                                  let t228 := (f_Ref_access p0 (f_Ref_signed16 rc) rg rs rm rl rr re rd ra rn rf rw)
                                  refine k_cVv (As := [.int p0, .int (f_Ref_signed16 rc)]) (rest := []) (wr := []) (wj := [(aT, .inr (11, [.ref bG, .ref bS, .ref bM, .int t228.2.2.2.1, .int rk, .int t228.2.2.2.2.1, .int t228.2.2.2.2.2.1, .int rc, .int rd, .int ra, .int rb, .int t228.2.2.2.2.2.2.1, .int t228.2.2.2.2.2.2.2.1, .int t228.2.2.2.2.2.2.2.2])), (bG, .inl (dG, 32, .inl t228.1)), (bS, .inl (dS, 48, .inl t228.2.1)), (bM, .inl (dM, 16384, .inl t228.2.2.1))]) ⟨hx, hb, hml, hown, hB⟩ (c_Ref_access l D aT bG bS bM dG dS dM rg rs rm rl rk rr re rc rd ra rb rn rf rw p0 (f_Ref_signed16 rc) hra hrd) yl_Ref_access mw_908 hK hN hP hD hS hA [0, 1, 2] [0, 1, 2, 3] [] [0, 1, 2, 3] rfl rfl rfl rfl (by decide +kernel) 0 rfl rfl rfl rfl hl.1 rfl (Nat.le_of_ble_eq_true rfl) ⟨Nat.le_of_ble_eq_true rfl, Nat.le_of_ble_eq_true rfl⟩ d_Ref_execute_273 ⟨Nat.le_of_ble_eq_true rfl, Nat.le_of_ble_eq_true rfl⟩ (fun H locs hP hD hS => ?_)
                                  refine lv_goto (tgt := 283) hx hb d_Ref_execute_276 (by decide) ?_
                                  have ef : f_Ref_execute p0 rg rs rm rl rr re rc rd ra rb rn rf rw = (t228.1, t228.2.1, t228.2.2.1, t228.2.2.2.1, t228.2.2.2.2.1, t228.2.2.2.2.2.1, t228.2.2.2.2.2.2.1, t228.2.2.2.2.2.2.2.1, t228.2.2.2.2.2.2.2.2) := by unfold f_Ref_execute; try dsimp only; rw [if_neg h22, if_pos h41, if_neg h57, if_neg h70, if_neg h80, if_neg h87, if_neg h91, if_neg h96, if_neg h113, if_neg h126, if_pos h184, if_neg h194, if_neg h201, if_neg h216, if_neg h221, if_pos h226]
                                  exact k_vret hx hb hr hlocks hK hP hD hS [0, 1, 2, 3] rfl (by rw [ef] <;> rfl) d_Ref_execute_283
                        · refine lv_aload_n hx hb d_Ref_execute_229 rfl (lv_at hl 1 rfl) ?_
                          refine lv_aload_n hx hb d_Ref_execute_230 rfl (lv_at hl 1 rfl) ?_
                          refine va_get (D := D) (ci := 11) (v := .int rc) (C := "MappedProcessorModel") (T := T_Ref) (N := 14) hx hb hB iw_Ref hown hK hP 0 rfl rfl 7 (by decide) (hB _ mw_650) (fun _ h9 => h9) rfl d_Ref_execute_231 ?_
                          refine lv_iconst (v := (1 : Int32)) hx hb d_Ref_execute_234 (by decide) ?_
                          refine lv_ishr hx hb d_Ref_execute_235 ?_
                          refine lv_sipush (v := (1023 : Int32)) hx hb d_Ref_execute_236 (by decide) ?_
                          refine lv_iand hx hb d_Ref_execute_239 ?_
                          let t229 := (f_Ref_extended ((shr rc (1 : Int32)) &&& (1023 : Int32)) rg rs rm rl rr re rc rd ra rb rn rf rw)
                          refine k_cVv (As := [.int ((shr rc (1 : Int32)) &&& (1023 : Int32))]) (rest := []) (wr := []) (wj := [(aT, .inr (11, [.ref bG, .ref bS, .ref bM, .int t229.2.2.2.1, .int rk, .int t229.2.2.2.2.1, .int t229.2.2.2.2.2.1, .int rc, .int rd, .int ra, .int rb, .int t229.2.2.2.2.2.2.1, .int t229.2.2.2.2.2.2.2.1, .int t229.2.2.2.2.2.2.2.2])), (bG, .inl (dG, 32, .inl t229.1)), (bS, .inl (dS, 48, .inl t229.2.1)), (bM, .inl (dM, 16384, .inl t229.2.2.1))]) ⟨hx, hb, hml, hown, hB⟩ (c_Ref_extended l D aT bG bS bM dG dS dM rg rs rm rl rk rr re rc rd ra rb rn rf rw ((shr rc (1 : Int32)) &&& (1023 : Int32)) hra hrd hrb) yl_Ref_extended mw_850 hK hN hP hD hS hA [0, 1, 2] [0, 1, 2, 3] [] [0, 1, 2, 3] rfl rfl rfl rfl (by decide +kernel) 0 rfl rfl rfl rfl hl.1 rfl (Nat.le_of_ble_eq_true rfl) ⟨Nat.le_of_ble_eq_true rfl, Nat.le_of_ble_eq_true rfl⟩ d_Ref_execute_240 ⟨Nat.le_of_ble_eq_true rfl, Nat.le_of_ble_eq_true rfl⟩ (fun H locs hP hD hS => ?_)
                          refine lv_goto (tgt := 283) hx hb d_Ref_execute_243 (by decide) ?_
                          have ef : f_Ref_execute p0 rg rs rm rl rr re rc rd ra rb rn rf rw = (t229.1, t229.2.1, t229.2.2.1, t229.2.2.2.1, t229.2.2.2.2.1, t229.2.2.2.2.2.1, t229.2.2.2.2.2.2.1, t229.2.2.2.2.2.2.2.1, t229.2.2.2.2.2.2.2.2) := by unfold f_Ref_execute; try dsimp only; rw [if_neg h22, if_pos h41, if_neg h57, if_neg h70, if_neg h80, if_neg h87, if_neg h91, if_neg h96, if_neg h113, if_neg h126, if_pos h184, if_pos h194]
                          exact k_vret hx hb hr hlocks hK hP hD hS [0, 1, 2, 3] rfl (by rw [ef] <;> rfl) d_Ref_execute_283
                      · refine lv_aload_n hx hb d_Ref_execute_215 rfl (lv_at hl 1 rfl) ?_
                        refine lv_iload_n hx hb d_Ref_execute_216 rfl (lv_at hl 2 rfl) ?_
                        let t230 := (f_Ref_logical p0 rg rs rc rd ra)
                        refine k_cVv (As := [.int p0]) (rest := []) (wr := []) (wj := [(aT, .inr (11, [.ref bG, .ref bS, .ref bM, .int rl, .int rk, .int rr, .int re, .int rc, .int rd, .int ra, .int rb, .int rn, .int rf, .int rw])), (bG, .inl (dG, 32, .inl t230.1)), (bS, .inl (dS, 48, .inl t230.2)), (bM, .inl (dM, 16384, .inl rm))]) ⟨hx, hb, hml, hown, hB⟩ (c_Ref_logical l D aT bG bS bM dG dS dM rg rs rm rl rk rr re rc rd ra rb rn rf rw p0 hra hrd) yl_Ref_logical mw_846 hK hN hP hD hS hA [0, 1, 2] [0, 1, 2, 3] [] [0, 1, 2, 3] rfl rfl rfl rfl (by decide +kernel) 0 rfl rfl rfl rfl hl.1 rfl (Nat.le_of_ble_eq_true rfl) ⟨Nat.le_of_ble_eq_true rfl, Nat.le_of_ble_eq_true rfl⟩ d_Ref_execute_217 ⟨Nat.le_of_ble_eq_true rfl, Nat.le_of_ble_eq_true rfl⟩ (fun H locs hP hD hS => ?_)
                        refine lv_goto (tgt := 283) hx hb d_Ref_execute_220 (by decide) ?_
                        have ef : f_Ref_execute p0 rg rs rm rl rr re rc rd ra rb rn rf rw = (t230.1, t230.2, rm, rl, rr, re, rn, rf, rw) := by unfold f_Ref_execute; try dsimp only; rw [if_neg h22, if_pos h41, if_neg h57, if_neg h70, if_neg h80, if_neg h87, if_neg h91, if_neg h96, if_neg h113, if_neg h126, if_neg h184]
                        exact k_vret hx hb hr hlocks hK hP hD hS [0, 1, 2, 3] rfl (by rw [ef] <;> rfl) d_Ref_execute_283
                  · refine lv_aload_n hx hb d_Ref_execute_195 rfl (lv_at hl 1 rfl) ?_
                    refine lv_iload_n hx hb d_Ref_execute_196 rfl (lv_at hl 2 rfl) ?_
                    let t231 := (f_Ref_rotate p0 rg rs rc rd ra rb)
                    refine k_cVv (As := [.int p0]) (rest := []) (wr := []) (wj := [(aT, .inr (11, [.ref bG, .ref bS, .ref bM, .int rl, .int rk, .int rr, .int re, .int rc, .int rd, .int ra, .int rb, .int rn, .int rf, .int rw])), (bG, .inl (dG, 32, .inl t231.1)), (bS, .inl (dS, 48, .inl t231.2)), (bM, .inl (dM, 16384, .inl rm))]) ⟨hx, hb, hml, hown, hB⟩ (c_Ref_rotate l D aT bG bS bM dG dS dM rg rs rm rl rk rr re rc rd ra rb rn rf rw p0 hra hrd hrb) yl_Ref_rotate mw_832 hK hN hP hD hS hA [0, 1, 2] [0, 1, 2, 3] [] [0, 1, 2, 3] rfl rfl rfl rfl (by decide +kernel) 0 rfl rfl rfl rfl hl.1 rfl (Nat.le_of_ble_eq_true rfl) ⟨Nat.le_of_ble_eq_true rfl, Nat.le_of_ble_eq_true rfl⟩ d_Ref_execute_197 ⟨Nat.le_of_ble_eq_true rfl, Nat.le_of_ble_eq_true rfl⟩ (fun H locs hP hD hS => ?_)
                    refine lv_goto (tgt := 283) hx hb d_Ref_execute_200 (by decide) ?_
                    have ef : f_Ref_execute p0 rg rs rm rl rr re rc rd ra rb rn rf rw = (t231.1, t231.2, rm, rl, rr, re, rn, rf, rw) := by unfold f_Ref_execute; try dsimp only; rw [if_neg h22, if_pos h41, if_neg h57, if_neg h70, if_neg h80, if_neg h87, if_neg h91, if_neg h96, if_pos h113]
                    exact k_vret hx hb hr hlocks hK hP hD hS [0, 1, 2, 3] rfl (by rw [ef] <;> rfl) d_Ref_execute_283
            · refine lv_aload_n hx hb d_Ref_execute_160 rfl (lv_at hl 1 rfl) ?_
              refine lv_aload_n hx hb d_Ref_execute_161 rfl (lv_at hl 1 rfl) ?_
              refine va_get (D := D) (ci := 11) (v := .int rc) (C := "MappedProcessorModel") (T := T_Ref) (N := 14) hx hb hB iw_Ref hown hK hP 0 rfl rfl 7 (by decide) (hB _ mw_650) (fun _ h9 => h9) rfl d_Ref_execute_162 ?_
              refine lv_iconst (v := (1 : Int32)) hx hb d_Ref_execute_165 (by decide) ?_
              refine lv_ishr hx hb d_Ref_execute_166 ?_
              refine lv_sipush (v := (1023 : Int32)) hx hb d_Ref_execute_167 (by decide) ?_
              refine lv_iand hx hb d_Ref_execute_170 ?_
              let t232 := (f_Ref_conditions ((shr rc (1 : Int32)) &&& (1023 : Int32)) rs rl rc rd ra rb rn rf)
              refine k_cVv (As := [.int ((shr rc (1 : Int32)) &&& (1023 : Int32))]) (rest := []) (wr := []) (wj := [(aT, .inr (11, [.ref bG, .ref bS, .ref bM, .int t232.2.1, .int rk, .int rr, .int re, .int rc, .int rd, .int ra, .int rb, .int t232.2.2.1, .int t232.2.2.2, .int rw])), (bG, .inl (dG, 32, .inl rg)), (bS, .inl (dS, 48, .inl t232.1)), (bM, .inl (dM, 16384, .inl rm))]) ⟨hx, hb, hml, hown, hB⟩ (c_Ref_conditions l D aT bG bS bM dG dS dM rg rs rm rl rk rr re rc rd ra rb rn rf rw ((shr rc (1 : Int32)) &&& (1023 : Int32)) hra hrd hrb) yl_Ref_conditions mw_814 hK hN hP hD hS hA [0, 1, 2] [0, 1, 2, 3] [] [0, 1, 2, 3] rfl rfl rfl rfl (by decide +kernel) 0 rfl rfl rfl rfl hl.1 rfl (Nat.le_of_ble_eq_true rfl) ⟨Nat.le_of_ble_eq_true rfl, Nat.le_of_ble_eq_true rfl⟩ d_Ref_execute_171 ⟨Nat.le_of_ble_eq_true rfl, Nat.le_of_ble_eq_true rfl⟩ (fun H locs hP hD hS => ?_)
              refine lv_goto (tgt := 283) hx hb d_Ref_execute_174 (by decide) ?_
              have ef : f_Ref_execute p0 rg rs rm rl rr re rc rd ra rb rn rf rw = (rg, t232.1, rm, t232.2.1, rr, re, t232.2.2.1, t232.2.2.2, rw) := by unfold f_Ref_execute; try dsimp only; rw [if_neg h22, if_pos h41, if_neg h57, if_neg h70, if_neg h80, if_pos h87]
              exact k_vret hx hb hr hlocks hK hP hD hS [0, 1, 2, 3] rfl (by rw [ef] <;> rfl) d_Ref_execute_283
          · refine lv_aload_n hx hb d_Ref_execute_118 rfl (lv_at hl 1 rfl) ?_
            refine lv_bipush (v := (20 : Int32)) hx hb d_Ref_execute_119 (by decide) ?_
            refine lv_aload_n hx hb d_Ref_execute_121 rfl (lv_at hl 1 rfl) ?_
            refine va_get (D := D) (ci := 11) (v := .int rc) (C := "MappedProcessorModel") (T := T_Ref) (N := 14) hx hb hB iw_Ref hown hK hP 0 rfl rfl 7 (by decide) (hB _ mw_650) (fun _ h9 => h9) rfl d_Ref_execute_122 ?_
            refine lv_bipush (v := (6 : Int32)) hx hb d_Ref_execute_125 (by decide) ?_
            refine lv_ishl hx hb d_Ref_execute_127 ?_
            refine lv_bipush (v := (6 : Int32)) hx hb d_Ref_execute_128 (by decide) ?_
            refine lv_ishr hx hb d_Ref_execute_130 ?_
            refine lv_bipush (v := (-4 : Int32)) hx hb d_Ref_execute_131 (by decide) ?_
            refine lv_iand hx hb d_Ref_execute_133 ?_
            refine lv_aload_n hx hb d_Ref_execute_134 rfl (lv_at hl 1 rfl) ?_
            refine va_get (D := D) (ci := 11) (v := .int rc) (C := "MappedProcessorModel") (T := T_Ref) (N := 14) hx hb hB iw_Ref hown hK hP 0 rfl rfl 7 (by decide) (hB _ mw_650) (fun _ h9 => h9) rfl d_Ref_execute_135 ?_
            refine lv_iconst (v := (2 : Int32)) hx hb d_Ref_execute_138 (by decide) ?_
            refine lv_iand hx hb d_Ref_execute_139 ?_
            refine k_join2 (c0 := (rc &&& (2 : Int32)) = (0 : Int32)) (x1 := (1 : Int32)) (x2 := (0 : Int32)) (rest := [.int ((shr (shl rc (6 : Int32)) (6 : Int32)) &&& (-4 : Int32)), .int (20 : Int32), .ref aT]) 148 ?_ (fun k234 k235 => ?_)
            rotate_left
            · refine lv_if_ne (tgt := 147) hx hb d_Ref_execute_140 (by decide) (fun (h233 : ¬ (rc &&& (2 : Int32)) = (0 : Int32)) => ?_) (fun (h233 : (rc &&& (2 : Int32)) = (0 : Int32)) => ?_)
              · refine lv_iconst (v := (0 : Int32)) hx hb d_Ref_execute_147 (by decide) ?_
                exact k235 h233
              · refine lv_iconst (v := (1 : Int32)) hx hb d_Ref_execute_143 (by decide) ?_
                refine lv_goto (tgt := 148) hx hb d_Ref_execute_144 (by decide) ?_
                exact k234 h233
            let t238 := (f_Ref_branch (20 : Int32) ((shr (shl rc (6 : Int32)) (6 : Int32)) &&& (-4 : Int32)) (if (rc &&& (2 : Int32)) = (0 : Int32) then (1 : Int32) else (0 : Int32)) rs rc ra)
            refine k_cVv (As := [.int (20 : Int32), .int ((shr (shl rc (6 : Int32)) (6 : Int32)) &&& (-4 : Int32)), .int (if (rc &&& (2 : Int32)) = (0 : Int32) then (1 : Int32) else (0 : Int32))]) (rest := []) (wr := []) (wj := [(aT, .inr (11, [.ref bG, .ref bS, .ref bM, .int rl, .int rk, .int rr, .int re, .int rc, .int rd, .int ra, .int rb, .int t238.2, .int rf, .int rw])), (bG, .inl (dG, 32, .inl rg)), (bS, .inl (dS, 48, .inl t238.1)), (bM, .inl (dM, 16384, .inl rm))]) ⟨hx, hb, hml, hown, hB⟩ (c_Ref_branch l D aT bG bS bM dG dS dM rg rs rm rl rk rr re rc rd ra rb rn rf rw (20 : Int32) ((shr (shl rc (6 : Int32)) (6 : Int32)) &&& (-4 : Int32)) (if (rc &&& (2 : Int32)) = (0 : Int32) then (1 : Int32) else (0 : Int32)) hra) yl_Ref_branch mw_806 hK hN hP hD hS hA [0, 1, 2] [0, 1, 2, 3] [] [0, 1, 2, 3] rfl rfl rfl rfl (by decide +kernel) 0 rfl rfl rfl rfl hl.1 rfl (Nat.le_of_ble_eq_true rfl) ⟨Nat.le_of_ble_eq_true rfl, Nat.le_of_ble_eq_true rfl⟩ d_Ref_execute_148 ⟨Nat.le_of_ble_eq_true rfl, Nat.le_of_ble_eq_true rfl⟩ (fun H locs hP hD hS => ?_)
            refine lv_goto (tgt := 283) hx hb d_Ref_execute_151 (by decide) ?_
            have ef : f_Ref_execute p0 rg rs rm rl rr re rc rd ra rb rn rf rw = (rg, t238.1, rm, rl, rr, re, t238.2, rf, rw) := by unfold f_Ref_execute; try dsimp only; rw [if_neg h22, if_pos h41, if_neg h57, if_neg h70, if_pos h80]
            exact k_vret hx hb hr hlocks hK hP hD hS [0, 1, 2, 3] rfl (by rw [ef] <;> rfl) d_Ref_execute_283
        · refine lv_aload_n hx hb d_Ref_execute_86 rfl (lv_at hl 1 rfl) ?_
          refine lv_sipush (v := (3072 : Int32)) hx hb d_Ref_execute_87 (by decide) ?_
          refine lv_iconst (v := (0 : Int32)) hx hb d_Ref_execute_90 (by decide) ?_
          let t239 := (f_Ref_exception (3072 : Int32) (0 : Int32) rs)
          refine k_cVv (As := [.int (3072 : Int32), .int (0 : Int32)]) (rest := []) (wr := []) (wj := [(aT, .inr (11, [.ref bG, .ref bS, .ref bM, .int t239.2.1, .int rk, .int rr, .int re, .int rc, .int rd, .int ra, .int rb, .int t239.2.2.1, .int t239.2.2.2, .int rw])), (bG, .inl (dG, 32, .inl rg)), (bS, .inl (dS, 48, .inl t239.1)), (bM, .inl (dM, 16384, .inl rm))]) ⟨hx, hb, hml, hown, hB⟩ (c_Ref_exception l D aT bG bS bM dG dS dM rg rs rm rl rk rr re rc rd ra rb rn rf rw (3072 : Int32) (0 : Int32)) yl_Ref_exception mw_748 hK hN hP hD hS hA [0, 1, 2] [0, 1, 2, 3] [] [0, 1, 2, 3] rfl rfl rfl rfl (by decide +kernel) 0 rfl rfl rfl rfl hl.1 rfl (Nat.le_of_ble_eq_true rfl) ⟨Nat.le_of_ble_eq_true rfl, Nat.le_of_ble_eq_true rfl⟩ d_Ref_execute_91 ⟨Nat.le_of_ble_eq_true rfl, Nat.le_of_ble_eq_true rfl⟩ (fun H locs hP hD hS => ?_)
          refine lv_aload_n hx hb d_Ref_execute_94 rfl (lv_at hl 1 rfl) ?_
          refine va_get (D := D) (ci := 11) (v := .ref bS) (C := "MappedProcessorModel") (T := T_Ref) (N := 14) hx hb hB iw_Ref hown hK hP 0 rfl rfl 1 (by decide) (hB _ mw_644) (fun _ h9 => h9) rfl d_Ref_execute_95 ?_
          refine lv_bipush (v := (6 : Int32)) hx hb d_Ref_execute_98 (by decide) ?_
          refine lv_aload_n hx hb d_Ref_execute_100 rfl (lv_at hl 1 rfl) ?_
          refine va_get (D := D) (ci := 11) (v := .ref bS) (C := "MappedProcessorModel") (T := T_Ref) (N := 14) hx hb hB iw_Ref hown hK hP 0 rfl rfl 1 (by decide) (hB _ mw_644) (fun _ h9 => h9) rfl d_Ref_execute_101 ?_
          refine lv_iconst (v := (0 : Int32)) hx hb d_Ref_execute_104 (by decide) ?_
          refine k_iald (j := 0) hx hb hK hP 2 1 rfl rfl (by decide) (by unfold vp_in; decide) d_Ref_execute_105 ?_
          refine lv_iconst (v := (4 : Int32)) hx hb d_Ref_execute_106 (by decide) ?_
          refine lv_iadd hx hb d_Ref_execute_107 ?_
          refine k_iast (j := 6) hx hb hK hP hD hS 2 1 rfl rfl (by decide) (by unfold vp_in; decide) d_Ref_execute_108 (fun H locs hP hD hS => ?_)
          have hP : va_P D kCl [(aT, .inr (11, [.ref bG, .ref bS, .ref bM, .int t239.2.1, .int rk, .int rr, .int re, .int rc, .int rd, .int ra, .int rb, .int t239.2.2.1, .int t239.2.2.2, .int rw])), (bG, .inl (dG, 32, .inl rg)), (bS, .inl (dS, 48, .inl (upd t239.1 6 ((t239.1 0) + (4 : Int32))))), (bM, .inl (dM, 16384, .inl rm))] H := hP
          have hD : va_D A [(aT, .inr (11, [.ref bG, .ref bS, .ref bM, .int t239.2.1, .int rk, .int rr, .int re, .int rc, .int rd, .int ra, .int rb, .int t239.2.2.1, .int t239.2.2.2, .int rw])), (bG, .inl (dG, 32, .inl rg)), (bS, .inl (dS, 48, .inl (upd t239.1 6 ((t239.1 0) + (4 : Int32))))), (bM, .inl (dM, 16384, .inl rm))] := hD
          refine lv_goto (tgt := 283) hx hb d_Ref_execute_109 (by decide) ?_
          have ef : f_Ref_execute p0 rg rs rm rl rr re rc rd ra rb rn rf rw = (rg, (upd t239.1 6 ((t239.1 0) + (4 : Int32))), rm, t239.2.1, rr, re, t239.2.2.1, t239.2.2.2, rw) := by unfold f_Ref_execute; try dsimp only; rw [if_neg h22, if_pos h41, if_neg h57, if_pos h70]
          exact k_vret hx hb hr hlocks hK hP hD hS [0, 1, 2, 3] rfl (by rw [ef] <;> rfl) d_Ref_execute_283
      · refine lv_aload_n hx hb d_Ref_execute_51 rfl (lv_at hl 1 rfl) ?_
        refine lv_aload_n hx hb d_Ref_execute_52 rfl (lv_at hl 1 rfl) ?_
        refine va_get (D := D) (ci := 11) (v := .int rd) (C := "MappedProcessorModel") (T := T_Ref) (N := 14) hx hb hB iw_Ref hown hK hP 0 rfl rfl 8 (by decide) (hB _ mw_651) (fun _ h9 => h9) rfl d_Ref_execute_53 ?_
        refine lv_iload_n hx hb d_Ref_execute_56 rfl (lv_at hl 0 rfl) ?_
        refine lv_bipush (v := (-4 : Int32)) hx hb d_Ref_execute_57 (by decide) ?_
        refine lv_iand hx hb d_Ref_execute_59 ?_
        refine lv_aload_n hx hb d_Ref_execute_60 rfl (lv_at hl 1 rfl) ?_
        refine va_get (D := D) (ci := 11) (v := .int rc) (C := "MappedProcessorModel") (T := T_Ref) (N := 14) hx hb hB iw_Ref hown hK hP 0 rfl rfl 7 (by decide) (hB _ mw_650) (fun _ h9 => h9) rfl d_Ref_execute_61 ?_
        refine lv_iconst (v := (2 : Int32)) hx hb d_Ref_execute_64 (by decide) ?_
        refine lv_iand hx hb d_Ref_execute_65 ?_
        refine k_join2 (c0 := (rc &&& (2 : Int32)) = (0 : Int32)) (x1 := (1 : Int32)) (x2 := (0 : Int32)) (rest := [.int ((f_Ref_signed16 rc) &&& (-4 : Int32)), .int rd, .ref aT]) 74 ?_ (fun k241 k242 => ?_)
        rotate_left
        · refine lv_if_ne (tgt := 73) hx hb d_Ref_execute_66 (by decide) (fun (h240 : ¬ (rc &&& (2 : Int32)) = (0 : Int32)) => ?_) (fun (h240 : (rc &&& (2 : Int32)) = (0 : Int32)) => ?_)
          · refine lv_iconst (v := (0 : Int32)) hx hb d_Ref_execute_73 (by decide) ?_
            exact k242 h240
          · refine lv_iconst (v := (1 : Int32)) hx hb d_Ref_execute_69 (by decide) ?_
            refine lv_goto (tgt := 74) hx hb d_Ref_execute_70 (by decide) ?_
            exact k241 h240
        let t245 := (f_Ref_branch rd ((f_Ref_signed16 rc) &&& (-4 : Int32)) (if (rc &&& (2 : Int32)) = (0 : Int32) then (1 : Int32) else (0 : Int32)) rs rc ra)
        refine k_cVv (As := [.int rd, .int ((f_Ref_signed16 rc) &&& (-4 : Int32)), .int (if (rc &&& (2 : Int32)) = (0 : Int32) then (1 : Int32) else (0 : Int32))]) (rest := []) (wr := []) (wj := [(aT, .inr (11, [.ref bG, .ref bS, .ref bM, .int rl, .int rk, .int rr, .int re, .int rc, .int rd, .int ra, .int rb, .int t245.2, .int rf, .int rw])), (bG, .inl (dG, 32, .inl rg)), (bS, .inl (dS, 48, .inl t245.1)), (bM, .inl (dM, 16384, .inl rm))]) ⟨hx, hb, hml, hown, hB⟩ (c_Ref_branch l D aT bG bS bM dG dS dM rg rs rm rl rk rr re rc rd ra rb rn rf rw rd ((f_Ref_signed16 rc) &&& (-4 : Int32)) (if (rc &&& (2 : Int32)) = (0 : Int32) then (1 : Int32) else (0 : Int32)) hra) yl_Ref_branch mw_806 hK hN hP hD hS hA [0, 1, 2] [0, 1, 2, 3] [] [0, 1, 2, 3] rfl rfl rfl rfl (by decide +kernel) 0 rfl rfl rfl rfl hl.1 rfl (Nat.le_of_ble_eq_true rfl) ⟨Nat.le_of_ble_eq_true rfl, Nat.le_of_ble_eq_true rfl⟩ d_Ref_execute_74 ⟨Nat.le_of_ble_eq_true rfl, Nat.le_of_ble_eq_true rfl⟩ (fun H locs hP hD hS => ?_)
        refine lv_goto (tgt := 283) hx hb d_Ref_execute_77 (by decide) ?_
        have ef : f_Ref_execute p0 rg rs rm rl rr re rc rd ra rb rn rf rw = (rg, t245.1, rm, rl, rr, re, t245.2, rf, rw) := by unfold f_Ref_execute; try dsimp only; rw [if_neg h22, if_pos h41, if_pos h57]
        exact k_vret hx hb hr hlocks hK hP hD hS [0, 1, 2, 3] rfl (by rw [ef] <;> rfl) d_Ref_execute_283
    · refine lv_iload_n hx hb d_Ref_execute_24 rfl (lv_at hl 2 rfl) ?_
      refine lv_bipush (v := (15 : Int32)) hx hb d_Ref_execute_25 (by decide) ?_
      refine lv_icmp_gt (tgt := 45) hx hb d_Ref_execute_27 (by decide) (fun (h264 : (15 : Int32) < p0) => ?_) (fun (h264 : ¬ (15 : Int32) < p0) => ?_)
      · refine lv_iload_n hx hb d_Ref_execute_45 rfl (lv_at hl 2 rfl) ?_
        refine lv_bipush (v := (16 : Int32)) hx hb d_Ref_execute_46 (by decide) ?_
        refine lv_icmp_ne (tgt := 80) hx hb d_Ref_execute_48 (by decide) (fun (h280 : ¬ p0 = (16 : Int32)) => ?_) (fun (h280 : p0 = (16 : Int32)) => ?_)
        · refine lv_iload_n hx hb d_Ref_execute_80 rfl (lv_at hl 2 rfl) ?_
          refine lv_bipush (v := (17 : Int32)) hx hb d_Ref_execute_81 (by decide) ?_
          refine lv_icmp_ne (tgt := 112) hx hb d_Ref_execute_83 (by decide) (fun (h293 : ¬ p0 = (17 : Int32)) => ?_) (fun (h293 : p0 = (17 : Int32)) => ?_)
          · refine lv_iload_n hx hb d_Ref_execute_112 rfl (lv_at hl 2 rfl) ?_
            refine lv_bipush (v := (18 : Int32)) hx hb d_Ref_execute_113 (by decide) ?_
            refine lv_icmp_ne (tgt := 154) hx hb d_Ref_execute_115 (by decide) (fun (h303 : ¬ p0 = (18 : Int32)) => ?_) (fun (h303 : p0 = (18 : Int32)) => ?_)
            · refine lv_iload_n hx hb d_Ref_execute_154 rfl (lv_at hl 2 rfl) ?_
              refine lv_bipush (v := (19 : Int32)) hx hb d_Ref_execute_155 (by decide) ?_
              refine lv_icmp_ne (tgt := 177) hx hb d_Ref_execute_157 (by decide) (fun (h310 : ¬ p0 = (19 : Int32)) => ?_) (fun (h310 : p0 = (19 : Int32)) => ?_)
              · refine lv_iload_n hx hb d_Ref_execute_177 rfl (lv_at hl 2 rfl) ?_
                refine lv_bipush (v := (20 : Int32)) hx hb d_Ref_execute_178 (by decide) ?_
                refine lv_icmp_eq (tgt := 195) hx hb d_Ref_execute_180 (by decide) (fun (h314 : p0 = (20 : Int32)) => ?_) (fun (h314 : ¬ p0 = (20 : Int32)) => ?_)
                · refine lv_aload_n hx hb d_Ref_execute_195 rfl (lv_at hl 1 rfl) ?_
                  refine lv_iload_n hx hb d_Ref_execute_196 rfl (lv_at hl 2 rfl) ?_
                  let t315 := (f_Ref_rotate p0 rg rs rc rd ra rb)
                  refine k_cVv (As := [.int p0]) (rest := []) (wr := []) (wj := [(aT, .inr (11, [.ref bG, .ref bS, .ref bM, .int rl, .int rk, .int rr, .int re, .int rc, .int rd, .int ra, .int rb, .int rn, .int rf, .int rw])), (bG, .inl (dG, 32, .inl t315.1)), (bS, .inl (dS, 48, .inl t315.2)), (bM, .inl (dM, 16384, .inl rm))]) ⟨hx, hb, hml, hown, hB⟩ (c_Ref_rotate l D aT bG bS bM dG dS dM rg rs rm rl rk rr re rc rd ra rb rn rf rw p0 hra hrd hrb) yl_Ref_rotate mw_832 hK hN hP hD hS hA [0, 1, 2] [0, 1, 2, 3] [] [0, 1, 2, 3] rfl rfl rfl rfl (by decide +kernel) 0 rfl rfl rfl rfl hl.1 rfl (Nat.le_of_ble_eq_true rfl) ⟨Nat.le_of_ble_eq_true rfl, Nat.le_of_ble_eq_true rfl⟩ d_Ref_execute_197 ⟨Nat.le_of_ble_eq_true rfl, Nat.le_of_ble_eq_true rfl⟩ (fun H locs hP hD hS => ?_)
                  refine lv_goto (tgt := 283) hx hb d_Ref_execute_200 (by decide) ?_
                  have ef : f_Ref_execute p0 rg rs rm rl rr re rc rd ra rb rn rf rw = (t315.1, t315.2, rm, rl, rr, re, rn, rf, rw) := by unfold f_Ref_execute; try dsimp only; rw [if_neg h22, if_neg h41, if_pos h264, if_neg h280, if_neg h293, if_neg h303, if_neg h310, if_pos h314]
                  exact k_vret hx hb hr hlocks hK hP hD hS [0, 1, 2, 3] rfl (by rw [ef] <;> rfl) d_Ref_execute_283
                · refine lv_iload_n hx hb d_Ref_execute_183 rfl (lv_at hl 2 rfl) ?_
                  refine lv_bipush (v := (21 : Int32)) hx hb d_Ref_execute_184 (by decide) ?_
                  refine lv_icmp_eq (tgt := 195) hx hb d_Ref_execute_186 (by decide) (fun (h319 : p0 = (21 : Int32)) => ?_) (fun (h319 : ¬ p0 = (21 : Int32)) => ?_)
                  · refine lv_aload_n hx hb d_Ref_execute_195 rfl (lv_at hl 1 rfl) ?_
                    refine lv_iload_n hx hb d_Ref_execute_196 rfl (lv_at hl 2 rfl) ?_
                    let t320 := (f_Ref_rotate p0 rg rs rc rd ra rb)
                    refine k_cVv (As := [.int p0]) (rest := []) (wr := []) (wj := [(aT, .inr (11, [.ref bG, .ref bS, .ref bM, .int rl, .int rk, .int rr, .int re, .int rc, .int rd, .int ra, .int rb, .int rn, .int rf, .int rw])), (bG, .inl (dG, 32, .inl t320.1)), (bS, .inl (dS, 48, .inl t320.2)), (bM, .inl (dM, 16384, .inl rm))]) ⟨hx, hb, hml, hown, hB⟩ (c_Ref_rotate l D aT bG bS bM dG dS dM rg rs rm rl rk rr re rc rd ra rb rn rf rw p0 hra hrd hrb) yl_Ref_rotate mw_832 hK hN hP hD hS hA [0, 1, 2] [0, 1, 2, 3] [] [0, 1, 2, 3] rfl rfl rfl rfl (by decide +kernel) 0 rfl rfl rfl rfl hl.1 rfl (Nat.le_of_ble_eq_true rfl) ⟨Nat.le_of_ble_eq_true rfl, Nat.le_of_ble_eq_true rfl⟩ d_Ref_execute_197 ⟨Nat.le_of_ble_eq_true rfl, Nat.le_of_ble_eq_true rfl⟩ (fun H locs hP hD hS => ?_)
                    refine lv_goto (tgt := 283) hx hb d_Ref_execute_200 (by decide) ?_
                    have ef : f_Ref_execute p0 rg rs rm rl rr re rc rd ra rb rn rf rw = (t320.1, t320.2, rm, rl, rr, re, rn, rf, rw) := by unfold f_Ref_execute; try dsimp only; rw [if_neg h22, if_neg h41, if_pos h264, if_neg h280, if_neg h293, if_neg h303, if_neg h310, if_neg h314, if_pos h319]
                    exact k_vret hx hb hr hlocks hK hP hD hS [0, 1, 2, 3] rfl (by rw [ef] <;> rfl) d_Ref_execute_283
                  · refine lv_iload_n hx hb d_Ref_execute_189 rfl (lv_at hl 2 rfl) ?_
                    refine lv_bipush (v := (23 : Int32)) hx hb d_Ref_execute_190 (by decide) ?_
                    refine lv_icmp_ne (tgt := 203) hx hb d_Ref_execute_192 (by decide) (fun (h336 : ¬ p0 = (23 : Int32)) => ?_) (fun (h336 : p0 = (23 : Int32)) => ?_)
                    · refine lv_iload_n hx hb d_Ref_execute_203 rfl (lv_at hl 2 rfl) ?_
                      refine lv_bipush (v := (24 : Int32)) hx hb d_Ref_execute_204 (by decide) ?_
                      refine lv_icmp_lt (tgt := 223) hx hb d_Ref_execute_206 (by decide) (fun (h349 : p0 < (24 : Int32)) => ?_) (fun (h349 : ¬ p0 < (24 : Int32)) => ?_)
                      · refine lv_iload_n hx hb d_Ref_execute_223 rfl (lv_at hl 2 rfl) ?_
                        refine lv_bipush (v := (31 : Int32)) hx hb d_Ref_execute_224 (by decide) ?_
                        refine lv_icmp_ne (tgt := 246) hx hb d_Ref_execute_226 (by decide) (fun (h359 : ¬ p0 = (31 : Int32)) => ?_) (fun (h359 : p0 = (31 : Int32)) => ?_)
                        · refine lv_iload_n hx hb d_Ref_execute_246 rfl (lv_at hl 2 rfl) ?_
                          refine lv_bipush (v := (32 : Int32)) hx hb d_Ref_execute_247 (by decide) ?_
                          refine lv_icmp_lt (tgt := 258) hx hb d_Ref_execute_249 (by decide) (fun (h366 : p0 < (32 : Int32)) => ?_) (fun (h366 : ¬ p0 < (32 : Int32)) => ?_)
                          · refine lv_iload_n hx hb d_Ref_execute_258 rfl (lv_at hl 2 rfl) ?_
                            refine lv_bipush (v := (42 : Int32)) hx hb d_Ref_execute_259 (by decide) ?_
                            refine lv_icmp_eq (tgt := 270) hx hb d_Ref_execute_261 (by decide) (fun (h370 : p0 = (42 : Int32)) => ?_) (fun (h370 : ¬ p0 = (42 : Int32)) => ?_)
                            · refine lv_aload_n hx hb d_Ref_execute_270 rfl (lv_at hl 1 rfl) ?_
                              refine lv_iload_n hx hb d_Ref_execute_271 rfl (lv_at hl 2 rfl) ?_
                              refine lv_iload_n hx hb d_Ref_execute_272 rfl (lv_at hl 0 rfl) ?_
                              let t371 := (f_Ref_access p0 (f_Ref_signed16 rc) rg rs rm rl rr re rd ra rn rf rw)
                              refine k_cVv (As := [.int p0, .int (f_Ref_signed16 rc)]) (rest := []) (wr := []) (wj := [(aT, .inr (11, [.ref bG, .ref bS, .ref bM, .int t371.2.2.2.1, .int rk, .int t371.2.2.2.2.1, .int t371.2.2.2.2.2.1, .int rc, .int rd, .int ra, .int rb, .int t371.2.2.2.2.2.2.1, .int t371.2.2.2.2.2.2.2.1, .int t371.2.2.2.2.2.2.2.2])), (bG, .inl (dG, 32, .inl t371.1)), (bS, .inl (dS, 48, .inl t371.2.1)), (bM, .inl (dM, 16384, .inl t371.2.2.1))]) ⟨hx, hb, hml, hown, hB⟩ (c_Ref_access l D aT bG bS bM dG dS dM rg rs rm rl rk rr re rc rd ra rb rn rf rw p0 (f_Ref_signed16 rc) hra hrd) yl_Ref_access mw_908 hK hN hP hD hS hA [0, 1, 2] [0, 1, 2, 3] [] [0, 1, 2, 3] rfl rfl rfl rfl (by decide +kernel) 0 rfl rfl rfl rfl hl.1 rfl (Nat.le_of_ble_eq_true rfl) ⟨Nat.le_of_ble_eq_true rfl, Nat.le_of_ble_eq_true rfl⟩ d_Ref_execute_273 ⟨Nat.le_of_ble_eq_true rfl, Nat.le_of_ble_eq_true rfl⟩ (fun H locs hP hD hS => ?_)
                              refine lv_goto (tgt := 283) hx hb d_Ref_execute_276 (by decide) ?_
                              have ef : f_Ref_execute p0 rg rs rm rl rr re rc rd ra rb rn rf rw = (t371.1, t371.2.1, t371.2.2.1, t371.2.2.2.1, t371.2.2.2.2.1, t371.2.2.2.2.2.1, t371.2.2.2.2.2.2.1, t371.2.2.2.2.2.2.2.1, t371.2.2.2.2.2.2.2.2) := by unfold f_Ref_execute; try dsimp only; rw [if_neg h22, if_neg h41, if_pos h264, if_neg h280, if_neg h293, if_neg h303, if_neg h310, if_neg h314, if_neg h319, if_neg h336, if_pos h349, if_neg h359, if_pos h366, if_pos h370]
                              exact k_vret hx hb hr hlocks hK hP hD hS [0, 1, 2, 3] rfl (by rw [ef] <;> rfl) d_Ref_execute_283
                            · refine lv_iload_n hx hb d_Ref_execute_264 rfl (lv_at hl 2 rfl) ?_
                              refine lv_bipush (v := (44 : Int32)) hx hb d_Ref_execute_265 (by decide) ?_
                              refine lv_icmp_ne (tgt := 279) hx hb d_Ref_execute_267 (by decide) (fun (h375 : ¬ p0 = (44 : Int32)) => ?_) (fun (h375 : p0 = (44 : Int32)) => ?_)
                              · refine lv_aload_n hx hb d_Ref_execute_279 rfl (lv_at hl 1 rfl) ?_
                                let t376 := (f_Ref_unlisted rs)
                                refine k_cVv (As := []) (rest := []) (wr := []) (wj := [(aT, .inr (11, [.ref bG, .ref bS, .ref bM, .int t376.2.1, .int rk, .int rr, .int re, .int rc, .int rd, .int ra, .int rb, .int t376.2.2.1, .int t376.2.2.2, .int rw])), (bG, .inl (dG, 32, .inl rg)), (bS, .inl (dS, 48, .inl t376.1)), (bM, .inl (dM, 16384, .inl rm))]) ⟨hx, hb, hml, hown, hB⟩ (c_Ref_unlisted l D aT bG bS bM dG dS dM rg rs rm rl rk rr re rc rd ra rb rn rf rw) yl_Ref_unlisted mw_827 hK hN hP hD hS hA [0, 1, 2] [0, 1, 2, 3] [] [0, 1, 2, 3] rfl rfl rfl rfl (by decide +kernel) 0 rfl rfl rfl rfl hl.1 rfl (Nat.le_of_ble_eq_true rfl) ⟨Nat.le_of_ble_eq_true rfl, Nat.le_of_ble_eq_true rfl⟩ d_Ref_execute_280 ⟨Nat.le_of_ble_eq_true rfl, Nat.le_of_ble_eq_true rfl⟩ (fun H locs hP hD hS => ?_)
                                have ef : f_Ref_execute p0 rg rs rm rl rr re rc rd ra rb rn rf rw = (rg, t376.1, rm, t376.2.1, rr, re, t376.2.2.1, t376.2.2.2, rw) := by unfold f_Ref_execute; try dsimp only; rw [if_neg h22, if_neg h41, if_pos h264, if_neg h280, if_neg h293, if_neg h303, if_neg h310, if_neg h314, if_neg h319, if_neg h336, if_pos h349, if_neg h359, if_pos h366, if_neg h370, if_neg h375]
                                exact k_vret hx hb hr hlocks hK hP hD hS [0, 1, 2, 3] rfl (by rw [ef] <;> rfl) d_Ref_execute_283
                              · refine lv_aload_n hx hb d_Ref_execute_270 rfl (lv_at hl 1 rfl) ?_
                                refine lv_iload_n hx hb d_Ref_execute_271 rfl (lv_at hl 2 rfl) ?_
                                refine lv_iload_n hx hb d_Ref_execute_272 rfl (lv_at hl 0 rfl) ?_
                                let t377 := (f_Ref_access p0 (f_Ref_signed16 rc) rg rs rm rl rr re rd ra rn rf rw)
                                refine k_cVv (As := [.int p0, .int (f_Ref_signed16 rc)]) (rest := []) (wr := []) (wj := [(aT, .inr (11, [.ref bG, .ref bS, .ref bM, .int t377.2.2.2.1, .int rk, .int t377.2.2.2.2.1, .int t377.2.2.2.2.2.1, .int rc, .int rd, .int ra, .int rb, .int t377.2.2.2.2.2.2.1, .int t377.2.2.2.2.2.2.2.1, .int t377.2.2.2.2.2.2.2.2])), (bG, .inl (dG, 32, .inl t377.1)), (bS, .inl (dS, 48, .inl t377.2.1)), (bM, .inl (dM, 16384, .inl t377.2.2.1))]) ⟨hx, hb, hml, hown, hB⟩ (c_Ref_access l D aT bG bS bM dG dS dM rg rs rm rl rk rr re rc rd ra rb rn rf rw p0 (f_Ref_signed16 rc) hra hrd) yl_Ref_access mw_908 hK hN hP hD hS hA [0, 1, 2] [0, 1, 2, 3] [] [0, 1, 2, 3] rfl rfl rfl rfl (by decide +kernel) 0 rfl rfl rfl rfl hl.1 rfl (Nat.le_of_ble_eq_true rfl) ⟨Nat.le_of_ble_eq_true rfl, Nat.le_of_ble_eq_true rfl⟩ d_Ref_execute_273 ⟨Nat.le_of_ble_eq_true rfl, Nat.le_of_ble_eq_true rfl⟩ (fun H locs hP hD hS => ?_)
                                refine lv_goto (tgt := 283) hx hb d_Ref_execute_276 (by decide) ?_
                                have ef : f_Ref_execute p0 rg rs rm rl rr re rc rd ra rb rn rf rw = (t377.1, t377.2.1, t377.2.2.1, t377.2.2.2.1, t377.2.2.2.2.1, t377.2.2.2.2.2.1, t377.2.2.2.2.2.2.1, t377.2.2.2.2.2.2.2.1, t377.2.2.2.2.2.2.2.2) := by unfold f_Ref_execute; try dsimp only; rw [if_neg h22, if_neg h41, if_pos h264, if_neg h280, if_neg h293, if_neg h303, if_neg h310, if_neg h314, if_neg h319, if_neg h336, if_pos h349, if_neg h359, if_pos h366, if_neg h370, if_pos h375]
                                exact k_vret hx hb hr hlocks hK hP hD hS [0, 1, 2, 3] rfl (by rw [ef] <;> rfl) d_Ref_execute_283
                          · refine lv_iload_n hx hb d_Ref_execute_252 rfl (lv_at hl 2 rfl) ?_
                            refine lv_bipush (v := (40 : Int32)) hx hb d_Ref_execute_253 (by decide) ?_
                            refine lv_icmp_le (tgt := 270) hx hb d_Ref_execute_255 (by decide) (fun (h381 : p0 ≤ (40 : Int32)) => ?_) (fun (h381 : ¬ p0 ≤ (40 : Int32)) => ?_)
                            · refine lv_aload_n hx hb d_Ref_execute_270 rfl (lv_at hl 1 rfl) ?_
                              refine lv_iload_n hx hb d_Ref_execute_271 rfl (lv_at hl 2 rfl) ?_
                              refine lv_iload_n hx hb d_Ref_execute_272 rfl (lv_at hl 0 rfl) ?_
                              let t382 := (f_Ref_access p0 (f_Ref_signed16 rc) rg rs rm rl rr re rd ra rn rf rw)
                              refine k_cVv (As := [.int p0, .int (f_Ref_signed16 rc)]) (rest := []) (wr := []) (wj := [(aT, .inr (11, [.ref bG, .ref bS, .ref bM, .int t382.2.2.2.1, .int rk, .int t382.2.2.2.2.1, .int t382.2.2.2.2.2.1, .int rc, .int rd, .int ra, .int rb, .int t382.2.2.2.2.2.2.1, .int t382.2.2.2.2.2.2.2.1, .int t382.2.2.2.2.2.2.2.2])), (bG, .inl (dG, 32, .inl t382.1)), (bS, .inl (dS, 48, .inl t382.2.1)), (bM, .inl (dM, 16384, .inl t382.2.2.1))]) ⟨hx, hb, hml, hown, hB⟩ (c_Ref_access l D aT bG bS bM dG dS dM rg rs rm rl rk rr re rc rd ra rb rn rf rw p0 (f_Ref_signed16 rc) hra hrd) yl_Ref_access mw_908 hK hN hP hD hS hA [0, 1, 2] [0, 1, 2, 3] [] [0, 1, 2, 3] rfl rfl rfl rfl (by decide +kernel) 0 rfl rfl rfl rfl hl.1 rfl (Nat.le_of_ble_eq_true rfl) ⟨Nat.le_of_ble_eq_true rfl, Nat.le_of_ble_eq_true rfl⟩ d_Ref_execute_273 ⟨Nat.le_of_ble_eq_true rfl, Nat.le_of_ble_eq_true rfl⟩ (fun H locs hP hD hS => ?_)
                              refine lv_goto (tgt := 283) hx hb d_Ref_execute_276 (by decide) ?_
                              have ef : f_Ref_execute p0 rg rs rm rl rr re rc rd ra rb rn rf rw = (t382.1, t382.2.1, t382.2.2.1, t382.2.2.2.1, t382.2.2.2.2.1, t382.2.2.2.2.2.1, t382.2.2.2.2.2.2.1, t382.2.2.2.2.2.2.2.1, t382.2.2.2.2.2.2.2.2) := by unfold f_Ref_execute; try dsimp only; rw [if_neg h22, if_neg h41, if_pos h264, if_neg h280, if_neg h293, if_neg h303, if_neg h310, if_neg h314, if_neg h319, if_neg h336, if_pos h349, if_neg h359, if_neg h366, if_pos h381]
                              exact k_vret hx hb hr hlocks hK hP hD hS [0, 1, 2, 3] rfl (by rw [ef] <;> rfl) d_Ref_execute_283
                            · refine lv_iload_n hx hb d_Ref_execute_258 rfl (lv_at hl 2 rfl) ?_
                              refine lv_bipush (v := (42 : Int32)) hx hb d_Ref_execute_259 (by decide) ?_
                              refine lv_icmp_eq (tgt := 270) hx hb d_Ref_execute_261 (by decide) (fun (h386 : p0 = (42 : Int32)) => ?_) (fun (h386 : ¬ p0 = (42 : Int32)) => ?_)
                              · refine lv_aload_n hx hb d_Ref_execute_270 rfl (lv_at hl 1 rfl) ?_
                                refine lv_iload_n hx hb d_Ref_execute_271 rfl (lv_at hl 2 rfl) ?_
                                refine lv_iload_n hx hb d_Ref_execute_272 rfl (lv_at hl 0 rfl) ?_
                                let t387 := (f_Ref_access p0 (f_Ref_signed16 rc) rg rs rm rl rr re rd ra rn rf rw)
                                refine k_cVv (As := [.int p0, .int (f_Ref_signed16 rc)]) (rest := []) (wr := []) (wj := [(aT, .inr (11, [.ref bG, .ref bS, .ref bM, .int t387.2.2.2.1, .int rk, .int t387.2.2.2.2.1, .int t387.2.2.2.2.2.1, .int rc, .int rd, .int ra, .int rb, .int t387.2.2.2.2.2.2.1, .int t387.2.2.2.2.2.2.2.1, .int t387.2.2.2.2.2.2.2.2])), (bG, .inl (dG, 32, .inl t387.1)), (bS, .inl (dS, 48, .inl t387.2.1)), (bM, .inl (dM, 16384, .inl t387.2.2.1))]) ⟨hx, hb, hml, hown, hB⟩ (c_Ref_access l D aT bG bS bM dG dS dM rg rs rm rl rk rr re rc rd ra rb rn rf rw p0 (f_Ref_signed16 rc) hra hrd) yl_Ref_access mw_908 hK hN hP hD hS hA [0, 1, 2] [0, 1, 2, 3] [] [0, 1, 2, 3] rfl rfl rfl rfl (by decide +kernel) 0 rfl rfl rfl rfl hl.1 rfl (Nat.le_of_ble_eq_true rfl) ⟨Nat.le_of_ble_eq_true rfl, Nat.le_of_ble_eq_true rfl⟩ d_Ref_execute_273 ⟨Nat.le_of_ble_eq_true rfl, Nat.le_of_ble_eq_true rfl⟩ (fun H locs hP hD hS => ?_)
                                refine lv_goto (tgt := 283) hx hb d_Ref_execute_276 (by decide) ?_
                                have ef : f_Ref_execute p0 rg rs rm rl rr re rc rd ra rb rn rf rw = (t387.1, t387.2.1, t387.2.2.1, t387.2.2.2.1, t387.2.2.2.2.1, t387.2.2.2.2.2.1, t387.2.2.2.2.2.2.1, t387.2.2.2.2.2.2.2.1, t387.2.2.2.2.2.2.2.2) := by unfold f_Ref_execute; try dsimp only; rw [if_neg h22, if_neg h41, if_pos h264, if_neg h280, if_neg h293, if_neg h303, if_neg h310, if_neg h314, if_neg h319, if_neg h336, if_pos h349, if_neg h359, if_neg h366, if_neg h381, if_pos h386]
                                exact k_vret hx hb hr hlocks hK hP hD hS [0, 1, 2, 3] rfl (by rw [ef] <;> rfl) d_Ref_execute_283
                              · refine lv_iload_n hx hb d_Ref_execute_264 rfl (lv_at hl 2 rfl) ?_
                                refine lv_bipush (v := (44 : Int32)) hx hb d_Ref_execute_265 (by decide) ?_
                                refine lv_icmp_ne (tgt := 279) hx hb d_Ref_execute_267 (by decide) (fun (h391 : ¬ p0 = (44 : Int32)) => ?_) (fun (h391 : p0 = (44 : Int32)) => ?_)
                                · refine lv_aload_n hx hb d_Ref_execute_279 rfl (lv_at hl 1 rfl) ?_
                                  let t392 := (f_Ref_unlisted rs)
                                  refine k_cVv (As := []) (rest := []) (wr := []) (wj := [(aT, .inr (11, [.ref bG, .ref bS, .ref bM, .int t392.2.1, .int rk, .int rr, .int re, .int rc, .int rd, .int ra, .int rb, .int t392.2.2.1, .int t392.2.2.2, .int rw])), (bG, .inl (dG, 32, .inl rg)), (bS, .inl (dS, 48, .inl t392.1)), (bM, .inl (dM, 16384, .inl rm))]) ⟨hx, hb, hml, hown, hB⟩ (c_Ref_unlisted l D aT bG bS bM dG dS dM rg rs rm rl rk rr re rc rd ra rb rn rf rw) yl_Ref_unlisted mw_827 hK hN hP hD hS hA [0, 1, 2] [0, 1, 2, 3] [] [0, 1, 2, 3] rfl rfl rfl rfl (by decide +kernel) 0 rfl rfl rfl rfl hl.1 rfl (Nat.le_of_ble_eq_true rfl) ⟨Nat.le_of_ble_eq_true rfl, Nat.le_of_ble_eq_true rfl⟩ d_Ref_execute_280 ⟨Nat.le_of_ble_eq_true rfl, Nat.le_of_ble_eq_true rfl⟩ (fun H locs hP hD hS => ?_)
                                  have ef : f_Ref_execute p0 rg rs rm rl rr re rc rd ra rb rn rf rw = (rg, t392.1, rm, t392.2.1, rr, re, t392.2.2.1, t392.2.2.2, rw) := by unfold f_Ref_execute; try dsimp only; rw [if_neg h22, if_neg h41, if_pos h264, if_neg h280, if_neg h293, if_neg h303, if_neg h310, if_neg h314, if_neg h319, if_neg h336, if_pos h349, if_neg h359, if_neg h366, if_neg h381, if_neg h386, if_neg h391]
                                  exact k_vret hx hb hr hlocks hK hP hD hS [0, 1, 2, 3] rfl (by rw [ef] <;> rfl) d_Ref_execute_283
                                · refine lv_aload_n hx hb d_Ref_execute_270 rfl (lv_at hl 1 rfl) ?_
                                  refine lv_iload_n hx hb d_Ref_execute_271 rfl (lv_at hl 2 rfl) ?_
                                  refine lv_iload_n hx hb d_Ref_execute_272 rfl (lv_at hl 0 rfl) ?_
                                  let t393 := (f_Ref_access p0 (f_Ref_signed16 rc) rg rs rm rl rr re rd ra rn rf rw)
                                  refine k_cVv (As := [.int p0, .int (f_Ref_signed16 rc)]) (rest := []) (wr := []) (wj := [(aT, .inr (11, [.ref bG, .ref bS, .ref bM, .int t393.2.2.2.1, .int rk, .int t393.2.2.2.2.1, .int t393.2.2.2.2.2.1, .int rc, .int rd, .int ra, .int rb, .int t393.2.2.2.2.2.2.1, .int t393.2.2.2.2.2.2.2.1, .int t393.2.2.2.2.2.2.2.2])), (bG, .inl (dG, 32, .inl t393.1)), (bS, .inl (dS, 48, .inl t393.2.1)), (bM, .inl (dM, 16384, .inl t393.2.2.1))]) ⟨hx, hb, hml, hown, hB⟩ (c_Ref_access l D aT bG bS bM dG dS dM rg rs rm rl rk rr re rc rd ra rb rn rf rw p0 (f_Ref_signed16 rc) hra hrd) yl_Ref_access mw_908 hK hN hP hD hS hA [0, 1, 2] [0, 1, 2, 3] [] [0, 1, 2, 3] rfl rfl rfl rfl (by decide +kernel) 0 rfl rfl rfl rfl hl.1 rfl (Nat.le_of_ble_eq_true rfl) ⟨Nat.le_of_ble_eq_true rfl, Nat.le_of_ble_eq_true rfl⟩ d_Ref_execute_273 ⟨Nat.le_of_ble_eq_true rfl, Nat.le_of_ble_eq_true rfl⟩ (fun H locs hP hD hS => ?_)
                                  refine lv_goto (tgt := 283) hx hb d_Ref_execute_276 (by decide) ?_
                                  have ef : f_Ref_execute p0 rg rs rm rl rr re rc rd ra rb rn rf rw = (t393.1, t393.2.1, t393.2.2.1, t393.2.2.2.1, t393.2.2.2.2.1, t393.2.2.2.2.2.1, t393.2.2.2.2.2.2.1, t393.2.2.2.2.2.2.2.1, t393.2.2.2.2.2.2.2.2) := by unfold f_Ref_execute; try dsimp only; rw [if_neg h22, if_neg h41, if_pos h264, if_neg h280, if_neg h293, if_neg h303, if_neg h310, if_neg h314, if_neg h319, if_neg h336, if_pos h349, if_neg h359, if_neg h366, if_neg h381, if_neg h386, if_pos h391]
                                  exact k_vret hx hb hr hlocks hK hP hD hS [0, 1, 2, 3] rfl (by rw [ef] <;> rfl) d_Ref_execute_283
                        · refine lv_aload_n hx hb d_Ref_execute_229 rfl (lv_at hl 1 rfl) ?_
                          refine lv_aload_n hx hb d_Ref_execute_230 rfl (lv_at hl 1 rfl) ?_
                          refine va_get (D := D) (ci := 11) (v := .int rc) (C := "MappedProcessorModel") (T := T_Ref) (N := 14) hx hb hB iw_Ref hown hK hP 0 rfl rfl 7 (by decide) (hB _ mw_650) (fun _ h9 => h9) rfl d_Ref_execute_231 ?_
                          refine lv_iconst (v := (1 : Int32)) hx hb d_Ref_execute_234 (by decide) ?_
                          refine lv_ishr hx hb d_Ref_execute_235 ?_
                          refine lv_sipush (v := (1023 : Int32)) hx hb d_Ref_execute_236 (by decide) ?_
                          refine lv_iand hx hb d_Ref_execute_239 ?_
                          let t394 := (f_Ref_extended ((shr rc (1 : Int32)) &&& (1023 : Int32)) rg rs rm rl rr re rc rd ra rb rn rf rw)
                          refine k_cVv (As := [.int ((shr rc (1 : Int32)) &&& (1023 : Int32))]) (rest := []) (wr := []) (wj := [(aT, .inr (11, [.ref bG, .ref bS, .ref bM, .int t394.2.2.2.1, .int rk, .int t394.2.2.2.2.1, .int t394.2.2.2.2.2.1, .int rc, .int rd, .int ra, .int rb, .int t394.2.2.2.2.2.2.1, .int t394.2.2.2.2.2.2.2.1, .int t394.2.2.2.2.2.2.2.2])), (bG, .inl (dG, 32, .inl t394.1)), (bS, .inl (dS, 48, .inl t394.2.1)), (bM, .inl (dM, 16384, .inl t394.2.2.1))]) ⟨hx, hb, hml, hown, hB⟩ (c_Ref_extended l D aT bG bS bM dG dS dM rg rs rm rl rk rr re rc rd ra rb rn rf rw ((shr rc (1 : Int32)) &&& (1023 : Int32)) hra hrd hrb) yl_Ref_extended mw_850 hK hN hP hD hS hA [0, 1, 2] [0, 1, 2, 3] [] [0, 1, 2, 3] rfl rfl rfl rfl (by decide +kernel) 0 rfl rfl rfl rfl hl.1 rfl (Nat.le_of_ble_eq_true rfl) ⟨Nat.le_of_ble_eq_true rfl, Nat.le_of_ble_eq_true rfl⟩ d_Ref_execute_240 ⟨Nat.le_of_ble_eq_true rfl, Nat.le_of_ble_eq_true rfl⟩ (fun H locs hP hD hS => ?_)
                          refine lv_goto (tgt := 283) hx hb d_Ref_execute_243 (by decide) ?_
                          have ef : f_Ref_execute p0 rg rs rm rl rr re rc rd ra rb rn rf rw = (t394.1, t394.2.1, t394.2.2.1, t394.2.2.2.1, t394.2.2.2.2.1, t394.2.2.2.2.2.1, t394.2.2.2.2.2.2.1, t394.2.2.2.2.2.2.2.1, t394.2.2.2.2.2.2.2.2) := by unfold f_Ref_execute; try dsimp only; rw [if_neg h22, if_neg h41, if_pos h264, if_neg h280, if_neg h293, if_neg h303, if_neg h310, if_neg h314, if_neg h319, if_neg h336, if_pos h349, if_pos h359]
                          exact k_vret hx hb hr hlocks hK hP hD hS [0, 1, 2, 3] rfl (by rw [ef] <;> rfl) d_Ref_execute_283
                      · refine lv_iload_n hx hb d_Ref_execute_209 rfl (lv_at hl 2 rfl) ?_
                        refine lv_bipush (v := (29 : Int32)) hx hb d_Ref_execute_210 (by decide) ?_
                        refine lv_icmp_gt (tgt := 223) hx hb d_Ref_execute_212 (by decide) (fun (h407 : (29 : Int32) < p0) => ?_) (fun (h407 : ¬ (29 : Int32) < p0) => ?_)
                        · refine lv_iload_n hx hb d_Ref_execute_223 rfl (lv_at hl 2 rfl) ?_
                          refine lv_bipush (v := (31 : Int32)) hx hb d_Ref_execute_224 (by decide) ?_
                          refine lv_icmp_ne (tgt := 246) hx hb d_Ref_execute_226 (by decide) (fun (h417 : ¬ p0 = (31 : Int32)) => ?_) (fun (h417 : p0 = (31 : Int32)) => ?_)
                          · refine lv_iload_n hx hb d_Ref_execute_246 rfl (lv_at hl 2 rfl) ?_
                            refine lv_bipush (v := (32 : Int32)) hx hb d_Ref_execute_247 (by decide) ?_
                            refine lv_icmp_lt (tgt := 258) hx hb d_Ref_execute_249 (by decide) (fun (h424 : p0 < (32 : Int32)) => ?_) (fun (h424 : ¬ p0 < (32 : Int32)) => ?_)
                            · refine lv_iload_n hx hb d_Ref_execute_258 rfl (lv_at hl 2 rfl) ?_
                              refine lv_bipush (v := (42 : Int32)) hx hb d_Ref_execute_259 (by decide) ?_
                              refine lv_icmp_eq (tgt := 270) hx hb d_Ref_execute_261 (by decide) (fun (h428 : p0 = (42 : Int32)) => ?_) (fun (h428 : ¬ p0 = (42 : Int32)) => ?_)
                              · refine lv_aload_n hx hb d_Ref_execute_270 rfl (lv_at hl 1 rfl) ?_
                                refine lv_iload_n hx hb d_Ref_execute_271 rfl (lv_at hl 2 rfl) ?_
                                refine lv_iload_n hx hb d_Ref_execute_272 rfl (lv_at hl 0 rfl) ?_
                                let t429 := (f_Ref_access p0 (f_Ref_signed16 rc) rg rs rm rl rr re rd ra rn rf rw)
                                refine k_cVv (As := [.int p0, .int (f_Ref_signed16 rc)]) (rest := []) (wr := []) (wj := [(aT, .inr (11, [.ref bG, .ref bS, .ref bM, .int t429.2.2.2.1, .int rk, .int t429.2.2.2.2.1, .int t429.2.2.2.2.2.1, .int rc, .int rd, .int ra, .int rb, .int t429.2.2.2.2.2.2.1, .int t429.2.2.2.2.2.2.2.1, .int t429.2.2.2.2.2.2.2.2])), (bG, .inl (dG, 32, .inl t429.1)), (bS, .inl (dS, 48, .inl t429.2.1)), (bM, .inl (dM, 16384, .inl t429.2.2.1))]) ⟨hx, hb, hml, hown, hB⟩ (c_Ref_access l D aT bG bS bM dG dS dM rg rs rm rl rk rr re rc rd ra rb rn rf rw p0 (f_Ref_signed16 rc) hra hrd) yl_Ref_access mw_908 hK hN hP hD hS hA [0, 1, 2] [0, 1, 2, 3] [] [0, 1, 2, 3] rfl rfl rfl rfl (by decide +kernel) 0 rfl rfl rfl rfl hl.1 rfl (Nat.le_of_ble_eq_true rfl) ⟨Nat.le_of_ble_eq_true rfl, Nat.le_of_ble_eq_true rfl⟩ d_Ref_execute_273 ⟨Nat.le_of_ble_eq_true rfl, Nat.le_of_ble_eq_true rfl⟩ (fun H locs hP hD hS => ?_)
                                refine lv_goto (tgt := 283) hx hb d_Ref_execute_276 (by decide) ?_
                                have ef : f_Ref_execute p0 rg rs rm rl rr re rc rd ra rb rn rf rw = (t429.1, t429.2.1, t429.2.2.1, t429.2.2.2.1, t429.2.2.2.2.1, t429.2.2.2.2.2.1, t429.2.2.2.2.2.2.1, t429.2.2.2.2.2.2.2.1, t429.2.2.2.2.2.2.2.2) := by unfold f_Ref_execute; try dsimp only; rw [if_neg h22, if_neg h41, if_pos h264, if_neg h280, if_neg h293, if_neg h303, if_neg h310, if_neg h314, if_neg h319, if_neg h336, if_neg h349, if_pos h407, if_neg h417, if_pos h424, if_pos h428]
                                exact k_vret hx hb hr hlocks hK hP hD hS [0, 1, 2, 3] rfl (by rw [ef] <;> rfl) d_Ref_execute_283
                              · refine lv_iload_n hx hb d_Ref_execute_264 rfl (lv_at hl 2 rfl) ?_
                                refine lv_bipush (v := (44 : Int32)) hx hb d_Ref_execute_265 (by decide) ?_
                                refine lv_icmp_ne (tgt := 279) hx hb d_Ref_execute_267 (by decide) (fun (h433 : ¬ p0 = (44 : Int32)) => ?_) (fun (h433 : p0 = (44 : Int32)) => ?_)
                                · refine lv_aload_n hx hb d_Ref_execute_279 rfl (lv_at hl 1 rfl) ?_
                                  let t434 := (f_Ref_unlisted rs)
                                  refine k_cVv (As := []) (rest := []) (wr := []) (wj := [(aT, .inr (11, [.ref bG, .ref bS, .ref bM, .int t434.2.1, .int rk, .int rr, .int re, .int rc, .int rd, .int ra, .int rb, .int t434.2.2.1, .int t434.2.2.2, .int rw])), (bG, .inl (dG, 32, .inl rg)), (bS, .inl (dS, 48, .inl t434.1)), (bM, .inl (dM, 16384, .inl rm))]) ⟨hx, hb, hml, hown, hB⟩ (c_Ref_unlisted l D aT bG bS bM dG dS dM rg rs rm rl rk rr re rc rd ra rb rn rf rw) yl_Ref_unlisted mw_827 hK hN hP hD hS hA [0, 1, 2] [0, 1, 2, 3] [] [0, 1, 2, 3] rfl rfl rfl rfl (by decide +kernel) 0 rfl rfl rfl rfl hl.1 rfl (Nat.le_of_ble_eq_true rfl) ⟨Nat.le_of_ble_eq_true rfl, Nat.le_of_ble_eq_true rfl⟩ d_Ref_execute_280 ⟨Nat.le_of_ble_eq_true rfl, Nat.le_of_ble_eq_true rfl⟩ (fun H locs hP hD hS => ?_)
                                  have ef : f_Ref_execute p0 rg rs rm rl rr re rc rd ra rb rn rf rw = (rg, t434.1, rm, t434.2.1, rr, re, t434.2.2.1, t434.2.2.2, rw) := by unfold f_Ref_execute; try dsimp only; rw [if_neg h22, if_neg h41, if_pos h264, if_neg h280, if_neg h293, if_neg h303, if_neg h310, if_neg h314, if_neg h319, if_neg h336, if_neg h349, if_pos h407, if_neg h417, if_pos h424, if_neg h428, if_neg h433]
                                  exact k_vret hx hb hr hlocks hK hP hD hS [0, 1, 2, 3] rfl (by rw [ef] <;> rfl) d_Ref_execute_283
                                · refine lv_aload_n hx hb d_Ref_execute_270 rfl (lv_at hl 1 rfl) ?_
                                  refine lv_iload_n hx hb d_Ref_execute_271 rfl (lv_at hl 2 rfl) ?_
                                  refine lv_iload_n hx hb d_Ref_execute_272 rfl (lv_at hl 0 rfl) ?_
                                  let t435 := (f_Ref_access p0 (f_Ref_signed16 rc) rg rs rm rl rr re rd ra rn rf rw)
                                  refine k_cVv (As := [.int p0, .int (f_Ref_signed16 rc)]) (rest := []) (wr := []) (wj := [(aT, .inr (11, [.ref bG, .ref bS, .ref bM, .int t435.2.2.2.1, .int rk, .int t435.2.2.2.2.1, .int t435.2.2.2.2.2.1, .int rc, .int rd, .int ra, .int rb, .int t435.2.2.2.2.2.2.1, .int t435.2.2.2.2.2.2.2.1, .int t435.2.2.2.2.2.2.2.2])), (bG, .inl (dG, 32, .inl t435.1)), (bS, .inl (dS, 48, .inl t435.2.1)), (bM, .inl (dM, 16384, .inl t435.2.2.1))]) ⟨hx, hb, hml, hown, hB⟩ (c_Ref_access l D aT bG bS bM dG dS dM rg rs rm rl rk rr re rc rd ra rb rn rf rw p0 (f_Ref_signed16 rc) hra hrd) yl_Ref_access mw_908 hK hN hP hD hS hA [0, 1, 2] [0, 1, 2, 3] [] [0, 1, 2, 3] rfl rfl rfl rfl (by decide +kernel) 0 rfl rfl rfl rfl hl.1 rfl (Nat.le_of_ble_eq_true rfl) ⟨Nat.le_of_ble_eq_true rfl, Nat.le_of_ble_eq_true rfl⟩ d_Ref_execute_273 ⟨Nat.le_of_ble_eq_true rfl, Nat.le_of_ble_eq_true rfl⟩ (fun H locs hP hD hS => ?_)
                                  refine lv_goto (tgt := 283) hx hb d_Ref_execute_276 (by decide) ?_
                                  have ef : f_Ref_execute p0 rg rs rm rl rr re rc rd ra rb rn rf rw = (t435.1, t435.2.1, t435.2.2.1, t435.2.2.2.1, t435.2.2.2.2.1, t435.2.2.2.2.2.1, t435.2.2.2.2.2.2.1, t435.2.2.2.2.2.2.2.1, t435.2.2.2.2.2.2.2.2) := by unfold f_Ref_execute; try dsimp only; rw [if_neg h22, if_neg h41, if_pos h264, if_neg h280, if_neg h293, if_neg h303, if_neg h310, if_neg h314, if_neg h319, if_neg h336, if_neg h349, if_pos h407, if_neg h417, if_pos h424, if_neg h428, if_pos h433]
                                  exact k_vret hx hb hr hlocks hK hP hD hS [0, 1, 2, 3] rfl (by rw [ef] <;> rfl) d_Ref_execute_283
                            · refine lv_iload_n hx hb d_Ref_execute_252 rfl (lv_at hl 2 rfl) ?_
                              refine lv_bipush (v := (40 : Int32)) hx hb d_Ref_execute_253 (by decide) ?_
                              refine lv_icmp_le (tgt := 270) hx hb d_Ref_execute_255 (by decide) (fun (h439 : p0 ≤ (40 : Int32)) => ?_) (fun (h439 : ¬ p0 ≤ (40 : Int32)) => ?_)
                              · refine lv_aload_n hx hb d_Ref_execute_270 rfl (lv_at hl 1 rfl) ?_
                                refine lv_iload_n hx hb d_Ref_execute_271 rfl (lv_at hl 2 rfl) ?_
                                refine lv_iload_n hx hb d_Ref_execute_272 rfl (lv_at hl 0 rfl) ?_
                                let t440 := (f_Ref_access p0 (f_Ref_signed16 rc) rg rs rm rl rr re rd ra rn rf rw)
                                refine k_cVv (As := [.int p0, .int (f_Ref_signed16 rc)]) (rest := []) (wr := []) (wj := [(aT, .inr (11, [.ref bG, .ref bS, .ref bM, .int t440.2.2.2.1, .int rk, .int t440.2.2.2.2.1, .int t440.2.2.2.2.2.1, .int rc, .int rd, .int ra, .int rb, .int t440.2.2.2.2.2.2.1, .int t440.2.2.2.2.2.2.2.1, .int t440.2.2.2.2.2.2.2.2])), (bG, .inl (dG, 32, .inl t440.1)), (bS, .inl (dS, 48, .inl t440.2.1)), (bM, .inl (dM, 16384, .inl t440.2.2.1))]) ⟨hx, hb, hml, hown, hB⟩ (c_Ref_access l D aT bG bS bM dG dS dM rg rs rm rl rk rr re rc rd ra rb rn rf rw p0 (f_Ref_signed16 rc) hra hrd) yl_Ref_access mw_908 hK hN hP hD hS hA [0, 1, 2] [0, 1, 2, 3] [] [0, 1, 2, 3] rfl rfl rfl rfl (by decide +kernel) 0 rfl rfl rfl rfl hl.1 rfl (Nat.le_of_ble_eq_true rfl) ⟨Nat.le_of_ble_eq_true rfl, Nat.le_of_ble_eq_true rfl⟩ d_Ref_execute_273 ⟨Nat.le_of_ble_eq_true rfl, Nat.le_of_ble_eq_true rfl⟩ (fun H locs hP hD hS => ?_)
                                refine lv_goto (tgt := 283) hx hb d_Ref_execute_276 (by decide) ?_
                                have ef : f_Ref_execute p0 rg rs rm rl rr re rc rd ra rb rn rf rw = (t440.1, t440.2.1, t440.2.2.1, t440.2.2.2.1, t440.2.2.2.2.1, t440.2.2.2.2.2.1, t440.2.2.2.2.2.2.1, t440.2.2.2.2.2.2.2.1, t440.2.2.2.2.2.2.2.2) := by unfold f_Ref_execute; try dsimp only; rw [if_neg h22, if_neg h41, if_pos h264, if_neg h280, if_neg h293, if_neg h303, if_neg h310, if_neg h314, if_neg h319, if_neg h336, if_neg h349, if_pos h407, if_neg h417, if_neg h424, if_pos h439]
                                exact k_vret hx hb hr hlocks hK hP hD hS [0, 1, 2, 3] rfl (by rw [ef] <;> rfl) d_Ref_execute_283
                              · refine lv_iload_n hx hb d_Ref_execute_258 rfl (lv_at hl 2 rfl) ?_
                                refine lv_bipush (v := (42 : Int32)) hx hb d_Ref_execute_259 (by decide) ?_
                                refine lv_icmp_eq (tgt := 270) hx hb d_Ref_execute_261 (by decide) (fun (h444 : p0 = (42 : Int32)) => ?_) (fun (h444 : ¬ p0 = (42 : Int32)) => ?_)
                                · refine lv_aload_n hx hb d_Ref_execute_270 rfl (lv_at hl 1 rfl) ?_
                                  refine lv_iload_n hx hb d_Ref_execute_271 rfl (lv_at hl 2 rfl) ?_
                                  refine lv_iload_n hx hb d_Ref_execute_272 rfl (lv_at hl 0 rfl) ?_
                                  let t445 := (f_Ref_access p0 (f_Ref_signed16 rc) rg rs rm rl rr re rd ra rn rf rw)
                                  refine k_cVv (As := [.int p0, .int (f_Ref_signed16 rc)]) (rest := []) (wr := []) (wj := [(aT, .inr (11, [.ref bG, .ref bS, .ref bM, .int t445.2.2.2.1, .int rk, .int t445.2.2.2.2.1, .int t445.2.2.2.2.2.1, .int rc, .int rd, .int ra, .int rb, .int t445.2.2.2.2.2.2.1, .int t445.2.2.2.2.2.2.2.1, .int t445.2.2.2.2.2.2.2.2])), (bG, .inl (dG, 32, .inl t445.1)), (bS, .inl (dS, 48, .inl t445.2.1)), (bM, .inl (dM, 16384, .inl t445.2.2.1))]) ⟨hx, hb, hml, hown, hB⟩ (c_Ref_access l D aT bG bS bM dG dS dM rg rs rm rl rk rr re rc rd ra rb rn rf rw p0 (f_Ref_signed16 rc) hra hrd) yl_Ref_access mw_908 hK hN hP hD hS hA [0, 1, 2] [0, 1, 2, 3] [] [0, 1, 2, 3] rfl rfl rfl rfl (by decide +kernel) 0 rfl rfl rfl rfl hl.1 rfl (Nat.le_of_ble_eq_true rfl) ⟨Nat.le_of_ble_eq_true rfl, Nat.le_of_ble_eq_true rfl⟩ d_Ref_execute_273 ⟨Nat.le_of_ble_eq_true rfl, Nat.le_of_ble_eq_true rfl⟩ (fun H locs hP hD hS => ?_)
                                  refine lv_goto (tgt := 283) hx hb d_Ref_execute_276 (by decide) ?_
                                  have ef : f_Ref_execute p0 rg rs rm rl rr re rc rd ra rb rn rf rw = (t445.1, t445.2.1, t445.2.2.1, t445.2.2.2.1, t445.2.2.2.2.1, t445.2.2.2.2.2.1, t445.2.2.2.2.2.2.1, t445.2.2.2.2.2.2.2.1, t445.2.2.2.2.2.2.2.2) := by unfold f_Ref_execute; try dsimp only; rw [if_neg h22, if_neg h41, if_pos h264, if_neg h280, if_neg h293, if_neg h303, if_neg h310, if_neg h314, if_neg h319, if_neg h336, if_neg h349, if_pos h407, if_neg h417, if_neg h424, if_neg h439, if_pos h444]
                                  exact k_vret hx hb hr hlocks hK hP hD hS [0, 1, 2, 3] rfl (by rw [ef] <;> rfl) d_Ref_execute_283
                                · refine lv_iload_n hx hb d_Ref_execute_264 rfl (lv_at hl 2 rfl) ?_
                                  refine lv_bipush (v := (44 : Int32)) hx hb d_Ref_execute_265 (by decide) ?_
                                  refine lv_icmp_ne (tgt := 279) hx hb d_Ref_execute_267 (by decide) (fun (h449 : ¬ p0 = (44 : Int32)) => ?_) (fun (h449 : p0 = (44 : Int32)) => ?_)
                                  · refine lv_aload_n hx hb d_Ref_execute_279 rfl (lv_at hl 1 rfl) ?_
                                    let t450 := (f_Ref_unlisted rs)
                                    refine k_cVv (As := []) (rest := []) (wr := []) (wj := [(aT, .inr (11, [.ref bG, .ref bS, .ref bM, .int t450.2.1, .int rk, .int rr, .int re, .int rc, .int rd, .int ra, .int rb, .int t450.2.2.1, .int t450.2.2.2, .int rw])), (bG, .inl (dG, 32, .inl rg)), (bS, .inl (dS, 48, .inl t450.1)), (bM, .inl (dM, 16384, .inl rm))]) ⟨hx, hb, hml, hown, hB⟩ (c_Ref_unlisted l D aT bG bS bM dG dS dM rg rs rm rl rk rr re rc rd ra rb rn rf rw) yl_Ref_unlisted mw_827 hK hN hP hD hS hA [0, 1, 2] [0, 1, 2, 3] [] [0, 1, 2, 3] rfl rfl rfl rfl (by decide +kernel) 0 rfl rfl rfl rfl hl.1 rfl (Nat.le_of_ble_eq_true rfl) ⟨Nat.le_of_ble_eq_true rfl, Nat.le_of_ble_eq_true rfl⟩ d_Ref_execute_280 ⟨Nat.le_of_ble_eq_true rfl, Nat.le_of_ble_eq_true rfl⟩ (fun H locs hP hD hS => ?_)
                                    have ef : f_Ref_execute p0 rg rs rm rl rr re rc rd ra rb rn rf rw = (rg, t450.1, rm, t450.2.1, rr, re, t450.2.2.1, t450.2.2.2, rw) := by unfold f_Ref_execute; try dsimp only; rw [if_neg h22, if_neg h41, if_pos h264, if_neg h280, if_neg h293, if_neg h303, if_neg h310, if_neg h314, if_neg h319, if_neg h336, if_neg h349, if_pos h407, if_neg h417, if_neg h424, if_neg h439, if_neg h444, if_neg h449]
                                    exact k_vret hx hb hr hlocks hK hP hD hS [0, 1, 2, 3] rfl (by rw [ef] <;> rfl) d_Ref_execute_283
                                  · refine lv_aload_n hx hb d_Ref_execute_270 rfl (lv_at hl 1 rfl) ?_
                                    refine lv_iload_n hx hb d_Ref_execute_271 rfl (lv_at hl 2 rfl) ?_
                                    refine lv_iload_n hx hb d_Ref_execute_272 rfl (lv_at hl 0 rfl) ?_
                                    let t451 := (f_Ref_access p0 (f_Ref_signed16 rc) rg rs rm rl rr re rd ra rn rf rw)
                                    refine k_cVv (As := [.int p0, .int (f_Ref_signed16 rc)]) (rest := []) (wr := []) (wj := [(aT, .inr (11, [.ref bG, .ref bS, .ref bM, .int t451.2.2.2.1, .int rk, .int t451.2.2.2.2.1, .int t451.2.2.2.2.2.1, .int rc, .int rd, .int ra, .int rb, .int t451.2.2.2.2.2.2.1, .int t451.2.2.2.2.2.2.2.1, .int t451.2.2.2.2.2.2.2.2])), (bG, .inl (dG, 32, .inl t451.1)), (bS, .inl (dS, 48, .inl t451.2.1)), (bM, .inl (dM, 16384, .inl t451.2.2.1))]) ⟨hx, hb, hml, hown, hB⟩ (c_Ref_access l D aT bG bS bM dG dS dM rg rs rm rl rk rr re rc rd ra rb rn rf rw p0 (f_Ref_signed16 rc) hra hrd) yl_Ref_access mw_908 hK hN hP hD hS hA [0, 1, 2] [0, 1, 2, 3] [] [0, 1, 2, 3] rfl rfl rfl rfl (by decide +kernel) 0 rfl rfl rfl rfl hl.1 rfl (Nat.le_of_ble_eq_true rfl) ⟨Nat.le_of_ble_eq_true rfl, Nat.le_of_ble_eq_true rfl⟩ d_Ref_execute_273 ⟨Nat.le_of_ble_eq_true rfl, Nat.le_of_ble_eq_true rfl⟩ (fun H locs hP hD hS => ?_)
                                    refine lv_goto (tgt := 283) hx hb d_Ref_execute_276 (by decide) ?_
                                    have ef : f_Ref_execute p0 rg rs rm rl rr re rc rd ra rb rn rf rw = (t451.1, t451.2.1, t451.2.2.1, t451.2.2.2.1, t451.2.2.2.2.1, t451.2.2.2.2.2.1, t451.2.2.2.2.2.2.1, t451.2.2.2.2.2.2.2.1, t451.2.2.2.2.2.2.2.2) := by unfold f_Ref_execute; try dsimp only; rw [if_neg h22, if_neg h41, if_pos h264, if_neg h280, if_neg h293, if_neg h303, if_neg h310, if_neg h314, if_neg h319, if_neg h336, if_neg h349, if_pos h407, if_neg h417, if_neg h424, if_neg h439, if_neg h444, if_pos h449]
                                    exact k_vret hx hb hr hlocks hK hP hD hS [0, 1, 2, 3] rfl (by rw [ef] <;> rfl) d_Ref_execute_283
                          · refine lv_aload_n hx hb d_Ref_execute_229 rfl (lv_at hl 1 rfl) ?_
                            refine lv_aload_n hx hb d_Ref_execute_230 rfl (lv_at hl 1 rfl) ?_
                            refine va_get (D := D) (ci := 11) (v := .int rc) (C := "MappedProcessorModel") (T := T_Ref) (N := 14) hx hb hB iw_Ref hown hK hP 0 rfl rfl 7 (by decide) (hB _ mw_650) (fun _ h9 => h9) rfl d_Ref_execute_231 ?_
                            refine lv_iconst (v := (1 : Int32)) hx hb d_Ref_execute_234 (by decide) ?_
                            refine lv_ishr hx hb d_Ref_execute_235 ?_
                            refine lv_sipush (v := (1023 : Int32)) hx hb d_Ref_execute_236 (by decide) ?_
                            refine lv_iand hx hb d_Ref_execute_239 ?_
                            let t452 := (f_Ref_extended ((shr rc (1 : Int32)) &&& (1023 : Int32)) rg rs rm rl rr re rc rd ra rb rn rf rw)
                            refine k_cVv (As := [.int ((shr rc (1 : Int32)) &&& (1023 : Int32))]) (rest := []) (wr := []) (wj := [(aT, .inr (11, [.ref bG, .ref bS, .ref bM, .int t452.2.2.2.1, .int rk, .int t452.2.2.2.2.1, .int t452.2.2.2.2.2.1, .int rc, .int rd, .int ra, .int rb, .int t452.2.2.2.2.2.2.1, .int t452.2.2.2.2.2.2.2.1, .int t452.2.2.2.2.2.2.2.2])), (bG, .inl (dG, 32, .inl t452.1)), (bS, .inl (dS, 48, .inl t452.2.1)), (bM, .inl (dM, 16384, .inl t452.2.2.1))]) ⟨hx, hb, hml, hown, hB⟩ (c_Ref_extended l D aT bG bS bM dG dS dM rg rs rm rl rk rr re rc rd ra rb rn rf rw ((shr rc (1 : Int32)) &&& (1023 : Int32)) hra hrd hrb) yl_Ref_extended mw_850 hK hN hP hD hS hA [0, 1, 2] [0, 1, 2, 3] [] [0, 1, 2, 3] rfl rfl rfl rfl (by decide +kernel) 0 rfl rfl rfl rfl hl.1 rfl (Nat.le_of_ble_eq_true rfl) ⟨Nat.le_of_ble_eq_true rfl, Nat.le_of_ble_eq_true rfl⟩ d_Ref_execute_240 ⟨Nat.le_of_ble_eq_true rfl, Nat.le_of_ble_eq_true rfl⟩ (fun H locs hP hD hS => ?_)
                            refine lv_goto (tgt := 283) hx hb d_Ref_execute_243 (by decide) ?_
                            have ef : f_Ref_execute p0 rg rs rm rl rr re rc rd ra rb rn rf rw = (t452.1, t452.2.1, t452.2.2.1, t452.2.2.2.1, t452.2.2.2.2.1, t452.2.2.2.2.2.1, t452.2.2.2.2.2.2.1, t452.2.2.2.2.2.2.2.1, t452.2.2.2.2.2.2.2.2) := by unfold f_Ref_execute; try dsimp only; rw [if_neg h22, if_neg h41, if_pos h264, if_neg h280, if_neg h293, if_neg h303, if_neg h310, if_neg h314, if_neg h319, if_neg h336, if_neg h349, if_pos h407, if_pos h417]
                            exact k_vret hx hb hr hlocks hK hP hD hS [0, 1, 2, 3] rfl (by rw [ef] <;> rfl) d_Ref_execute_283
                        · refine lv_aload_n hx hb d_Ref_execute_215 rfl (lv_at hl 1 rfl) ?_
                          refine lv_iload_n hx hb d_Ref_execute_216 rfl (lv_at hl 2 rfl) ?_
                          let t453 := (f_Ref_logical p0 rg rs rc rd ra)
                          refine k_cVv (As := [.int p0]) (rest := []) (wr := []) (wj := [(aT, .inr (11, [.ref bG, .ref bS, .ref bM, .int rl, .int rk, .int rr, .int re, .int rc, .int rd, .int ra, .int rb, .int rn, .int rf, .int rw])), (bG, .inl (dG, 32, .inl t453.1)), (bS, .inl (dS, 48, .inl t453.2)), (bM, .inl (dM, 16384, .inl rm))]) ⟨hx, hb, hml, hown, hB⟩ (c_Ref_logical l D aT bG bS bM dG dS dM rg rs rm rl rk rr re rc rd ra rb rn rf rw p0 hra hrd) yl_Ref_logical mw_846 hK hN hP hD hS hA [0, 1, 2] [0, 1, 2, 3] [] [0, 1, 2, 3] rfl rfl rfl rfl (by decide +kernel) 0 rfl rfl rfl rfl hl.1 rfl (Nat.le_of_ble_eq_true rfl) ⟨Nat.le_of_ble_eq_true rfl, Nat.le_of_ble_eq_true rfl⟩ d_Ref_execute_217 ⟨Nat.le_of_ble_eq_true rfl, Nat.le_of_ble_eq_true rfl⟩ (fun H locs hP hD hS => ?_)
                          refine lv_goto (tgt := 283) hx hb d_Ref_execute_220 (by decide) ?_
                          have ef : f_Ref_execute p0 rg rs rm rl rr re rc rd ra rb rn rf rw = (t453.1, t453.2, rm, rl, rr, re, rn, rf, rw) := by unfold f_Ref_execute; try dsimp only; rw [if_neg h22, if_neg h41, if_pos h264, if_neg h280, if_neg h293, if_neg h303, if_neg h310, if_neg h314, if_neg h319, if_neg h336, if_neg h349, if_neg h407]
                          exact k_vret hx hb hr hlocks hK hP hD hS [0, 1, 2, 3] rfl (by rw [ef] <;> rfl) d_Ref_execute_283
                    · refine lv_aload_n hx hb d_Ref_execute_195 rfl (lv_at hl 1 rfl) ?_
                      refine lv_iload_n hx hb d_Ref_execute_196 rfl (lv_at hl 2 rfl) ?_
                      let t454 := (f_Ref_rotate p0 rg rs rc rd ra rb)
                      refine k_cVv (As := [.int p0]) (rest := []) (wr := []) (wj := [(aT, .inr (11, [.ref bG, .ref bS, .ref bM, .int rl, .int rk, .int rr, .int re, .int rc, .int rd, .int ra, .int rb, .int rn, .int rf, .int rw])), (bG, .inl (dG, 32, .inl t454.1)), (bS, .inl (dS, 48, .inl t454.2)), (bM, .inl (dM, 16384, .inl rm))]) ⟨hx, hb, hml, hown, hB⟩ (c_Ref_rotate l D aT bG bS bM dG dS dM rg rs rm rl rk rr re rc rd ra rb rn rf rw p0 hra hrd hrb) yl_Ref_rotate mw_832 hK hN hP hD hS hA [0, 1, 2] [0, 1, 2, 3] [] [0, 1, 2, 3] rfl rfl rfl rfl (by decide +kernel) 0 rfl rfl rfl rfl hl.1 rfl (Nat.le_of_ble_eq_true rfl) ⟨Nat.le_of_ble_eq_true rfl, Nat.le_of_ble_eq_true rfl⟩ d_Ref_execute_197 ⟨Nat.le_of_ble_eq_true rfl, Nat.le_of_ble_eq_true rfl⟩ (fun H locs hP hD hS => ?_)
                      refine lv_goto (tgt := 283) hx hb d_Ref_execute_200 (by decide) ?_
                      have ef : f_Ref_execute p0 rg rs rm rl rr re rc rd ra rb rn rf rw = (t454.1, t454.2, rm, rl, rr, re, rn, rf, rw) := by unfold f_Ref_execute; try dsimp only; rw [if_neg h22, if_neg h41, if_pos h264, if_neg h280, if_neg h293, if_neg h303, if_neg h310, if_neg h314, if_neg h319, if_pos h336]
                      exact k_vret hx hb hr hlocks hK hP hD hS [0, 1, 2, 3] rfl (by rw [ef] <;> rfl) d_Ref_execute_283
              · refine lv_aload_n hx hb d_Ref_execute_160 rfl (lv_at hl 1 rfl) ?_
                refine lv_aload_n hx hb d_Ref_execute_161 rfl (lv_at hl 1 rfl) ?_
                refine va_get (D := D) (ci := 11) (v := .int rc) (C := "MappedProcessorModel") (T := T_Ref) (N := 14) hx hb hB iw_Ref hown hK hP 0 rfl rfl 7 (by decide) (hB _ mw_650) (fun _ h9 => h9) rfl d_Ref_execute_162 ?_
                refine lv_iconst (v := (1 : Int32)) hx hb d_Ref_execute_165 (by decide) ?_
                refine lv_ishr hx hb d_Ref_execute_166 ?_
                refine lv_sipush (v := (1023 : Int32)) hx hb d_Ref_execute_167 (by decide) ?_
                refine lv_iand hx hb d_Ref_execute_170 ?_
                let t455 := (f_Ref_conditions ((shr rc (1 : Int32)) &&& (1023 : Int32)) rs rl rc rd ra rb rn rf)
                refine k_cVv (As := [.int ((shr rc (1 : Int32)) &&& (1023 : Int32))]) (rest := []) (wr := []) (wj := [(aT, .inr (11, [.ref bG, .ref bS, .ref bM, .int t455.2.1, .int rk, .int rr, .int re, .int rc, .int rd, .int ra, .int rb, .int t455.2.2.1, .int t455.2.2.2, .int rw])), (bG, .inl (dG, 32, .inl rg)), (bS, .inl (dS, 48, .inl t455.1)), (bM, .inl (dM, 16384, .inl rm))]) ⟨hx, hb, hml, hown, hB⟩ (c_Ref_conditions l D aT bG bS bM dG dS dM rg rs rm rl rk rr re rc rd ra rb rn rf rw ((shr rc (1 : Int32)) &&& (1023 : Int32)) hra hrd hrb) yl_Ref_conditions mw_814 hK hN hP hD hS hA [0, 1, 2] [0, 1, 2, 3] [] [0, 1, 2, 3] rfl rfl rfl rfl (by decide +kernel) 0 rfl rfl rfl rfl hl.1 rfl (Nat.le_of_ble_eq_true rfl) ⟨Nat.le_of_ble_eq_true rfl, Nat.le_of_ble_eq_true rfl⟩ d_Ref_execute_171 ⟨Nat.le_of_ble_eq_true rfl, Nat.le_of_ble_eq_true rfl⟩ (fun H locs hP hD hS => ?_)
                refine lv_goto (tgt := 283) hx hb d_Ref_execute_174 (by decide) ?_
                have ef : f_Ref_execute p0 rg rs rm rl rr re rc rd ra rb rn rf rw = (rg, t455.1, rm, t455.2.1, rr, re, t455.2.2.1, t455.2.2.2, rw) := by unfold f_Ref_execute; try dsimp only; rw [if_neg h22, if_neg h41, if_pos h264, if_neg h280, if_neg h293, if_neg h303, if_pos h310]
                exact k_vret hx hb hr hlocks hK hP hD hS [0, 1, 2, 3] rfl (by rw [ef] <;> rfl) d_Ref_execute_283
            · refine lv_aload_n hx hb d_Ref_execute_118 rfl (lv_at hl 1 rfl) ?_
              refine lv_bipush (v := (20 : Int32)) hx hb d_Ref_execute_119 (by decide) ?_
              refine lv_aload_n hx hb d_Ref_execute_121 rfl (lv_at hl 1 rfl) ?_
              refine va_get (D := D) (ci := 11) (v := .int rc) (C := "MappedProcessorModel") (T := T_Ref) (N := 14) hx hb hB iw_Ref hown hK hP 0 rfl rfl 7 (by decide) (hB _ mw_650) (fun _ h9 => h9) rfl d_Ref_execute_122 ?_
              refine lv_bipush (v := (6 : Int32)) hx hb d_Ref_execute_125 (by decide) ?_
              refine lv_ishl hx hb d_Ref_execute_127 ?_
              refine lv_bipush (v := (6 : Int32)) hx hb d_Ref_execute_128 (by decide) ?_
              refine lv_ishr hx hb d_Ref_execute_130 ?_
              refine lv_bipush (v := (-4 : Int32)) hx hb d_Ref_execute_131 (by decide) ?_
              refine lv_iand hx hb d_Ref_execute_133 ?_
              refine lv_aload_n hx hb d_Ref_execute_134 rfl (lv_at hl 1 rfl) ?_
              refine va_get (D := D) (ci := 11) (v := .int rc) (C := "MappedProcessorModel") (T := T_Ref) (N := 14) hx hb hB iw_Ref hown hK hP 0 rfl rfl 7 (by decide) (hB _ mw_650) (fun _ h9 => h9) rfl d_Ref_execute_135 ?_
              refine lv_iconst (v := (2 : Int32)) hx hb d_Ref_execute_138 (by decide) ?_
              refine lv_iand hx hb d_Ref_execute_139 ?_
              refine k_join2 (c0 := (rc &&& (2 : Int32)) = (0 : Int32)) (x1 := (1 : Int32)) (x2 := (0 : Int32)) (rest := [.int ((shr (shl rc (6 : Int32)) (6 : Int32)) &&& (-4 : Int32)), .int (20 : Int32), .ref aT]) 148 ?_ (fun k457 k458 => ?_)
              rotate_left
              · refine lv_if_ne (tgt := 147) hx hb d_Ref_execute_140 (by decide) (fun (h456 : ¬ (rc &&& (2 : Int32)) = (0 : Int32)) => ?_) (fun (h456 : (rc &&& (2 : Int32)) = (0 : Int32)) => ?_)
                · refine lv_iconst (v := (0 : Int32)) hx hb d_Ref_execute_147 (by decide) ?_
                  exact k458 h456
                · refine lv_iconst (v := (1 : Int32)) hx hb d_Ref_execute_143 (by decide) ?_
                  refine lv_goto (tgt := 148) hx hb d_Ref_execute_144 (by decide) ?_
                  exact k457 h456
              let t461 := (f_Ref_branch (20 : Int32) ((shr (shl rc (6 : Int32)) (6 : Int32)) &&& (-4 : Int32)) (if (rc &&& (2 : Int32)) = (0 : Int32) then (1 : Int32) else (0 : Int32)) rs rc ra)
              refine k_cVv (As := [.int (20 : Int32), .int ((shr (shl rc (6 : Int32)) (6 : Int32)) &&& (-4 : Int32)), .int (if (rc &&& (2 : Int32)) = (0 : Int32) then (1 : Int32) else (0 : Int32))]) (rest := []) (wr := []) (wj := [(aT, .inr (11, [.ref bG, .ref bS, .ref bM, .int rl, .int rk, .int rr, .int re, .int rc, .int rd, .int ra, .int rb, .int t461.2, .int rf, .int rw])), (bG, .inl (dG, 32, .inl rg)), (bS, .inl (dS, 48, .inl t461.1)), (bM, .inl (dM, 16384, .inl rm))]) ⟨hx, hb, hml, hown, hB⟩ (c_Ref_branch l D aT bG bS bM dG dS dM rg rs rm rl rk rr re rc rd ra rb rn rf rw (20 : Int32) ((shr (shl rc (6 : Int32)) (6 : Int32)) &&& (-4 : Int32)) (if (rc &&& (2 : Int32)) = (0 : Int32) then (1 : Int32) else (0 : Int32)) hra) yl_Ref_branch mw_806 hK hN hP hD hS hA [0, 1, 2] [0, 1, 2, 3] [] [0, 1, 2, 3] rfl rfl rfl rfl (by decide +kernel) 0 rfl rfl rfl rfl hl.1 rfl (Nat.le_of_ble_eq_true rfl) ⟨Nat.le_of_ble_eq_true rfl, Nat.le_of_ble_eq_true rfl⟩ d_Ref_execute_148 ⟨Nat.le_of_ble_eq_true rfl, Nat.le_of_ble_eq_true rfl⟩ (fun H locs hP hD hS => ?_)
              refine lv_goto (tgt := 283) hx hb d_Ref_execute_151 (by decide) ?_
              have ef : f_Ref_execute p0 rg rs rm rl rr re rc rd ra rb rn rf rw = (rg, t461.1, rm, rl, rr, re, t461.2, rf, rw) := by unfold f_Ref_execute; try dsimp only; rw [if_neg h22, if_neg h41, if_pos h264, if_neg h280, if_neg h293, if_pos h303]
              exact k_vret hx hb hr hlocks hK hP hD hS [0, 1, 2, 3] rfl (by rw [ef] <;> rfl) d_Ref_execute_283
          · refine lv_aload_n hx hb d_Ref_execute_86 rfl (lv_at hl 1 rfl) ?_
            refine lv_sipush (v := (3072 : Int32)) hx hb d_Ref_execute_87 (by decide) ?_
            refine lv_iconst (v := (0 : Int32)) hx hb d_Ref_execute_90 (by decide) ?_
            let t462 := (f_Ref_exception (3072 : Int32) (0 : Int32) rs)
            refine k_cVv (As := [.int (3072 : Int32), .int (0 : Int32)]) (rest := []) (wr := []) (wj := [(aT, .inr (11, [.ref bG, .ref bS, .ref bM, .int t462.2.1, .int rk, .int rr, .int re, .int rc, .int rd, .int ra, .int rb, .int t462.2.2.1, .int t462.2.2.2, .int rw])), (bG, .inl (dG, 32, .inl rg)), (bS, .inl (dS, 48, .inl t462.1)), (bM, .inl (dM, 16384, .inl rm))]) ⟨hx, hb, hml, hown, hB⟩ (c_Ref_exception l D aT bG bS bM dG dS dM rg rs rm rl rk rr re rc rd ra rb rn rf rw (3072 : Int32) (0 : Int32)) yl_Ref_exception mw_748 hK hN hP hD hS hA [0, 1, 2] [0, 1, 2, 3] [] [0, 1, 2, 3] rfl rfl rfl rfl (by decide +kernel) 0 rfl rfl rfl rfl hl.1 rfl (Nat.le_of_ble_eq_true rfl) ⟨Nat.le_of_ble_eq_true rfl, Nat.le_of_ble_eq_true rfl⟩ d_Ref_execute_91 ⟨Nat.le_of_ble_eq_true rfl, Nat.le_of_ble_eq_true rfl⟩ (fun H locs hP hD hS => ?_)
            refine lv_aload_n hx hb d_Ref_execute_94 rfl (lv_at hl 1 rfl) ?_
            refine va_get (D := D) (ci := 11) (v := .ref bS) (C := "MappedProcessorModel") (T := T_Ref) (N := 14) hx hb hB iw_Ref hown hK hP 0 rfl rfl 1 (by decide) (hB _ mw_644) (fun _ h9 => h9) rfl d_Ref_execute_95 ?_
            refine lv_bipush (v := (6 : Int32)) hx hb d_Ref_execute_98 (by decide) ?_
            refine lv_aload_n hx hb d_Ref_execute_100 rfl (lv_at hl 1 rfl) ?_
            refine va_get (D := D) (ci := 11) (v := .ref bS) (C := "MappedProcessorModel") (T := T_Ref) (N := 14) hx hb hB iw_Ref hown hK hP 0 rfl rfl 1 (by decide) (hB _ mw_644) (fun _ h9 => h9) rfl d_Ref_execute_101 ?_
            refine lv_iconst (v := (0 : Int32)) hx hb d_Ref_execute_104 (by decide) ?_
            refine k_iald (j := 0) hx hb hK hP 2 1 rfl rfl (by decide) (by unfold vp_in; decide) d_Ref_execute_105 ?_
            refine lv_iconst (v := (4 : Int32)) hx hb d_Ref_execute_106 (by decide) ?_
            refine lv_iadd hx hb d_Ref_execute_107 ?_
            refine k_iast (j := 6) hx hb hK hP hD hS 2 1 rfl rfl (by decide) (by unfold vp_in; decide) d_Ref_execute_108 (fun H locs hP hD hS => ?_)
            have hP : va_P D kCl [(aT, .inr (11, [.ref bG, .ref bS, .ref bM, .int t462.2.1, .int rk, .int rr, .int re, .int rc, .int rd, .int ra, .int rb, .int t462.2.2.1, .int t462.2.2.2, .int rw])), (bG, .inl (dG, 32, .inl rg)), (bS, .inl (dS, 48, .inl (upd t462.1 6 ((t462.1 0) + (4 : Int32))))), (bM, .inl (dM, 16384, .inl rm))] H := hP
            have hD : va_D A [(aT, .inr (11, [.ref bG, .ref bS, .ref bM, .int t462.2.1, .int rk, .int rr, .int re, .int rc, .int rd, .int ra, .int rb, .int t462.2.2.1, .int t462.2.2.2, .int rw])), (bG, .inl (dG, 32, .inl rg)), (bS, .inl (dS, 48, .inl (upd t462.1 6 ((t462.1 0) + (4 : Int32))))), (bM, .inl (dM, 16384, .inl rm))] := hD
            refine lv_goto (tgt := 283) hx hb d_Ref_execute_109 (by decide) ?_
            have ef : f_Ref_execute p0 rg rs rm rl rr re rc rd ra rb rn rf rw = (rg, (upd t462.1 6 ((t462.1 0) + (4 : Int32))), rm, t462.2.1, rr, re, t462.2.2.1, t462.2.2.2, rw) := by unfold f_Ref_execute; try dsimp only; rw [if_neg h22, if_neg h41, if_pos h264, if_neg h280, if_pos h293]
            exact k_vret hx hb hr hlocks hK hP hD hS [0, 1, 2, 3] rfl (by rw [ef] <;> rfl) d_Ref_execute_283
        · refine lv_aload_n hx hb d_Ref_execute_51 rfl (lv_at hl 1 rfl) ?_
          refine lv_aload_n hx hb d_Ref_execute_52 rfl (lv_at hl 1 rfl) ?_
          refine va_get (D := D) (ci := 11) (v := .int rd) (C := "MappedProcessorModel") (T := T_Ref) (N := 14) hx hb hB iw_Ref hown hK hP 0 rfl rfl 8 (by decide) (hB _ mw_651) (fun _ h9 => h9) rfl d_Ref_execute_53 ?_
          refine lv_iload_n hx hb d_Ref_execute_56 rfl (lv_at hl 0 rfl) ?_
          refine lv_bipush (v := (-4 : Int32)) hx hb d_Ref_execute_57 (by decide) ?_
          refine lv_iand hx hb d_Ref_execute_59 ?_
          refine lv_aload_n hx hb d_Ref_execute_60 rfl (lv_at hl 1 rfl) ?_
          refine va_get (D := D) (ci := 11) (v := .int rc) (C := "MappedProcessorModel") (T := T_Ref) (N := 14) hx hb hB iw_Ref hown hK hP 0 rfl rfl 7 (by decide) (hB _ mw_650) (fun _ h9 => h9) rfl d_Ref_execute_61 ?_
          refine lv_iconst (v := (2 : Int32)) hx hb d_Ref_execute_64 (by decide) ?_
          refine lv_iand hx hb d_Ref_execute_65 ?_
          refine k_join2 (c0 := (rc &&& (2 : Int32)) = (0 : Int32)) (x1 := (1 : Int32)) (x2 := (0 : Int32)) (rest := [.int ((f_Ref_signed16 rc) &&& (-4 : Int32)), .int rd, .ref aT]) 74 ?_ (fun k464 k465 => ?_)
          rotate_left
          · refine lv_if_ne (tgt := 73) hx hb d_Ref_execute_66 (by decide) (fun (h463 : ¬ (rc &&& (2 : Int32)) = (0 : Int32)) => ?_) (fun (h463 : (rc &&& (2 : Int32)) = (0 : Int32)) => ?_)
            · refine lv_iconst (v := (0 : Int32)) hx hb d_Ref_execute_73 (by decide) ?_
              exact k465 h463
            · refine lv_iconst (v := (1 : Int32)) hx hb d_Ref_execute_69 (by decide) ?_
              refine lv_goto (tgt := 74) hx hb d_Ref_execute_70 (by decide) ?_
              exact k464 h463
          let t468 := (f_Ref_branch rd ((f_Ref_signed16 rc) &&& (-4 : Int32)) (if (rc &&& (2 : Int32)) = (0 : Int32) then (1 : Int32) else (0 : Int32)) rs rc ra)
          refine k_cVv (As := [.int rd, .int ((f_Ref_signed16 rc) &&& (-4 : Int32)), .int (if (rc &&& (2 : Int32)) = (0 : Int32) then (1 : Int32) else (0 : Int32))]) (rest := []) (wr := []) (wj := [(aT, .inr (11, [.ref bG, .ref bS, .ref bM, .int rl, .int rk, .int rr, .int re, .int rc, .int rd, .int ra, .int rb, .int t468.2, .int rf, .int rw])), (bG, .inl (dG, 32, .inl rg)), (bS, .inl (dS, 48, .inl t468.1)), (bM, .inl (dM, 16384, .inl rm))]) ⟨hx, hb, hml, hown, hB⟩ (c_Ref_branch l D aT bG bS bM dG dS dM rg rs rm rl rk rr re rc rd ra rb rn rf rw rd ((f_Ref_signed16 rc) &&& (-4 : Int32)) (if (rc &&& (2 : Int32)) = (0 : Int32) then (1 : Int32) else (0 : Int32)) hra) yl_Ref_branch mw_806 hK hN hP hD hS hA [0, 1, 2] [0, 1, 2, 3] [] [0, 1, 2, 3] rfl rfl rfl rfl (by decide +kernel) 0 rfl rfl rfl rfl hl.1 rfl (Nat.le_of_ble_eq_true rfl) ⟨Nat.le_of_ble_eq_true rfl, Nat.le_of_ble_eq_true rfl⟩ d_Ref_execute_74 ⟨Nat.le_of_ble_eq_true rfl, Nat.le_of_ble_eq_true rfl⟩ (fun H locs hP hD hS => ?_)
          refine lv_goto (tgt := 283) hx hb d_Ref_execute_77 (by decide) ?_
          have ef : f_Ref_execute p0 rg rs rm rl rr re rc rd ra rb rn rf rw = (rg, t468.1, rm, rl, rr, re, t468.2, rf, rw) := by unfold f_Ref_execute; try dsimp only; rw [if_neg h22, if_neg h41, if_pos h264, if_pos h280]
          exact k_vret hx hb hr hlocks hK hP hD hS [0, 1, 2, 3] rfl (by rw [ef] <;> rfl) d_Ref_execute_283
      · refine lv_iload_n hx hb d_Ref_execute_30 rfl (lv_at hl 2 rfl) ?_
        refine lv_bipush (v := (9 : Int32)) hx hb d_Ref_execute_31 (by decide) ?_
        refine lv_icmp_eq (tgt := 45) hx hb d_Ref_execute_33 (by decide) (fun (h487 : p0 = (9 : Int32)) => ?_) (fun (h487 : ¬ p0 = (9 : Int32)) => ?_)
        · refine lv_iload_n hx hb d_Ref_execute_45 rfl (lv_at hl 2 rfl) ?_
          refine lv_bipush (v := (16 : Int32)) hx hb d_Ref_execute_46 (by decide) ?_
          refine lv_icmp_ne (tgt := 80) hx hb d_Ref_execute_48 (by decide) (fun (h503 : ¬ p0 = (16 : Int32)) => ?_) (fun (h503 : p0 = (16 : Int32)) => ?_)
          · refine lv_iload_n hx hb d_Ref_execute_80 rfl (lv_at hl 2 rfl) ?_
            refine lv_bipush (v := (17 : Int32)) hx hb d_Ref_execute_81 (by decide) ?_
            refine lv_icmp_ne (tgt := 112) hx hb d_Ref_execute_83 (by decide) (fun (h516 : ¬ p0 = (17 : Int32)) => ?_) (fun (h516 : p0 = (17 : Int32)) => ?_)
            · refine lv_iload_n hx hb d_Ref_execute_112 rfl (lv_at hl 2 rfl) ?_
              refine lv_bipush (v := (18 : Int32)) hx hb d_Ref_execute_113 (by decide) ?_
              refine lv_icmp_ne (tgt := 154) hx hb d_Ref_execute_115 (by decide) (fun (h526 : ¬ p0 = (18 : Int32)) => ?_) (fun (h526 : p0 = (18 : Int32)) => ?_)
              · refine lv_iload_n hx hb d_Ref_execute_154 rfl (lv_at hl 2 rfl) ?_
                refine lv_bipush (v := (19 : Int32)) hx hb d_Ref_execute_155 (by decide) ?_
                refine lv_icmp_ne (tgt := 177) hx hb d_Ref_execute_157 (by decide) (fun (h533 : ¬ p0 = (19 : Int32)) => ?_) (fun (h533 : p0 = (19 : Int32)) => ?_)
                · refine lv_iload_n hx hb d_Ref_execute_177 rfl (lv_at hl 2 rfl) ?_
                  refine lv_bipush (v := (20 : Int32)) hx hb d_Ref_execute_178 (by decide) ?_
                  refine lv_icmp_eq (tgt := 195) hx hb d_Ref_execute_180 (by decide) (fun (h537 : p0 = (20 : Int32)) => ?_) (fun (h537 : ¬ p0 = (20 : Int32)) => ?_)
                  · refine lv_aload_n hx hb d_Ref_execute_195 rfl (lv_at hl 1 rfl) ?_
                    refine lv_iload_n hx hb d_Ref_execute_196 rfl (lv_at hl 2 rfl) ?_
                    let t538 := (f_Ref_rotate p0 rg rs rc rd ra rb)
                    refine k_cVv (As := [.int p0]) (rest := []) (wr := []) (wj := [(aT, .inr (11, [.ref bG, .ref bS, .ref bM, .int rl, .int rk, .int rr, .int re, .int rc, .int rd, .int ra, .int rb, .int rn, .int rf, .int rw])), (bG, .inl (dG, 32, .inl t538.1)), (bS, .inl (dS, 48, .inl t538.2)), (bM, .inl (dM, 16384, .inl rm))]) ⟨hx, hb, hml, hown, hB⟩ (c_Ref_rotate l D aT bG bS bM dG dS dM rg rs rm rl rk rr re rc rd ra rb rn rf rw p0 hra hrd hrb) yl_Ref_rotate mw_832 hK hN hP hD hS hA [0, 1, 2] [0, 1, 2, 3] [] [0, 1, 2, 3] rfl rfl rfl rfl (by decide +kernel) 0 rfl rfl rfl rfl hl.1 rfl (Nat.le_of_ble_eq_true rfl) ⟨Nat.le_of_ble_eq_true rfl, Nat.le_of_ble_eq_true rfl⟩ d_Ref_execute_197 ⟨Nat.le_of_ble_eq_true rfl, Nat.le_of_ble_eq_true rfl⟩ (fun H locs hP hD hS => ?_)
                    refine lv_goto (tgt := 283) hx hb d_Ref_execute_200 (by decide) ?_
                    have ef : f_Ref_execute p0 rg rs rm rl rr re rc rd ra rb rn rf rw = (t538.1, t538.2, rm, rl, rr, re, rn, rf, rw) := by unfold f_Ref_execute; try dsimp only; rw [if_neg h22, if_neg h41, if_neg h264, if_pos h487, if_neg h503, if_neg h516, if_neg h526, if_neg h533, if_pos h537]
                    exact k_vret hx hb hr hlocks hK hP hD hS [0, 1, 2, 3] rfl (by rw [ef] <;> rfl) d_Ref_execute_283
                  · refine lv_iload_n hx hb d_Ref_execute_183 rfl (lv_at hl 2 rfl) ?_
                    refine lv_bipush (v := (21 : Int32)) hx hb d_Ref_execute_184 (by decide) ?_
                    refine lv_icmp_eq (tgt := 195) hx hb d_Ref_execute_186 (by decide) (fun (h542 : p0 = (21 : Int32)) => ?_) (fun (h542 : ¬ p0 = (21 : Int32)) => ?_)
                    · refine lv_aload_n hx hb d_Ref_execute_195 rfl (lv_at hl 1 rfl) ?_
                      refine lv_iload_n hx hb d_Ref_execute_196 rfl (lv_at hl 2 rfl) ?_
                      let t543 := (f_Ref_rotate p0 rg rs rc rd ra rb)
                      refine k_cVv (As := [.int p0]) (rest := []) (wr := []) (wj := [(aT, .inr (11, [.ref bG, .ref bS, .ref bM, .int rl, .int rk, .int rr, .int re, .int rc, .int rd, .int ra, .int rb, .int rn, .int rf, .int rw])), (bG, .inl (dG, 32, .inl t543.1)), (bS, .inl (dS, 48, .inl t543.2)), (bM, .inl (dM, 16384, .inl rm))]) ⟨hx, hb, hml, hown, hB⟩ (c_Ref_rotate l D aT bG bS bM dG dS dM rg rs rm rl rk rr re rc rd ra rb rn rf rw p0 hra hrd hrb) yl_Ref_rotate mw_832 hK hN hP hD hS hA [0, 1, 2] [0, 1, 2, 3] [] [0, 1, 2, 3] rfl rfl rfl rfl (by decide +kernel) 0 rfl rfl rfl rfl hl.1 rfl (Nat.le_of_ble_eq_true rfl) ⟨Nat.le_of_ble_eq_true rfl, Nat.le_of_ble_eq_true rfl⟩ d_Ref_execute_197 ⟨Nat.le_of_ble_eq_true rfl, Nat.le_of_ble_eq_true rfl⟩ (fun H locs hP hD hS => ?_)
                      refine lv_goto (tgt := 283) hx hb d_Ref_execute_200 (by decide) ?_
                      have ef : f_Ref_execute p0 rg rs rm rl rr re rc rd ra rb rn rf rw = (t543.1, t543.2, rm, rl, rr, re, rn, rf, rw) := by unfold f_Ref_execute; try dsimp only; rw [if_neg h22, if_neg h41, if_neg h264, if_pos h487, if_neg h503, if_neg h516, if_neg h526, if_neg h533, if_neg h537, if_pos h542]
                      exact k_vret hx hb hr hlocks hK hP hD hS [0, 1, 2, 3] rfl (by rw [ef] <;> rfl) d_Ref_execute_283
                    · refine lv_iload_n hx hb d_Ref_execute_189 rfl (lv_at hl 2 rfl) ?_
                      refine lv_bipush (v := (23 : Int32)) hx hb d_Ref_execute_190 (by decide) ?_
                      refine lv_icmp_ne (tgt := 203) hx hb d_Ref_execute_192 (by decide) (fun (h559 : ¬ p0 = (23 : Int32)) => ?_) (fun (h559 : p0 = (23 : Int32)) => ?_)
                      · refine lv_iload_n hx hb d_Ref_execute_203 rfl (lv_at hl 2 rfl) ?_
                        refine lv_bipush (v := (24 : Int32)) hx hb d_Ref_execute_204 (by decide) ?_
                        refine lv_icmp_lt (tgt := 223) hx hb d_Ref_execute_206 (by decide) (fun (h572 : p0 < (24 : Int32)) => ?_) (fun (h572 : ¬ p0 < (24 : Int32)) => ?_)
                        · refine lv_iload_n hx hb d_Ref_execute_223 rfl (lv_at hl 2 rfl) ?_
                          refine lv_bipush (v := (31 : Int32)) hx hb d_Ref_execute_224 (by decide) ?_
                          refine lv_icmp_ne (tgt := 246) hx hb d_Ref_execute_226 (by decide) (fun (h582 : ¬ p0 = (31 : Int32)) => ?_) (fun (h582 : p0 = (31 : Int32)) => ?_)
                          · refine lv_iload_n hx hb d_Ref_execute_246 rfl (lv_at hl 2 rfl) ?_
                            refine lv_bipush (v := (32 : Int32)) hx hb d_Ref_execute_247 (by decide) ?_
                            refine lv_icmp_lt (tgt := 258) hx hb d_Ref_execute_249 (by decide) (fun (h589 : p0 < (32 : Int32)) => ?_) (fun (h589 : ¬ p0 < (32 : Int32)) => ?_)
                            · refine lv_iload_n hx hb d_Ref_execute_258 rfl (lv_at hl 2 rfl) ?_
                              refine lv_bipush (v := (42 : Int32)) hx hb d_Ref_execute_259 (by decide) ?_
                              refine lv_icmp_eq (tgt := 270) hx hb d_Ref_execute_261 (by decide) (fun (h593 : p0 = (42 : Int32)) => ?_) (fun (h593 : ¬ p0 = (42 : Int32)) => ?_)
                              · refine lv_aload_n hx hb d_Ref_execute_270 rfl (lv_at hl 1 rfl) ?_
                                refine lv_iload_n hx hb d_Ref_execute_271 rfl (lv_at hl 2 rfl) ?_
                                refine lv_iload_n hx hb d_Ref_execute_272 rfl (lv_at hl 0 rfl) ?_
                                let t594 := (f_Ref_access p0 (f_Ref_signed16 rc) rg rs rm rl rr re rd ra rn rf rw)
                                refine k_cVv (As := [.int p0, .int (f_Ref_signed16 rc)]) (rest := []) (wr := []) (wj := [(aT, .inr (11, [.ref bG, .ref bS, .ref bM, .int t594.2.2.2.1, .int rk, .int t594.2.2.2.2.1, .int t594.2.2.2.2.2.1, .int rc, .int rd, .int ra, .int rb, .int t594.2.2.2.2.2.2.1, .int t594.2.2.2.2.2.2.2.1, .int t594.2.2.2.2.2.2.2.2])), (bG, .inl (dG, 32, .inl t594.1)), (bS, .inl (dS, 48, .inl t594.2.1)), (bM, .inl (dM, 16384, .inl t594.2.2.1))]) ⟨hx, hb, hml, hown, hB⟩ (c_Ref_access l D aT bG bS bM dG dS dM rg rs rm rl rk rr re rc rd ra rb rn rf rw p0 (f_Ref_signed16 rc) hra hrd) yl_Ref_access mw_908 hK hN hP hD hS hA [0, 1, 2] [0, 1, 2, 3] [] [0, 1, 2, 3] rfl rfl rfl rfl (by decide +kernel) 0 rfl rfl rfl rfl hl.1 rfl (Nat.le_of_ble_eq_true rfl) ⟨Nat.le_of_ble_eq_true rfl, Nat.le_of_ble_eq_true rfl⟩ d_Ref_execute_273 ⟨Nat.le_of_ble_eq_true rfl, Nat.le_of_ble_eq_true rfl⟩ (fun H locs hP hD hS => ?_)
                                refine lv_goto (tgt := 283) hx hb d_Ref_execute_276 (by decide) ?_
                                have ef : f_Ref_execute p0 rg rs rm rl rr re rc rd ra rb rn rf rw = (t594.1, t594.2.1, t594.2.2.1, t594.2.2.2.1, t594.2.2.2.2.1, t594.2.2.2.2.2.1, t594.2.2.2.2.2.2.1, t594.2.2.2.2.2.2.2.1, t594.2.2.2.2.2.2.2.2) := by unfold f_Ref_execute; try dsimp only; rw [if_neg h22, if_neg h41, if_neg h264, if_pos h487, if_neg h503, if_neg h516, if_neg h526, if_neg h533, if_neg h537, if_neg h542, if_neg h559, if_pos h572, if_neg h582, if_pos h589, if_pos h593]
                                exact k_vret hx hb hr hlocks hK hP hD hS [0, 1, 2, 3] rfl (by rw [ef] <;> rfl) d_Ref_execute_283
                              · refine lv_iload_n hx hb d_Ref_execute_264 rfl (lv_at hl 2 rfl) ?_
                                refine lv_bipush (v := (44 : Int32)) hx hb d_Ref_execute_265 (by decide) ?_
                                refine lv_icmp_ne (tgt := 279) hx hb d_Ref_execute_267 (by decide) (fun (h598 : ¬ p0 = (44 : Int32)) => ?_) (fun (h598 : p0 = (44 : Int32)) => ?_)
                                · refine lv_aload_n hx hb d_Ref_execute_279 rfl (lv_at hl 1 rfl) ?_
                                  let t599 := (f_Ref_unlisted rs)
                                  refine k_cVv (As := []) (rest := []) (wr := []) (wj := [(aT, .inr (11, [.ref bG, .ref bS, .ref bM, .int t599.2.1, .int rk, .int rr, .int re, .int rc, .int rd, .int ra, .int rb, .int t599.2.2.1, .int t599.2.2.2, .int rw])), (bG, .inl (dG, 32, .inl rg)), (bS, .inl (dS, 48, .inl t599.1)), (bM, .inl (dM, 16384, .inl rm))]) ⟨hx, hb, hml, hown, hB⟩ (c_Ref_unlisted l D aT bG bS bM dG dS dM rg rs rm rl rk rr re rc rd ra rb rn rf rw) yl_Ref_unlisted mw_827 hK hN hP hD hS hA [0, 1, 2] [0, 1, 2, 3] [] [0, 1, 2, 3] rfl rfl rfl rfl (by decide +kernel) 0 rfl rfl rfl rfl hl.1 rfl (Nat.le_of_ble_eq_true rfl) ⟨Nat.le_of_ble_eq_true rfl, Nat.le_of_ble_eq_true rfl⟩ d_Ref_execute_280 ⟨Nat.le_of_ble_eq_true rfl, Nat.le_of_ble_eq_true rfl⟩ (fun H locs hP hD hS => ?_)
                                  have ef : f_Ref_execute p0 rg rs rm rl rr re rc rd ra rb rn rf rw = (rg, t599.1, rm, t599.2.1, rr, re, t599.2.2.1, t599.2.2.2, rw) := by unfold f_Ref_execute; try dsimp only; rw [if_neg h22, if_neg h41, if_neg h264, if_pos h487, if_neg h503, if_neg h516, if_neg h526, if_neg h533, if_neg h537, if_neg h542, if_neg h559, if_pos h572, if_neg h582, if_pos h589, if_neg h593, if_neg h598]
                                  exact k_vret hx hb hr hlocks hK hP hD hS [0, 1, 2, 3] rfl (by rw [ef] <;> rfl) d_Ref_execute_283
                                · refine lv_aload_n hx hb d_Ref_execute_270 rfl (lv_at hl 1 rfl) ?_
                                  refine lv_iload_n hx hb d_Ref_execute_271 rfl (lv_at hl 2 rfl) ?_
                                  refine lv_iload_n hx hb d_Ref_execute_272 rfl (lv_at hl 0 rfl) ?_
                                  let t600 := (f_Ref_access p0 (f_Ref_signed16 rc) rg rs rm rl rr re rd ra rn rf rw)
                                  refine k_cVv (As := [.int p0, .int (f_Ref_signed16 rc)]) (rest := []) (wr := []) (wj := [(aT, .inr (11, [.ref bG, .ref bS, .ref bM, .int t600.2.2.2.1, .int rk, .int t600.2.2.2.2.1, .int t600.2.2.2.2.2.1, .int rc, .int rd, .int ra, .int rb, .int t600.2.2.2.2.2.2.1, .int t600.2.2.2.2.2.2.2.1, .int t600.2.2.2.2.2.2.2.2])), (bG, .inl (dG, 32, .inl t600.1)), (bS, .inl (dS, 48, .inl t600.2.1)), (bM, .inl (dM, 16384, .inl t600.2.2.1))]) ⟨hx, hb, hml, hown, hB⟩ (c_Ref_access l D aT bG bS bM dG dS dM rg rs rm rl rk rr re rc rd ra rb rn rf rw p0 (f_Ref_signed16 rc) hra hrd) yl_Ref_access mw_908 hK hN hP hD hS hA [0, 1, 2] [0, 1, 2, 3] [] [0, 1, 2, 3] rfl rfl rfl rfl (by decide +kernel) 0 rfl rfl rfl rfl hl.1 rfl (Nat.le_of_ble_eq_true rfl) ⟨Nat.le_of_ble_eq_true rfl, Nat.le_of_ble_eq_true rfl⟩ d_Ref_execute_273 ⟨Nat.le_of_ble_eq_true rfl, Nat.le_of_ble_eq_true rfl⟩ (fun H locs hP hD hS => ?_)
                                  refine lv_goto (tgt := 283) hx hb d_Ref_execute_276 (by decide) ?_
                                  have ef : f_Ref_execute p0 rg rs rm rl rr re rc rd ra rb rn rf rw = (t600.1, t600.2.1, t600.2.2.1, t600.2.2.2.1, t600.2.2.2.2.1, t600.2.2.2.2.2.1, t600.2.2.2.2.2.2.1, t600.2.2.2.2.2.2.2.1, t600.2.2.2.2.2.2.2.2) := by unfold f_Ref_execute; try dsimp only; rw [if_neg h22, if_neg h41, if_neg h264, if_pos h487, if_neg h503, if_neg h516, if_neg h526, if_neg h533, if_neg h537, if_neg h542, if_neg h559, if_pos h572, if_neg h582, if_pos h589, if_neg h593, if_pos h598]
                                  exact k_vret hx hb hr hlocks hK hP hD hS [0, 1, 2, 3] rfl (by rw [ef] <;> rfl) d_Ref_execute_283
                            · refine lv_iload_n hx hb d_Ref_execute_252 rfl (lv_at hl 2 rfl) ?_
                              refine lv_bipush (v := (40 : Int32)) hx hb d_Ref_execute_253 (by decide) ?_
                              refine lv_icmp_le (tgt := 270) hx hb d_Ref_execute_255 (by decide) (fun (h604 : p0 ≤ (40 : Int32)) => ?_) (fun (h604 : ¬ p0 ≤ (40 : Int32)) => ?_)
                              · refine lv_aload_n hx hb d_Ref_execute_270 rfl (lv_at hl 1 rfl) ?_
                                refine lv_iload_n hx hb d_Ref_execute_271 rfl (lv_at hl 2 rfl) ?_
                                refine lv_iload_n hx hb d_Ref_execute_272 rfl (lv_at hl 0 rfl) ?_
                                let t605 := (f_Ref_access p0 (f_Ref_signed16 rc) rg rs rm rl rr re rd ra rn rf rw)
                                refine k_cVv (As := [.int p0, .int (f_Ref_signed16 rc)]) (rest := []) (wr := []) (wj := [(aT, .inr (11, [.ref bG, .ref bS, .ref bM, .int t605.2.2.2.1, .int rk, .int t605.2.2.2.2.1, .int t605.2.2.2.2.2.1, .int rc, .int rd, .int ra, .int rb, .int t605.2.2.2.2.2.2.1, .int t605.2.2.2.2.2.2.2.1, .int t605.2.2.2.2.2.2.2.2])), (bG, .inl (dG, 32, .inl t605.1)), (bS, .inl (dS, 48, .inl t605.2.1)), (bM, .inl (dM, 16384, .inl t605.2.2.1))]) ⟨hx, hb, hml, hown, hB⟩ (c_Ref_access l D aT bG bS bM dG dS dM rg rs rm rl rk rr re rc rd ra rb rn rf rw p0 (f_Ref_signed16 rc) hra hrd) yl_Ref_access mw_908 hK hN hP hD hS hA [0, 1, 2] [0, 1, 2, 3] [] [0, 1, 2, 3] rfl rfl rfl rfl (by decide +kernel) 0 rfl rfl rfl rfl hl.1 rfl (Nat.le_of_ble_eq_true rfl) ⟨Nat.le_of_ble_eq_true rfl, Nat.le_of_ble_eq_true rfl⟩ d_Ref_execute_273 ⟨Nat.le_of_ble_eq_true rfl, Nat.le_of_ble_eq_true rfl⟩ (fun H locs hP hD hS => ?_)
                                refine lv_goto (tgt := 283) hx hb d_Ref_execute_276 (by decide) ?_
                                have ef : f_Ref_execute p0 rg rs rm rl rr re rc rd ra rb rn rf rw = (t605.1, t605.2.1, t605.2.2.1, t605.2.2.2.1, t605.2.2.2.2.1, t605.2.2.2.2.2.1, t605.2.2.2.2.2.2.1, t605.2.2.2.2.2.2.2.1, t605.2.2.2.2.2.2.2.2) := by unfold f_Ref_execute; try dsimp only; rw [if_neg h22, if_neg h41, if_neg h264, if_pos h487, if_neg h503, if_neg h516, if_neg h526, if_neg h533, if_neg h537, if_neg h542, if_neg h559, if_pos h572, if_neg h582, if_neg h589, if_pos h604]
                                exact k_vret hx hb hr hlocks hK hP hD hS [0, 1, 2, 3] rfl (by rw [ef] <;> rfl) d_Ref_execute_283
                              · refine lv_iload_n hx hb d_Ref_execute_258 rfl (lv_at hl 2 rfl) ?_
                                refine lv_bipush (v := (42 : Int32)) hx hb d_Ref_execute_259 (by decide) ?_
                                refine lv_icmp_eq (tgt := 270) hx hb d_Ref_execute_261 (by decide) (fun (h609 : p0 = (42 : Int32)) => ?_) (fun (h609 : ¬ p0 = (42 : Int32)) => ?_)
                                · refine lv_aload_n hx hb d_Ref_execute_270 rfl (lv_at hl 1 rfl) ?_
                                  refine lv_iload_n hx hb d_Ref_execute_271 rfl (lv_at hl 2 rfl) ?_
                                  refine lv_iload_n hx hb d_Ref_execute_272 rfl (lv_at hl 0 rfl) ?_
                                  let t610 := (f_Ref_access p0 (f_Ref_signed16 rc) rg rs rm rl rr re rd ra rn rf rw)
                                  refine k_cVv (As := [.int p0, .int (f_Ref_signed16 rc)]) (rest := []) (wr := []) (wj := [(aT, .inr (11, [.ref bG, .ref bS, .ref bM, .int t610.2.2.2.1, .int rk, .int t610.2.2.2.2.1, .int t610.2.2.2.2.2.1, .int rc, .int rd, .int ra, .int rb, .int t610.2.2.2.2.2.2.1, .int t610.2.2.2.2.2.2.2.1, .int t610.2.2.2.2.2.2.2.2])), (bG, .inl (dG, 32, .inl t610.1)), (bS, .inl (dS, 48, .inl t610.2.1)), (bM, .inl (dM, 16384, .inl t610.2.2.1))]) ⟨hx, hb, hml, hown, hB⟩ (c_Ref_access l D aT bG bS bM dG dS dM rg rs rm rl rk rr re rc rd ra rb rn rf rw p0 (f_Ref_signed16 rc) hra hrd) yl_Ref_access mw_908 hK hN hP hD hS hA [0, 1, 2] [0, 1, 2, 3] [] [0, 1, 2, 3] rfl rfl rfl rfl (by decide +kernel) 0 rfl rfl rfl rfl hl.1 rfl (Nat.le_of_ble_eq_true rfl) ⟨Nat.le_of_ble_eq_true rfl, Nat.le_of_ble_eq_true rfl⟩ d_Ref_execute_273 ⟨Nat.le_of_ble_eq_true rfl, Nat.le_of_ble_eq_true rfl⟩ (fun H locs hP hD hS => ?_)
                                  refine lv_goto (tgt := 283) hx hb d_Ref_execute_276 (by decide) ?_
                                  have ef : f_Ref_execute p0 rg rs rm rl rr re rc rd ra rb rn rf rw = (t610.1, t610.2.1, t610.2.2.1, t610.2.2.2.1, t610.2.2.2.2.1, t610.2.2.2.2.2.1, t610.2.2.2.2.2.2.1, t610.2.2.2.2.2.2.2.1, t610.2.2.2.2.2.2.2.2) := by unfold f_Ref_execute; try dsimp only; rw [if_neg h22, if_neg h41, if_neg h264, if_pos h487, if_neg h503, if_neg h516, if_neg h526, if_neg h533, if_neg h537, if_neg h542, if_neg h559, if_pos h572, if_neg h582, if_neg h589, if_neg h604, if_pos h609]
                                  exact k_vret hx hb hr hlocks hK hP hD hS [0, 1, 2, 3] rfl (by rw [ef] <;> rfl) d_Ref_execute_283
                                · refine lv_iload_n hx hb d_Ref_execute_264 rfl (lv_at hl 2 rfl) ?_
                                  refine lv_bipush (v := (44 : Int32)) hx hb d_Ref_execute_265 (by decide) ?_
                                  refine lv_icmp_ne (tgt := 279) hx hb d_Ref_execute_267 (by decide) (fun (h614 : ¬ p0 = (44 : Int32)) => ?_) (fun (h614 : p0 = (44 : Int32)) => ?_)
                                  · refine lv_aload_n hx hb d_Ref_execute_279 rfl (lv_at hl 1 rfl) ?_
                                    let t615 := (f_Ref_unlisted rs)
                                    refine k_cVv (As := []) (rest := []) (wr := []) (wj := [(aT, .inr (11, [.ref bG, .ref bS, .ref bM, .int t615.2.1, .int rk, .int rr, .int re, .int rc, .int rd, .int ra, .int rb, .int t615.2.2.1, .int t615.2.2.2, .int rw])), (bG, .inl (dG, 32, .inl rg)), (bS, .inl (dS, 48, .inl t615.1)), (bM, .inl (dM, 16384, .inl rm))]) ⟨hx, hb, hml, hown, hB⟩ (c_Ref_unlisted l D aT bG bS bM dG dS dM rg rs rm rl rk rr re rc rd ra rb rn rf rw) yl_Ref_unlisted mw_827 hK hN hP hD hS hA [0, 1, 2] [0, 1, 2, 3] [] [0, 1, 2, 3] rfl rfl rfl rfl (by decide +kernel) 0 rfl rfl rfl rfl hl.1 rfl (Nat.le_of_ble_eq_true rfl) ⟨Nat.le_of_ble_eq_true rfl, Nat.le_of_ble_eq_true rfl⟩ d_Ref_execute_280 ⟨Nat.le_of_ble_eq_true rfl, Nat.le_of_ble_eq_true rfl⟩ (fun H locs hP hD hS => ?_)
                                    have ef : f_Ref_execute p0 rg rs rm rl rr re rc rd ra rb rn rf rw = (rg, t615.1, rm, t615.2.1, rr, re, t615.2.2.1, t615.2.2.2, rw) := by unfold f_Ref_execute; try dsimp only; rw [if_neg h22, if_neg h41, if_neg h264, if_pos h487, if_neg h503, if_neg h516, if_neg h526, if_neg h533, if_neg h537, if_neg h542, if_neg h559, if_pos h572, if_neg h582, if_neg h589, if_neg h604, if_neg h609, if_neg h614]
                                    exact k_vret hx hb hr hlocks hK hP hD hS [0, 1, 2, 3] rfl (by rw [ef] <;> rfl) d_Ref_execute_283
                                  · refine lv_aload_n hx hb d_Ref_execute_270 rfl (lv_at hl 1 rfl) ?_
                                    refine lv_iload_n hx hb d_Ref_execute_271 rfl (lv_at hl 2 rfl) ?_
                                    refine lv_iload_n hx hb d_Ref_execute_272 rfl (lv_at hl 0 rfl) ?_
                                    let t616 := (f_Ref_access p0 (f_Ref_signed16 rc) rg rs rm rl rr re rd ra rn rf rw)
                                    refine k_cVv (As := [.int p0, .int (f_Ref_signed16 rc)]) (rest := []) (wr := []) (wj := [(aT, .inr (11, [.ref bG, .ref bS, .ref bM, .int t616.2.2.2.1, .int rk, .int t616.2.2.2.2.1, .int t616.2.2.2.2.2.1, .int rc, .int rd, .int ra, .int rb, .int t616.2.2.2.2.2.2.1, .int t616.2.2.2.2.2.2.2.1, .int t616.2.2.2.2.2.2.2.2])), (bG, .inl (dG, 32, .inl t616.1)), (bS, .inl (dS, 48, .inl t616.2.1)), (bM, .inl (dM, 16384, .inl t616.2.2.1))]) ⟨hx, hb, hml, hown, hB⟩ (c_Ref_access l D aT bG bS bM dG dS dM rg rs rm rl rk rr re rc rd ra rb rn rf rw p0 (f_Ref_signed16 rc) hra hrd) yl_Ref_access mw_908 hK hN hP hD hS hA [0, 1, 2] [0, 1, 2, 3] [] [0, 1, 2, 3] rfl rfl rfl rfl (by decide +kernel) 0 rfl rfl rfl rfl hl.1 rfl (Nat.le_of_ble_eq_true rfl) ⟨Nat.le_of_ble_eq_true rfl, Nat.le_of_ble_eq_true rfl⟩ d_Ref_execute_273 ⟨Nat.le_of_ble_eq_true rfl, Nat.le_of_ble_eq_true rfl⟩ (fun H locs hP hD hS => ?_)
                                    refine lv_goto (tgt := 283) hx hb d_Ref_execute_276 (by decide) ?_
                                    have ef : f_Ref_execute p0 rg rs rm rl rr re rc rd ra rb rn rf rw = (t616.1, t616.2.1, t616.2.2.1, t616.2.2.2.1, t616.2.2.2.2.1, t616.2.2.2.2.2.1, t616.2.2.2.2.2.2.1, t616.2.2.2.2.2.2.2.1, t616.2.2.2.2.2.2.2.2) := by unfold f_Ref_execute; try dsimp only; rw [if_neg h22, if_neg h41, if_neg h264, if_pos h487, if_neg h503, if_neg h516, if_neg h526, if_neg h533, if_neg h537, if_neg h542, if_neg h559, if_pos h572, if_neg h582, if_neg h589, if_neg h604, if_neg h609, if_pos h614]
                                    exact k_vret hx hb hr hlocks hK hP hD hS [0, 1, 2, 3] rfl (by rw [ef] <;> rfl) d_Ref_execute_283
                          · refine lv_aload_n hx hb d_Ref_execute_229 rfl (lv_at hl 1 rfl) ?_
                            refine lv_aload_n hx hb d_Ref_execute_230 rfl (lv_at hl 1 rfl) ?_
                            refine va_get (D := D) (ci := 11) (v := .int rc) (C := "MappedProcessorModel") (T := T_Ref) (N := 14) hx hb hB iw_Ref hown hK hP 0 rfl rfl 7 (by decide) (hB _ mw_650) (fun _ h9 => h9) rfl d_Ref_execute_231 ?_
                            refine lv_iconst (v := (1 : Int32)) hx hb d_Ref_execute_234 (by decide) ?_
                            refine lv_ishr hx hb d_Ref_execute_235 ?_
                            refine lv_sipush (v := (1023 : Int32)) hx hb d_Ref_execute_236 (by decide) ?_
                            refine lv_iand hx hb d_Ref_execute_239 ?_
                            let t617 := (f_Ref_extended ((shr rc (1 : Int32)) &&& (1023 : Int32)) rg rs rm rl rr re rc rd ra rb rn rf rw)
                            refine k_cVv (As := [.int ((shr rc (1 : Int32)) &&& (1023 : Int32))]) (rest := []) (wr := []) (wj := [(aT, .inr (11, [.ref bG, .ref bS, .ref bM, .int t617.2.2.2.1, .int rk, .int t617.2.2.2.2.1, .int t617.2.2.2.2.2.1, .int rc, .int rd, .int ra, .int rb, .int t617.2.2.2.2.2.2.1, .int t617.2.2.2.2.2.2.2.1, .int t617.2.2.2.2.2.2.2.2])), (bG, .inl (dG, 32, .inl t617.1)), (bS, .inl (dS, 48, .inl t617.2.1)), (bM, .inl (dM, 16384, .inl t617.2.2.1))]) ⟨hx, hb, hml, hown, hB⟩ (c_Ref_extended l D aT bG bS bM dG dS dM rg rs rm rl rk rr re rc rd ra rb rn rf rw ((shr rc (1 : Int32)) &&& (1023 : Int32)) hra hrd hrb) yl_Ref_extended mw_850 hK hN hP hD hS hA [0, 1, 2] [0, 1, 2, 3] [] [0, 1, 2, 3] rfl rfl rfl rfl (by decide +kernel) 0 rfl rfl rfl rfl hl.1 rfl (Nat.le_of_ble_eq_true rfl) ⟨Nat.le_of_ble_eq_true rfl, Nat.le_of_ble_eq_true rfl⟩ d_Ref_execute_240 ⟨Nat.le_of_ble_eq_true rfl, Nat.le_of_ble_eq_true rfl⟩ (fun H locs hP hD hS => ?_)
                            refine lv_goto (tgt := 283) hx hb d_Ref_execute_243 (by decide) ?_
                            have ef : f_Ref_execute p0 rg rs rm rl rr re rc rd ra rb rn rf rw = (t617.1, t617.2.1, t617.2.2.1, t617.2.2.2.1, t617.2.2.2.2.1, t617.2.2.2.2.2.1, t617.2.2.2.2.2.2.1, t617.2.2.2.2.2.2.2.1, t617.2.2.2.2.2.2.2.2) := by unfold f_Ref_execute; try dsimp only; rw [if_neg h22, if_neg h41, if_neg h264, if_pos h487, if_neg h503, if_neg h516, if_neg h526, if_neg h533, if_neg h537, if_neg h542, if_neg h559, if_pos h572, if_pos h582]
                            exact k_vret hx hb hr hlocks hK hP hD hS [0, 1, 2, 3] rfl (by rw [ef] <;> rfl) d_Ref_execute_283
                        · refine lv_iload_n hx hb d_Ref_execute_209 rfl (lv_at hl 2 rfl) ?_
                          refine lv_bipush (v := (29 : Int32)) hx hb d_Ref_execute_210 (by decide) ?_
                          refine lv_icmp_gt (tgt := 223) hx hb d_Ref_execute_212 (by decide) (fun (h630 : (29 : Int32) < p0) => ?_) (fun (h630 : ¬ (29 : Int32) < p0) => ?_)
                          · refine lv_iload_n hx hb d_Ref_execute_223 rfl (lv_at hl 2 rfl) ?_
                            refine lv_bipush (v := (31 : Int32)) hx hb d_Ref_execute_224 (by decide) ?_
                            refine lv_icmp_ne (tgt := 246) hx hb d_Ref_execute_226 (by decide) (fun (h640 : ¬ p0 = (31 : Int32)) => ?_) (fun (h640 : p0 = (31 : Int32)) => ?_)
                            · refine lv_iload_n hx hb d_Ref_execute_246 rfl (lv_at hl 2 rfl) ?_
                              refine lv_bipush (v := (32 : Int32)) hx hb d_Ref_execute_247 (by decide) ?_
                              refine lv_icmp_lt (tgt := 258) hx hb d_Ref_execute_249 (by decide) (fun (h647 : p0 < (32 : Int32)) => ?_) (fun (h647 : ¬ p0 < (32 : Int32)) => ?_)
                              · refine lv_iload_n hx hb d_Ref_execute_258 rfl (lv_at hl 2 rfl) ?_
                                refine lv_bipush (v := (42 : Int32)) hx hb d_Ref_execute_259 (by decide) ?_
                                refine lv_icmp_eq (tgt := 270) hx hb d_Ref_execute_261 (by decide) (fun (h651 : p0 = (42 : Int32)) => ?_) (fun (h651 : ¬ p0 = (42 : Int32)) => ?_)
                                · refine lv_aload_n hx hb d_Ref_execute_270 rfl (lv_at hl 1 rfl) ?_
                                  refine lv_iload_n hx hb d_Ref_execute_271 rfl (lv_at hl 2 rfl) ?_
                                  refine lv_iload_n hx hb d_Ref_execute_272 rfl (lv_at hl 0 rfl) ?_
                                  let t652 := (f_Ref_access p0 (f_Ref_signed16 rc) rg rs rm rl rr re rd ra rn rf rw)
                                  refine k_cVv (As := [.int p0, .int (f_Ref_signed16 rc)]) (rest := []) (wr := []) (wj := [(aT, .inr (11, [.ref bG, .ref bS, .ref bM, .int t652.2.2.2.1, .int rk, .int t652.2.2.2.2.1, .int t652.2.2.2.2.2.1, .int rc, .int rd, .int ra, .int rb, .int t652.2.2.2.2.2.2.1, .int t652.2.2.2.2.2.2.2.1, .int t652.2.2.2.2.2.2.2.2])), (bG, .inl (dG, 32, .inl t652.1)), (bS, .inl (dS, 48, .inl t652.2.1)), (bM, .inl (dM, 16384, .inl t652.2.2.1))]) ⟨hx, hb, hml, hown, hB⟩ (c_Ref_access l D aT bG bS bM dG dS dM rg rs rm rl rk rr re rc rd ra rb rn rf rw p0 (f_Ref_signed16 rc) hra hrd) yl_Ref_access mw_908 hK hN hP hD hS hA [0, 1, 2] [0, 1, 2, 3] [] [0, 1, 2, 3] rfl rfl rfl rfl (by decide +kernel) 0 rfl rfl rfl rfl hl.1 rfl (Nat.le_of_ble_eq_true rfl) ⟨Nat.le_of_ble_eq_true rfl, Nat.le_of_ble_eq_true rfl⟩ d_Ref_execute_273 ⟨Nat.le_of_ble_eq_true rfl, Nat.le_of_ble_eq_true rfl⟩ (fun H locs hP hD hS => ?_)
                                  refine lv_goto (tgt := 283) hx hb d_Ref_execute_276 (by decide) ?_
                                  have ef : f_Ref_execute p0 rg rs rm rl rr re rc rd ra rb rn rf rw = (t652.1, t652.2.1, t652.2.2.1, t652.2.2.2.1, t652.2.2.2.2.1, t652.2.2.2.2.2.1, t652.2.2.2.2.2.2.1, t652.2.2.2.2.2.2.2.1, t652.2.2.2.2.2.2.2.2) := by unfold f_Ref_execute; try dsimp only; rw [if_neg h22, if_neg h41, if_neg h264, if_pos h487, if_neg h503, if_neg h516, if_neg h526, if_neg h533, if_neg h537, if_neg h542, if_neg h559, if_neg h572, if_pos h630, if_neg h640, if_pos h647, if_pos h651]
                                  exact k_vret hx hb hr hlocks hK hP hD hS [0, 1, 2, 3] rfl (by rw [ef] <;> rfl) d_Ref_execute_283
                                · refine lv_iload_n hx hb d_Ref_execute_264 rfl (lv_at hl 2 rfl) ?_
                                  refine lv_bipush (v := (44 : Int32)) hx hb d_Ref_execute_265 (by decide) ?_
                                  refine lv_icmp_ne (tgt := 279) hx hb d_Ref_execute_267 (by decide) (fun (h656 : ¬ p0 = (44 : Int32)) => ?_) (fun (h656 : p0 = (44 : Int32)) => ?_)
                                  · refine lv_aload_n hx hb d_Ref_execute_279 rfl (lv_at hl 1 rfl) ?_
                                    let t657 := (f_Ref_unlisted rs)
                                    refine k_cVv (As := []) (rest := []) (wr := []) (wj := [(aT, .inr (11, [.ref bG, .ref bS, .ref bM, .int t657.2.1, .int rk, .int rr, .int re, .int rc, .int rd, .int ra, .int rb, .int t657.2.2.1, .int t657.2.2.2, .int rw])), (bG, .inl (dG, 32, .inl rg)), (bS, .inl (dS, 48, .inl t657.1)), (bM, .inl (dM, 16384, .inl rm))]) ⟨hx, hb, hml, hown, hB⟩ (c_Ref_unlisted l D aT bG bS bM dG dS dM rg rs rm rl rk rr re rc rd ra rb rn rf rw) yl_Ref_unlisted mw_827 hK hN hP hD hS hA [0, 1, 2] [0, 1, 2, 3] [] [0, 1, 2, 3] rfl rfl rfl rfl (by decide +kernel) 0 rfl rfl rfl rfl hl.1 rfl (Nat.le_of_ble_eq_true rfl) ⟨Nat.le_of_ble_eq_true rfl, Nat.le_of_ble_eq_true rfl⟩ d_Ref_execute_280 ⟨Nat.le_of_ble_eq_true rfl, Nat.le_of_ble_eq_true rfl⟩ (fun H locs hP hD hS => ?_)
                                    have ef : f_Ref_execute p0 rg rs rm rl rr re rc rd ra rb rn rf rw = (rg, t657.1, rm, t657.2.1, rr, re, t657.2.2.1, t657.2.2.2, rw) := by unfold f_Ref_execute; try dsimp only; rw [if_neg h22, if_neg h41, if_neg h264, if_pos h487, if_neg h503, if_neg h516, if_neg h526, if_neg h533, if_neg h537, if_neg h542, if_neg h559, if_neg h572, if_pos h630, if_neg h640, if_pos h647, if_neg h651, if_neg h656]
                                    exact k_vret hx hb hr hlocks hK hP hD hS [0, 1, 2, 3] rfl (by rw [ef] <;> rfl) d_Ref_execute_283
                                  · refine lv_aload_n hx hb d_Ref_execute_270 rfl (lv_at hl 1 rfl) ?_
                                    refine lv_iload_n hx hb d_Ref_execute_271 rfl (lv_at hl 2 rfl) ?_
                                    refine lv_iload_n hx hb d_Ref_execute_272 rfl (lv_at hl 0 rfl) ?_
                                    let t658 := (f_Ref_access p0 (f_Ref_signed16 rc) rg rs rm rl rr re rd ra rn rf rw)
                                    refine k_cVv (As := [.int p0, .int (f_Ref_signed16 rc)]) (rest := []) (wr := []) (wj := [(aT, .inr (11, [.ref bG, .ref bS, .ref bM, .int t658.2.2.2.1, .int rk, .int t658.2.2.2.2.1, .int t658.2.2.2.2.2.1, .int rc, .int rd, .int ra, .int rb, .int t658.2.2.2.2.2.2.1, .int t658.2.2.2.2.2.2.2.1, .int t658.2.2.2.2.2.2.2.2])), (bG, .inl (dG, 32, .inl t658.1)), (bS, .inl (dS, 48, .inl t658.2.1)), (bM, .inl (dM, 16384, .inl t658.2.2.1))]) ⟨hx, hb, hml, hown, hB⟩ (c_Ref_access l D aT bG bS bM dG dS dM rg rs rm rl rk rr re rc rd ra rb rn rf rw p0 (f_Ref_signed16 rc) hra hrd) yl_Ref_access mw_908 hK hN hP hD hS hA [0, 1, 2] [0, 1, 2, 3] [] [0, 1, 2, 3] rfl rfl rfl rfl (by decide +kernel) 0 rfl rfl rfl rfl hl.1 rfl (Nat.le_of_ble_eq_true rfl) ⟨Nat.le_of_ble_eq_true rfl, Nat.le_of_ble_eq_true rfl⟩ d_Ref_execute_273 ⟨Nat.le_of_ble_eq_true rfl, Nat.le_of_ble_eq_true rfl⟩ (fun H locs hP hD hS => ?_)
                                    refine lv_goto (tgt := 283) hx hb d_Ref_execute_276 (by decide) ?_
                                    have ef : f_Ref_execute p0 rg rs rm rl rr re rc rd ra rb rn rf rw = (t658.1, t658.2.1, t658.2.2.1, t658.2.2.2.1, t658.2.2.2.2.1, t658.2.2.2.2.2.1, t658.2.2.2.2.2.2.1, t658.2.2.2.2.2.2.2.1, t658.2.2.2.2.2.2.2.2) := by unfold f_Ref_execute; try dsimp only; rw [if_neg h22, if_neg h41, if_neg h264, if_pos h487, if_neg h503, if_neg h516, if_neg h526, if_neg h533, if_neg h537, if_neg h542, if_neg h559, if_neg h572, if_pos h630, if_neg h640, if_pos h647, if_neg h651, if_pos h656]
                                    exact k_vret hx hb hr hlocks hK hP hD hS [0, 1, 2, 3] rfl (by rw [ef] <;> rfl) d_Ref_execute_283
                              · refine lv_iload_n hx hb d_Ref_execute_252 rfl (lv_at hl 2 rfl) ?_
                                refine lv_bipush (v := (40 : Int32)) hx hb d_Ref_execute_253 (by decide) ?_
                                refine lv_icmp_le (tgt := 270) hx hb d_Ref_execute_255 (by decide) (fun (h662 : p0 ≤ (40 : Int32)) => ?_) (fun (h662 : ¬ p0 ≤ (40 : Int32)) => ?_)
                                · refine lv_aload_n hx hb d_Ref_execute_270 rfl (lv_at hl 1 rfl) ?_
                                  refine lv_iload_n hx hb d_Ref_execute_271 rfl (lv_at hl 2 rfl) ?_
                                  refine lv_iload_n hx hb d_Ref_execute_272 rfl (lv_at hl 0 rfl) ?_
                                  let t663 := (f_Ref_access p0 (f_Ref_signed16 rc) rg rs rm rl rr re rd ra rn rf rw)
                                  refine k_cVv (As := [.int p0, .int (f_Ref_signed16 rc)]) (rest := []) (wr := []) (wj := [(aT, .inr (11, [.ref bG, .ref bS, .ref bM, .int t663.2.2.2.1, .int rk, .int t663.2.2.2.2.1, .int t663.2.2.2.2.2.1, .int rc, .int rd, .int ra, .int rb, .int t663.2.2.2.2.2.2.1, .int t663.2.2.2.2.2.2.2.1, .int t663.2.2.2.2.2.2.2.2])), (bG, .inl (dG, 32, .inl t663.1)), (bS, .inl (dS, 48, .inl t663.2.1)), (bM, .inl (dM, 16384, .inl t663.2.2.1))]) ⟨hx, hb, hml, hown, hB⟩ (c_Ref_access l D aT bG bS bM dG dS dM rg rs rm rl rk rr re rc rd ra rb rn rf rw p0 (f_Ref_signed16 rc) hra hrd) yl_Ref_access mw_908 hK hN hP hD hS hA [0, 1, 2] [0, 1, 2, 3] [] [0, 1, 2, 3] rfl rfl rfl rfl (by decide +kernel) 0 rfl rfl rfl rfl hl.1 rfl (Nat.le_of_ble_eq_true rfl) ⟨Nat.le_of_ble_eq_true rfl, Nat.le_of_ble_eq_true rfl⟩ d_Ref_execute_273 ⟨Nat.le_of_ble_eq_true rfl, Nat.le_of_ble_eq_true rfl⟩ (fun H locs hP hD hS => ?_)
                                  refine lv_goto (tgt := 283) hx hb d_Ref_execute_276 (by decide) ?_
                                  have ef : f_Ref_execute p0 rg rs rm rl rr re rc rd ra rb rn rf rw = (t663.1, t663.2.1, t663.2.2.1, t663.2.2.2.1, t663.2.2.2.2.1, t663.2.2.2.2.2.1, t663.2.2.2.2.2.2.1, t663.2.2.2.2.2.2.2.1, t663.2.2.2.2.2.2.2.2) := by unfold f_Ref_execute; try dsimp only; rw [if_neg h22, if_neg h41, if_neg h264, if_pos h487, if_neg h503, if_neg h516, if_neg h526, if_neg h533, if_neg h537, if_neg h542, if_neg h559, if_neg h572, if_pos h630, if_neg h640, if_neg h647, if_pos h662]
                                  exact k_vret hx hb hr hlocks hK hP hD hS [0, 1, 2, 3] rfl (by rw [ef] <;> rfl) d_Ref_execute_283
                                · refine lv_iload_n hx hb d_Ref_execute_258 rfl (lv_at hl 2 rfl) ?_
                                  refine lv_bipush (v := (42 : Int32)) hx hb d_Ref_execute_259 (by decide) ?_
                                  refine lv_icmp_eq (tgt := 270) hx hb d_Ref_execute_261 (by decide) (fun (h667 : p0 = (42 : Int32)) => ?_) (fun (h667 : ¬ p0 = (42 : Int32)) => ?_)
                                  · refine lv_aload_n hx hb d_Ref_execute_270 rfl (lv_at hl 1 rfl) ?_
                                    refine lv_iload_n hx hb d_Ref_execute_271 rfl (lv_at hl 2 rfl) ?_
                                    refine lv_iload_n hx hb d_Ref_execute_272 rfl (lv_at hl 0 rfl) ?_
                                    let t668 := (f_Ref_access p0 (f_Ref_signed16 rc) rg rs rm rl rr re rd ra rn rf rw)
                                    refine k_cVv (As := [.int p0, .int (f_Ref_signed16 rc)]) (rest := []) (wr := []) (wj := [(aT, .inr (11, [.ref bG, .ref bS, .ref bM, .int t668.2.2.2.1, .int rk, .int t668.2.2.2.2.1, .int t668.2.2.2.2.2.1, .int rc, .int rd, .int ra, .int rb, .int t668.2.2.2.2.2.2.1, .int t668.2.2.2.2.2.2.2.1, .int t668.2.2.2.2.2.2.2.2])), (bG, .inl (dG, 32, .inl t668.1)), (bS, .inl (dS, 48, .inl t668.2.1)), (bM, .inl (dM, 16384, .inl t668.2.2.1))]) ⟨hx, hb, hml, hown, hB⟩ (c_Ref_access l D aT bG bS bM dG dS dM rg rs rm rl rk rr re rc rd ra rb rn rf rw p0 (f_Ref_signed16 rc) hra hrd) yl_Ref_access mw_908 hK hN hP hD hS hA [0, 1, 2] [0, 1, 2, 3] [] [0, 1, 2, 3] rfl rfl rfl rfl (by decide +kernel) 0 rfl rfl rfl rfl hl.1 rfl (Nat.le_of_ble_eq_true rfl) ⟨Nat.le_of_ble_eq_true rfl, Nat.le_of_ble_eq_true rfl⟩ d_Ref_execute_273 ⟨Nat.le_of_ble_eq_true rfl, Nat.le_of_ble_eq_true rfl⟩ (fun H locs hP hD hS => ?_)
                                    refine lv_goto (tgt := 283) hx hb d_Ref_execute_276 (by decide) ?_
                                    have ef : f_Ref_execute p0 rg rs rm rl rr re rc rd ra rb rn rf rw = (t668.1, t668.2.1, t668.2.2.1, t668.2.2.2.1, t668.2.2.2.2.1, t668.2.2.2.2.2.1, t668.2.2.2.2.2.2.1, t668.2.2.2.2.2.2.2.1, t668.2.2.2.2.2.2.2.2) := by unfold f_Ref_execute; try dsimp only; rw [if_neg h22, if_neg h41, if_neg h264, if_pos h487, if_neg h503, if_neg h516, if_neg h526, if_neg h533, if_neg h537, if_neg h542, if_neg h559, if_neg h572, if_pos h630, if_neg h640, if_neg h647, if_neg h662, if_pos h667]
                                    exact k_vret hx hb hr hlocks hK hP hD hS [0, 1, 2, 3] rfl (by rw [ef] <;> rfl) d_Ref_execute_283
                                  · refine lv_iload_n hx hb d_Ref_execute_264 rfl (lv_at hl 2 rfl) ?_
                                    refine lv_bipush (v := (44 : Int32)) hx hb d_Ref_execute_265 (by decide) ?_
                                    refine lv_icmp_ne (tgt := 279) hx hb d_Ref_execute_267 (by decide) (fun (h672 : ¬ p0 = (44 : Int32)) => ?_) (fun (h672 : p0 = (44 : Int32)) => ?_)
                                    · refine lv_aload_n hx hb d_Ref_execute_279 rfl (lv_at hl 1 rfl) ?_
                                      let t673 := (f_Ref_unlisted rs)
                                      refine k_cVv (As := []) (rest := []) (wr := []) (wj := [(aT, .inr (11, [.ref bG, .ref bS, .ref bM, .int t673.2.1, .int rk, .int rr, .int re, .int rc, .int rd, .int ra, .int rb, .int t673.2.2.1, .int t673.2.2.2, .int rw])), (bG, .inl (dG, 32, .inl rg)), (bS, .inl (dS, 48, .inl t673.1)), (bM, .inl (dM, 16384, .inl rm))]) ⟨hx, hb, hml, hown, hB⟩ (c_Ref_unlisted l D aT bG bS bM dG dS dM rg rs rm rl rk rr re rc rd ra rb rn rf rw) yl_Ref_unlisted mw_827 hK hN hP hD hS hA [0, 1, 2] [0, 1, 2, 3] [] [0, 1, 2, 3] rfl rfl rfl rfl (by decide +kernel) 0 rfl rfl rfl rfl hl.1 rfl (Nat.le_of_ble_eq_true rfl) ⟨Nat.le_of_ble_eq_true rfl, Nat.le_of_ble_eq_true rfl⟩ d_Ref_execute_280 ⟨Nat.le_of_ble_eq_true rfl, Nat.le_of_ble_eq_true rfl⟩ (fun H locs hP hD hS => ?_)
                                      have ef : f_Ref_execute p0 rg rs rm rl rr re rc rd ra rb rn rf rw = (rg, t673.1, rm, t673.2.1, rr, re, t673.2.2.1, t673.2.2.2, rw) := by unfold f_Ref_execute; try dsimp only; rw [if_neg h22, if_neg h41, if_neg h264, if_pos h487, if_neg h503, if_neg h516, if_neg h526, if_neg h533, if_neg h537, if_neg h542, if_neg h559, if_neg h572, if_pos h630, if_neg h640, if_neg h647, if_neg h662, if_neg h667, if_neg h672]
                                      exact k_vret hx hb hr hlocks hK hP hD hS [0, 1, 2, 3] rfl (by rw [ef] <;> rfl) d_Ref_execute_283
                                    · refine lv_aload_n hx hb d_Ref_execute_270 rfl (lv_at hl 1 rfl) ?_
                                      refine lv_iload_n hx hb d_Ref_execute_271 rfl (lv_at hl 2 rfl) ?_
                                      refine lv_iload_n hx hb d_Ref_execute_272 rfl (lv_at hl 0 rfl) ?_
                                      let t674 := (f_Ref_access p0 (f_Ref_signed16 rc) rg rs rm rl rr re rd ra rn rf rw)
                                      refine k_cVv (As := [.int p0, .int (f_Ref_signed16 rc)]) (rest := []) (wr := []) (wj := [(aT, .inr (11, [.ref bG, .ref bS, .ref bM, .int t674.2.2.2.1, .int rk, .int t674.2.2.2.2.1, .int t674.2.2.2.2.2.1, .int rc, .int rd, .int ra, .int rb, .int t674.2.2.2.2.2.2.1, .int t674.2.2.2.2.2.2.2.1, .int t674.2.2.2.2.2.2.2.2])), (bG, .inl (dG, 32, .inl t674.1)), (bS, .inl (dS, 48, .inl t674.2.1)), (bM, .inl (dM, 16384, .inl t674.2.2.1))]) ⟨hx, hb, hml, hown, hB⟩ (c_Ref_access l D aT bG bS bM dG dS dM rg rs rm rl rk rr re rc rd ra rb rn rf rw p0 (f_Ref_signed16 rc) hra hrd) yl_Ref_access mw_908 hK hN hP hD hS hA [0, 1, 2] [0, 1, 2, 3] [] [0, 1, 2, 3] rfl rfl rfl rfl (by decide +kernel) 0 rfl rfl rfl rfl hl.1 rfl (Nat.le_of_ble_eq_true rfl) ⟨Nat.le_of_ble_eq_true rfl, Nat.le_of_ble_eq_true rfl⟩ d_Ref_execute_273 ⟨Nat.le_of_ble_eq_true rfl, Nat.le_of_ble_eq_true rfl⟩ (fun H locs hP hD hS => ?_)
                                      refine lv_goto (tgt := 283) hx hb d_Ref_execute_276 (by decide) ?_
                                      have ef : f_Ref_execute p0 rg rs rm rl rr re rc rd ra rb rn rf rw = (t674.1, t674.2.1, t674.2.2.1, t674.2.2.2.1, t674.2.2.2.2.1, t674.2.2.2.2.2.1, t674.2.2.2.2.2.2.1, t674.2.2.2.2.2.2.2.1, t674.2.2.2.2.2.2.2.2) := by unfold f_Ref_execute; try dsimp only; rw [if_neg h22, if_neg h41, if_neg h264, if_pos h487, if_neg h503, if_neg h516, if_neg h526, if_neg h533, if_neg h537, if_neg h542, if_neg h559, if_neg h572, if_pos h630, if_neg h640, if_neg h647, if_neg h662, if_neg h667, if_pos h672]
                                      exact k_vret hx hb hr hlocks hK hP hD hS [0, 1, 2, 3] rfl (by rw [ef] <;> rfl) d_Ref_execute_283
                            · refine lv_aload_n hx hb d_Ref_execute_229 rfl (lv_at hl 1 rfl) ?_
                              refine lv_aload_n hx hb d_Ref_execute_230 rfl (lv_at hl 1 rfl) ?_
                              refine va_get (D := D) (ci := 11) (v := .int rc) (C := "MappedProcessorModel") (T := T_Ref) (N := 14) hx hb hB iw_Ref hown hK hP 0 rfl rfl 7 (by decide) (hB _ mw_650) (fun _ h9 => h9) rfl d_Ref_execute_231 ?_
                              refine lv_iconst (v := (1 : Int32)) hx hb d_Ref_execute_234 (by decide) ?_
                              refine lv_ishr hx hb d_Ref_execute_235 ?_
                              refine lv_sipush (v := (1023 : Int32)) hx hb d_Ref_execute_236 (by decide) ?_
                              refine lv_iand hx hb d_Ref_execute_239 ?_
                              let t675 := (f_Ref_extended ((shr rc (1 : Int32)) &&& (1023 : Int32)) rg rs rm rl rr re rc rd ra rb rn rf rw)
                              refine k_cVv (As := [.int ((shr rc (1 : Int32)) &&& (1023 : Int32))]) (rest := []) (wr := []) (wj := [(aT, .inr (11, [.ref bG, .ref bS, .ref bM, .int t675.2.2.2.1, .int rk, .int t675.2.2.2.2.1, .int t675.2.2.2.2.2.1, .int rc, .int rd, .int ra, .int rb, .int t675.2.2.2.2.2.2.1, .int t675.2.2.2.2.2.2.2.1, .int t675.2.2.2.2.2.2.2.2])), (bG, .inl (dG, 32, .inl t675.1)), (bS, .inl (dS, 48, .inl t675.2.1)), (bM, .inl (dM, 16384, .inl t675.2.2.1))]) ⟨hx, hb, hml, hown, hB⟩ (c_Ref_extended l D aT bG bS bM dG dS dM rg rs rm rl rk rr re rc rd ra rb rn rf rw ((shr rc (1 : Int32)) &&& (1023 : Int32)) hra hrd hrb) yl_Ref_extended mw_850 hK hN hP hD hS hA [0, 1, 2] [0, 1, 2, 3] [] [0, 1, 2, 3] rfl rfl rfl rfl (by decide +kernel) 0 rfl rfl rfl rfl hl.1 rfl (Nat.le_of_ble_eq_true rfl) ⟨Nat.le_of_ble_eq_true rfl, Nat.le_of_ble_eq_true rfl⟩ d_Ref_execute_240 ⟨Nat.le_of_ble_eq_true rfl, Nat.le_of_ble_eq_true rfl⟩ (fun H locs hP hD hS => ?_)
                              refine lv_goto (tgt := 283) hx hb d_Ref_execute_243 (by decide) ?_
                              have ef : f_Ref_execute p0 rg rs rm rl rr re rc rd ra rb rn rf rw = (t675.1, t675.2.1, t675.2.2.1, t675.2.2.2.1, t675.2.2.2.2.1, t675.2.2.2.2.2.1, t675.2.2.2.2.2.2.1, t675.2.2.2.2.2.2.2.1, t675.2.2.2.2.2.2.2.2) := by unfold f_Ref_execute; try dsimp only; rw [if_neg h22, if_neg h41, if_neg h264, if_pos h487, if_neg h503, if_neg h516, if_neg h526, if_neg h533, if_neg h537, if_neg h542, if_neg h559, if_neg h572, if_pos h630, if_pos h640]
                              exact k_vret hx hb hr hlocks hK hP hD hS [0, 1, 2, 3] rfl (by rw [ef] <;> rfl) d_Ref_execute_283
                          · refine lv_aload_n hx hb d_Ref_execute_215 rfl (lv_at hl 1 rfl) ?_
                            refine lv_iload_n hx hb d_Ref_execute_216 rfl (lv_at hl 2 rfl) ?_
                            let t676 := (f_Ref_logical p0 rg rs rc rd ra)
                            refine k_cVv (As := [.int p0]) (rest := []) (wr := []) (wj := [(aT, .inr (11, [.ref bG, .ref bS, .ref bM, .int rl, .int rk, .int rr, .int re, .int rc, .int rd, .int ra, .int rb, .int rn, .int rf, .int rw])), (bG, .inl (dG, 32, .inl t676.1)), (bS, .inl (dS, 48, .inl t676.2)), (bM, .inl (dM, 16384, .inl rm))]) ⟨hx, hb, hml, hown, hB⟩ (c_Ref_logical l D aT bG bS bM dG dS dM rg rs rm rl rk rr re rc rd ra rb rn rf rw p0 hra hrd) yl_Ref_logical mw_846 hK hN hP hD hS hA [0, 1, 2] [0, 1, 2, 3] [] [0, 1, 2, 3] rfl rfl rfl rfl (by decide +kernel) 0 rfl rfl rfl rfl hl.1 rfl (Nat.le_of_ble_eq_true rfl) ⟨Nat.le_of_ble_eq_true rfl, Nat.le_of_ble_eq_true rfl⟩ d_Ref_execute_217 ⟨Nat.le_of_ble_eq_true rfl, Nat.le_of_ble_eq_true rfl⟩ (fun H locs hP hD hS => ?_)
                            refine lv_goto (tgt := 283) hx hb d_Ref_execute_220 (by decide) ?_
                            have ef : f_Ref_execute p0 rg rs rm rl rr re rc rd ra rb rn rf rw = (t676.1, t676.2, rm, rl, rr, re, rn, rf, rw) := by unfold f_Ref_execute; try dsimp only; rw [if_neg h22, if_neg h41, if_neg h264, if_pos h487, if_neg h503, if_neg h516, if_neg h526, if_neg h533, if_neg h537, if_neg h542, if_neg h559, if_neg h572, if_neg h630]
                            exact k_vret hx hb hr hlocks hK hP hD hS [0, 1, 2, 3] rfl (by rw [ef] <;> rfl) d_Ref_execute_283
                      · refine lv_aload_n hx hb d_Ref_execute_195 rfl (lv_at hl 1 rfl) ?_
                        refine lv_iload_n hx hb d_Ref_execute_196 rfl (lv_at hl 2 rfl) ?_
                        let t677 := (f_Ref_rotate p0 rg rs rc rd ra rb)
                        refine k_cVv (As := [.int p0]) (rest := []) (wr := []) (wj := [(aT, .inr (11, [.ref bG, .ref bS, .ref bM, .int rl, .int rk, .int rr, .int re, .int rc, .int rd, .int ra, .int rb, .int rn, .int rf, .int rw])), (bG, .inl (dG, 32, .inl t677.1)), (bS, .inl (dS, 48, .inl t677.2)), (bM, .inl (dM, 16384, .inl rm))]) ⟨hx, hb, hml, hown, hB⟩ (c_Ref_rotate l D aT bG bS bM dG dS dM rg rs rm rl rk rr re rc rd ra rb rn rf rw p0 hra hrd hrb) yl_Ref_rotate mw_832 hK hN hP hD hS hA [0, 1, 2] [0, 1, 2, 3] [] [0, 1, 2, 3] rfl rfl rfl rfl (by decide +kernel) 0 rfl rfl rfl rfl hl.1 rfl (Nat.le_of_ble_eq_true rfl) ⟨Nat.le_of_ble_eq_true rfl, Nat.le_of_ble_eq_true rfl⟩ d_Ref_execute_197 ⟨Nat.le_of_ble_eq_true rfl, Nat.le_of_ble_eq_true rfl⟩ (fun H locs hP hD hS => ?_)
                        refine lv_goto (tgt := 283) hx hb d_Ref_execute_200 (by decide) ?_
                        have ef : f_Ref_execute p0 rg rs rm rl rr re rc rd ra rb rn rf rw = (t677.1, t677.2, rm, rl, rr, re, rn, rf, rw) := by unfold f_Ref_execute; try dsimp only; rw [if_neg h22, if_neg h41, if_neg h264, if_pos h487, if_neg h503, if_neg h516, if_neg h526, if_neg h533, if_neg h537, if_neg h542, if_pos h559]
                        exact k_vret hx hb hr hlocks hK hP hD hS [0, 1, 2, 3] rfl (by rw [ef] <;> rfl) d_Ref_execute_283
                · refine lv_aload_n hx hb d_Ref_execute_160 rfl (lv_at hl 1 rfl) ?_
                  refine lv_aload_n hx hb d_Ref_execute_161 rfl (lv_at hl 1 rfl) ?_
                  refine va_get (D := D) (ci := 11) (v := .int rc) (C := "MappedProcessorModel") (T := T_Ref) (N := 14) hx hb hB iw_Ref hown hK hP 0 rfl rfl 7 (by decide) (hB _ mw_650) (fun _ h9 => h9) rfl d_Ref_execute_162 ?_
                  refine lv_iconst (v := (1 : Int32)) hx hb d_Ref_execute_165 (by decide) ?_
                  refine lv_ishr hx hb d_Ref_execute_166 ?_
                  refine lv_sipush (v := (1023 : Int32)) hx hb d_Ref_execute_167 (by decide) ?_
                  refine lv_iand hx hb d_Ref_execute_170 ?_
                  let t678 := (f_Ref_conditions ((shr rc (1 : Int32)) &&& (1023 : Int32)) rs rl rc rd ra rb rn rf)
                  refine k_cVv (As := [.int ((shr rc (1 : Int32)) &&& (1023 : Int32))]) (rest := []) (wr := []) (wj := [(aT, .inr (11, [.ref bG, .ref bS, .ref bM, .int t678.2.1, .int rk, .int rr, .int re, .int rc, .int rd, .int ra, .int rb, .int t678.2.2.1, .int t678.2.2.2, .int rw])), (bG, .inl (dG, 32, .inl rg)), (bS, .inl (dS, 48, .inl t678.1)), (bM, .inl (dM, 16384, .inl rm))]) ⟨hx, hb, hml, hown, hB⟩ (c_Ref_conditions l D aT bG bS bM dG dS dM rg rs rm rl rk rr re rc rd ra rb rn rf rw ((shr rc (1 : Int32)) &&& (1023 : Int32)) hra hrd hrb) yl_Ref_conditions mw_814 hK hN hP hD hS hA [0, 1, 2] [0, 1, 2, 3] [] [0, 1, 2, 3] rfl rfl rfl rfl (by decide +kernel) 0 rfl rfl rfl rfl hl.1 rfl (Nat.le_of_ble_eq_true rfl) ⟨Nat.le_of_ble_eq_true rfl, Nat.le_of_ble_eq_true rfl⟩ d_Ref_execute_171 ⟨Nat.le_of_ble_eq_true rfl, Nat.le_of_ble_eq_true rfl⟩ (fun H locs hP hD hS => ?_)
                  refine lv_goto (tgt := 283) hx hb d_Ref_execute_174 (by decide) ?_
                  have ef : f_Ref_execute p0 rg rs rm rl rr re rc rd ra rb rn rf rw = (rg, t678.1, rm, t678.2.1, rr, re, t678.2.2.1, t678.2.2.2, rw) := by unfold f_Ref_execute; try dsimp only; rw [if_neg h22, if_neg h41, if_neg h264, if_pos h487, if_neg h503, if_neg h516, if_neg h526, if_pos h533]
                  exact k_vret hx hb hr hlocks hK hP hD hS [0, 1, 2, 3] rfl (by rw [ef] <;> rfl) d_Ref_execute_283
              · refine lv_aload_n hx hb d_Ref_execute_118 rfl (lv_at hl 1 rfl) ?_
                refine lv_bipush (v := (20 : Int32)) hx hb d_Ref_execute_119 (by decide) ?_
                refine lv_aload_n hx hb d_Ref_execute_121 rfl (lv_at hl 1 rfl) ?_
                refine va_get (D := D) (ci := 11) (v := .int rc) (C := "MappedProcessorModel") (T := T_Ref) (N := 14) hx hb hB iw_Ref hown hK hP 0 rfl rfl 7 (by decide) (hB _ mw_650) (fun _ h9 => h9) rfl d_Ref_execute_122 ?_
                refine lv_bipush (v := (6 : Int32)) hx hb d_Ref_execute_125 (by decide) ?_
                refine lv_ishl hx hb d_Ref_execute_127 ?_
                refine lv_bipush (v := (6 : Int32)) hx hb d_Ref_execute_128 (by decide) ?_
                refine lv_ishr hx hb d_Ref_execute_130 ?_
                refine lv_bipush (v := (-4 : Int32)) hx hb d_Ref_execute_131 (by decide) ?_
                refine lv_iand hx hb d_Ref_execute_133 ?_
                refine lv_aload_n hx hb d_Ref_execute_134 rfl (lv_at hl 1 rfl) ?_
                refine va_get (D := D) (ci := 11) (v := .int rc) (C := "MappedProcessorModel") (T := T_Ref) (N := 14) hx hb hB iw_Ref hown hK hP 0 rfl rfl 7 (by decide) (hB _ mw_650) (fun _ h9 => h9) rfl d_Ref_execute_135 ?_
                refine lv_iconst (v := (2 : Int32)) hx hb d_Ref_execute_138 (by decide) ?_
                refine lv_iand hx hb d_Ref_execute_139 ?_
                refine k_join2 (c0 := (rc &&& (2 : Int32)) = (0 : Int32)) (x1 := (1 : Int32)) (x2 := (0 : Int32)) (rest := [.int ((shr (shl rc (6 : Int32)) (6 : Int32)) &&& (-4 : Int32)), .int (20 : Int32), .ref aT]) 148 ?_ (fun k680 k681 => ?_)
                rotate_left
                · refine lv_if_ne (tgt := 147) hx hb d_Ref_execute_140 (by decide) (fun (h679 : ¬ (rc &&& (2 : Int32)) = (0 : Int32)) => ?_) (fun (h679 : (rc &&& (2 : Int32)) = (0 : Int32)) => ?_)
                  · refine lv_iconst (v := (0 : Int32)) hx hb d_Ref_execute_147 (by decide) ?_
                    exact k681 h679
                  · refine lv_iconst (v := (1 : Int32)) hx hb d_Ref_execute_143 (by decide) ?_
                    refine lv_goto (tgt := 148) hx hb d_Ref_execute_144 (by decide) ?_
                    exact k680 h679
                let t684 := (f_Ref_branch (20 : Int32) ((shr (shl rc (6 : Int32)) (6 : Int32)) &&& (-4 : Int32)) (if (rc &&& (2 : Int32)) = (0 : Int32) then (1 : Int32) else (0 : Int32)) rs rc ra)
                refine k_cVv (As := [.int (20 : Int32), .int ((shr (shl rc (6 : Int32)) (6 : Int32)) &&& (-4 : Int32)), .int (if (rc &&& (2 : Int32)) = (0 : Int32) then (1 : Int32) else (0 : Int32))]) (rest := []) (wr := []) (wj := [(aT, .inr (11, [.ref bG, .ref bS, .ref bM, .int rl, .int rk, .int rr, .int re, .int rc, .int rd, .int ra, .int rb, .int t684.2, .int rf, .int rw])), (bG, .inl (dG, 32, .inl rg)), (bS, .inl (dS, 48, .inl t684.1)), (bM, .inl (dM, 16384, .inl rm))]) ⟨hx, hb, hml, hown, hB⟩ (c_Ref_branch l D aT bG bS bM dG dS dM rg rs rm rl rk rr re rc rd ra rb rn rf rw (20 : Int32) ((shr (shl rc (6 : Int32)) (6 : Int32)) &&& (-4 : Int32)) (if (rc &&& (2 : Int32)) = (0 : Int32) then (1 : Int32) else (0 : Int32)) hra) yl_Ref_branch mw_806 hK hN hP hD hS hA [0, 1, 2] [0, 1, 2, 3] [] [0, 1, 2, 3] rfl rfl rfl rfl (by decide +kernel) 0 rfl rfl rfl rfl hl.1 rfl (Nat.le_of_ble_eq_true rfl) ⟨Nat.le_of_ble_eq_true rfl, Nat.le_of_ble_eq_true rfl⟩ d_Ref_execute_148 ⟨Nat.le_of_ble_eq_true rfl, Nat.le_of_ble_eq_true rfl⟩ (fun H locs hP hD hS => ?_)
                refine lv_goto (tgt := 283) hx hb d_Ref_execute_151 (by decide) ?_
                have ef : f_Ref_execute p0 rg rs rm rl rr re rc rd ra rb rn rf rw = (rg, t684.1, rm, rl, rr, re, t684.2, rf, rw) := by unfold f_Ref_execute; try dsimp only; rw [if_neg h22, if_neg h41, if_neg h264, if_pos h487, if_neg h503, if_neg h516, if_pos h526]
                exact k_vret hx hb hr hlocks hK hP hD hS [0, 1, 2, 3] rfl (by rw [ef] <;> rfl) d_Ref_execute_283
            · refine lv_aload_n hx hb d_Ref_execute_86 rfl (lv_at hl 1 rfl) ?_
              refine lv_sipush (v := (3072 : Int32)) hx hb d_Ref_execute_87 (by decide) ?_
              refine lv_iconst (v := (0 : Int32)) hx hb d_Ref_execute_90 (by decide) ?_
              let t685 := (f_Ref_exception (3072 : Int32) (0 : Int32) rs)
              refine k_cVv (As := [.int (3072 : Int32), .int (0 : Int32)]) (rest := []) (wr := []) (wj := [(aT, .inr (11, [.ref bG, .ref bS, .ref bM, .int t685.2.1, .int rk, .int rr, .int re, .int rc, .int rd, .int ra, .int rb, .int t685.2.2.1, .int t685.2.2.2, .int rw])), (bG, .inl (dG, 32, .inl rg)), (bS, .inl (dS, 48, .inl t685.1)), (bM, .inl (dM, 16384, .inl rm))]) ⟨hx, hb, hml, hown, hB⟩ (c_Ref_exception l D aT bG bS bM dG dS dM rg rs rm rl rk rr re rc rd ra rb rn rf rw (3072 : Int32) (0 : Int32)) yl_Ref_exception mw_748 hK hN hP hD hS hA [0, 1, 2] [0, 1, 2, 3] [] [0, 1, 2, 3] rfl rfl rfl rfl (by decide +kernel) 0 rfl rfl rfl rfl hl.1 rfl (Nat.le_of_ble_eq_true rfl) ⟨Nat.le_of_ble_eq_true rfl, Nat.le_of_ble_eq_true rfl⟩ d_Ref_execute_91 ⟨Nat.le_of_ble_eq_true rfl, Nat.le_of_ble_eq_true rfl⟩ (fun H locs hP hD hS => ?_)
              refine lv_aload_n hx hb d_Ref_execute_94 rfl (lv_at hl 1 rfl) ?_
              refine va_get (D := D) (ci := 11) (v := .ref bS) (C := "MappedProcessorModel") (T := T_Ref) (N := 14) hx hb hB iw_Ref hown hK hP 0 rfl rfl 1 (by decide) (hB _ mw_644) (fun _ h9 => h9) rfl d_Ref_execute_95 ?_
              refine lv_bipush (v := (6 : Int32)) hx hb d_Ref_execute_98 (by decide) ?_
              refine lv_aload_n hx hb d_Ref_execute_100 rfl (lv_at hl 1 rfl) ?_
              refine va_get (D := D) (ci := 11) (v := .ref bS) (C := "MappedProcessorModel") (T := T_Ref) (N := 14) hx hb hB iw_Ref hown hK hP 0 rfl rfl 1 (by decide) (hB _ mw_644) (fun _ h9 => h9) rfl d_Ref_execute_101 ?_
              refine lv_iconst (v := (0 : Int32)) hx hb d_Ref_execute_104 (by decide) ?_
              refine k_iald (j := 0) hx hb hK hP 2 1 rfl rfl (by decide) (by unfold vp_in; decide) d_Ref_execute_105 ?_
              refine lv_iconst (v := (4 : Int32)) hx hb d_Ref_execute_106 (by decide) ?_
              refine lv_iadd hx hb d_Ref_execute_107 ?_
              refine k_iast (j := 6) hx hb hK hP hD hS 2 1 rfl rfl (by decide) (by unfold vp_in; decide) d_Ref_execute_108 (fun H locs hP hD hS => ?_)
              have hP : va_P D kCl [(aT, .inr (11, [.ref bG, .ref bS, .ref bM, .int t685.2.1, .int rk, .int rr, .int re, .int rc, .int rd, .int ra, .int rb, .int t685.2.2.1, .int t685.2.2.2, .int rw])), (bG, .inl (dG, 32, .inl rg)), (bS, .inl (dS, 48, .inl (upd t685.1 6 ((t685.1 0) + (4 : Int32))))), (bM, .inl (dM, 16384, .inl rm))] H := hP
              have hD : va_D A [(aT, .inr (11, [.ref bG, .ref bS, .ref bM, .int t685.2.1, .int rk, .int rr, .int re, .int rc, .int rd, .int ra, .int rb, .int t685.2.2.1, .int t685.2.2.2, .int rw])), (bG, .inl (dG, 32, .inl rg)), (bS, .inl (dS, 48, .inl (upd t685.1 6 ((t685.1 0) + (4 : Int32))))), (bM, .inl (dM, 16384, .inl rm))] := hD
              refine lv_goto (tgt := 283) hx hb d_Ref_execute_109 (by decide) ?_
              have ef : f_Ref_execute p0 rg rs rm rl rr re rc rd ra rb rn rf rw = (rg, (upd t685.1 6 ((t685.1 0) + (4 : Int32))), rm, t685.2.1, rr, re, t685.2.2.1, t685.2.2.2, rw) := by unfold f_Ref_execute; try dsimp only; rw [if_neg h22, if_neg h41, if_neg h264, if_pos h487, if_neg h503, if_pos h516]
              exact k_vret hx hb hr hlocks hK hP hD hS [0, 1, 2, 3] rfl (by rw [ef] <;> rfl) d_Ref_execute_283
          · refine lv_aload_n hx hb d_Ref_execute_51 rfl (lv_at hl 1 rfl) ?_
            refine lv_aload_n hx hb d_Ref_execute_52 rfl (lv_at hl 1 rfl) ?_
            refine va_get (D := D) (ci := 11) (v := .int rd) (C := "MappedProcessorModel") (T := T_Ref) (N := 14) hx hb hB iw_Ref hown hK hP 0 rfl rfl 8 (by decide) (hB _ mw_651) (fun _ h9 => h9) rfl d_Ref_execute_53 ?_
            refine lv_iload_n hx hb d_Ref_execute_56 rfl (lv_at hl 0 rfl) ?_
            refine lv_bipush (v := (-4 : Int32)) hx hb d_Ref_execute_57 (by decide) ?_
            refine lv_iand hx hb d_Ref_execute_59 ?_
            refine lv_aload_n hx hb d_Ref_execute_60 rfl (lv_at hl 1 rfl) ?_
            refine va_get (D := D) (ci := 11) (v := .int rc) (C := "MappedProcessorModel") (T := T_Ref) (N := 14) hx hb hB iw_Ref hown hK hP 0 rfl rfl 7 (by decide) (hB _ mw_650) (fun _ h9 => h9) rfl d_Ref_execute_61 ?_
            refine lv_iconst (v := (2 : Int32)) hx hb d_Ref_execute_64 (by decide) ?_
            refine lv_iand hx hb d_Ref_execute_65 ?_
            refine k_join2 (c0 := (rc &&& (2 : Int32)) = (0 : Int32)) (x1 := (1 : Int32)) (x2 := (0 : Int32)) (rest := [.int ((f_Ref_signed16 rc) &&& (-4 : Int32)), .int rd, .ref aT]) 74 ?_ (fun k687 k688 => ?_)
            rotate_left
            · refine lv_if_ne (tgt := 73) hx hb d_Ref_execute_66 (by decide) (fun (h686 : ¬ (rc &&& (2 : Int32)) = (0 : Int32)) => ?_) (fun (h686 : (rc &&& (2 : Int32)) = (0 : Int32)) => ?_)
              · refine lv_iconst (v := (0 : Int32)) hx hb d_Ref_execute_73 (by decide) ?_
                exact k688 h686
              · refine lv_iconst (v := (1 : Int32)) hx hb d_Ref_execute_69 (by decide) ?_
                refine lv_goto (tgt := 74) hx hb d_Ref_execute_70 (by decide) ?_
                exact k687 h686
            let t691 := (f_Ref_branch rd ((f_Ref_signed16 rc) &&& (-4 : Int32)) (if (rc &&& (2 : Int32)) = (0 : Int32) then (1 : Int32) else (0 : Int32)) rs rc ra)
            refine k_cVv (As := [.int rd, .int ((f_Ref_signed16 rc) &&& (-4 : Int32)), .int (if (rc &&& (2 : Int32)) = (0 : Int32) then (1 : Int32) else (0 : Int32))]) (rest := []) (wr := []) (wj := [(aT, .inr (11, [.ref bG, .ref bS, .ref bM, .int rl, .int rk, .int rr, .int re, .int rc, .int rd, .int ra, .int rb, .int t691.2, .int rf, .int rw])), (bG, .inl (dG, 32, .inl rg)), (bS, .inl (dS, 48, .inl t691.1)), (bM, .inl (dM, 16384, .inl rm))]) ⟨hx, hb, hml, hown, hB⟩ (c_Ref_branch l D aT bG bS bM dG dS dM rg rs rm rl rk rr re rc rd ra rb rn rf rw rd ((f_Ref_signed16 rc) &&& (-4 : Int32)) (if (rc &&& (2 : Int32)) = (0 : Int32) then (1 : Int32) else (0 : Int32)) hra) yl_Ref_branch mw_806 hK hN hP hD hS hA [0, 1, 2] [0, 1, 2, 3] [] [0, 1, 2, 3] rfl rfl rfl rfl (by decide +kernel) 0 rfl rfl rfl rfl hl.1 rfl (Nat.le_of_ble_eq_true rfl) ⟨Nat.le_of_ble_eq_true rfl, Nat.le_of_ble_eq_true rfl⟩ d_Ref_execute_74 ⟨Nat.le_of_ble_eq_true rfl, Nat.le_of_ble_eq_true rfl⟩ (fun H locs hP hD hS => ?_)
            refine lv_goto (tgt := 283) hx hb d_Ref_execute_77 (by decide) ?_
            have ef : f_Ref_execute p0 rg rs rm rl rr re rc rd ra rb rn rf rw = (rg, t691.1, rm, rl, rr, re, t691.2, rf, rw) := by unfold f_Ref_execute; try dsimp only; rw [if_neg h22, if_neg h41, if_neg h264, if_pos h487, if_pos h503]
            exact k_vret hx hb hr hlocks hK hP hD hS [0, 1, 2, 3] rfl (by rw [ef] <;> rfl) d_Ref_execute_283
        · refine lv_aload_n hx hb d_Ref_execute_36 rfl (lv_at hl 1 rfl) ?_
          refine lv_iload_n hx hb d_Ref_execute_37 rfl (lv_at hl 2 rfl) ?_
          refine lv_iload_n hx hb d_Ref_execute_38 rfl (lv_at hl 0 rfl) ?_
          let t692 := (f_Ref_immediate p0 (f_Ref_signed16 rc) rg rs rc rd ra)
          refine k_cVv (As := [.int p0, .int (f_Ref_signed16 rc)]) (rest := []) (wr := []) (wj := [(aT, .inr (11, [.ref bG, .ref bS, .ref bM, .int rl, .int rk, .int rr, .int re, .int rc, .int rd, .int ra, .int rb, .int rn, .int rf, .int rw])), (bG, .inl (dG, 32, .inl t692.1)), (bS, .inl (dS, 48, .inl t692.2)), (bM, .inl (dM, 16384, .inl rm))]) ⟨hx, hb, hml, hown, hB⟩ (c_Ref_immediate l D aT bG bS bM dG dS dM rg rs rm rl rk rr re rc rd ra rb rn rf rw p0 (f_Ref_signed16 rc) hra hrd) yl_Ref_immediate mw_774 hK hN hP hD hS hA [0, 1, 2] [0, 1, 2, 3] [] [0, 1, 2, 3] rfl rfl rfl rfl (by decide +kernel) 0 rfl rfl rfl rfl hl.1 rfl (Nat.le_of_ble_eq_true rfl) ⟨Nat.le_of_ble_eq_true rfl, Nat.le_of_ble_eq_true rfl⟩ d_Ref_execute_39 ⟨Nat.le_of_ble_eq_true rfl, Nat.le_of_ble_eq_true rfl⟩ (fun H locs hP hD hS => ?_)
          refine lv_goto (tgt := 283) hx hb d_Ref_execute_42 (by decide) ?_
          have ef : f_Ref_execute p0 rg rs rm rl rr re rc rd ra rb rn rf rw = (t692.1, t692.2, rm, rl, rr, re, rn, rf, rw) := by unfold f_Ref_execute; try dsimp only; rw [if_neg h22, if_neg h41, if_neg h264, if_neg h487]
          exact k_vret hx hb hr hlocks hK hP hD hS [0, 1, 2, 3] rfl (by rw [ef] <;> rfl) d_Ref_execute_283
  · refine lv_aload_n hx hb d_Ref_execute_10 rfl (lv_at hl 1 rfl) ?_
    refine lv_iload_n hx hb d_Ref_execute_11 rfl (lv_at hl 0 rfl) ?_
    let t693 := (f_Ref_trap (f_Ref_signed16 rc) rg rs rl rd ra rn rf)
    refine k_cVv (As := [.int (f_Ref_signed16 rc)]) (rest := []) (wr := []) (wj := [(aT, .inr (11, [.ref bG, .ref bS, .ref bM, .int t693.2.1, .int rk, .int rr, .int re, .int rc, .int rd, .int ra, .int rb, .int t693.2.2.1, .int t693.2.2.2, .int rw])), (bG, .inl (dG, 32, .inl rg)), (bS, .inl (dS, 48, .inl t693.1)), (bM, .inl (dM, 16384, .inl rm))]) ⟨hx, hb, hml, hown, hB⟩ (c_Ref_trap l D aT bG bS bM dG dS dM rg rs rm rl rk rr re rc rd ra rb rn rf rw (f_Ref_signed16 rc) hra hrd) yl_Ref_trap mw_765 hK hN hP hD hS hA [0, 1, 2] [0, 1, 2, 3] [] [0, 1, 2, 3] rfl rfl rfl rfl (by decide +kernel) 0 rfl rfl rfl rfl hl.1 rfl (Nat.le_of_ble_eq_true rfl) ⟨Nat.le_of_ble_eq_true rfl, Nat.le_of_ble_eq_true rfl⟩ d_Ref_execute_12 ⟨Nat.le_of_ble_eq_true rfl, Nat.le_of_ble_eq_true rfl⟩ (fun H locs hP hD hS => ?_)
    refine lv_goto (tgt := 283) hx hb d_Ref_execute_15 (by decide) ?_
    have ef : f_Ref_execute p0 rg rs rm rl rr re rc rd ra rb rn rf rw = (rg, t693.1, rm, t693.2.1, rr, re, t693.2.2.1, t693.2.2.2, rw) := by unfold f_Ref_execute; try dsimp only; rw [if_pos h22]
    exact k_vret hx hb hr hlocks hK hP hD hS [0, 1, 2, 3] rfl (by rw [ef] <;> rfl) d_Ref_execute_283
/-! MappedProcessorModel.one()Z -/
theorem d_Ref_one_0 : decode b_Ref_one 0 = .ok (.aload_n 0, 1) := by decide +kernel
theorem d_Ref_one_1 : decode b_Ref_one 1 = .ok (.aload_n 0, 1) := by decide +kernel
theorem d_Ref_one_2 : decode b_Ref_one 2 = .ok (.getfield 66, 3) := by decide +kernel
theorem d_Ref_one_5 : decode b_Ref_one 5 = .ok (.iconst 1, 1) := by decide +kernel
theorem d_Ref_one_6 : decode b_Ref_one 6 = .ok (.iadd, 1) := by decide +kernel
theorem d_Ref_one_7 : decode b_Ref_one 7 = .ok (.putfield 66, 3) := by decide +kernel
theorem d_Ref_one_10 : decode b_Ref_one 10 = .ok (.aload_n 0, 1) := by decide +kernel
theorem d_Ref_one_11 : decode b_Ref_one 11 = .ok (.iconst 0, 1) := by decide +kernel
theorem d_Ref_one_12 : decode b_Ref_one 12 = .ok (.putfield 56, 3) := by decide +kernel
theorem d_Ref_one_15 : decode b_Ref_one 15 = .ok (.aload_n 0, 1) := by decide +kernel
theorem d_Ref_one_16 : decode b_Ref_one 16 = .ok (.aload_n 0, 1) := by decide +kernel
theorem d_Ref_one_17 : decode b_Ref_one 17 = .ok (.getfield 13, 3) := by decide +kernel
theorem d_Ref_one_20 : decode b_Ref_one 20 = .ok (.iconst 0, 1) := by decide +kernel
theorem d_Ref_one_21 : decode b_Ref_one 21 = .ok (.iaload, 1) := by decide +kernel
theorem d_Ref_one_22 : decode b_Ref_one 22 = .ok (.iconst 4, 1) := by decide +kernel
theorem d_Ref_one_23 : decode b_Ref_one 23 = .ok (.iadd, 1) := by decide +kernel
theorem d_Ref_one_24 : decode b_Ref_one 24 = .ok (.putfield 50, 3) := by decide +kernel
theorem d_Ref_one_27 : decode b_Ref_one 27 = .ok (.aload_n 0, 1) := by decide +kernel
theorem d_Ref_one_28 : decode b_Ref_one 28 = .ok (.aload_n 0, 1) := by decide +kernel
theorem d_Ref_one_29 : decode b_Ref_one 29 = .ok (.getfield 13, 3) := by decide +kernel
theorem d_Ref_one_32 : decode b_Ref_one 32 = .ok (.iconst 0, 1) := by decide +kernel
theorem d_Ref_one_33 : decode b_Ref_one 33 = .ok (.iaload, 1) := by decide +kernel
theorem d_Ref_one_34 : decode b_Ref_one 34 = .ok (.iconst 0, 1) := by decide +kernel
theorem d_Ref_one_35 : decode b_Ref_one 35 = .ok (.invokevirtual 69, 3) := by decide +kernel
theorem d_Ref_one_38 : decode b_Ref_one 38 = .ok (.istore_n 1, 1) := by decide +kernel
theorem d_Ref_one_39 : decode b_Ref_one 39 = .ok (.aload_n 0, 1) := by decide +kernel
theorem d_Ref_one_40 : decode b_Ref_one 40 = .ok (.getfield 21, 3) := by decide +kernel
theorem d_Ref_one_43 : decode b_Ref_one 43 = .ok (.ifCond .eq 42, 3) := by decide +kernel
theorem d_Ref_one_46 : decode b_Ref_one 46 = .ok (.aload_n 0, 1) := by decide +kernel
theorem d_Ref_one_47 : decode b_Ref_one 47 = .ok (.sipush 1024, 3) := by decide +kernel
theorem d_Ref_one_50 : decode b_Ref_one 50 = .ok (.aload_n 0, 1) := by decide +kernel
theorem d_Ref_one_51 : decode b_Ref_one 51 = .ok (.getfield 21, 3) := by decide +kernel
theorem d_Ref_one_54 : decode b_Ref_one 54 = .ok (.iconst (-1), 1) := by decide +kernel
theorem d_Ref_one_55 : decode b_Ref_one 55 = .ok (.if_icmp .ne 8, 3) := by decide +kernel
theorem d_Ref_one_58 : decode b_Ref_one 58 = .ok (.ldc 72, 2) := by decide +kernel
theorem d_Ref_one_60 : decode b_Ref_one 60 = .ok (.goto 19, 3) := by decide +kernel
theorem d_Ref_one_63 : decode b_Ref_one 63 = .ok (.aload_n 0, 1) := by decide +kernel
theorem d_Ref_one_64 : decode b_Ref_one 64 = .ok (.getfield 21, 3) := by decide +kernel
theorem d_Ref_one_67 : decode b_Ref_one 67 = .ok (.bipush (-2), 2) := by decide +kernel
theorem d_Ref_one_69 : decode b_Ref_one 69 = .ok (.if_icmp .ne 8, 3) := by decide +kernel
theorem d_Ref_one_72 : decode b_Ref_one 72 = .ok (.ldc 73, 2) := by decide +kernel
theorem d_Ref_one_74 : decode b_Ref_one 74 = .ok (.goto 5, 3) := by decide +kernel
theorem d_Ref_one_77 : decode b_Ref_one 77 = .ok (.ldc 74, 2) := by decide +kernel
theorem d_Ref_one_79 : decode b_Ref_one 79 = .ok (.invokevirtual 61, 3) := by decide +kernel
theorem d_Ref_one_82 : decode b_Ref_one 82 = .ok (.goto 76, 3) := by decide +kernel
theorem d_Ref_one_85 : decode b_Ref_one 85 = .ok (.aload_n 0, 1) := by decide +kernel
theorem d_Ref_one_86 : decode b_Ref_one 86 = .ok (.iconst 0, 1) := by decide +kernel
theorem d_Ref_one_87 : decode b_Ref_one 87 = .ok (.invokevirtual 75, 3) := by decide +kernel
theorem d_Ref_one_90 : decode b_Ref_one 90 = .ok (.aload_n 0, 1) := by decide +kernel
theorem d_Ref_one_91 : decode b_Ref_one 91 = .ok (.aload_n 0, 1) := by decide +kernel
theorem d_Ref_one_92 : decode b_Ref_one 92 = .ok (.getfield 16, 3) := by decide +kernel
theorem d_Ref_one_95 : decode b_Ref_one 95 = .ok (.iload_n 1, 1) := by decide +kernel
theorem d_Ref_one_96 : decode b_Ref_one 96 = .ok (.ldc 42, 2) := by decide +kernel
theorem d_Ref_one_98 : decode b_Ref_one 98 = .ok (.iand, 1) := by decide +kernel
theorem d_Ref_one_99 : decode b_Ref_one 99 = .ok (.iconst 2, 1) := by decide +kernel
theorem d_Ref_one_100 : decode b_Ref_one 100 = .ok (.iushr, 1) := by decide +kernel
theorem d_Ref_one_101 : decode b_Ref_one 101 = .ok (.iaload, 1) := by decide +kernel
theorem d_Ref_one_102 : decode b_Ref_one 102 = .ok (.putfield 79, 3) := by decide +kernel
theorem d_Ref_one_105 : decode b_Ref_one 105 = .ok (.aload_n 0, 1) := by decide +kernel
theorem d_Ref_one_106 : decode b_Ref_one 106 = .ok (.aload_n 0, 1) := by decide +kernel
theorem d_Ref_one_107 : decode b_Ref_one 107 = .ok (.getfield 79, 3) := by decide +kernel
theorem d_Ref_one_110 : decode b_Ref_one 110 = .ok (.bipush 21, 2) := by decide +kernel
theorem d_Ref_one_112 : decode b_Ref_one 112 = .ok (.ishr, 1) := by decide +kernel
theorem d_Ref_one_113 : decode b_Ref_one 113 = .ok (.bipush 31, 2) := by decide +kernel
theorem d_Ref_one_115 : decode b_Ref_one 115 = .ok (.iand, 1) := by decide +kernel
theorem d_Ref_one_116 : decode b_Ref_one 116 = .ok (.putfield 82, 3) := by decide +kernel
theorem d_Ref_one_119 : decode b_Ref_one 119 = .ok (.aload_n 0, 1) := by decide +kernel
theorem d_Ref_one_120 : decode b_Ref_one 120 = .ok (.aload_n 0, 1) := by decide +kernel
theorem d_Ref_one_121 : decode b_Ref_one 121 = .ok (.getfield 79, 3) := by decide +kernel
theorem d_Ref_one_124 : decode b_Ref_one 124 = .ok (.bipush 16, 2) := by decide +kernel
theorem d_Ref_one_126 : decode b_Ref_one 126 = .ok (.ishr, 1) := by decide +kernel
theorem d_Ref_one_127 : decode b_Ref_one 127 = .ok (.bipush 31, 2) := by decide +kernel
theorem d_Ref_one_129 : decode b_Ref_one 129 = .ok (.iand, 1) := by decide +kernel
theorem d_Ref_one_130 : decode b_Ref_one 130 = .ok (.putfield 85, 3) := by decide +kernel
theorem d_Ref_one_133 : decode b_Ref_one 133 = .ok (.aload_n 0, 1) := by decide +kernel
theorem d_Ref_one_134 : decode b_Ref_one 134 = .ok (.aload_n 0, 1) := by decide +kernel
theorem d_Ref_one_135 : decode b_Ref_one 135 = .ok (.getfield 79, 3) := by decide +kernel
theorem d_Ref_one_138 : decode b_Ref_one 138 = .ok (.bipush 11, 2) := by decide +kernel
theorem d_Ref_one_140 : decode b_Ref_one 140 = .ok (.ishr, 1) := by decide +kernel
theorem d_Ref_one_141 : decode b_Ref_one 141 = .ok (.bipush 31, 2) := by decide +kernel
theorem d_Ref_one_143 : decode b_Ref_one 143 = .ok (.iand, 1) := by decide +kernel
theorem d_Ref_one_144 : decode b_Ref_one 144 = .ok (.putfield 88, 3) := by decide +kernel
theorem d_Ref_one_147 : decode b_Ref_one 147 = .ok (.aload_n 0, 1) := by decide +kernel
theorem d_Ref_one_148 : decode b_Ref_one 148 = .ok (.aload_n 0, 1) := by decide +kernel
theorem d_Ref_one_149 : decode b_Ref_one 149 = .ok (.getfield 79, 3) := by decide +kernel
theorem d_Ref_one_152 : decode b_Ref_one 152 = .ok (.bipush 26, 2) := by decide +kernel
theorem d_Ref_one_154 : decode b_Ref_one 154 = .ok (.iushr, 1) := by decide +kernel
theorem d_Ref_one_155 : decode b_Ref_one 155 = .ok (.invokevirtual 91, 3) := by decide +kernel
theorem d_Ref_one_158 : decode b_Ref_one 158 = .ok (.aload_n 0, 1) := by decide +kernel
theorem d_Ref_one_159 : decode b_Ref_one 159 = .ok (.getfield 13, 3) := by decide +kernel
theorem d_Ref_one_162 : decode b_Ref_one 162 = .ok (.iconst 0, 1) := by decide +kernel
theorem d_Ref_one_163 : decode b_Ref_one 163 = .ok (.aload_n 0, 1) := by decide +kernel
theorem d_Ref_one_164 : decode b_Ref_one 164 = .ok (.getfield 50, 3) := by decide +kernel
theorem d_Ref_one_167 : decode b_Ref_one 167 = .ok (.iastore, 1) := by decide +kernel
theorem d_Ref_one_168 : decode b_Ref_one 168 = .ok (.aload_n 0, 1) := by decide +kernel
theorem d_Ref_one_169 : decode b_Ref_one 169 = .ok (.getfield 56, 3) := by decide +kernel
theorem d_Ref_one_172 : decode b_Ref_one 172 = .ok (.ireturn, 1) := by decide +kernel
def f_Ref_one (rg : Nat → Int32) (rs : Nat → Int32) (rm : Nat → Int32) (rl : Int32) (rk : Int32) (rc : Int32) (rd : Int32) (ra : Int32) (rb : Int32) (rw : Int32) : Int32 × (Nat → Int32) × (Nat → Int32) × (Nat → Int32) × Int32 × Int32 × Int32 × Int32 × Int32 × Int32 × Int32 × Int32 × Int32 × Int32 × Int32 :=
  let t1 := (f_Ref_resolve (rs 0) (0 : Int32) rs rm)
  if t1.2.1 = (0 : Int32) then
    let t6 := (f_Ref_execute (ush ((f_Ref_touch (0 : Int32) rm t1.2.2) (ix (ush (t1.1 &&& (65535 : Int32)) (2 : Int32)))) (26 : Int32)) rg rs (f_Ref_touch (0 : Int32) rm t1.2.2) rl t1.2.1 t1.2.2 ((f_Ref_touch (0 : Int32) rm t1.2.2) (ix (ush (t1.1 &&& (65535 : Int32)) (2 : Int32)))) ((shr ((f_Ref_touch (0 : Int32) rm t1.2.2) (ix (ush (t1.1 &&& (65535 : Int32)) (2 : Int32)))) (21 : Int32)) &&& (31 : Int32)) ((shr ((f_Ref_touch (0 : Int32) rm t1.2.2) (ix (ush (t1.1 &&& (65535 : Int32)) (2 : Int32)))) (16 : Int32)) &&& (31 : Int32)) ((shr ((f_Ref_touch (0 : Int32) rm t1.2.2) (ix (ush (t1.1 &&& (65535 : Int32)) (2 : Int32)))) (11 : Int32)) &&& (31 : Int32)) ((rs 0) + (4 : Int32)) (0 : Int32) rw)
    (t6.2.2.2.2.2.2.2.1, t6.1, (upd t6.2.1 0 t6.2.2.2.2.2.2.1), t6.2.2.1, t6.2.2.2.1, (rk + (1 : Int32)), t6.2.2.2.2.1, t6.2.2.2.2.2.1, ((f_Ref_touch (0 : Int32) rm t1.2.2) (ix (ush (t1.1 &&& (65535 : Int32)) (2 : Int32)))), ((shr ((f_Ref_touch (0 : Int32) rm t1.2.2) (ix (ush (t1.1 &&& (65535 : Int32)) (2 : Int32)))) (21 : Int32)) &&& (31 : Int32)), ((shr ((f_Ref_touch (0 : Int32) rm t1.2.2) (ix (ush (t1.1 &&& (65535 : Int32)) (2 : Int32)))) (16 : Int32)) &&& (31 : Int32)), ((shr ((f_Ref_touch (0 : Int32) rm t1.2.2) (ix (ush (t1.1 &&& (65535 : Int32)) (2 : Int32)))) (11 : Int32)) &&& (31 : Int32)), t6.2.2.2.2.2.2.1, t6.2.2.2.2.2.2.2.1, t6.2.2.2.2.2.2.2.2)
  else
    let t17 := (f_Ref_exception (1024 : Int32) (if t1.2.1 = (-1 : Int32) then (1073741824 : Int32) else (if t1.2.1 = (-2 : Int32) then (134217728 : Int32) else (268435456 : Int32))) rs)
    (t17.2.2.2, rg, (upd t17.1 0 t17.2.2.1), rm, t17.2.1, (rk + (1 : Int32)), t1.2.1, t1.2.2, rc, rd, ra, rb, t17.2.2.1, t17.2.2.2, rw)
def rq_Ref_one (z : Int32 × (Nat → Int32) × (Nat → Int32) × (Nat → Int32) × Int32 × Int32 × Int32 × Int32 × Int32 × Int32 × Int32 × Int32 × Int32 × Int32 × Int32) : Prop := isB z.2.2.2.2.2.2.2.2.2.2.2.2.2.1
set_option maxHeartbeats 4000000 in
set_option maxRecDepth 100000 in
theorem rq0_Ref_one (rg : Nat → Int32) (rs : Nat → Int32) (rm : Nat → Int32) (rl : Int32) (rk : Int32) (rc : Int32) (rd : Int32) (ra : Int32) (rb : Int32) (rw : Int32) : rq_Ref_one (f_Ref_one rg rs rm rl rk rc rd ra rb rw) := by
  unfold f_Ref_one
  try dsimp only
  repeat' (with_reducible refine pred_ite ?_ ?_)
  all_goals (unfold rq_Ref_one)
  all_goals (try dsimp only)
  all_goals first | with_reducible exact ib0 | with_reducible exact ib1 | with_reducible exact rb_Ref_exception _ _ _ | with_reducible exact rb_Ref_execute _ _ _ _ _ _ _ _ _ _ _ _ _ _ (by first | with_reducible exact ib0 | with_reducible exact ib1 | with_reducible exact rb_Ref_exception _ _ _ | with_reducible exact rb_Ref_execute _ _ _ _ _ _ _ _ _ _ _ _ _ _ (by first | with_reducible exact ib0 | with_reducible exact ib1 | with_reducible exact rb_Ref_exception _ _ _))
theorem rb_Ref_one (rg : Nat → Int32) (rs : Nat → Int32) (rm : Nat → Int32) (rl : Int32) (rk : Int32) (rc : Int32) (rd : Int32) (ra : Int32) (rb : Int32) (rw : Int32) : isB (f_Ref_one rg rs rm rl rk rc rd ra rb rw).2.2.2.2.2.2.2.2.2.2.2.2.2.1 := rq0_Ref_one rg rs rm rl rk rc rd ra rb rw
set_option maxHeartbeats 4000000 in
set_option maxRecDepth 100000 in
theorem c_Ref_one (l : Launch) (D : va_G) (aT bG bS bM : Nat) (dG dS dM : ClassId) (rg : Nat → Int32) (rs : Nat → Int32) (rm : Nat → Int32) (rl : Int32) (rk : Int32) (rr : Int32) (re : Int32) (rc : Int32) (rd : Int32) (ra : Int32) (rb : Int32) (rn : Int32) (rf : Int32) (rw : Int32) : kMi l y_Ref_one b_Ref_one 2 (some .boolean) 7 181 D kCl [(dG, .int), (dS, .int), (dM, .int)] [.ref aT] [(aT, .inr (11, [.ref bG, .ref bS, .ref bM, .int rl, .int rk, .int rr, .int re, .int rc, .int rd, .int ra, .int rb, .int rn, .int rf, .int rw])), (bG, .inl (dG, 32, .inl rg)), (bS, .inl (dS, 48, .inl rs)), (bM, .inl (dM, 16384, .inl rm))] (f_Ref_one rg rs rm rl rk rc rd ra rb rw).1 [(aT, .inr (11, [.ref bG, .ref bS, .ref bM, .int (f_Ref_one rg rs rm rl rk rc rd ra rb rw).2.2.2.2.1, .int (f_Ref_one rg rs rm rl rk rc rd ra rb rw).2.2.2.2.2.1, .int (f_Ref_one rg rs rm rl rk rc rd ra rb rw).2.2.2.2.2.2.1, .int (f_Ref_one rg rs rm rl rk rc rd ra rb rw).2.2.2.2.2.2.2.1, .int (f_Ref_one rg rs rm rl rk rc rd ra rb rw).2.2.2.2.2.2.2.2.1, .int (f_Ref_one rg rs rm rl rk rc rd ra rb rw).2.2.2.2.2.2.2.2.2.1, .int (f_Ref_one rg rs rm rl rk rc rd ra rb rw).2.2.2.2.2.2.2.2.2.2.1, .int (f_Ref_one rg rs rm rl rk rc rd ra rb rw).2.2.2.2.2.2.2.2.2.2.2.1, .int (f_Ref_one rg rs rm rl rk rc rd ra rb rw).2.2.2.2.2.2.2.2.2.2.2.2.1, .int (f_Ref_one rg rs rm rl rk rc rd ra rb rw).2.2.2.2.2.2.2.2.2.2.2.2.2.1, .int (f_Ref_one rg rs rm rl rk rc rd ra rb rw).2.2.2.2.2.2.2.2.2.2.2.2.2.2])), (bG, .inl (dG, 32, .inl (f_Ref_one rg rs rm rl rk rc rd ra rb rw).2.1)), (bS, .inl (dS, 48, .inl (f_Ref_one rg rs rm rl rk rc rd ra rb rw).2.2.1)), (bM, .inl (dM, 16384, .inl (f_Ref_one rg rs rm rl rk rc rd ra rb rw).2.2.2.1))] := by
  refine k_entry (Qc := fun A => kQi D kCl [(dG, .int), (dS, .int), (dM, .int)] (f_Ref_one rg rs rm rl rk rc rd ra rb rw).1 [(aT, .inr (11, [.ref bG, .ref bS, .ref bM, .int (f_Ref_one rg rs rm rl rk rc rd ra rb rw).2.2.2.2.1, .int (f_Ref_one rg rs rm rl rk rc rd ra rb rw).2.2.2.2.2.1, .int (f_Ref_one rg rs rm rl rk rc rd ra rb rw).2.2.2.2.2.2.1, .int (f_Ref_one rg rs rm rl rk rc rd ra rb rw).2.2.2.2.2.2.2.1, .int (f_Ref_one rg rs rm rl rk rc rd ra rb rw).2.2.2.2.2.2.2.2.1, .int (f_Ref_one rg rs rm rl rk rc rd ra rb rw).2.2.2.2.2.2.2.2.2.1, .int (f_Ref_one rg rs rm rl rk rc rd ra rb rw).2.2.2.2.2.2.2.2.2.2.1, .int (f_Ref_one rg rs rm rl rk rc rd ra rb rw).2.2.2.2.2.2.2.2.2.2.2.1, .int (f_Ref_one rg rs rm rl rk rc rd ra rb rw).2.2.2.2.2.2.2.2.2.2.2.2.1, .int (f_Ref_one rg rs rm rl rk rc rd ra rb rw).2.2.2.2.2.2.2.2.2.2.2.2.2.1, .int (f_Ref_one rg rs rm rl rk rc rd ra rb rw).2.2.2.2.2.2.2.2.2.2.2.2.2.2])), (bG, .inl (dG, 32, .inl (f_Ref_one rg rs rm rl rk rc rd ra rb rw).2.1)), (bS, .inl (dS, 48, .inl (f_Ref_one rg rs rm rl rk rc rd ra rb rw).2.2.1)), (bM, .inl (dM, 16384, .inl (f_Ref_one rg rs rm rl rk rc rd ra rb rw).2.2.2.1))] A) (lv := [(0, .ref aT)]) (by decide) (Nat.le_of_ble_eq_true rfl) rfl ?_
  intro p e s m below meth c A ls hx hb hr hml hB hown hlocks hin hA hK hN hP hD hS hl
  have hown : s.vm.findClass "MappedProcessorModel" = some m.cls := hown
  refine lv_aload_n hx hb d_Ref_one_0 rfl (lv_at hl 0 rfl) ?_
  refine lv_aload_n hx hb d_Ref_one_1 rfl (lv_at hl 0 rfl) ?_
  refine va_get (D := D) (ci := 11) (v := .int rk) (C := "MappedProcessorModel") (T := T_Ref) (N := 14) hx hb hB iw_Ref hown hK hP 0 rfl rfl 4 (by decide) (hB _ mw_647) (fun _ h9 => h9) rfl d_Ref_one_2 ?_
  refine lv_iconst (v := (1 : Int32)) hx hb d_Ref_one_5 (by decide) ?_
  refine lv_iadd hx hb d_Ref_one_6 ?_
  refine va_put (D := D) (ci := 11) (v := .int (rk + (1 : Int32))) (ty := .int) (C := "MappedProcessorModel") (T := T_Ref) (N := 14) hx hb hB iw_Ref ty_Ref ty_Ref_ok nm_Ref hown hK hP hD hS 0 rfl rfl 4 (by decide) (hB _ mw_647) (fun _ h9 => h9) rfl (by decide +kernel) rfl rfl (Nat.le_of_ble_eq_true rfl) d_Ref_one_7 (fun H locs hP hD hS => ?_)
  have hP : va_P D kCl [(aT, .inr (11, [.ref bG, .ref bS, .ref bM, .int rl, .int (rk + (1 : Int32)), .int rr, .int re, .int rc, .int rd, .int ra, .int rb, .int rn, .int rf, .int rw])), (bG, .inl (dG, 32, .inl rg)), (bS, .inl (dS, 48, .inl rs)), (bM, .inl (dM, 16384, .inl rm))] H := hP
  have hD : va_D A [(aT, .inr (11, [.ref bG, .ref bS, .ref bM, .int rl, .int (rk + (1 : Int32)), .int rr, .int re, .int rc, .int rd, .int ra, .int rb, .int rn, .int rf, .int rw])), (bG, .inl (dG, 32, .inl rg)), (bS, .inl (dS, 48, .inl rs)), (bM, .inl (dM, 16384, .inl rm))] := hD
  refine lv_aload_n hx hb d_Ref_one_10 rfl (lv_at hl 0 rfl) ?_
  refine lv_iconst (v := (0 : Int32)) hx hb d_Ref_one_11 (by decide) ?_
  refine va_put (D := D) (ci := 11) (v := .int (0 : Int32)) (ty := .boolean) (C := "MappedProcessorModel") (T := T_Ref) (N := 14) hx hb hB iw_Ref ty_Ref ty_Ref_ok nm_Ref hown hK hP hD hS 0 rfl rfl 12 (by decide) (hB _ mw_655) (fun _ h9 => h9) rfl (by decide +kernel) nb0 (by first | rfl | exact fits_bool nb0) (Nat.le_of_ble_eq_true rfl) d_Ref_one_12 (fun H locs hP hD hS => ?_)
  have hP : va_P D kCl [(aT, .inr (11, [.ref bG, .ref bS, .ref bM, .int rl, .int (rk + (1 : Int32)), .int rr, .int re, .int rc, .int rd, .int ra, .int rb, .int rn, .int (0 : Int32), .int rw])), (bG, .inl (dG, 32, .inl rg)), (bS, .inl (dS, 48, .inl rs)), (bM, .inl (dM, 16384, .inl rm))] H := hP
  have hD : va_D A [(aT, .inr (11, [.ref bG, .ref bS, .ref bM, .int rl, .int (rk + (1 : Int32)), .int rr, .int re, .int rc, .int rd, .int ra, .int rb, .int rn, .int (0 : Int32), .int rw])), (bG, .inl (dG, 32, .inl rg)), (bS, .inl (dS, 48, .inl rs)), (bM, .inl (dM, 16384, .inl rm))] := hD
  refine lv_aload_n hx hb d_Ref_one_15 rfl (lv_at hl 0 rfl) ?_
  refine lv_aload_n hx hb d_Ref_one_16 rfl (lv_at hl 0 rfl) ?_
  refine va_get (D := D) (ci := 11) (v := .ref bS) (C := "MappedProcessorModel") (T := T_Ref) (N := 14) hx hb hB iw_Ref hown hK hP 0 rfl rfl 1 (by decide) (hB _ mw_644) (fun _ h9 => h9) rfl d_Ref_one_17 ?_
  refine lv_iconst (v := (0 : Int32)) hx hb d_Ref_one_20 (by decide) ?_
  refine k_iald (j := 0) hx hb hK hP 2 1 rfl rfl (by decide) (by unfold vp_in; decide) d_Ref_one_21 ?_
  refine lv_iconst (v := (4 : Int32)) hx hb d_Ref_one_22 (by decide) ?_
  refine lv_iadd hx hb d_Ref_one_23 ?_
  refine va_put (D := D) (ci := 11) (v := .int ((rs 0) + (4 : Int32))) (ty := .int) (C := "MappedProcessorModel") (T := T_Ref) (N := 14) hx hb hB iw_Ref ty_Ref ty_Ref_ok nm_Ref hown hK hP hD hS 0 rfl rfl 11 (by decide) (hB _ mw_654) (fun _ h9 => h9) rfl (by decide +kernel) rfl rfl (Nat.le_of_ble_eq_true rfl) d_Ref_one_24 (fun H locs hP hD hS => ?_)
  have hP : va_P D kCl [(aT, .inr (11, [.ref bG, .ref bS, .ref bM, .int rl, .int (rk + (1 : Int32)), .int rr, .int re, .int rc, .int rd, .int ra, .int rb, .int ((rs 0) + (4 : Int32)), .int (0 : Int32), .int rw])), (bG, .inl (dG, 32, .inl rg)), (bS, .inl (dS, 48, .inl rs)), (bM, .inl (dM, 16384, .inl rm))] H := hP
  have hD : va_D A [(aT, .inr (11, [.ref bG, .ref bS, .ref bM, .int rl, .int (rk + (1 : Int32)), .int rr, .int re, .int rc, .int rd, .int ra, .int rb, .int ((rs 0) + (4 : Int32)), .int (0 : Int32), .int rw])), (bG, .inl (dG, 32, .inl rg)), (bS, .inl (dS, 48, .inl rs)), (bM, .inl (dM, 16384, .inl rm))] := hD
  refine lv_aload_n hx hb d_Ref_one_27 rfl (lv_at hl 0 rfl) ?_
  refine lv_aload_n hx hb d_Ref_one_28 rfl (lv_at hl 0 rfl) ?_
  refine va_get (D := D) (ci := 11) (v := .ref bS) (C := "MappedProcessorModel") (T := T_Ref) (N := 14) hx hb hB iw_Ref hown hK hP 0 rfl rfl 1 (by decide) (hB _ mw_644) (fun _ h9 => h9) rfl d_Ref_one_29 ?_
  refine lv_iconst (v := (0 : Int32)) hx hb d_Ref_one_32 (by decide) ?_
  refine k_iald (j := 0) hx hb hK hP 2 1 rfl rfl (by decide) (by unfold vp_in; decide) d_Ref_one_33 ?_
  refine lv_iconst (v := (0 : Int32)) hx hb d_Ref_one_34 (by decide) ?_
  let t1 := (f_Ref_resolve (rs 0) (0 : Int32) rs rm)
  refine k_cVi (As := [.int (rs 0), .int (0 : Int32)]) (rest := []) (wr := []) (wj := [(aT, .inr (11, [.ref bG, .ref bS, .ref bM, .int rl, .int (rk + (1 : Int32)), .int t1.2.1, .int t1.2.2, .int rc, .int rd, .int ra, .int rb, .int ((rs 0) + (4 : Int32)), .int (0 : Int32), .int rw])), (bG, .inl (dG, 32, .inl rg)), (bS, .inl (dS, 48, .inl rs)), (bM, .inl (dM, 16384, .inl rm))]) ⟨hx, hb, hml, hown, hB⟩ (c_Ref_resolve l D aT bG bS bM dG dS dM rg rs rm rl (rk + (1 : Int32)) rr re rc rd ra rb ((rs 0) + (4 : Int32)) (0 : Int32) rw (rs 0) (0 : Int32)) yl_Ref_resolve mw_721 hK hN hP hD hS hA [0, 1, 2] [0, 1, 2, 3] [] [0, 1, 2, 3] rfl rfl rfl rfl (by decide +kernel) 0 rfl rfl rfl rfl hl.1 rfl (Nat.le_of_ble_eq_true rfl) ⟨Nat.le_of_ble_eq_true rfl, Nat.le_of_ble_eq_true rfl⟩ d_Ref_one_35 ⟨Nat.le_of_ble_eq_true rfl, Nat.le_of_ble_eq_true rfl⟩ (fun H locs hP hD hS => ?_)
  refine lv_istore_n (lv' := [(1, .int t1.1), (0, .ref aT)]) hx hb d_Ref_one_38 rfl hl (by decide) rfl (fun ls hl => ?_)
  refine lv_aload_n hx hb d_Ref_one_39 rfl (lv_at hl 1 rfl) ?_
  refine va_get (D := D) (ci := 11) (v := .int t1.2.1) (C := "MappedProcessorModel") (T := T_Ref) (N := 14) hx hb hB iw_Ref hown hK hP 0 rfl rfl 5 (by decide) (hB _ mw_648) (fun _ h9 => h9) rfl d_Ref_one_40 ?_
  refine lv_if_eq (tgt := 85) hx hb d_Ref_one_43 (by decide) (fun (h5 : t1.2.1 = (0 : Int32)) => ?_) (fun (h5 : ¬ t1.2.1 = (0 : Int32)) => ?_)
  · refine lv_aload_n hx hb d_Ref_one_85 rfl (lv_at hl 1 rfl) ?_
    refine lv_iconst (v := (0 : Int32)) hx hb d_Ref_one_86 (by decide) ?_
    refine k_cVv (As := [.int (0 : Int32)]) (rest := []) (wr := []) (wj := [(aT, .inr (11, [.ref bG, .ref bS, .ref bM, .int rl, .int (rk + (1 : Int32)), .int t1.2.1, .int t1.2.2, .int rc, .int rd, .int ra, .int rb, .int ((rs 0) + (4 : Int32)), .int (0 : Int32), .int rw])), (bG, .inl (dG, 32, .inl rg)), (bS, .inl (dS, 48, .inl rs)), (bM, .inl (dM, 16384, .inl (f_Ref_touch (0 : Int32) rm t1.2.2)))]) ⟨hx, hb, hml, hown, hB⟩ (c_Ref_touch l D aT bG bS bM dG dS dM rg rs rm rl (rk + (1 : Int32)) t1.2.1 t1.2.2 rc rd ra rb ((rs 0) + (4 : Int32)) (0 : Int32) rw (0 : Int32) (en_resolve _ _ _ _)) yl_Ref_touch mw_753 hK hN hP hD hS hA [0, 1, 2] [0, 1, 2, 3] [] [0, 1, 2, 3] rfl rfl rfl rfl (by decide +kernel) 0 rfl rfl rfl rfl hl.1 rfl (Nat.le_of_ble_eq_true rfl) ⟨Nat.le_of_ble_eq_true rfl, Nat.le_of_ble_eq_true rfl⟩ d_Ref_one_87 ⟨Nat.le_of_ble_eq_true rfl, Nat.le_of_ble_eq_true rfl⟩ (fun H locs hP hD hS => ?_)
    refine lv_aload_n hx hb d_Ref_one_90 rfl (lv_at hl 1 rfl) ?_
    refine lv_aload_n hx hb d_Ref_one_91 rfl (lv_at hl 1 rfl) ?_
    refine va_get (D := D) (ci := 11) (v := .ref bM) (C := "MappedProcessorModel") (T := T_Ref) (N := 14) hx hb hB iw_Ref hown hK hP 0 rfl rfl 2 (by decide) (hB _ mw_645) (fun _ h9 => h9) rfl d_Ref_one_92 ?_
    refine lv_iload_n hx hb d_Ref_one_95 rfl (lv_at hl 0 rfl) ?_
    refine lv_ldc (v := (65535 : Int32)) hx hb hown (hB _ mw_737) d_Ref_one_96 ?_
    refine lv_iand hx hb d_Ref_one_98 ?_
    refine lv_iconst (v := (2 : Int32)) hx hb d_Ref_one_99 (by decide) ?_
    refine lv_iushr (v := (ush (t1.1 &&& (65535 : Int32)) (2 : Int32))) hx hb d_Ref_one_100 rfl ?_
    refine k_iald (j := (ix (ush (t1.1 &&& (65535 : Int32)) (2 : Int32)))) hx hb hK hP 3 2 rfl rfl rfl (ixW _) d_Ref_one_101 ?_
    refine va_put (D := D) (ci := 11) (v := .int ((f_Ref_touch (0 : Int32) rm t1.2.2) (ix (ush (t1.1 &&& (65535 : Int32)) (2 : Int32))))) (ty := .int) (C := "MappedProcessorModel") (T := T_Ref) (N := 14) hx hb hB iw_Ref ty_Ref ty_Ref_ok nm_Ref hown hK hP hD hS 0 rfl rfl 7 (by decide) (hB _ mw_650) (fun _ h9 => h9) rfl (by decide +kernel) rfl rfl (Nat.le_of_ble_eq_true rfl) d_Ref_one_102 (fun H locs hP hD hS => ?_)
    have hP : va_P D kCl [(aT, .inr (11, [.ref bG, .ref bS, .ref bM, .int rl, .int (rk + (1 : Int32)), .int t1.2.1, .int t1.2.2, .int ((f_Ref_touch (0 : Int32) rm t1.2.2) (ix (ush (t1.1 &&& (65535 : Int32)) (2 : Int32)))), .int rd, .int ra, .int rb, .int ((rs 0) + (4 : Int32)), .int (0 : Int32), .int rw])), (bG, .inl (dG, 32, .inl rg)), (bS, .inl (dS, 48, .inl rs)), (bM, .inl (dM, 16384, .inl (f_Ref_touch (0 : Int32) rm t1.2.2)))] H := hP
    have hD : va_D A [(aT, .inr (11, [.ref bG, .ref bS, .ref bM, .int rl, .int (rk + (1 : Int32)), .int t1.2.1, .int t1.2.2, .int ((f_Ref_touch (0 : Int32) rm t1.2.2) (ix (ush (t1.1 &&& (65535 : Int32)) (2 : Int32)))), .int rd, .int ra, .int rb, .int ((rs 0) + (4 : Int32)), .int (0 : Int32), .int rw])), (bG, .inl (dG, 32, .inl rg)), (bS, .inl (dS, 48, .inl rs)), (bM, .inl (dM, 16384, .inl (f_Ref_touch (0 : Int32) rm t1.2.2)))] := hD
    refine lv_aload_n hx hb d_Ref_one_105 rfl (lv_at hl 1 rfl) ?_
    refine lv_aload_n hx hb d_Ref_one_106 rfl (lv_at hl 1 rfl) ?_
    refine va_get (D := D) (ci := 11) (v := .int ((f_Ref_touch (0 : Int32) rm t1.2.2) (ix (ush (t1.1 &&& (65535 : Int32)) (2 : Int32))))) (C := "MappedProcessorModel") (T := T_Ref) (N := 14) hx hb hB iw_Ref hown hK hP 0 rfl rfl 7 (by decide) (hB _ mw_650) (fun _ h9 => h9) rfl d_Ref_one_107 ?_
    refine lv_bipush (v := (21 : Int32)) hx hb d_Ref_one_110 (by decide) ?_
    refine lv_ishr hx hb d_Ref_one_112 ?_
    refine lv_bipush (v := (31 : Int32)) hx hb d_Ref_one_113 (by decide) ?_
    refine lv_iand hx hb d_Ref_one_115 ?_
    refine va_put (D := D) (ci := 11) (v := .int ((shr ((f_Ref_touch (0 : Int32) rm t1.2.2) (ix (ush (t1.1 &&& (65535 : Int32)) (2 : Int32)))) (21 : Int32)) &&& (31 : Int32))) (ty := .int) (C := "MappedProcessorModel") (T := T_Ref) (N := 14) hx hb hB iw_Ref ty_Ref ty_Ref_ok nm_Ref hown hK hP hD hS 0 rfl rfl 8 (by decide) (hB _ mw_651) (fun _ h9 => h9) rfl (by decide +kernel) rfl rfl (Nat.le_of_ble_eq_true rfl) d_Ref_one_116 (fun H locs hP hD hS => ?_)
    have hP : va_P D kCl [(aT, .inr (11, [.ref bG, .ref bS, .ref bM, .int rl, .int (rk + (1 : Int32)), .int t1.2.1, .int t1.2.2, .int ((f_Ref_touch (0 : Int32) rm t1.2.2) (ix (ush (t1.1 &&& (65535 : Int32)) (2 : Int32)))), .int ((shr ((f_Ref_touch (0 : Int32) rm t1.2.2) (ix (ush (t1.1 &&& (65535 : Int32)) (2 : Int32)))) (21 : Int32)) &&& (31 : Int32)), .int ra, .int rb, .int ((rs 0) + (4 : Int32)), .int (0 : Int32), .int rw])), (bG, .inl (dG, 32, .inl rg)), (bS, .inl (dS, 48, .inl rs)), (bM, .inl (dM, 16384, .inl (f_Ref_touch (0 : Int32) rm t1.2.2)))] H := hP
    have hD : va_D A [(aT, .inr (11, [.ref bG, .ref bS, .ref bM, .int rl, .int (rk + (1 : Int32)), .int t1.2.1, .int t1.2.2, .int ((f_Ref_touch (0 : Int32) rm t1.2.2) (ix (ush (t1.1 &&& (65535 : Int32)) (2 : Int32)))), .int ((shr ((f_Ref_touch (0 : Int32) rm t1.2.2) (ix (ush (t1.1 &&& (65535 : Int32)) (2 : Int32)))) (21 : Int32)) &&& (31 : Int32)), .int ra, .int rb, .int ((rs 0) + (4 : Int32)), .int (0 : Int32), .int rw])), (bG, .inl (dG, 32, .inl rg)), (bS, .inl (dS, 48, .inl rs)), (bM, .inl (dM, 16384, .inl (f_Ref_touch (0 : Int32) rm t1.2.2)))] := hD
    refine lv_aload_n hx hb d_Ref_one_119 rfl (lv_at hl 1 rfl) ?_
    refine lv_aload_n hx hb d_Ref_one_120 rfl (lv_at hl 1 rfl) ?_
    refine va_get (D := D) (ci := 11) (v := .int ((f_Ref_touch (0 : Int32) rm t1.2.2) (ix (ush (t1.1 &&& (65535 : Int32)) (2 : Int32))))) (C := "MappedProcessorModel") (T := T_Ref) (N := 14) hx hb hB iw_Ref hown hK hP 0 rfl rfl 7 (by decide) (hB _ mw_650) (fun _ h9 => h9) rfl d_Ref_one_121 ?_
    refine lv_bipush (v := (16 : Int32)) hx hb d_Ref_one_124 (by decide) ?_
    refine lv_ishr hx hb d_Ref_one_126 ?_
    refine lv_bipush (v := (31 : Int32)) hx hb d_Ref_one_127 (by decide) ?_
    refine lv_iand hx hb d_Ref_one_129 ?_
    refine va_put (D := D) (ci := 11) (v := .int ((shr ((f_Ref_touch (0 : Int32) rm t1.2.2) (ix (ush (t1.1 &&& (65535 : Int32)) (2 : Int32)))) (16 : Int32)) &&& (31 : Int32))) (ty := .int) (C := "MappedProcessorModel") (T := T_Ref) (N := 14) hx hb hB iw_Ref ty_Ref ty_Ref_ok nm_Ref hown hK hP hD hS 0 rfl rfl 9 (by decide) (hB _ mw_652) (fun _ h9 => h9) rfl (by decide +kernel) rfl rfl (Nat.le_of_ble_eq_true rfl) d_Ref_one_130 (fun H locs hP hD hS => ?_)
    have hP : va_P D kCl [(aT, .inr (11, [.ref bG, .ref bS, .ref bM, .int rl, .int (rk + (1 : Int32)), .int t1.2.1, .int t1.2.2, .int ((f_Ref_touch (0 : Int32) rm t1.2.2) (ix (ush (t1.1 &&& (65535 : Int32)) (2 : Int32)))), .int ((shr ((f_Ref_touch (0 : Int32) rm t1.2.2) (ix (ush (t1.1 &&& (65535 : Int32)) (2 : Int32)))) (21 : Int32)) &&& (31 : Int32)), .int ((shr ((f_Ref_touch (0 : Int32) rm t1.2.2) (ix (ush (t1.1 &&& (65535 : Int32)) (2 : Int32)))) (16 : Int32)) &&& (31 : Int32)), .int rb, .int ((rs 0) + (4 : Int32)), .int (0 : Int32), .int rw])), (bG, .inl (dG, 32, .inl rg)), (bS, .inl (dS, 48, .inl rs)), (bM, .inl (dM, 16384, .inl (f_Ref_touch (0 : Int32) rm t1.2.2)))] H := hP
    have hD : va_D A [(aT, .inr (11, [.ref bG, .ref bS, .ref bM, .int rl, .int (rk + (1 : Int32)), .int t1.2.1, .int t1.2.2, .int ((f_Ref_touch (0 : Int32) rm t1.2.2) (ix (ush (t1.1 &&& (65535 : Int32)) (2 : Int32)))), .int ((shr ((f_Ref_touch (0 : Int32) rm t1.2.2) (ix (ush (t1.1 &&& (65535 : Int32)) (2 : Int32)))) (21 : Int32)) &&& (31 : Int32)), .int ((shr ((f_Ref_touch (0 : Int32) rm t1.2.2) (ix (ush (t1.1 &&& (65535 : Int32)) (2 : Int32)))) (16 : Int32)) &&& (31 : Int32)), .int rb, .int ((rs 0) + (4 : Int32)), .int (0 : Int32), .int rw])), (bG, .inl (dG, 32, .inl rg)), (bS, .inl (dS, 48, .inl rs)), (bM, .inl (dM, 16384, .inl (f_Ref_touch (0 : Int32) rm t1.2.2)))] := hD
    refine lv_aload_n hx hb d_Ref_one_133 rfl (lv_at hl 1 rfl) ?_
    refine lv_aload_n hx hb d_Ref_one_134 rfl (lv_at hl 1 rfl) ?_
    refine va_get (D := D) (ci := 11) (v := .int ((f_Ref_touch (0 : Int32) rm t1.2.2) (ix (ush (t1.1 &&& (65535 : Int32)) (2 : Int32))))) (C := "MappedProcessorModel") (T := T_Ref) (N := 14) hx hb hB iw_Ref hown hK hP 0 rfl rfl 7 (by decide) (hB _ mw_650) (fun _ h9 => h9) rfl d_Ref_one_135 ?_
    refine lv_bipush (v := (11 : Int32)) hx hb d_Ref_one_138 (by decide) ?_
    refine lv_ishr hx hb d_Ref_one_140 ?_
    refine lv_bipush (v := (31 : Int32)) hx hb d_Ref_one_141 (by decide) ?_
    refine lv_iand hx hb d_Ref_one_143 ?_
    refine va_put (D := D) (ci := 11) (v := .int ((shr ((f_Ref_touch (0 : Int32) rm t1.2.2) (ix (ush (t1.1 &&& (65535 : Int32)) (2 : Int32)))) (11 : Int32)) &&& (31 : Int32))) (ty := .int) (C := "MappedProcessorModel") (T := T_Ref) (N := 14) hx hb hB iw_Ref ty_Ref ty_Ref_ok nm_Ref hown hK hP hD hS 0 rfl rfl 10 (by decide) (hB _ mw_653) (fun _ h9 => h9) rfl (by decide +kernel) rfl rfl (Nat.le_of_ble_eq_true rfl) d_Ref_one_144 (fun H locs hP hD hS => ?_)
    have hP : va_P D kCl [(aT, .inr (11, [.ref bG, .ref bS, .ref bM, .int rl, .int (rk + (1 : Int32)), .int t1.2.1, .int t1.2.2, .int ((f_Ref_touch (0 : Int32) rm t1.2.2) (ix (ush (t1.1 &&& (65535 : Int32)) (2 : Int32)))), .int ((shr ((f_Ref_touch (0 : Int32) rm t1.2.2) (ix (ush (t1.1 &&& (65535 : Int32)) (2 : Int32)))) (21 : Int32)) &&& (31 : Int32)), .int ((shr ((f_Ref_touch (0 : Int32) rm t1.2.2) (ix (ush (t1.1 &&& (65535 : Int32)) (2 : Int32)))) (16 : Int32)) &&& (31 : Int32)), .int ((shr ((f_Ref_touch (0 : Int32) rm t1.2.2) (ix (ush (t1.1 &&& (65535 : Int32)) (2 : Int32)))) (11 : Int32)) &&& (31 : Int32)), .int ((rs 0) + (4 : Int32)), .int (0 : Int32), .int rw])), (bG, .inl (dG, 32, .inl rg)), (bS, .inl (dS, 48, .inl rs)), (bM, .inl (dM, 16384, .inl (f_Ref_touch (0 : Int32) rm t1.2.2)))] H := hP
    have hD : va_D A [(aT, .inr (11, [.ref bG, .ref bS, .ref bM, .int rl, .int (rk + (1 : Int32)), .int t1.2.1, .int t1.2.2, .int ((f_Ref_touch (0 : Int32) rm t1.2.2) (ix (ush (t1.1 &&& (65535 : Int32)) (2 : Int32)))), .int ((shr ((f_Ref_touch (0 : Int32) rm t1.2.2) (ix (ush (t1.1 &&& (65535 : Int32)) (2 : Int32)))) (21 : Int32)) &&& (31 : Int32)), .int ((shr ((f_Ref_touch (0 : Int32) rm t1.2.2) (ix (ush (t1.1 &&& (65535 : Int32)) (2 : Int32)))) (16 : Int32)) &&& (31 : Int32)), .int ((shr ((f_Ref_touch (0 : Int32) rm t1.2.2) (ix (ush (t1.1 &&& (65535 : Int32)) (2 : Int32)))) (11 : Int32)) &&& (31 : Int32)), .int ((rs 0) + (4 : Int32)), .int (0 : Int32), .int rw])), (bG, .inl (dG, 32, .inl rg)), (bS, .inl (dS, 48, .inl rs)), (bM, .inl (dM, 16384, .inl (f_Ref_touch (0 : Int32) rm t1.2.2)))] := hD
    refine lv_aload_n hx hb d_Ref_one_147 rfl (lv_at hl 1 rfl) ?_
    refine lv_aload_n hx hb d_Ref_one_148 rfl (lv_at hl 1 rfl) ?_
    refine va_get (D := D) (ci := 11) (v := .int ((f_Ref_touch (0 : Int32) rm t1.2.2) (ix (ush (t1.1 &&& (65535 : Int32)) (2 : Int32))))) (C := "MappedProcessorModel") (T := T_Ref) (N := 14) hx hb hB iw_Ref hown hK hP 0 rfl rfl 7 (by decide) (hB _ mw_650) (fun _ h9 => h9) rfl d_Ref_one_149 ?_
    refine lv_bipush (v := (26 : Int32)) hx hb d_Ref_one_152 (by decide) ?_
    refine lv_iushr (v := (ush ((f_Ref_touch (0 : Int32) rm t1.2.2) (ix (ush (t1.1 &&& (65535 : Int32)) (2 : Int32)))) (26 : Int32))) hx hb d_Ref_one_154 rfl ?_
    let t6 := (f_Ref_execute (ush ((f_Ref_touch (0 : Int32) rm t1.2.2) (ix (ush (t1.1 &&& (65535 : Int32)) (2 : Int32)))) (26 : Int32)) rg rs (f_Ref_touch (0 : Int32) rm t1.2.2) rl t1.2.1 t1.2.2 ((f_Ref_touch (0 : Int32) rm t1.2.2) (ix (ush (t1.1 &&& (65535 : Int32)) (2 : Int32)))) ((shr ((f_Ref_touch (0 : Int32) rm t1.2.2) (ix (ush (t1.1 &&& (65535 : Int32)) (2 : Int32)))) (21 : Int32)) &&& (31 : Int32)) ((shr ((f_Ref_touch (0 : Int32) rm t1.2.2) (ix (ush (t1.1 &&& (65535 : Int32)) (2 : Int32)))) (16 : Int32)) &&& (31 : Int32)) ((shr ((f_Ref_touch (0 : Int32) rm t1.2.2) (ix (ush (t1.1 &&& (65535 : Int32)) (2 : Int32)))) (11 : Int32)) &&& (31 : Int32)) ((rs 0) + (4 : Int32)) (0 : Int32) rw)
    refine k_cVv (As := [.int (ush ((f_Ref_touch (0 : Int32) rm t1.2.2) (ix (ush (t1.1 &&& (65535 : Int32)) (2 : Int32)))) (26 : Int32))]) (rest := []) (wr := []) (wj := [(aT, .inr (11, [.ref bG, .ref bS, .ref bM, .int t6.2.2.2.1, .int (rk + (1 : Int32)), .int t6.2.2.2.2.1, .int t6.2.2.2.2.2.1, .int ((f_Ref_touch (0 : Int32) rm t1.2.2) (ix (ush (t1.1 &&& (65535 : Int32)) (2 : Int32)))), .int ((shr ((f_Ref_touch (0 : Int32) rm t1.2.2) (ix (ush (t1.1 &&& (65535 : Int32)) (2 : Int32)))) (21 : Int32)) &&& (31 : Int32)), .int ((shr ((f_Ref_touch (0 : Int32) rm t1.2.2) (ix (ush (t1.1 &&& (65535 : Int32)) (2 : Int32)))) (16 : Int32)) &&& (31 : Int32)), .int ((shr ((f_Ref_touch (0 : Int32) rm t1.2.2) (ix (ush (t1.1 &&& (65535 : Int32)) (2 : Int32)))) (11 : Int32)) &&& (31 : Int32)), .int t6.2.2.2.2.2.2.1, .int t6.2.2.2.2.2.2.2.1, .int t6.2.2.2.2.2.2.2.2])), (bG, .inl (dG, 32, .inl t6.1)), (bS, .inl (dS, 48, .inl t6.2.1)), (bM, .inl (dM, 16384, .inl t6.2.2.1))]) ⟨hx, hb, hml, hown, hB⟩ (c_Ref_execute l D aT bG bS bM dG dS dM rg rs (f_Ref_touch (0 : Int32) rm t1.2.2) rl (rk + (1 : Int32)) t1.2.1 t1.2.2 ((f_Ref_touch (0 : Int32) rm t1.2.2) (ix (ush (t1.1 &&& (65535 : Int32)) (2 : Int32)))) ((shr ((f_Ref_touch (0 : Int32) rm t1.2.2) (ix (ush (t1.1 &&& (65535 : Int32)) (2 : Int32)))) (21 : Int32)) &&& (31 : Int32)) ((shr ((f_Ref_touch (0 : Int32) rm t1.2.2) (ix (ush (t1.1 &&& (65535 : Int32)) (2 : Int32)))) (16 : Int32)) &&& (31 : Int32)) ((shr ((f_Ref_touch (0 : Int32) rm t1.2.2) (ix (ush (t1.1 &&& (65535 : Int32)) (2 : Int32)))) (11 : Int32)) &&& (31 : Int32)) ((rs 0) + (4 : Int32)) (0 : Int32) rw (ush ((f_Ref_touch (0 : Int32) rm t1.2.2) (ix (ush (t1.1 &&& (65535 : Int32)) (2 : Int32)))) (26 : Int32)) (ix32 _) (ix32 _) (ix32 _)) yl_Ref_execute mw_757 hK hN hP hD hS hA [0, 1, 2] [0, 1, 2, 3] [] [0, 1, 2, 3] rfl rfl rfl rfl (by decide +kernel) 0 rfl rfl rfl rfl hl.1 rfl (Nat.le_of_ble_eq_true rfl) ⟨Nat.le_of_ble_eq_true rfl, Nat.le_of_ble_eq_true rfl⟩ d_Ref_one_155 ⟨Nat.le_of_ble_eq_true rfl, Nat.le_of_ble_eq_true rfl⟩ (fun H locs hP hD hS => ?_)
    refine lv_aload_n hx hb d_Ref_one_158 rfl (lv_at hl 1 rfl) ?_
    refine va_get (D := D) (ci := 11) (v := .ref bS) (C := "MappedProcessorModel") (T := T_Ref) (N := 14) hx hb hB iw_Ref hown hK hP 0 rfl rfl 1 (by decide) (hB _ mw_644) (fun _ h9 => h9) rfl d_Ref_one_159 ?_
    refine lv_iconst (v := (0 : Int32)) hx hb d_Ref_one_162 (by decide) ?_
    refine lv_aload_n hx hb d_Ref_one_163 rfl (lv_at hl 1 rfl) ?_
    refine va_get (D := D) (ci := 11) (v := .int t6.2.2.2.2.2.2.1) (C := "MappedProcessorModel") (T := T_Ref) (N := 14) hx hb hB iw_Ref hown hK hP 0 rfl rfl 11 (by decide) (hB _ mw_654) (fun _ h9 => h9) rfl d_Ref_one_164 ?_
    refine k_iast (j := 0) hx hb hK hP hD hS 2 1 rfl rfl (by decide) (by unfold vp_in; decide) d_Ref_one_167 (fun H locs hP hD hS => ?_)
    have hP : va_P D kCl [(aT, .inr (11, [.ref bG, .ref bS, .ref bM, .int t6.2.2.2.1, .int (rk + (1 : Int32)), .int t6.2.2.2.2.1, .int t6.2.2.2.2.2.1, .int ((f_Ref_touch (0 : Int32) rm t1.2.2) (ix (ush (t1.1 &&& (65535 : Int32)) (2 : Int32)))), .int ((shr ((f_Ref_touch (0 : Int32) rm t1.2.2) (ix (ush (t1.1 &&& (65535 : Int32)) (2 : Int32)))) (21 : Int32)) &&& (31 : Int32)), .int ((shr ((f_Ref_touch (0 : Int32) rm t1.2.2) (ix (ush (t1.1 &&& (65535 : Int32)) (2 : Int32)))) (16 : Int32)) &&& (31 : Int32)), .int ((shr ((f_Ref_touch (0 : Int32) rm t1.2.2) (ix (ush (t1.1 &&& (65535 : Int32)) (2 : Int32)))) (11 : Int32)) &&& (31 : Int32)), .int t6.2.2.2.2.2.2.1, .int t6.2.2.2.2.2.2.2.1, .int t6.2.2.2.2.2.2.2.2])), (bG, .inl (dG, 32, .inl t6.1)), (bS, .inl (dS, 48, .inl (upd t6.2.1 0 t6.2.2.2.2.2.2.1))), (bM, .inl (dM, 16384, .inl t6.2.2.1))] H := hP
    have hD : va_D A [(aT, .inr (11, [.ref bG, .ref bS, .ref bM, .int t6.2.2.2.1, .int (rk + (1 : Int32)), .int t6.2.2.2.2.1, .int t6.2.2.2.2.2.1, .int ((f_Ref_touch (0 : Int32) rm t1.2.2) (ix (ush (t1.1 &&& (65535 : Int32)) (2 : Int32)))), .int ((shr ((f_Ref_touch (0 : Int32) rm t1.2.2) (ix (ush (t1.1 &&& (65535 : Int32)) (2 : Int32)))) (21 : Int32)) &&& (31 : Int32)), .int ((shr ((f_Ref_touch (0 : Int32) rm t1.2.2) (ix (ush (t1.1 &&& (65535 : Int32)) (2 : Int32)))) (16 : Int32)) &&& (31 : Int32)), .int ((shr ((f_Ref_touch (0 : Int32) rm t1.2.2) (ix (ush (t1.1 &&& (65535 : Int32)) (2 : Int32)))) (11 : Int32)) &&& (31 : Int32)), .int t6.2.2.2.2.2.2.1, .int t6.2.2.2.2.2.2.2.1, .int t6.2.2.2.2.2.2.2.2])), (bG, .inl (dG, 32, .inl t6.1)), (bS, .inl (dS, 48, .inl (upd t6.2.1 0 t6.2.2.2.2.2.2.1))), (bM, .inl (dM, 16384, .inl t6.2.2.1))] := hD
    refine lv_aload_n hx hb d_Ref_one_168 rfl (lv_at hl 1 rfl) ?_
    refine va_get (D := D) (ci := 11) (v := .int t6.2.2.2.2.2.2.2.1) (C := "MappedProcessorModel") (T := T_Ref) (N := 14) hx hb hB iw_Ref hown hK hP 0 rfl rfl 12 (by decide) (hB _ mw_655) (fun _ h9 => h9) rfl d_Ref_one_169 ?_
    have ef : f_Ref_one rg rs rm rl rk rc rd ra rb rw = (t6.2.2.2.2.2.2.2.1, t6.1, (upd t6.2.1 0 t6.2.2.2.2.2.2.1), t6.2.2.1, t6.2.2.2.1, (rk + (1 : Int32)), t6.2.2.2.2.1, t6.2.2.2.2.2.1, ((f_Ref_touch (0 : Int32) rm t1.2.2) (ix (ush (t1.1 &&& (65535 : Int32)) (2 : Int32)))), ((shr ((f_Ref_touch (0 : Int32) rm t1.2.2) (ix (ush (t1.1 &&& (65535 : Int32)) (2 : Int32)))) (21 : Int32)) &&& (31 : Int32)), ((shr ((f_Ref_touch (0 : Int32) rm t1.2.2) (ix (ush (t1.1 &&& (65535 : Int32)) (2 : Int32)))) (16 : Int32)) &&& (31 : Int32)), ((shr ((f_Ref_touch (0 : Int32) rm t1.2.2) (ix (ush (t1.1 &&& (65535 : Int32)) (2 : Int32)))) (11 : Int32)) &&& (31 : Int32)), t6.2.2.2.2.2.2.1, t6.2.2.2.2.2.2.2.1, t6.2.2.2.2.2.2.2.2) := by unfold f_Ref_one; (try dsimp only); rw [if_pos h5]
    exact k_zret hx hb hr hlocks hK hP hD hS [0, 1, 2, 3] rfl (by rw [ef] <;> rfl) (by rw [ef] <;> rfl) (nb_of (rb_Ref_execute _ _ _ _ _ _ _ _ _ _ _ _ _ _ ib0)) d_Ref_one_172
  · refine lv_aload_n hx hb d_Ref_one_46 rfl (lv_at hl 1 rfl) ?_
    refine lv_sipush (v := (1024 : Int32)) hx hb d_Ref_one_47 (by decide) ?_
    refine lv_aload_n hx hb d_Ref_one_50 rfl (lv_at hl 1 rfl) ?_
    refine va_get (D := D) (ci := 11) (v := .int t1.2.1) (C := "MappedProcessorModel") (T := T_Ref) (N := 14) hx hb hB iw_Ref hown hK hP 0 rfl rfl 5 (by decide) (hB _ mw_648) (fun _ h9 => h9) rfl d_Ref_one_51 ?_
    refine lv_iconst (v := (-1 : Int32)) hx hb d_Ref_one_54 (by decide) ?_
    refine k_join2 (c0 := t1.2.1 = (-1 : Int32)) (x1 := (1073741824 : Int32)) (x2 := (if t1.2.1 = (-2 : Int32) then (134217728 : Int32) else (268435456 : Int32))) (rest := [.int (1024 : Int32), .ref aT]) 79 ?_ (fun k8 k9 => ?_)
    rotate_left
    · refine lv_icmp_ne (tgt := 63) hx hb d_Ref_one_55 (by decide) (fun (h7 : ¬ t1.2.1 = (-1 : Int32)) => ?_) (fun (h7 : t1.2.1 = (-1 : Int32)) => ?_)
      · refine lv_aload_n hx hb d_Ref_one_63 rfl (lv_at hl 1 rfl) ?_
        refine va_get (D := D) (ci := 11) (v := .int t1.2.1) (C := "MappedProcessorModel") (T := T_Ref) (N := 14) hx hb hB iw_Ref hown hK hP 0 rfl rfl 5 (by decide) (hB _ mw_648) (fun _ h9 => h9) rfl d_Ref_one_64 ?_
        refine lv_bipush (v := (-2 : Int32)) hx hb d_Ref_one_67 (by decide) ?_
        refine k_join2 (c0 := t1.2.1 = (-2 : Int32)) (x1 := (134217728 : Int32)) (x2 := (268435456 : Int32)) (rest := [.int (1024 : Int32), .ref aT]) 79 ?_ (fun k11 k12 => ?_)
        rotate_left
        · refine lv_icmp_ne (tgt := 77) hx hb d_Ref_one_69 (by decide) (fun (h10 : ¬ t1.2.1 = (-2 : Int32)) => ?_) (fun (h10 : t1.2.1 = (-2 : Int32)) => ?_)
          · refine lv_ldc (v := (268435456 : Int32)) hx hb hown (hB _ mw_747) d_Ref_one_77 ?_
            exact k12 h10
          · refine lv_ldc (v := (134217728 : Int32)) hx hb hown (hB _ mw_746) d_Ref_one_72 ?_
            refine lv_goto (tgt := 79) hx hb d_Ref_one_74 (by decide) ?_
            exact k11 h10
        exact k9 h7
      · refine lv_ldc (v := (1073741824 : Int32)) hx hb hown (hB _ mw_745) d_Ref_one_58 ?_
        refine lv_goto (tgt := 79) hx hb d_Ref_one_60 (by decide) ?_
        exact k8 h7
    let t17 := (f_Ref_exception (1024 : Int32) (if t1.2.1 = (-1 : Int32) then (1073741824 : Int32) else (if t1.2.1 = (-2 : Int32) then (134217728 : Int32) else (268435456 : Int32))) rs)
    refine k_cVv (As := [.int (1024 : Int32), .int (if t1.2.1 = (-1 : Int32) then (1073741824 : Int32) else (if t1.2.1 = (-2 : Int32) then (134217728 : Int32) else (268435456 : Int32)))]) (rest := []) (wr := []) (wj := [(aT, .inr (11, [.ref bG, .ref bS, .ref bM, .int t17.2.1, .int (rk + (1 : Int32)), .int t1.2.1, .int t1.2.2, .int rc, .int rd, .int ra, .int rb, .int t17.2.2.1, .int t17.2.2.2, .int rw])), (bG, .inl (dG, 32, .inl rg)), (bS, .inl (dS, 48, .inl t17.1)), (bM, .inl (dM, 16384, .inl rm))]) ⟨hx, hb, hml, hown, hB⟩ (c_Ref_exception l D aT bG bS bM dG dS dM rg rs rm rl (rk + (1 : Int32)) t1.2.1 t1.2.2 rc rd ra rb ((rs 0) + (4 : Int32)) (0 : Int32) rw (1024 : Int32) (if t1.2.1 = (-1 : Int32) then (1073741824 : Int32) else (if t1.2.1 = (-2 : Int32) then (134217728 : Int32) else (268435456 : Int32)))) yl_Ref_exception mw_748 hK hN hP hD hS hA [0, 1, 2] [0, 1, 2, 3] [] [0, 1, 2, 3] rfl rfl rfl rfl (by decide +kernel) 0 rfl rfl rfl rfl hl.1 rfl (Nat.le_of_ble_eq_true rfl) ⟨Nat.le_of_ble_eq_true rfl, Nat.le_of_ble_eq_true rfl⟩ d_Ref_one_79 ⟨Nat.le_of_ble_eq_true rfl, Nat.le_of_ble_eq_true rfl⟩ (fun H locs hP hD hS => ?_)
    refine lv_goto (tgt := 158) hx hb d_Ref_one_82 (by decide) ?_
    refine lv_aload_n hx hb d_Ref_one_158 rfl (lv_at hl 1 rfl) ?_
    refine va_get (D := D) (ci := 11) (v := .ref bS) (C := "MappedProcessorModel") (T := T_Ref) (N := 14) hx hb hB iw_Ref hown hK hP 0 rfl rfl 1 (by decide) (hB _ mw_644) (fun _ h9 => h9) rfl d_Ref_one_159 ?_
    refine lv_iconst (v := (0 : Int32)) hx hb d_Ref_one_162 (by decide) ?_
    refine lv_aload_n hx hb d_Ref_one_163 rfl (lv_at hl 1 rfl) ?_
    refine va_get (D := D) (ci := 11) (v := .int t17.2.2.1) (C := "MappedProcessorModel") (T := T_Ref) (N := 14) hx hb hB iw_Ref hown hK hP 0 rfl rfl 11 (by decide) (hB _ mw_654) (fun _ h9 => h9) rfl d_Ref_one_164 ?_
    refine k_iast (j := 0) hx hb hK hP hD hS 2 1 rfl rfl (by decide) (by unfold vp_in; decide) d_Ref_one_167 (fun H locs hP hD hS => ?_)
    have hP : va_P D kCl [(aT, .inr (11, [.ref bG, .ref bS, .ref bM, .int t17.2.1, .int (rk + (1 : Int32)), .int t1.2.1, .int t1.2.2, .int rc, .int rd, .int ra, .int rb, .int t17.2.2.1, .int t17.2.2.2, .int rw])), (bG, .inl (dG, 32, .inl rg)), (bS, .inl (dS, 48, .inl (upd t17.1 0 t17.2.2.1))), (bM, .inl (dM, 16384, .inl rm))] H := hP
    have hD : va_D A [(aT, .inr (11, [.ref bG, .ref bS, .ref bM, .int t17.2.1, .int (rk + (1 : Int32)), .int t1.2.1, .int t1.2.2, .int rc, .int rd, .int ra, .int rb, .int t17.2.2.1, .int t17.2.2.2, .int rw])), (bG, .inl (dG, 32, .inl rg)), (bS, .inl (dS, 48, .inl (upd t17.1 0 t17.2.2.1))), (bM, .inl (dM, 16384, .inl rm))] := hD
    refine lv_aload_n hx hb d_Ref_one_168 rfl (lv_at hl 1 rfl) ?_
    refine va_get (D := D) (ci := 11) (v := .int t17.2.2.2) (C := "MappedProcessorModel") (T := T_Ref) (N := 14) hx hb hB iw_Ref hown hK hP 0 rfl rfl 12 (by decide) (hB _ mw_655) (fun _ h9 => h9) rfl d_Ref_one_169 ?_
    have ef : f_Ref_one rg rs rm rl rk rc rd ra rb rw = (t17.2.2.2, rg, (upd t17.1 0 t17.2.2.1), rm, t17.2.1, (rk + (1 : Int32)), t1.2.1, t1.2.2, rc, rd, ra, rb, t17.2.2.1, t17.2.2.2, rw) := by unfold f_Ref_one; (try dsimp only); rw [if_neg h5]
    exact k_zret hx hb hr hlocks hK hP hD hS [0, 1, 2, 3] rfl (by rw [ef] <;> rfl) (by rw [ef] <;> rfl) (nb_of (rb_Ref_exception _ _ _)) d_Ref_one_172
/-! MappedProcessorModel.write(II)Z -/
theorem d_Ref_write_0 : decode b_Ref_write 0 = .ok (.iload_n 1, 1) := by decide +kernel
theorem d_Ref_write_1 : decode b_Ref_write 1 = .ok (.ifCond .lt 10, 3) := by decide +kernel
theorem d_Ref_write_4 : decode b_Ref_write 4 = .ok (.iload_n 1, 1) := by decide +kernel
theorem d_Ref_write_5 : decode b_Ref_write 5 = .ok (.sipush 16383, 3) := by decide +kernel
theorem d_Ref_write_8 : decode b_Ref_write 8 = .ok (.if_icmp .le 5, 3) := by decide +kernel
theorem d_Ref_write_11 : decode b_Ref_write 11 = .ok (.iconst 0, 1) := by decide +kernel
theorem d_Ref_write_12 : decode b_Ref_write 12 = .ok (.ireturn, 1) := by decide +kernel
theorem d_Ref_write_13 : decode b_Ref_write 13 = .ok (.aload_n 0, 1) := by decide +kernel
theorem d_Ref_write_14 : decode b_Ref_write 14 = .ok (.getfield 16, 3) := by decide +kernel
theorem d_Ref_write_17 : decode b_Ref_write 17 = .ok (.iload_n 1, 1) := by decide +kernel
theorem d_Ref_write_18 : decode b_Ref_write 18 = .ok (.iload_n 2, 1) := by decide +kernel
theorem d_Ref_write_19 : decode b_Ref_write 19 = .ok (.iastore, 1) := by decide +kernel
theorem d_Ref_write_20 : decode b_Ref_write 20 = .ok (.iconst 1, 1) := by decide +kernel
theorem d_Ref_write_21 : decode b_Ref_write 21 = .ok (.ireturn, 1) := by decide +kernel
def f_Ref_write (p0 : Int32) (p1 : Int32) (rm : Nat → Int32) : Int32 × (Nat → Int32) :=
  if p0 < (0 : Int32) then
    ((0 : Int32), rm)
  else
    if p0 ≤ (16383 : Int32) then
      ((1 : Int32), (upd rm (ix p0) p1))
    else
      ((0 : Int32), rm)
set_option maxHeartbeats 4000000 in
set_option maxRecDepth 100000 in
theorem ib_Ref_write (p0 : Int32) (p1 : Int32) (rm : Nat → Int32) : isB (f_Ref_write p0 p1 rm).1 := by
  unfold f_Ref_write
  try dsimp only
  repeat' (first | refine ib_ite ?_ ?_ | refine ib_ite0 ?_ ?_ | with_reducible exact ib0 | with_reducible exact ib1 | (dsimp only; first | exact ib0 | exact ib1))
theorem nb_Ref_write (p0 : Int32) (p1 : Int32) (rm : Nat → Int32) : narrow .boolean (.int (f_Ref_write p0 p1 rm).1) = .int (f_Ref_write p0 p1 rm).1 := nb_of (ib_Ref_write p0 p1 rm)
set_option maxHeartbeats 4000000 in
set_option maxRecDepth 100000 in
theorem c_Ref_write (l : Launch) (D : va_G) (aT bG bS bM : Nat) (dG dS dM : ClassId) (rg : Nat → Int32) (rs : Nat → Int32) (rm : Nat → Int32) (rl : Int32) (rk : Int32) (rr : Int32) (re : Int32) (rc : Int32) (rd : Int32) (ra : Int32) (rb : Int32) (rn : Int32) (rf : Int32) (rw : Int32) (p0 : Int32) (p1 : Int32) : kMi l y_Ref_write b_Ref_write 3 (some .boolean) 0 0 D kCl [(dG, .int), (dS, .int), (dM, .int)] [.ref aT, .int p0, .int p1] [(aT, .inr (11, [.ref bG, .ref bS, .ref bM, .int rl, .int rk, .int rr, .int re, .int rc, .int rd, .int ra, .int rb, .int rn, .int rf, .int rw])), (bG, .inl (dG, 32, .inl rg)), (bS, .inl (dS, 48, .inl rs)), (bM, .inl (dM, 16384, .inl rm))] (f_Ref_write p0 p1 rm).1 [(aT, .inr (11, [.ref bG, .ref bS, .ref bM, .int rl, .int rk, .int rr, .int re, .int rc, .int rd, .int ra, .int rb, .int rn, .int rf, .int rw])), (bG, .inl (dG, 32, .inl rg)), (bS, .inl (dS, 48, .inl rs)), (bM, .inl (dM, 16384, .inl (f_Ref_write p0 p1 rm).2))] := by
  refine k_entry (Qc := fun A => kQi D kCl [(dG, .int), (dS, .int), (dM, .int)] (f_Ref_write p0 p1 rm).1 [(aT, .inr (11, [.ref bG, .ref bS, .ref bM, .int rl, .int rk, .int rr, .int re, .int rc, .int rd, .int ra, .int rb, .int rn, .int rf, .int rw])), (bG, .inl (dG, 32, .inl rg)), (bS, .inl (dS, 48, .inl rs)), (bM, .inl (dM, 16384, .inl (f_Ref_write p0 p1 rm).2))] A) (lv := [(0, .ref aT), (1, .int p0), (2, .int p1)]) (by decide) (Nat.le_of_ble_eq_true rfl) rfl ?_
  intro p e s m below meth c A ls hx hb hr hml hB hown hlocks hin hA hK hN hP hD hS hl
  have hown : s.vm.findClass "MappedProcessorModel" = some m.cls := hown
  refine lv_iload_n hx hb d_Ref_write_0 rfl (lv_at hl 1 rfl) ?_
  refine lv_if_lt (tgt := 11) hx hb d_Ref_write_1 (by decide) (fun (h1 : p0 < (0 : Int32)) => ?_) (fun (h1 : ¬ p0 < (0 : Int32)) => ?_)
  · refine lv_iconst (v := (0 : Int32)) hx hb d_Ref_write_11 (by decide) ?_
    have ef : f_Ref_write p0 p1 rm = ((0 : Int32), rm) := by unfold f_Ref_write; rw [if_pos h1]
    exact k_zret hx hb hr hlocks hK hP hD hS [0, 1, 2, 3] rfl (by rw [ef] <;> rfl) (by rw [ef] <;> rfl) nb0 d_Ref_write_12
  · refine lv_iload_n hx hb d_Ref_write_4 rfl (lv_at hl 1 rfl) ?_
    refine lv_sipush (v := (16383 : Int32)) hx hb d_Ref_write_5 (by decide) ?_
    refine lv_icmp_le (tgt := 13) hx hb d_Ref_write_8 (by decide) (fun (h2 : p0 ≤ (16383 : Int32)) => ?_) (fun (h2 : ¬ p0 ≤ (16383 : Int32)) => ?_)
    · refine lv_aload_n hx hb d_Ref_write_13 rfl (lv_at hl 0 rfl) ?_
      refine va_get (D := D) (ci := 11) (v := .ref bM) (C := "MappedProcessorModel") (T := T_Ref) (N := 14) hx hb hB iw_Ref hown hK hP 0 rfl rfl 2 (by decide) (hB _ mw_645) (fun _ h9 => h9) rfl d_Ref_write_14 ?_
      refine lv_iload_n hx hb d_Ref_write_17 rfl (lv_at hl 1 rfl) ?_
      refine lv_iload_n hx hb d_Ref_write_18 rfl (lv_at hl 2 rfl) ?_
      refine k_iast (j := (ix p0)) hx hb hK hP hD hS 3 2 rfl rfl rfl (ix_rng3 h1 h2) d_Ref_write_19 (fun H locs hP hD hS => ?_)
      have hP : va_P D kCl [(aT, .inr (11, [.ref bG, .ref bS, .ref bM, .int rl, .int rk, .int rr, .int re, .int rc, .int rd, .int ra, .int rb, .int rn, .int rf, .int rw])), (bG, .inl (dG, 32, .inl rg)), (bS, .inl (dS, 48, .inl rs)), (bM, .inl (dM, 16384, .inl (upd rm (ix p0) p1)))] H := hP
      have hD : va_D A [(aT, .inr (11, [.ref bG, .ref bS, .ref bM, .int rl, .int rk, .int rr, .int re, .int rc, .int rd, .int ra, .int rb, .int rn, .int rf, .int rw])), (bG, .inl (dG, 32, .inl rg)), (bS, .inl (dS, 48, .inl rs)), (bM, .inl (dM, 16384, .inl (upd rm (ix p0) p1)))] := hD
      refine lv_iconst (v := (1 : Int32)) hx hb d_Ref_write_20 (by decide) ?_
      have ef : f_Ref_write p0 p1 rm = ((1 : Int32), (upd rm (ix p0) p1)) := by unfold f_Ref_write; rw [if_neg h1, if_pos h2]
      exact k_zret hx hb hr hlocks hK hP hD hS [0, 1, 2, 3] rfl (by rw [ef] <;> rfl) (by rw [ef] <;> rfl) nb1 d_Ref_write_21
    · refine lv_iconst (v := (0 : Int32)) hx hb d_Ref_write_11 (by decide) ?_
      have ef : f_Ref_write p0 p1 rm = ((0 : Int32), rm) := by unfold f_Ref_write; rw [if_neg h1, if_neg h2]
      exact k_zret hx hb hr hlocks hK hP hD hS [0, 1, 2, 3] rfl (by rw [ef] <;> rfl) (by rw [ef] <;> rfl) nb0 d_Ref_write_12
/-! MappedProcessorModel.word(I)I -/
theorem d_Ref_word_0 : decode b_Ref_word 0 = .ok (.iload_n 1, 1) := by decide +kernel
theorem d_Ref_word_1 : decode b_Ref_word 1 = .ok (.ifCond .lt 10, 3) := by decide +kernel
theorem d_Ref_word_4 : decode b_Ref_word 4 = .ok (.iload_n 1, 1) := by decide +kernel
theorem d_Ref_word_5 : decode b_Ref_word 5 = .ok (.sipush 16383, 3) := by decide +kernel
theorem d_Ref_word_8 : decode b_Ref_word 8 = .ok (.if_icmp .le 7, 3) := by decide +kernel
theorem d_Ref_word_11 : decode b_Ref_word 11 = .ok (.iconst 0, 1) := by decide +kernel
theorem d_Ref_word_12 : decode b_Ref_word 12 = .ok (.goto 9, 3) := by decide +kernel
theorem d_Ref_word_15 : decode b_Ref_word 15 = .ok (.aload_n 0, 1) := by decide +kernel
theorem d_Ref_word_16 : decode b_Ref_word 16 = .ok (.getfield 16, 3) := by decide +kernel
theorem d_Ref_word_19 : decode b_Ref_word 19 = .ok (.iload_n 1, 1) := by decide +kernel
theorem d_Ref_word_20 : decode b_Ref_word 20 = .ok (.iaload, 1) := by decide +kernel
theorem d_Ref_word_21 : decode b_Ref_word 21 = .ok (.ireturn, 1) := by decide +kernel
def f_Ref_word (p0 : Int32) (rm : Nat → Int32) : Int32 :=
  (if p0 < (0 : Int32) then (0 : Int32) else (if p0 ≤ (16383 : Int32) then (rm (ix p0)) else (0 : Int32)))
set_option maxHeartbeats 4000000 in
set_option maxRecDepth 100000 in
theorem c_Ref_word (l : Launch) (D : va_G) (aT bG bS bM : Nat) (dG dS dM : ClassId) (rg : Nat → Int32) (rs : Nat → Int32) (rm : Nat → Int32) (rl : Int32) (rk : Int32) (rr : Int32) (re : Int32) (rc : Int32) (rd : Int32) (ra : Int32) (rb : Int32) (rn : Int32) (rf : Int32) (rw : Int32) (p0 : Int32) : kMi l y_Ref_word b_Ref_word 2 (some .int) 0 0 D kCl [(dG, .int), (dS, .int), (dM, .int)] [.ref aT, .int p0] [(aT, .inr (11, [.ref bG, .ref bS, .ref bM, .int rl, .int rk, .int rr, .int re, .int rc, .int rd, .int ra, .int rb, .int rn, .int rf, .int rw])), (bG, .inl (dG, 32, .inl rg)), (bS, .inl (dS, 48, .inl rs)), (bM, .inl (dM, 16384, .inl rm))] (f_Ref_word p0 rm) [(aT, .inr (11, [.ref bG, .ref bS, .ref bM, .int rl, .int rk, .int rr, .int re, .int rc, .int rd, .int ra, .int rb, .int rn, .int rf, .int rw])), (bG, .inl (dG, 32, .inl rg)), (bS, .inl (dS, 48, .inl rs)), (bM, .inl (dM, 16384, .inl rm))] := by
  refine k_entry (Qc := fun A => kQi D kCl [(dG, .int), (dS, .int), (dM, .int)] (f_Ref_word p0 rm) [(aT, .inr (11, [.ref bG, .ref bS, .ref bM, .int rl, .int rk, .int rr, .int re, .int rc, .int rd, .int ra, .int rb, .int rn, .int rf, .int rw])), (bG, .inl (dG, 32, .inl rg)), (bS, .inl (dS, 48, .inl rs)), (bM, .inl (dM, 16384, .inl rm))] A) (lv := [(0, .ref aT), (1, .int p0)]) (by decide) (Nat.le_of_ble_eq_true rfl) rfl ?_
  intro p e s m below meth c A ls hx hb hr hml hB hown hlocks hin hA hK hN hP hD hS hl
  have hown : s.vm.findClass "MappedProcessorModel" = some m.cls := hown
  refine lv_iload_n hx hb d_Ref_word_0 rfl (lv_at hl 1 rfl) ?_
  refine k_join2 (c0 := p0 < (0 : Int32)) (x1 := (0 : Int32)) (x2 := (if p0 ≤ (16383 : Int32) then (rm (ix p0)) else (0 : Int32))) (rest := []) 21 ?_ (fun k2 k3 => ?_)
  rotate_left
  · refine lv_if_lt (tgt := 11) hx hb d_Ref_word_1 (by decide) (fun (h1 : p0 < (0 : Int32)) => ?_) (fun (h1 : ¬ p0 < (0 : Int32)) => ?_)
    · refine lv_iconst (v := (0 : Int32)) hx hb d_Ref_word_11 (by decide) ?_
      refine lv_goto (tgt := 21) hx hb d_Ref_word_12 (by decide) ?_
      exact k2 h1
    · refine lv_iload_n hx hb d_Ref_word_4 rfl (lv_at hl 1 rfl) ?_
      refine lv_sipush (v := (16383 : Int32)) hx hb d_Ref_word_5 (by decide) ?_
      refine k_join2 (c0 := p0 ≤ (16383 : Int32)) (x1 := (rm (ix p0))) (x2 := (0 : Int32)) (rest := []) 21 ?_ (fun k5 k6 => ?_)
      rotate_left
      · refine lv_icmp_le (tgt := 15) hx hb d_Ref_word_8 (by decide) (fun (h4 : p0 ≤ (16383 : Int32)) => ?_) (fun (h4 : ¬ p0 ≤ (16383 : Int32)) => ?_)
        · refine lv_aload_n hx hb d_Ref_word_15 rfl (lv_at hl 0 rfl) ?_
          refine va_get (D := D) (ci := 11) (v := .ref bM) (C := "MappedProcessorModel") (T := T_Ref) (N := 14) hx hb hB iw_Ref hown hK hP 0 rfl rfl 2 (by decide) (hB _ mw_645) (fun _ h9 => h9) rfl d_Ref_word_16 ?_
          refine lv_iload_n hx hb d_Ref_word_19 rfl (lv_at hl 1 rfl) ?_
          refine k_iald (j := (ix p0)) hx hb hK hP 3 2 rfl rfl rfl (ix_rng3 h1 h4) d_Ref_word_20 ?_
          exact k5 h4
        · refine lv_iconst (v := (0 : Int32)) hx hb d_Ref_word_11 (by decide) ?_
          refine lv_goto (tgt := 21) hx hb d_Ref_word_12 (by decide) ?_
          exact k6 h4
      exact k3 h1
  have ef : f_Ref_word p0 rm = (if p0 < (0 : Int32) then (0 : Int32) else (if p0 ≤ (16383 : Int32) then (rm (ix p0)) else (0 : Int32))) := rfl
  exact k_iret hx hb hr hlocks hK hP hD hS [0, 1, 2, 3] rfl rfl (by rw [ef] <;> rfl) d_Ref_word_21
/-! MappedProcessorModel.put(II)Z -/
theorem d_Ref_put_0 : decode b_Ref_put 0 = .ok (.iload_n 1, 1) := by decide +kernel
theorem d_Ref_put_1 : decode b_Ref_put 1 = .ok (.ifCond .lt 9, 3) := by decide +kernel
theorem d_Ref_put_4 : decode b_Ref_put 4 = .ok (.iload_n 1, 1) := by decide +kernel
theorem d_Ref_put_5 : decode b_Ref_put 5 = .ok (.bipush 31, 2) := by decide +kernel
theorem d_Ref_put_7 : decode b_Ref_put 7 = .ok (.if_icmp .le 5, 3) := by decide +kernel
theorem d_Ref_put_10 : decode b_Ref_put 10 = .ok (.iconst 0, 1) := by decide +kernel
theorem d_Ref_put_11 : decode b_Ref_put 11 = .ok (.ireturn, 1) := by decide +kernel
theorem d_Ref_put_12 : decode b_Ref_put 12 = .ok (.aload_n 0, 1) := by decide +kernel
theorem d_Ref_put_13 : decode b_Ref_put 13 = .ok (.getfield 7, 3) := by decide +kernel
theorem d_Ref_put_16 : decode b_Ref_put 16 = .ok (.iload_n 1, 1) := by decide +kernel
theorem d_Ref_put_17 : decode b_Ref_put 17 = .ok (.iload_n 2, 1) := by decide +kernel
theorem d_Ref_put_18 : decode b_Ref_put 18 = .ok (.iastore, 1) := by decide +kernel
theorem d_Ref_put_19 : decode b_Ref_put 19 = .ok (.iconst 1, 1) := by decide +kernel
theorem d_Ref_put_20 : decode b_Ref_put 20 = .ok (.ireturn, 1) := by decide +kernel
def f_Ref_put (p0 : Int32) (p1 : Int32) (rg : Nat → Int32) : Int32 × (Nat → Int32) :=
  if p0 < (0 : Int32) then
    ((0 : Int32), rg)
  else
    if p0 ≤ (31 : Int32) then
      ((1 : Int32), (upd rg (ix p0) p1))
    else
      ((0 : Int32), rg)
set_option maxHeartbeats 4000000 in
set_option maxRecDepth 100000 in
theorem ib_Ref_put (p0 : Int32) (p1 : Int32) (rg : Nat → Int32) : isB (f_Ref_put p0 p1 rg).1 := by
  unfold f_Ref_put
  try dsimp only
  repeat' (first | refine ib_ite ?_ ?_ | refine ib_ite0 ?_ ?_ | with_reducible exact ib0 | with_reducible exact ib1 | (dsimp only; first | exact ib0 | exact ib1))
theorem nb_Ref_put (p0 : Int32) (p1 : Int32) (rg : Nat → Int32) : narrow .boolean (.int (f_Ref_put p0 p1 rg).1) = .int (f_Ref_put p0 p1 rg).1 := nb_of (ib_Ref_put p0 p1 rg)
set_option maxHeartbeats 4000000 in
set_option maxRecDepth 100000 in
theorem c_Ref_put (l : Launch) (D : va_G) (aT bG bS bM : Nat) (dG dS dM : ClassId) (rg : Nat → Int32) (rs : Nat → Int32) (rm : Nat → Int32) (rl : Int32) (rk : Int32) (rr : Int32) (re : Int32) (rc : Int32) (rd : Int32) (ra : Int32) (rb : Int32) (rn : Int32) (rf : Int32) (rw : Int32) (p0 : Int32) (p1 : Int32) : kMi l y_Ref_put b_Ref_put 3 (some .boolean) 0 0 D kCl [(dG, .int), (dS, .int), (dM, .int)] [.ref aT, .int p0, .int p1] [(aT, .inr (11, [.ref bG, .ref bS, .ref bM, .int rl, .int rk, .int rr, .int re, .int rc, .int rd, .int ra, .int rb, .int rn, .int rf, .int rw])), (bG, .inl (dG, 32, .inl rg)), (bS, .inl (dS, 48, .inl rs)), (bM, .inl (dM, 16384, .inl rm))] (f_Ref_put p0 p1 rg).1 [(aT, .inr (11, [.ref bG, .ref bS, .ref bM, .int rl, .int rk, .int rr, .int re, .int rc, .int rd, .int ra, .int rb, .int rn, .int rf, .int rw])), (bG, .inl (dG, 32, .inl (f_Ref_put p0 p1 rg).2)), (bS, .inl (dS, 48, .inl rs)), (bM, .inl (dM, 16384, .inl rm))] := by
  refine k_entry (Qc := fun A => kQi D kCl [(dG, .int), (dS, .int), (dM, .int)] (f_Ref_put p0 p1 rg).1 [(aT, .inr (11, [.ref bG, .ref bS, .ref bM, .int rl, .int rk, .int rr, .int re, .int rc, .int rd, .int ra, .int rb, .int rn, .int rf, .int rw])), (bG, .inl (dG, 32, .inl (f_Ref_put p0 p1 rg).2)), (bS, .inl (dS, 48, .inl rs)), (bM, .inl (dM, 16384, .inl rm))] A) (lv := [(0, .ref aT), (1, .int p0), (2, .int p1)]) (by decide) (Nat.le_of_ble_eq_true rfl) rfl ?_
  intro p e s m below meth c A ls hx hb hr hml hB hown hlocks hin hA hK hN hP hD hS hl
  have hown : s.vm.findClass "MappedProcessorModel" = some m.cls := hown
  refine lv_iload_n hx hb d_Ref_put_0 rfl (lv_at hl 1 rfl) ?_
  refine lv_if_lt (tgt := 10) hx hb d_Ref_put_1 (by decide) (fun (h1 : p0 < (0 : Int32)) => ?_) (fun (h1 : ¬ p0 < (0 : Int32)) => ?_)
  · refine lv_iconst (v := (0 : Int32)) hx hb d_Ref_put_10 (by decide) ?_
    have ef : f_Ref_put p0 p1 rg = ((0 : Int32), rg) := by unfold f_Ref_put; rw [if_pos h1]
    exact k_zret hx hb hr hlocks hK hP hD hS [0, 1, 2, 3] rfl (by rw [ef] <;> rfl) (by rw [ef] <;> rfl) nb0 d_Ref_put_11
  · refine lv_iload_n hx hb d_Ref_put_4 rfl (lv_at hl 1 rfl) ?_
    refine lv_bipush (v := (31 : Int32)) hx hb d_Ref_put_5 (by decide) ?_
    refine lv_icmp_le (tgt := 12) hx hb d_Ref_put_7 (by decide) (fun (h2 : p0 ≤ (31 : Int32)) => ?_) (fun (h2 : ¬ p0 ≤ (31 : Int32)) => ?_)
    · refine lv_aload_n hx hb d_Ref_put_12 rfl (lv_at hl 0 rfl) ?_
      refine va_get (D := D) (ci := 11) (v := .ref bG) (C := "MappedProcessorModel") (T := T_Ref) (N := 14) hx hb hB iw_Ref hown hK hP 0 rfl rfl 0 (by decide) (hB _ mw_643) (fun _ h9 => h9) rfl d_Ref_put_13 ?_
      refine lv_iload_n hx hb d_Ref_put_16 rfl (lv_at hl 1 rfl) ?_
      refine lv_iload_n hx hb d_Ref_put_17 rfl (lv_at hl 2 rfl) ?_
      refine k_iast (j := (ix p0)) hx hb hK hP hD hS 1 0 rfl rfl rfl (ix_rng3 h1 h2) d_Ref_put_18 (fun H locs hP hD hS => ?_)
      have hP : va_P D kCl [(aT, .inr (11, [.ref bG, .ref bS, .ref bM, .int rl, .int rk, .int rr, .int re, .int rc, .int rd, .int ra, .int rb, .int rn, .int rf, .int rw])), (bG, .inl (dG, 32, .inl (upd rg (ix p0) p1))), (bS, .inl (dS, 48, .inl rs)), (bM, .inl (dM, 16384, .inl rm))] H := hP
      have hD : va_D A [(aT, .inr (11, [.ref bG, .ref bS, .ref bM, .int rl, .int rk, .int rr, .int re, .int rc, .int rd, .int ra, .int rb, .int rn, .int rf, .int rw])), (bG, .inl (dG, 32, .inl (upd rg (ix p0) p1))), (bS, .inl (dS, 48, .inl rs)), (bM, .inl (dM, 16384, .inl rm))] := hD
      refine lv_iconst (v := (1 : Int32)) hx hb d_Ref_put_19 (by decide) ?_
      have ef : f_Ref_put p0 p1 rg = ((1 : Int32), (upd rg (ix p0) p1)) := by unfold f_Ref_put; rw [if_neg h1, if_pos h2]
      exact k_zret hx hb hr hlocks hK hP hD hS [0, 1, 2, 3] rfl (by rw [ef] <;> rfl) (by rw [ef] <;> rfl) nb1 d_Ref_put_20
    · refine lv_iconst (v := (0 : Int32)) hx hb d_Ref_put_10 (by decide) ?_
      have ef : f_Ref_put p0 p1 rg = ((0 : Int32), rg) := by unfold f_Ref_put; rw [if_neg h1, if_neg h2]
      exact k_zret hx hb hr hlocks hK hP hD hS [0, 1, 2, 3] rfl (by rw [ef] <;> rfl) (by rw [ef] <;> rfl) nb0 d_Ref_put_11
/-! MappedProcessorModel.general(I)I -/
theorem d_Ref_general_0 : decode b_Ref_general 0 = .ok (.iload_n 1, 1) := by decide +kernel
theorem d_Ref_general_1 : decode b_Ref_general 1 = .ok (.ifCond .lt 9, 3) := by decide +kernel
theorem d_Ref_general_4 : decode b_Ref_general 4 = .ok (.iload_n 1, 1) := by decide +kernel
theorem d_Ref_general_5 : decode b_Ref_general 5 = .ok (.bipush 31, 2) := by decide +kernel
theorem d_Ref_general_7 : decode b_Ref_general 7 = .ok (.if_icmp .le 7, 3) := by decide +kernel
theorem d_Ref_general_10 : decode b_Ref_general 10 = .ok (.iconst 0, 1) := by decide +kernel
theorem d_Ref_general_11 : decode b_Ref_general 11 = .ok (.goto 9, 3) := by decide +kernel
theorem d_Ref_general_14 : decode b_Ref_general 14 = .ok (.aload_n 0, 1) := by decide +kernel
theorem d_Ref_general_15 : decode b_Ref_general 15 = .ok (.getfield 7, 3) := by decide +kernel
theorem d_Ref_general_18 : decode b_Ref_general 18 = .ok (.iload_n 1, 1) := by decide +kernel
theorem d_Ref_general_19 : decode b_Ref_general 19 = .ok (.iaload, 1) := by decide +kernel
theorem d_Ref_general_20 : decode b_Ref_general 20 = .ok (.ireturn, 1) := by decide +kernel
def f_Ref_general (p0 : Int32) (rg : Nat → Int32) : Int32 :=
  (if p0 < (0 : Int32) then (0 : Int32) else (if p0 ≤ (31 : Int32) then (rg (ix p0)) else (0 : Int32)))
set_option maxHeartbeats 4000000 in
set_option maxRecDepth 100000 in
theorem c_Ref_general (l : Launch) (D : va_G) (aT bG bS bM : Nat) (dG dS dM : ClassId) (rg : Nat → Int32) (rs : Nat → Int32) (rm : Nat → Int32) (rl : Int32) (rk : Int32) (rr : Int32) (re : Int32) (rc : Int32) (rd : Int32) (ra : Int32) (rb : Int32) (rn : Int32) (rf : Int32) (rw : Int32) (p0 : Int32) : kMi l y_Ref_general b_Ref_general 2 (some .int) 0 0 D kCl [(dG, .int), (dS, .int), (dM, .int)] [.ref aT, .int p0] [(aT, .inr (11, [.ref bG, .ref bS, .ref bM, .int rl, .int rk, .int rr, .int re, .int rc, .int rd, .int ra, .int rb, .int rn, .int rf, .int rw])), (bG, .inl (dG, 32, .inl rg)), (bS, .inl (dS, 48, .inl rs)), (bM, .inl (dM, 16384, .inl rm))] (f_Ref_general p0 rg) [(aT, .inr (11, [.ref bG, .ref bS, .ref bM, .int rl, .int rk, .int rr, .int re, .int rc, .int rd, .int ra, .int rb, .int rn, .int rf, .int rw])), (bG, .inl (dG, 32, .inl rg)), (bS, .inl (dS, 48, .inl rs)), (bM, .inl (dM, 16384, .inl rm))] := by
  refine k_entry (Qc := fun A => kQi D kCl [(dG, .int), (dS, .int), (dM, .int)] (f_Ref_general p0 rg) [(aT, .inr (11, [.ref bG, .ref bS, .ref bM, .int rl, .int rk, .int rr, .int re, .int rc, .int rd, .int ra, .int rb, .int rn, .int rf, .int rw])), (bG, .inl (dG, 32, .inl rg)), (bS, .inl (dS, 48, .inl rs)), (bM, .inl (dM, 16384, .inl rm))] A) (lv := [(0, .ref aT), (1, .int p0)]) (by decide) (Nat.le_of_ble_eq_true rfl) rfl ?_
  intro p e s m below meth c A ls hx hb hr hml hB hown hlocks hin hA hK hN hP hD hS hl
  have hown : s.vm.findClass "MappedProcessorModel" = some m.cls := hown
  refine lv_iload_n hx hb d_Ref_general_0 rfl (lv_at hl 1 rfl) ?_
  refine k_join2 (c0 := p0 < (0 : Int32)) (x1 := (0 : Int32)) (x2 := (if p0 ≤ (31 : Int32) then (rg (ix p0)) else (0 : Int32))) (rest := []) 20 ?_ (fun k2 k3 => ?_)
  rotate_left
  · refine lv_if_lt (tgt := 10) hx hb d_Ref_general_1 (by decide) (fun (h1 : p0 < (0 : Int32)) => ?_) (fun (h1 : ¬ p0 < (0 : Int32)) => ?_)
    · refine lv_iconst (v := (0 : Int32)) hx hb d_Ref_general_10 (by decide) ?_
      refine lv_goto (tgt := 20) hx hb d_Ref_general_11 (by decide) ?_
      exact k2 h1
    · refine lv_iload_n hx hb d_Ref_general_4 rfl (lv_at hl 1 rfl) ?_
      refine lv_bipush (v := (31 : Int32)) hx hb d_Ref_general_5 (by decide) ?_
      refine k_join2 (c0 := p0 ≤ (31 : Int32)) (x1 := (rg (ix p0))) (x2 := (0 : Int32)) (rest := []) 20 ?_ (fun k5 k6 => ?_)
      rotate_left
      · refine lv_icmp_le (tgt := 14) hx hb d_Ref_general_7 (by decide) (fun (h4 : p0 ≤ (31 : Int32)) => ?_) (fun (h4 : ¬ p0 ≤ (31 : Int32)) => ?_)
        · refine lv_aload_n hx hb d_Ref_general_14 rfl (lv_at hl 0 rfl) ?_
          refine va_get (D := D) (ci := 11) (v := .ref bG) (C := "MappedProcessorModel") (T := T_Ref) (N := 14) hx hb hB iw_Ref hown hK hP 0 rfl rfl 0 (by decide) (hB _ mw_643) (fun _ h9 => h9) rfl d_Ref_general_15 ?_
          refine lv_iload_n hx hb d_Ref_general_18 rfl (lv_at hl 1 rfl) ?_
          refine k_iald (j := (ix p0)) hx hb hK hP 1 0 rfl rfl rfl (ix_rng3 h1 h4) d_Ref_general_19 ?_
          exact k5 h4
        · refine lv_iconst (v := (0 : Int32)) hx hb d_Ref_general_10 (by decide) ?_
          refine lv_goto (tgt := 20) hx hb d_Ref_general_11 (by decide) ?_
          exact k6 h4
      exact k3 h1
  have ef : f_Ref_general p0 rg = (if p0 < (0 : Int32) then (0 : Int32) else (if p0 ≤ (31 : Int32) then (rg (ix p0)) else (0 : Int32))) := rfl
  exact k_iret hx hb hr hlocks hK hP hD hS [0, 1, 2, 3] rfl rfl (by rw [ef] <;> rfl) d_Ref_general_20
/-! MappedProcessorModel.isSpecial(I)Z -/
theorem d_Ref_isSpecial_0 : decode b_Ref_isSpecial 0 = .ok (.iload_n 0, 1) := by decide +kernel
theorem d_Ref_isSpecial_1 : decode b_Ref_isSpecial 1 = .ok (.ifCond .lt 9, 3) := by decide +kernel
theorem d_Ref_isSpecial_4 : decode b_Ref_isSpecial 4 = .ok (.iload_n 0, 1) := by decide +kernel
theorem d_Ref_isSpecial_5 : decode b_Ref_isSpecial 5 = .ok (.bipush 10, 2) := by decide +kernel
theorem d_Ref_isSpecial_7 : decode b_Ref_isSpecial 7 = .ok (.if_icmp .le 15, 3) := by decide +kernel
theorem d_Ref_isSpecial_10 : decode b_Ref_isSpecial 10 = .ok (.iload_n 0, 1) := by decide +kernel
theorem d_Ref_isSpecial_11 : decode b_Ref_isSpecial 11 = .ok (.bipush 16, 2) := by decide +kernel
theorem d_Ref_isSpecial_13 : decode b_Ref_isSpecial 13 = .ok (.if_icmp .lt 13, 3) := by decide +kernel
theorem d_Ref_isSpecial_16 : decode b_Ref_isSpecial 16 = .ok (.iload_n 0, 1) := by decide +kernel
theorem d_Ref_isSpecial_17 : decode b_Ref_isSpecial 17 = .ok (.bipush 47, 2) := by decide +kernel
theorem d_Ref_isSpecial_19 : decode b_Ref_isSpecial 19 = .ok (.if_icmp .gt 7, 3) := by decide +kernel
theorem d_Ref_isSpecial_22 : decode b_Ref_isSpecial 22 = .ok (.iconst 1, 1) := by decide +kernel
theorem d_Ref_isSpecial_23 : decode b_Ref_isSpecial 23 = .ok (.goto 4, 3) := by decide +kernel
theorem d_Ref_isSpecial_26 : decode b_Ref_isSpecial 26 = .ok (.iconst 0, 1) := by decide +kernel
theorem d_Ref_isSpecial_27 : decode b_Ref_isSpecial 27 = .ok (.ireturn, 1) := by decide +kernel
def f_Ref_isSpecial (p0 : Int32) : Int32 :=
  (if p0 < (0 : Int32) then (if p0 < (16 : Int32) then (0 : Int32) else (if (47 : Int32) < p0 then (0 : Int32) else (1 : Int32))) else (if p0 ≤ (10 : Int32) then (1 : Int32) else (if p0 < (16 : Int32) then (0 : Int32) else (if (47 : Int32) < p0 then (0 : Int32) else (1 : Int32)))))
set_option maxHeartbeats 4000000 in
set_option maxRecDepth 100000 in
theorem ib_Ref_isSpecial (p0 : Int32) : isB (f_Ref_isSpecial p0) := by
  unfold f_Ref_isSpecial
  try dsimp only
  repeat' (first | refine ib_ite ?_ ?_ | refine ib_ite0 ?_ ?_ | with_reducible exact ib0 | with_reducible exact ib1 | (dsimp only; first | exact ib0 | exact ib1))
theorem nb_Ref_isSpecial (p0 : Int32) : narrow .boolean (.int (f_Ref_isSpecial p0)) = .int (f_Ref_isSpecial p0) := nb_of (ib_Ref_isSpecial p0)
set_option maxHeartbeats 4000000 in
set_option maxRecDepth 100000 in
theorem c_Ref_isSpecial (l : Launch) (D : va_G) (p0 : Int32) : kMi l y_Ref_isSpecial b_Ref_isSpecial 1 (some .boolean) 0 0 D kCl [] [.int p0] [] (f_Ref_isSpecial p0) [] := by
  refine k_entry (Qc := fun A => kQi D kCl [] (f_Ref_isSpecial p0) [] A) (lv := [(0, .int p0)]) (by decide) (Nat.le_of_ble_eq_true rfl) rfl ?_
  intro p e s m below meth c A ls hx hb hr hml hB hown hlocks hin hA hK hN hP hD hS hl
  have hown : s.vm.findClass "MappedProcessorModel" = some m.cls := hown
  refine lv_iload_n hx hb d_Ref_isSpecial_0 rfl (lv_at hl 0 rfl) ?_
  refine k_join2 (c0 := p0 < (0 : Int32)) (x1 := (if p0 < (16 : Int32) then (0 : Int32) else (if (47 : Int32) < p0 then (0 : Int32) else (1 : Int32)))) (x2 := (if p0 ≤ (10 : Int32) then (1 : Int32) else (if p0 < (16 : Int32) then (0 : Int32) else (if (47 : Int32) < p0 then (0 : Int32) else (1 : Int32))))) (rest := []) 27 ?_ (fun k2 k3 => ?_)
  rotate_left
  · refine lv_if_lt (tgt := 10) hx hb d_Ref_isSpecial_1 (by decide) (fun (h1 : p0 < (0 : Int32)) => ?_) (fun (h1 : ¬ p0 < (0 : Int32)) => ?_)
    · refine lv_iload_n hx hb d_Ref_isSpecial_10 rfl (lv_at hl 0 rfl) ?_
      refine lv_bipush (v := (16 : Int32)) hx hb d_Ref_isSpecial_11 (by decide) ?_
      refine k_join2 (c0 := p0 < (16 : Int32)) (x1 := (0 : Int32)) (x2 := (if (47 : Int32) < p0 then (0 : Int32) else (1 : Int32))) (rest := []) 27 ?_ (fun k5 k6 => ?_)
      rotate_left
      · refine lv_icmp_lt (tgt := 26) hx hb d_Ref_isSpecial_13 (by decide) (fun (h4 : p0 < (16 : Int32)) => ?_) (fun (h4 : ¬ p0 < (16 : Int32)) => ?_)
        · refine lv_iconst (v := (0 : Int32)) hx hb d_Ref_isSpecial_26 (by decide) ?_
          exact k5 h4
        · refine lv_iload_n hx hb d_Ref_isSpecial_16 rfl (lv_at hl 0 rfl) ?_
          refine lv_bipush (v := (47 : Int32)) hx hb d_Ref_isSpecial_17 (by decide) ?_
          refine k_join2 (c0 := (47 : Int32) < p0) (x1 := (0 : Int32)) (x2 := (1 : Int32)) (rest := []) 27 ?_ (fun k8 k9 => ?_)
          rotate_left
          · refine lv_icmp_gt (tgt := 26) hx hb d_Ref_isSpecial_19 (by decide) (fun (h7 : (47 : Int32) < p0) => ?_) (fun (h7 : ¬ (47 : Int32) < p0) => ?_)
            · refine lv_iconst (v := (0 : Int32)) hx hb d_Ref_isSpecial_26 (by decide) ?_
              exact k8 h7
            · refine lv_iconst (v := (1 : Int32)) hx hb d_Ref_isSpecial_22 (by decide) ?_
              refine lv_goto (tgt := 27) hx hb d_Ref_isSpecial_23 (by decide) ?_
              exact k9 h7
          exact k6 h4
      exact k2 h1
    · refine lv_iload_n hx hb d_Ref_isSpecial_4 rfl (lv_at hl 0 rfl) ?_
      refine lv_bipush (v := (10 : Int32)) hx hb d_Ref_isSpecial_5 (by decide) ?_
      refine k_join2 (c0 := p0 ≤ (10 : Int32)) (x1 := (1 : Int32)) (x2 := (if p0 < (16 : Int32) then (0 : Int32) else (if (47 : Int32) < p0 then (0 : Int32) else (1 : Int32)))) (rest := []) 27 ?_ (fun k15 k16 => ?_)
      rotate_left
      · refine lv_icmp_le (tgt := 22) hx hb d_Ref_isSpecial_7 (by decide) (fun (h14 : p0 ≤ (10 : Int32)) => ?_) (fun (h14 : ¬ p0 ≤ (10 : Int32)) => ?_)
        · refine lv_iconst (v := (1 : Int32)) hx hb d_Ref_isSpecial_22 (by decide) ?_
          refine lv_goto (tgt := 27) hx hb d_Ref_isSpecial_23 (by decide) ?_
          exact k15 h14
        · refine lv_iload_n hx hb d_Ref_isSpecial_10 rfl (lv_at hl 0 rfl) ?_
          refine lv_bipush (v := (16 : Int32)) hx hb d_Ref_isSpecial_11 (by decide) ?_
          refine k_join2 (c0 := p0 < (16 : Int32)) (x1 := (0 : Int32)) (x2 := (if (47 : Int32) < p0 then (0 : Int32) else (1 : Int32))) (rest := []) 27 ?_ (fun k18 k19 => ?_)
          rotate_left
          · refine lv_icmp_lt (tgt := 26) hx hb d_Ref_isSpecial_13 (by decide) (fun (h17 : p0 < (16 : Int32)) => ?_) (fun (h17 : ¬ p0 < (16 : Int32)) => ?_)
            · refine lv_iconst (v := (0 : Int32)) hx hb d_Ref_isSpecial_26 (by decide) ?_
              exact k18 h17
            · refine lv_iload_n hx hb d_Ref_isSpecial_16 rfl (lv_at hl 0 rfl) ?_
              refine lv_bipush (v := (47 : Int32)) hx hb d_Ref_isSpecial_17 (by decide) ?_
              refine k_join2 (c0 := (47 : Int32) < p0) (x1 := (0 : Int32)) (x2 := (1 : Int32)) (rest := []) 27 ?_ (fun k21 k22 => ?_)
              rotate_left
              · refine lv_icmp_gt (tgt := 26) hx hb d_Ref_isSpecial_19 (by decide) (fun (h20 : (47 : Int32) < p0) => ?_) (fun (h20 : ¬ (47 : Int32) < p0) => ?_)
                · refine lv_iconst (v := (0 : Int32)) hx hb d_Ref_isSpecial_26 (by decide) ?_
                  exact k21 h20
                · refine lv_iconst (v := (1 : Int32)) hx hb d_Ref_isSpecial_22 (by decide) ?_
                  refine lv_goto (tgt := 27) hx hb d_Ref_isSpecial_23 (by decide) ?_
                  exact k22 h20
              exact k19 h17
          exact k16 h14
      exact k3 h1
  have ef : f_Ref_isSpecial p0 = (if p0 < (0 : Int32) then (if p0 < (16 : Int32) then (0 : Int32) else (if (47 : Int32) < p0 then (0 : Int32) else (1 : Int32))) else (if p0 ≤ (10 : Int32) then (1 : Int32) else (if p0 < (16 : Int32) then (0 : Int32) else (if (47 : Int32) < p0 then (0 : Int32) else (1 : Int32))))) := rfl
  exact k_zret hx hb hr hlocks hK hP hD hS [] rfl rfl (by rw [ef] <;> rfl) (nb_ite (nb_ite nb0 (nb_ite nb0 nb1)) (nb_ite nb1 (nb_ite nb0 (nb_ite nb0 nb1)))) d_Ref_isSpecial_27
/-! MappedProcessorModel.set(II)Z -/
theorem d_Ref_set_0 : decode b_Ref_set 0 = .ok (.iload_n 1, 1) := by decide +kernel
theorem d_Ref_set_1 : decode b_Ref_set 1 = .ok (.invokestatic 227, 3) := by decide +kernel
theorem d_Ref_set_4 : decode b_Ref_set 4 = .ok (.ifCond .ne 5, 3) := by decide +kernel
theorem d_Ref_set_7 : decode b_Ref_set 7 = .ok (.iconst 0, 1) := by decide +kernel
theorem d_Ref_set_8 : decode b_Ref_set 8 = .ok (.ireturn, 1) := by decide +kernel
theorem d_Ref_set_9 : decode b_Ref_set 9 = .ok (.aload_n 0, 1) := by decide +kernel
theorem d_Ref_set_10 : decode b_Ref_set 10 = .ok (.getfield 13, 3) := by decide +kernel
theorem d_Ref_set_13 : decode b_Ref_set 13 = .ok (.iload_n 1, 1) := by decide +kernel
theorem d_Ref_set_14 : decode b_Ref_set 14 = .ok (.iload_n 1, 1) := by decide +kernel
theorem d_Ref_set_15 : decode b_Ref_set 15 = .ok (.ifCond .ne 10, 3) := by decide +kernel
theorem d_Ref_set_18 : decode b_Ref_set 18 = .ok (.iload_n 2, 1) := by decide +kernel
theorem d_Ref_set_19 : decode b_Ref_set 19 = .ok (.bipush (-4), 2) := by decide +kernel
theorem d_Ref_set_21 : decode b_Ref_set 21 = .ok (.iand, 1) := by decide +kernel
theorem d_Ref_set_22 : decode b_Ref_set 22 = .ok (.goto 4, 3) := by decide +kernel
theorem d_Ref_set_25 : decode b_Ref_set 25 = .ok (.iload_n 2, 1) := by decide +kernel
theorem d_Ref_set_26 : decode b_Ref_set 26 = .ok (.iastore, 1) := by decide +kernel
theorem d_Ref_set_27 : decode b_Ref_set 27 = .ok (.iconst 1, 1) := by decide +kernel
theorem d_Ref_set_28 : decode b_Ref_set 28 = .ok (.ireturn, 1) := by decide +kernel
def f_Ref_set (p0 : Int32) (p1 : Int32) (rs : Nat → Int32) : Int32 × (Nat → Int32) :=
  if (f_Ref_isSpecial p0) = (0 : Int32) then
    ((0 : Int32), rs)
  else
    ((1 : Int32), (upd rs (ix p0) (if p0 = (0 : Int32) then (p1 &&& (-4 : Int32)) else p1)))
set_option maxHeartbeats 4000000 in
set_option maxRecDepth 100000 in
theorem ib_Ref_set (p0 : Int32) (p1 : Int32) (rs : Nat → Int32) : isB (f_Ref_set p0 p1 rs).1 := by
  unfold f_Ref_set
  try dsimp only
  repeat' (first | refine ib_ite ?_ ?_ | refine ib_ite0 ?_ ?_ | with_reducible exact ib0 | with_reducible exact ib1 | with_reducible exact ib_Ref_isSpecial _ | (dsimp only; first | exact ib0 | exact ib1))
theorem nb_Ref_set (p0 : Int32) (p1 : Int32) (rs : Nat → Int32) : narrow .boolean (.int (f_Ref_set p0 p1 rs).1) = .int (f_Ref_set p0 p1 rs).1 := nb_of (ib_Ref_set p0 p1 rs)
theorem ix_special {p0 : Int32} (h : ¬ f_Ref_isSpecial p0 = 0) : vp_in p0 48 := by
  unfold f_Ref_isSpecial at h
  by_cases h1 : p0 < 0
  · have h2 : p0 < 16 := by
      rw [Int32.lt_iff_toInt_lt] at h1 ⊢
      have e1 : (0 : Int32).toInt = 0 := by decide
      have e2 : (16 : Int32).toInt = 16 := by decide
      omega
    rw [if_pos h1, if_pos h2] at h
    exact absurd rfl h
  · by_cases h2 : p0 ≤ 10
    · exact ix_rng3w h1 h2 (by decide)
    · rw [if_neg h1, if_neg h2] at h
      by_cases h3 : p0 < 16
      · rw [if_pos h3] at h; exact absurd rfl h
      · by_cases h4 : 47 < p0
        · rw [if_neg h3, if_pos h4] at h; exact absurd rfl h
        · exact ix_rng2 h1 h4
set_option maxHeartbeats 4000000 in
set_option maxRecDepth 100000 in
theorem c_Ref_set (l : Launch) (D : va_G) (aT bG bS bM : Nat) (dG dS dM : ClassId) (rg : Nat → Int32) (rs : Nat → Int32) (rm : Nat → Int32) (rl : Int32) (rk : Int32) (rr : Int32) (re : Int32) (rc : Int32) (rd : Int32) (ra : Int32) (rb : Int32) (rn : Int32) (rf : Int32) (rw : Int32) (p0 : Int32) (p1 : Int32) : kMi l y_Ref_set b_Ref_set 3 (some .boolean) 1 20 D kCl [(dG, .int), (dS, .int), (dM, .int)] [.ref aT, .int p0, .int p1] [(aT, .inr (11, [.ref bG, .ref bS, .ref bM, .int rl, .int rk, .int rr, .int re, .int rc, .int rd, .int ra, .int rb, .int rn, .int rf, .int rw])), (bG, .inl (dG, 32, .inl rg)), (bS, .inl (dS, 48, .inl rs)), (bM, .inl (dM, 16384, .inl rm))] (f_Ref_set p0 p1 rs).1 [(aT, .inr (11, [.ref bG, .ref bS, .ref bM, .int rl, .int rk, .int rr, .int re, .int rc, .int rd, .int ra, .int rb, .int rn, .int rf, .int rw])), (bG, .inl (dG, 32, .inl rg)), (bS, .inl (dS, 48, .inl (f_Ref_set p0 p1 rs).2)), (bM, .inl (dM, 16384, .inl rm))] := by
  refine k_entry (Qc := fun A => kQi D kCl [(dG, .int), (dS, .int), (dM, .int)] (f_Ref_set p0 p1 rs).1 [(aT, .inr (11, [.ref bG, .ref bS, .ref bM, .int rl, .int rk, .int rr, .int re, .int rc, .int rd, .int ra, .int rb, .int rn, .int rf, .int rw])), (bG, .inl (dG, 32, .inl rg)), (bS, .inl (dS, 48, .inl (f_Ref_set p0 p1 rs).2)), (bM, .inl (dM, 16384, .inl rm))] A) (lv := [(0, .ref aT), (1, .int p0), (2, .int p1)]) (by decide) (Nat.le_of_ble_eq_true rfl) rfl ?_
  intro p e s m below meth c A ls hx hb hr hml hB hown hlocks hin hA hK hN hP hD hS hl
  have hown : s.vm.findClass "MappedProcessorModel" = some m.cls := hown
  refine lv_iload_n hx hb d_Ref_set_0 rfl (lv_at hl 1 rfl) ?_
  refine k_cSi (As := [.int p0]) (rest := []) (wr := [(aT, .inr (11, [.ref bG, .ref bS, .ref bM, .int rl, .int rk, .int rr, .int re, .int rc, .int rd, .int ra, .int rb, .int rn, .int rf, .int rw])), (bG, .inl (dG, 32, .inl rg)), (bS, .inl (dS, 48, .inl rs)), (bM, .inl (dM, 16384, .inl rm))]) (wj := [(aT, .inr (11, [.ref bG, .ref bS, .ref bM, .int rl, .int rk, .int rr, .int re, .int rc, .int rd, .int ra, .int rb, .int rn, .int rf, .int rw])), (bG, .inl (dG, 32, .inl rg)), (bS, .inl (dS, 48, .inl rs)), (bM, .inl (dM, 16384, .inl rm))]) ⟨hx, hb, hml, hown, hB⟩ (c_Ref_isSpecial l D p0) yl_Ref_isSpecial mw_706 hK hN hP hD hS hA [] [] [0, 1, 2, 3] [0, 1, 2, 3] rfl rfl rfl rfl (by decide +kernel) rfl hl.1 rfl (Nat.le_of_ble_eq_true rfl) ⟨Nat.le_of_ble_eq_true rfl, Nat.le_of_ble_eq_true rfl⟩ d_Ref_set_1 ⟨Nat.le_of_ble_eq_true rfl, Nat.le_of_ble_eq_true rfl⟩ (fun H locs hP hD hS => ?_)
  refine lv_if_ne (tgt := 9) hx hb d_Ref_set_4 (by decide) (fun (h1 : ¬ (f_Ref_isSpecial p0) = (0 : Int32)) => ?_) (fun (h1 : (f_Ref_isSpecial p0) = (0 : Int32)) => ?_)
  · refine lv_aload_n hx hb d_Ref_set_9 rfl (lv_at hl 0 rfl) ?_
    refine va_get (D := D) (ci := 11) (v := .ref bS) (C := "MappedProcessorModel") (T := T_Ref) (N := 14) hx hb hB iw_Ref hown hK hP 0 rfl rfl 1 (by decide) (hB _ mw_644) (fun _ h9 => h9) rfl d_Ref_set_10 ?_
    refine lv_iload_n hx hb d_Ref_set_13 rfl (lv_at hl 1 rfl) ?_
    refine lv_iload_n hx hb d_Ref_set_14 rfl (lv_at hl 1 rfl) ?_
    refine k_join2 (c0 := p0 = (0 : Int32)) (x1 := (p1 &&& (-4 : Int32))) (x2 := p1) (rest := [.int p0, .ref bS]) 26 ?_ (fun k3 k4 => ?_)
    rotate_left
    · refine lv_if_ne (tgt := 25) hx hb d_Ref_set_15 (by decide) (fun (h2 : ¬ p0 = (0 : Int32)) => ?_) (fun (h2 : p0 = (0 : Int32)) => ?_)
      · refine lv_iload_n hx hb d_Ref_set_25 rfl (lv_at hl 2 rfl) ?_
        exact k4 h2
      · refine lv_iload_n hx hb d_Ref_set_18 rfl (lv_at hl 2 rfl) ?_
        refine lv_bipush (v := (-4 : Int32)) hx hb d_Ref_set_19 (by decide) ?_
        refine lv_iand hx hb d_Ref_set_21 ?_
        refine lv_goto (tgt := 26) hx hb d_Ref_set_22 (by decide) ?_
        exact k3 h2
    refine k_iast (j := (ix p0)) hx hb hK hP hD hS 2 1 rfl rfl rfl (ix_special h1) d_Ref_set_26 (fun H locs hP hD hS => ?_)
    have hP : va_P D kCl [(aT, .inr (11, [.ref bG, .ref bS, .ref bM, .int rl, .int rk, .int rr, .int re, .int rc, .int rd, .int ra, .int rb, .int rn, .int rf, .int rw])), (bG, .inl (dG, 32, .inl rg)), (bS, .inl (dS, 48, .inl (upd rs (ix p0) (if p0 = (0 : Int32) then (p1 &&& (-4 : Int32)) else p1)))), (bM, .inl (dM, 16384, .inl rm))] H := hP
    have hD : va_D A [(aT, .inr (11, [.ref bG, .ref bS, .ref bM, .int rl, .int rk, .int rr, .int re, .int rc, .int rd, .int ra, .int rb, .int rn, .int rf, .int rw])), (bG, .inl (dG, 32, .inl rg)), (bS, .inl (dS, 48, .inl (upd rs (ix p0) (if p0 = (0 : Int32) then (p1 &&& (-4 : Int32)) else p1)))), (bM, .inl (dM, 16384, .inl rm))] := hD
    refine lv_iconst (v := (1 : Int32)) hx hb d_Ref_set_27 (by decide) ?_
    have ef : f_Ref_set p0 p1 rs = ((1 : Int32), (upd rs (ix p0) (if p0 = (0 : Int32) then (p1 &&& (-4 : Int32)) else p1))) := by unfold f_Ref_set; rw [if_neg h1]
    exact k_zret hx hb hr hlocks hK hP hD hS [0, 1, 2, 3] rfl (by rw [ef] <;> rfl) (by rw [ef] <;> rfl) nb1 d_Ref_set_28
  · refine lv_iconst (v := (0 : Int32)) hx hb d_Ref_set_7 (by decide) ?_
    have ef : f_Ref_set p0 p1 rs = ((0 : Int32), rs) := by unfold f_Ref_set; rw [if_pos h1]
    exact k_zret hx hb hr hlocks hK hP hD hS [0, 1, 2, 3] rfl (by rw [ef] <;> rfl) (by rw [ef] <;> rfl) nb0 d_Ref_set_8
/-! MappedProcessorModel.special(I)I -/
theorem d_Ref_special_0 : decode b_Ref_special 0 = .ok (.iload_n 1, 1) := by decide +kernel
theorem d_Ref_special_1 : decode b_Ref_special 1 = .ok (.invokestatic 227, 3) := by decide +kernel
theorem d_Ref_special_4 : decode b_Ref_special 4 = .ok (.ifCond .eq 12, 3) := by decide +kernel
theorem d_Ref_special_7 : decode b_Ref_special 7 = .ok (.aload_n 0, 1) := by decide +kernel
theorem d_Ref_special_8 : decode b_Ref_special 8 = .ok (.getfield 13, 3) := by decide +kernel
theorem d_Ref_special_11 : decode b_Ref_special 11 = .ok (.iload_n 1, 1) := by decide +kernel
theorem d_Ref_special_12 : decode b_Ref_special 12 = .ok (.iaload, 1) := by decide +kernel
theorem d_Ref_special_13 : decode b_Ref_special 13 = .ok (.goto 4, 3) := by decide +kernel
theorem d_Ref_special_16 : decode b_Ref_special 16 = .ok (.iconst 0, 1) := by decide +kernel
theorem d_Ref_special_17 : decode b_Ref_special 17 = .ok (.ireturn, 1) := by decide +kernel
def f_Ref_special (p0 : Int32) (rs : Nat → Int32) : Int32 :=
  (if (f_Ref_isSpecial p0) = (0 : Int32) then (0 : Int32) else (rs (ix p0)))
set_option maxHeartbeats 4000000 in
set_option maxRecDepth 100000 in
theorem c_Ref_special (l : Launch) (D : va_G) (aT bG bS bM : Nat) (dG dS dM : ClassId) (rg : Nat → Int32) (rs : Nat → Int32) (rm : Nat → Int32) (rl : Int32) (rk : Int32) (rr : Int32) (re : Int32) (rc : Int32) (rd : Int32) (ra : Int32) (rb : Int32) (rn : Int32) (rf : Int32) (rw : Int32) (p0 : Int32) : kMi l y_Ref_special b_Ref_special 2 (some .int) 1 20 D kCl [(dG, .int), (dS, .int), (dM, .int)] [.ref aT, .int p0] [(aT, .inr (11, [.ref bG, .ref bS, .ref bM, .int rl, .int rk, .int rr, .int re, .int rc, .int rd, .int ra, .int rb, .int rn, .int rf, .int rw])), (bG, .inl (dG, 32, .inl rg)), (bS, .inl (dS, 48, .inl rs)), (bM, .inl (dM, 16384, .inl rm))] (f_Ref_special p0 rs) [(aT, .inr (11, [.ref bG, .ref bS, .ref bM, .int rl, .int rk, .int rr, .int re, .int rc, .int rd, .int ra, .int rb, .int rn, .int rf, .int rw])), (bG, .inl (dG, 32, .inl rg)), (bS, .inl (dS, 48, .inl rs)), (bM, .inl (dM, 16384, .inl rm))] := by
  refine k_entry (Qc := fun A => kQi D kCl [(dG, .int), (dS, .int), (dM, .int)] (f_Ref_special p0 rs) [(aT, .inr (11, [.ref bG, .ref bS, .ref bM, .int rl, .int rk, .int rr, .int re, .int rc, .int rd, .int ra, .int rb, .int rn, .int rf, .int rw])), (bG, .inl (dG, 32, .inl rg)), (bS, .inl (dS, 48, .inl rs)), (bM, .inl (dM, 16384, .inl rm))] A) (lv := [(0, .ref aT), (1, .int p0)]) (by decide) (Nat.le_of_ble_eq_true rfl) rfl ?_
  intro p e s m below meth c A ls hx hb hr hml hB hown hlocks hin hA hK hN hP hD hS hl
  have hown : s.vm.findClass "MappedProcessorModel" = some m.cls := hown
  refine lv_iload_n hx hb d_Ref_special_0 rfl (lv_at hl 1 rfl) ?_
  refine k_cSi (As := [.int p0]) (rest := []) (wr := [(aT, .inr (11, [.ref bG, .ref bS, .ref bM, .int rl, .int rk, .int rr, .int re, .int rc, .int rd, .int ra, .int rb, .int rn, .int rf, .int rw])), (bG, .inl (dG, 32, .inl rg)), (bS, .inl (dS, 48, .inl rs)), (bM, .inl (dM, 16384, .inl rm))]) (wj := [(aT, .inr (11, [.ref bG, .ref bS, .ref bM, .int rl, .int rk, .int rr, .int re, .int rc, .int rd, .int ra, .int rb, .int rn, .int rf, .int rw])), (bG, .inl (dG, 32, .inl rg)), (bS, .inl (dS, 48, .inl rs)), (bM, .inl (dM, 16384, .inl rm))]) ⟨hx, hb, hml, hown, hB⟩ (c_Ref_isSpecial l D p0) yl_Ref_isSpecial mw_706 hK hN hP hD hS hA [] [] [0, 1, 2, 3] [0, 1, 2, 3] rfl rfl rfl rfl (by decide +kernel) rfl hl.1 rfl (Nat.le_of_ble_eq_true rfl) ⟨Nat.le_of_ble_eq_true rfl, Nat.le_of_ble_eq_true rfl⟩ d_Ref_special_1 ⟨Nat.le_of_ble_eq_true rfl, Nat.le_of_ble_eq_true rfl⟩ (fun H locs hP hD hS => ?_)
  refine k_join2 (c0 := (f_Ref_isSpecial p0) = (0 : Int32)) (x1 := (0 : Int32)) (x2 := (rs (ix p0))) (rest := []) 17 ?_ (fun k2 k3 => ?_)
  rotate_left
  · refine lv_if_eq (tgt := 16) hx hb d_Ref_special_4 (by decide) (fun (h1 : (f_Ref_isSpecial p0) = (0 : Int32)) => ?_) (fun (h1 : ¬ (f_Ref_isSpecial p0) = (0 : Int32)) => ?_)
    · refine lv_iconst (v := (0 : Int32)) hx hb d_Ref_special_16 (by decide) ?_
      exact k2 h1
    · refine lv_aload_n hx hb d_Ref_special_7 rfl (lv_at hl 0 rfl) ?_
      refine va_get (D := D) (ci := 11) (v := .ref bS) (C := "MappedProcessorModel") (T := T_Ref) (N := 14) hx hb hB iw_Ref hown hK hP 0 rfl rfl 1 (by decide) (hB _ mw_644) (fun _ h9 => h9) rfl d_Ref_special_8 ?_
      refine lv_iload_n hx hb d_Ref_special_11 rfl (lv_at hl 1 rfl) ?_
      refine k_iald (j := (ix p0)) hx hb hK hP 2 1 rfl rfl rfl (ix_special h1) d_Ref_special_12 ?_
      refine lv_goto (tgt := 17) hx hb d_Ref_special_13 (by decide) ?_
      exact k3 h1
  have ef : f_Ref_special p0 rs = (if (f_Ref_isSpecial p0) = (0 : Int32) then (0 : Int32) else (rs (ix p0))) := rfl
  exact k_iret hx hb hr hlocks hK hP hD hS [0, 1, 2, 3] rfl rfl (by rw [ef] <;> rfl) d_Ref_special_17
/-! MappedProcessorModel.step(I)I -/
theorem d_Ref_step_0 : decode b_Ref_step 0 = .ok (.iload_n 1, 1) := by decide +kernel
theorem d_Ref_step_1 : decode b_Ref_step 1 = .ok (.iconst 1, 1) := by decide +kernel
theorem d_Ref_step_2 : decode b_Ref_step 2 = .ok (.if_icmp .lt 9, 3) := by decide +kernel
theorem d_Ref_step_5 : decode b_Ref_step 5 = .ok (.iload_n 1, 1) := by decide +kernel
theorem d_Ref_step_6 : decode b_Ref_step 6 = .ok (.bipush 50, 2) := by decide +kernel
theorem d_Ref_step_8 : decode b_Ref_step 8 = .ok (.if_icmp .le 5, 3) := by decide +kernel
theorem d_Ref_step_11 : decode b_Ref_step 11 = .ok (.iconst (-1), 1) := by decide +kernel
theorem d_Ref_step_12 : decode b_Ref_step 12 = .ok (.ireturn, 1) := by decide +kernel
theorem d_Ref_step_13 : decode b_Ref_step 13 = .ok (.iconst 0, 1) := by decide +kernel
theorem d_Ref_step_14 : decode b_Ref_step 14 = .ok (.istore_n 2, 1) := by decide +kernel
theorem d_Ref_step_15 : decode b_Ref_step 15 = .ok (.iconst 0, 1) := by decide +kernel
theorem d_Ref_step_16 : decode b_Ref_step 16 = .ok (.istore_n 3, 1) := by decide +kernel
theorem d_Ref_step_17 : decode b_Ref_step 17 = .ok (.iload_n 3, 1) := by decide +kernel
theorem d_Ref_step_18 : decode b_Ref_step 18 = .ok (.iload_n 1, 1) := by decide +kernel
theorem d_Ref_step_19 : decode b_Ref_step 19 = .ok (.if_icmp .ge 24, 3) := by decide +kernel
theorem d_Ref_step_22 : decode b_Ref_step 22 = .ok (.aload_n 0, 1) := by decide +kernel
theorem d_Ref_step_23 : decode b_Ref_step 23 = .ok (.invokevirtual 230, 3) := by decide +kernel
theorem d_Ref_step_26 : decode b_Ref_step 26 = .ok (.ifCond .eq 9, 3) := by decide +kernel
theorem d_Ref_step_29 : decode b_Ref_step 29 = .ok (.iload_n 2, 1) := by decide +kernel
theorem d_Ref_step_30 : decode b_Ref_step 30 = .ok (.iconst 1, 1) := by decide +kernel
theorem d_Ref_step_31 : decode b_Ref_step 31 = .ok (.iadd, 1) := by decide +kernel
theorem d_Ref_step_32 : decode b_Ref_step 32 = .ok (.goto 4, 3) := by decide +kernel
theorem d_Ref_step_35 : decode b_Ref_step 35 = .ok (.iload_n 2, 1) := by decide +kernel
theorem d_Ref_step_36 : decode b_Ref_step 36 = .ok (.istore_n 2, 1) := by decide +kernel
theorem d_Ref_step_37 : decode b_Ref_step 37 = .ok (.iinc 3 1, 3) := by decide +kernel
theorem d_Ref_step_40 : decode b_Ref_step 40 = .ok (.goto (-23), 3) := by decide +kernel
theorem d_Ref_step_43 : decode b_Ref_step 43 = .ok (.iload_n 2, 1) := by decide +kernel
theorem d_Ref_step_44 : decode b_Ref_step 44 = .ok (.ireturn, 1) := by decide +kernel
def f_Ref_step_lp  : Nat → Nat → Int32 → (Nat → Int32) → (Nat → Int32) → (Nat → Int32) → Int32 → Int32 → Int32 → Int32 → Int32 → Int32 → Int32 → Int32 → Int32 → Int32 → Int32 → Int32 × (Nat → Int32) × (Nat → Int32) × (Nat → Int32) × Int32 × Int32 × Int32 × Int32 × Int32 × Int32 × Int32 × Int32 × Int32 × Int32 × Int32
  | 0, j, x2, rgL, rsL, rmL, rlL, rkL, rrL, reL, rcL, rdL, raL, rbL, rnL, rfL, rwL => (x2, rgL, rsL, rmL, rlL, rkL, rrL, reL, rcL, rdL, raL, rbL, rnL, rfL, rwL)
  | n + 1, j, x2, rgL, rsL, rmL, rlL, rkL, rrL, reL, rcL, rdL, raL, rbL, rnL, rfL, rwL => let t5 := (f_Ref_one rgL rsL rmL rlL rkL rcL rdL raL rbL rwL)
    f_Ref_step_lp  n (j + 1) (if t5.1 = (0 : Int32) then x2 else (x2 + (1 : Int32))) t5.2.1 t5.2.2.1 t5.2.2.2.1 t5.2.2.2.2.1 t5.2.2.2.2.2.1 t5.2.2.2.2.2.2.1 t5.2.2.2.2.2.2.2.1 t5.2.2.2.2.2.2.2.2.1 t5.2.2.2.2.2.2.2.2.2.1 t5.2.2.2.2.2.2.2.2.2.2.1 t5.2.2.2.2.2.2.2.2.2.2.2.1 t5.2.2.2.2.2.2.2.2.2.2.2.2.1 t5.2.2.2.2.2.2.2.2.2.2.2.2.2.1 t5.2.2.2.2.2.2.2.2.2.2.2.2.2.2
def f_Ref_step (p0 : Int32) (rg : Nat → Int32) (rs : Nat → Int32) (rm : Nat → Int32) (rl : Int32) (rk : Int32) (rr : Int32) (re : Int32) (rc : Int32) (rd : Int32) (ra : Int32) (rb : Int32) (rn : Int32) (rf : Int32) (rw : Int32) : Int32 × (Nat → Int32) × (Nat → Int32) × (Nat → Int32) × Int32 × Int32 × Int32 × Int32 × Int32 × Int32 × Int32 × Int32 × Int32 × Int32 × Int32 :=
  if p0 < (1 : Int32) then
    ((-1 : Int32), rg, rs, rm, rl, rk, rr, re, rc, rd, ra, rb, rn, rf, rw)
  else
    if p0 ≤ (50 : Int32) then
      f_Ref_step_lp  (ix p0) 0 (0 : Int32) rg rs rm rl rk rr re rc rd ra rb rn rf rw
    else
      ((-1 : Int32), rg, rs, rm, rl, rk, rr, re, rc, rd, ra, rb, rn, rf, rw)
set_option maxHeartbeats 4000000 in
set_option maxRecDepth 100000 in
theorem c_Ref_step (l : Launch) (D : va_G) (aT bG bS bM : Nat) (dG dS dM : ClassId) (rg : Nat → Int32) (rs : Nat → Int32) (rm : Nat → Int32) (rl : Int32) (rk : Int32) (rr : Int32) (re : Int32) (rc : Int32) (rd : Int32) (ra : Int32) (rb : Int32) (rn : Int32) (rf : Int32) (rw : Int32) (p0 : Int32) : kMi l y_Ref_step b_Ref_step 4 (some .int) 8 202 D kCl [(dG, .int), (dS, .int), (dM, .int)] [.ref aT, .int p0] [(aT, .inr (11, [.ref bG, .ref bS, .ref bM, .int rl, .int rk, .int rr, .int re, .int rc, .int rd, .int ra, .int rb, .int rn, .int rf, .int rw])), (bG, .inl (dG, 32, .inl rg)), (bS, .inl (dS, 48, .inl rs)), (bM, .inl (dM, 16384, .inl rm))] (f_Ref_step p0 rg rs rm rl rk rr re rc rd ra rb rn rf rw).1 [(aT, .inr (11, [.ref bG, .ref bS, .ref bM, .int (f_Ref_step p0 rg rs rm rl rk rr re rc rd ra rb rn rf rw).2.2.2.2.1, .int (f_Ref_step p0 rg rs rm rl rk rr re rc rd ra rb rn rf rw).2.2.2.2.2.1, .int (f_Ref_step p0 rg rs rm rl rk rr re rc rd ra rb rn rf rw).2.2.2.2.2.2.1, .int (f_Ref_step p0 rg rs rm rl rk rr re rc rd ra rb rn rf rw).2.2.2.2.2.2.2.1, .int (f_Ref_step p0 rg rs rm rl rk rr re rc rd ra rb rn rf rw).2.2.2.2.2.2.2.2.1, .int (f_Ref_step p0 rg rs rm rl rk rr re rc rd ra rb rn rf rw).2.2.2.2.2.2.2.2.2.1, .int (f_Ref_step p0 rg rs rm rl rk rr re rc rd ra rb rn rf rw).2.2.2.2.2.2.2.2.2.2.1, .int (f_Ref_step p0 rg rs rm rl rk rr re rc rd ra rb rn rf rw).2.2.2.2.2.2.2.2.2.2.2.1, .int (f_Ref_step p0 rg rs rm rl rk rr re rc rd ra rb rn rf rw).2.2.2.2.2.2.2.2.2.2.2.2.1, .int (f_Ref_step p0 rg rs rm rl rk rr re rc rd ra rb rn rf rw).2.2.2.2.2.2.2.2.2.2.2.2.2.1, .int (f_Ref_step p0 rg rs rm rl rk rr re rc rd ra rb rn rf rw).2.2.2.2.2.2.2.2.2.2.2.2.2.2])), (bG, .inl (dG, 32, .inl (f_Ref_step p0 rg rs rm rl rk rr re rc rd ra rb rn rf rw).2.1)), (bS, .inl (dS, 48, .inl (f_Ref_step p0 rg rs rm rl rk rr re rc rd ra rb rn rf rw).2.2.1)), (bM, .inl (dM, 16384, .inl (f_Ref_step p0 rg rs rm rl rk rr re rc rd ra rb rn rf rw).2.2.2.1))] := by
  refine k_entry (Qc := fun A => kQi D kCl [(dG, .int), (dS, .int), (dM, .int)] (f_Ref_step p0 rg rs rm rl rk rr re rc rd ra rb rn rf rw).1 [(aT, .inr (11, [.ref bG, .ref bS, .ref bM, .int (f_Ref_step p0 rg rs rm rl rk rr re rc rd ra rb rn rf rw).2.2.2.2.1, .int (f_Ref_step p0 rg rs rm rl rk rr re rc rd ra rb rn rf rw).2.2.2.2.2.1, .int (f_Ref_step p0 rg rs rm rl rk rr re rc rd ra rb rn rf rw).2.2.2.2.2.2.1, .int (f_Ref_step p0 rg rs rm rl rk rr re rc rd ra rb rn rf rw).2.2.2.2.2.2.2.1, .int (f_Ref_step p0 rg rs rm rl rk rr re rc rd ra rb rn rf rw).2.2.2.2.2.2.2.2.1, .int (f_Ref_step p0 rg rs rm rl rk rr re rc rd ra rb rn rf rw).2.2.2.2.2.2.2.2.2.1, .int (f_Ref_step p0 rg rs rm rl rk rr re rc rd ra rb rn rf rw).2.2.2.2.2.2.2.2.2.2.1, .int (f_Ref_step p0 rg rs rm rl rk rr re rc rd ra rb rn rf rw).2.2.2.2.2.2.2.2.2.2.2.1, .int (f_Ref_step p0 rg rs rm rl rk rr re rc rd ra rb rn rf rw).2.2.2.2.2.2.2.2.2.2.2.2.1, .int (f_Ref_step p0 rg rs rm rl rk rr re rc rd ra rb rn rf rw).2.2.2.2.2.2.2.2.2.2.2.2.2.1, .int (f_Ref_step p0 rg rs rm rl rk rr re rc rd ra rb rn rf rw).2.2.2.2.2.2.2.2.2.2.2.2.2.2])), (bG, .inl (dG, 32, .inl (f_Ref_step p0 rg rs rm rl rk rr re rc rd ra rb rn rf rw).2.1)), (bS, .inl (dS, 48, .inl (f_Ref_step p0 rg rs rm rl rk rr re rc rd ra rb rn rf rw).2.2.1)), (bM, .inl (dM, 16384, .inl (f_Ref_step p0 rg rs rm rl rk rr re rc rd ra rb rn rf rw).2.2.2.1))] A) (lv := [(0, .ref aT), (1, .int p0)]) (by decide) (Nat.le_of_ble_eq_true rfl) rfl ?_
  intro p e s m below meth c A ls hx hb hr hml hB hown hlocks hin hA hK hN hP hD hS hl
  have hown : s.vm.findClass "MappedProcessorModel" = some m.cls := hown
  refine lv_iload_n hx hb d_Ref_step_0 rfl (lv_at hl 1 rfl) ?_
  refine lv_iconst (v := (1 : Int32)) hx hb d_Ref_step_1 (by decide) ?_
  refine lv_icmp_lt (tgt := 11) hx hb d_Ref_step_2 (by decide) (fun (h1 : p0 < (1 : Int32)) => ?_) (fun (h1 : ¬ p0 < (1 : Int32)) => ?_)
  · refine lv_iconst (v := (-1 : Int32)) hx hb d_Ref_step_11 (by decide) ?_
    have ef : f_Ref_step p0 rg rs rm rl rk rr re rc rd ra rb rn rf rw = ((-1 : Int32), rg, rs, rm, rl, rk, rr, re, rc, rd, ra, rb, rn, rf, rw) := by unfold f_Ref_step; rw [if_pos h1]
    exact k_iret hx hb hr hlocks hK hP hD hS [0, 1, 2, 3] rfl (by rw [ef] <;> rfl) (by rw [ef] <;> rfl) d_Ref_step_12
  · refine lv_iload_n hx hb d_Ref_step_5 rfl (lv_at hl 1 rfl) ?_
    refine lv_bipush (v := (50 : Int32)) hx hb d_Ref_step_6 (by decide) ?_
    refine lv_icmp_le (tgt := 13) hx hb d_Ref_step_8 (by decide) (fun (h2 : p0 ≤ (50 : Int32)) => ?_) (fun (h2 : ¬ p0 ≤ (50 : Int32)) => ?_)
    · refine lv_iconst (v := (0 : Int32)) hx hb d_Ref_step_13 (by decide) ?_
      refine lv_istore_n (lv' := [(2, .int (0 : Int32)), (0, .ref aT), (1, .int p0)]) hx hb d_Ref_step_14 rfl hl (by decide) rfl (fun ls hl => ?_)
      refine lv_iconst (v := (0 : Int32)) hx hb d_Ref_step_15 (by decide) ?_
      refine lv_istore_n (lv' := [(3, .int (0 : Int32)), (2, .int (0 : Int32)), (0, .ref aT), (1, .int p0)]) hx hb d_Ref_step_16 rfl hl (by decide) rfl (fun ls hl => ?_)
      have ef : f_Ref_step p0 rg rs rm rl rk rr re rc rd ra rb rn rf rw = f_Ref_step_lp  (ix p0) 0 (0 : Int32) rg rs rm rl rk rr re rc rd ra rb rn rf rw := by unfold f_Ref_step; rw [if_neg h1, if_pos h2]
      have lp : ∀ (n j : Nat) (x2 : Int32) (rgL : Nat → Int32) (rsL : Nat → Int32) (rmL : Nat → Int32) (rlL : Int32) (rkL : Int32) (rrL : Int32) (reL : Int32) (rcL : Int32) (rdL : Int32) (raL : Int32) (rbL : Int32) (rnL : Int32) (rfL : Int32) (rwL : Int32) (H : Heap) (locs : List Loc) (ls : Array Slot), j + n = (ix p0) → f_Ref_step p0 rg rs rm rl rk rr re rc rd ra rb rn rf rw = f_Ref_step_lp  n j x2 rgL rsL rmL rlL rkL rrL reL rcL rdL raL rbL rnL rfL rwL → va_P D kCl [(aT, .inr (11, [.ref bG, .ref bS, .ref bM, .int rlL, .int rkL, .int rrL, .int reL, .int rcL, .int rdL, .int raL, .int rbL, .int rnL, .int rfL, .int rwL])), (bG, .inl (dG, 32, .inl rgL)), (bS, .inl (dS, 48, .inl rsL)), (bM, .inl (dM, 16384, .inl rmL))] H → va_D A [(aT, .inr (11, [.ref bG, .ref bS, .ref bM, .int rlL, .int rkL, .int rrL, .int reL, .int rcL, .int rdL, .int raL, .int rbL, .int rnL, .int rfL, .int rwL])), (bG, .inl (dG, 32, .inl rgL)), (bS, .inl (dS, 48, .inl rsL)), (bM, .inl (dM, 16384, .inl rmL))] → va_S A s.heap H locs → lv_has ls 4 [(3, .int (nI j)), (2, .int x2), (0, .ref aT), (1, .int p0)] → W p l e { frames := 8, cells := 0, slots := 0, locals := 202 } s m (([.ref aT, .int p0] : List Value).toArray) below meth c H locs 0 0 (MQ below (kQi D kCl [(dG, .int), (dS, .int), (dM, .int)] (f_Ref_step p0 rg rs rm rl rk rr re rc rd ra rb rn rf rw).1 [(aT, .inr (11, [.ref bG, .ref bS, .ref bM, .int (f_Ref_step p0 rg rs rm rl rk rr re rc rd ra rb rn rf rw).2.2.2.2.1, .int (f_Ref_step p0 rg rs rm rl rk rr re rc rd ra rb rn rf rw).2.2.2.2.2.1, .int (f_Ref_step p0 rg rs rm rl rk rr re rc rd ra rb rn rf rw).2.2.2.2.2.2.1, .int (f_Ref_step p0 rg rs rm rl rk rr re rc rd ra rb rn rf rw).2.2.2.2.2.2.2.1, .int (f_Ref_step p0 rg rs rm rl rk rr re rc rd ra rb rn rf rw).2.2.2.2.2.2.2.2.1, .int (f_Ref_step p0 rg rs rm rl rk rr re rc rd ra rb rn rf rw).2.2.2.2.2.2.2.2.2.1, .int (f_Ref_step p0 rg rs rm rl rk rr re rc rd ra rb rn rf rw).2.2.2.2.2.2.2.2.2.2.1, .int (f_Ref_step p0 rg rs rm rl rk rr re rc rd ra rb rn rf rw).2.2.2.2.2.2.2.2.2.2.2.1, .int (f_Ref_step p0 rg rs rm rl rk rr re rc rd ra rb rn rf rw).2.2.2.2.2.2.2.2.2.2.2.2.1, .int (f_Ref_step p0 rg rs rm rl rk rr re rc rd ra rb rn rf rw).2.2.2.2.2.2.2.2.2.2.2.2.2.1, .int (f_Ref_step p0 rg rs rm rl rk rr re rc rd ra rb rn rf rw).2.2.2.2.2.2.2.2.2.2.2.2.2.2])), (bG, .inl (dG, 32, .inl (f_Ref_step p0 rg rs rm rl rk rr re rc rd ra rb rn rf rw).2.1)), (bS, .inl (dS, 48, .inl (f_Ref_step p0 rg rs rm rl rk rr re rc rd ra rb rn rf rw).2.2.1)), (bM, .inl (dM, 16384, .inl (f_Ref_step p0 rg rs rm rl rk rr re rc rd ra rb rn rf rw).2.2.2.1))] A) (([.ref aT, .int p0] : List Value).toArray) s 0 0 A) (F0 m 17 ls []) := by
        intro n
        induction n with
        | zero =>
          intro j x2 rgL rsL rmL rlL rkL rrL reL rcL rdL raL rbL rnL rfL rwL H locs ls hj ef0 hP hD hS hl
          refine lv_iload_n hx hb d_Ref_step_17 rfl (lv_at hl 0 rfl) ?_
          refine lv_iload_n hx hb d_Ref_step_18 rfl (lv_at hl 3 rfl) ?_
          refine lv_icmp_ge (tgt := 43) hx hb d_Ref_step_19 (by decide) (fun (h3 : p0 ≤ (nI j)) => ?_) (fun (h3 : ¬ p0 ≤ (nI j)) => ?_)
          rotate_left
          · exact absurd (lpv_z (lp_pos h1) hj) h3
          refine lv_iload_n hx hb d_Ref_step_43 rfl (lv_at hl 1 rfl) ?_
          have ef : f_Ref_step p0 rg rs rm rl rk rr re rc rd ra rb rn rf rw = (x2, rgL, rsL, rmL, rlL, rkL, rrL, reL, rcL, rdL, raL, rbL, rnL, rfL, rwL) := ef0.trans (by rw [f_Ref_step_lp]; (try dsimp only))
          exact k_iret hx hb hr hlocks hK hP hD hS [0, 1, 2, 3] rfl (by rw [ef] <;> rfl) (by rw [ef] <;> rfl) d_Ref_step_44
        | succ n ih =>
          intro j x2 rgL rsL rmL rlL rkL rrL reL rcL rdL raL rbL rnL rfL rwL H locs ls hj ef0 hP hD hS hl
          refine lv_iload_n hx hb d_Ref_step_17 rfl (lv_at hl 0 rfl) ?_
          refine lv_iload_n hx hb d_Ref_step_18 rfl (lv_at hl 3 rfl) ?_
          refine lv_icmp_ge (tgt := 43) hx hb d_Ref_step_19 (by decide) (fun (h4 : p0 ≤ (nI j)) => ?_) (fun (h4 : ¬ p0 ≤ (nI j)) => ?_)
          · exact absurd h4 (lpv_s (lp_pos h1) hj)
          refine lv_aload_n hx hb d_Ref_step_22 rfl (lv_at hl 2 rfl) ?_
          let t5 := (f_Ref_one rgL rsL rmL rlL rkL rcL rdL raL rbL rwL)
          refine k_cVi (As := []) (rest := []) (wr := []) (wj := [(aT, .inr (11, [.ref bG, .ref bS, .ref bM, .int t5.2.2.2.2.1, .int t5.2.2.2.2.2.1, .int t5.2.2.2.2.2.2.1, .int t5.2.2.2.2.2.2.2.1, .int t5.2.2.2.2.2.2.2.2.1, .int t5.2.2.2.2.2.2.2.2.2.1, .int t5.2.2.2.2.2.2.2.2.2.2.1, .int t5.2.2.2.2.2.2.2.2.2.2.2.1, .int t5.2.2.2.2.2.2.2.2.2.2.2.2.1, .int t5.2.2.2.2.2.2.2.2.2.2.2.2.2.1, .int t5.2.2.2.2.2.2.2.2.2.2.2.2.2.2])), (bG, .inl (dG, 32, .inl t5.2.1)), (bS, .inl (dS, 48, .inl t5.2.2.1)), (bM, .inl (dM, 16384, .inl t5.2.2.2.1))]) ⟨hx, hb, hml, hown, hB⟩ (c_Ref_one l D aT bG bS bM dG dS dM rgL rsL rmL rlL rkL rrL reL rcL rdL raL rbL rnL rfL rwL) yl_Ref_one mw_717 hK hN hP hD hS hA [0, 1, 2] [0, 1, 2, 3] [] [0, 1, 2, 3] rfl rfl rfl rfl (by decide +kernel) 0 rfl rfl rfl rfl hl.1 rfl (Nat.le_of_ble_eq_true rfl) ⟨Nat.le_of_ble_eq_true rfl, Nat.le_of_ble_eq_true rfl⟩ d_Ref_step_23 ⟨Nat.le_of_ble_eq_true rfl, Nat.le_of_ble_eq_true rfl⟩ (fun H locs hP hD hS => ?_)
          refine k_join2 (c0 := t5.1 = (0 : Int32)) (x1 := x2) (x2 := (x2 + (1 : Int32))) (rest := []) 36 ?_ (fun k7 k8 => ?_)
          rotate_left
          · refine lv_if_eq (tgt := 35) hx hb d_Ref_step_26 (by decide) (fun (h6 : t5.1 = (0 : Int32)) => ?_) (fun (h6 : ¬ t5.1 = (0 : Int32)) => ?_)
            · refine lv_iload_n hx hb d_Ref_step_35 rfl (lv_at hl 1 rfl) ?_
              exact k7 h6
            · refine lv_iload_n hx hb d_Ref_step_29 rfl (lv_at hl 1 rfl) ?_
              refine lv_iconst (v := (1 : Int32)) hx hb d_Ref_step_30 (by decide) ?_
              refine lv_iadd hx hb d_Ref_step_31 ?_
              refine lv_goto (tgt := 36) hx hb d_Ref_step_32 (by decide) ?_
              exact k8 h6
          refine lv_istore_n (lv' := [(2, .int (if t5.1 = (0 : Int32) then x2 else (x2 + (1 : Int32)))), (3, .int (nI j)), (0, .ref aT), (1, .int p0)]) hx hb d_Ref_step_36 rfl hl (by decide) rfl (fun ls hl => ?_)
          refine lv_iinc (v := (nI (j + 1))) (lv' := [(3, .int (nI (j + 1))), (2, .int (if t5.1 = (0 : Int32) then x2 else (x2 + (1 : Int32)))), (0, .ref aT), (1, .int p0)]) hx hb d_Ref_step_37 hl (k := 1) rfl (nI_1 j) (by decide) rfl (fun ls hl => ?_)
          refine lv_goto (tgt := 17) hx hb d_Ref_step_40 (by decide) ?_
          have ef : f_Ref_step p0 rg rs rm rl rk rr re rc rd ra rb rn rf rw = f_Ref_step_lp  n (j + 1) (if t5.1 = (0 : Int32) then x2 else (x2 + (1 : Int32))) t5.2.1 t5.2.2.1 t5.2.2.2.1 t5.2.2.2.2.1 t5.2.2.2.2.2.1 t5.2.2.2.2.2.2.1 t5.2.2.2.2.2.2.2.1 t5.2.2.2.2.2.2.2.2.1 t5.2.2.2.2.2.2.2.2.2.1 t5.2.2.2.2.2.2.2.2.2.2.1 t5.2.2.2.2.2.2.2.2.2.2.2.1 t5.2.2.2.2.2.2.2.2.2.2.2.2.1 t5.2.2.2.2.2.2.2.2.2.2.2.2.2.1 t5.2.2.2.2.2.2.2.2.2.2.2.2.2.2 := ef0.trans (by rw [f_Ref_step_lp]; (try dsimp only))
          exact ih (j + 1) (if t5.1 = (0 : Int32) then x2 else (x2 + (1 : Int32))) t5.2.1 t5.2.2.1 t5.2.2.2.1 t5.2.2.2.2.1 t5.2.2.2.2.2.1 t5.2.2.2.2.2.2.1 t5.2.2.2.2.2.2.2.1 t5.2.2.2.2.2.2.2.2.1 t5.2.2.2.2.2.2.2.2.2.1 t5.2.2.2.2.2.2.2.2.2.2.1 t5.2.2.2.2.2.2.2.2.2.2.2.1 t5.2.2.2.2.2.2.2.2.2.2.2.2.1 t5.2.2.2.2.2.2.2.2.2.2.2.2.2.1 t5.2.2.2.2.2.2.2.2.2.2.2.2.2.2 _ _ ls (by omega) ef hP hD hS (lv_sub hl [0, 1, 2, 3] rfl)
      exact lp (ix p0) 0 (0 : Int32) rg rs rm rl rk rr re rc rd ra rb rn rf rw _ _ ls (by omega) ef hP hD hS (lv_sub hl [0, 1, 2, 3] rfl)
    · refine lv_iconst (v := (-1 : Int32)) hx hb d_Ref_step_11 (by decide) ?_
      have ef : f_Ref_step p0 rg rs rm rl rk rr re rc rd ra rb rn rf rw = ((-1 : Int32), rg, rs, rm, rl, rk, rr, re, rc, rd, ra, rb, rn, rf, rw) := by unfold f_Ref_step; rw [if_neg h1, if_neg h2]
      exact k_iret hx hb hr hlocks hK hP hD hS [0, 1, 2, 3] rfl (by rw [ef] <;> rfl) (by rw [ef] <;> rfl) d_Ref_step_12
/-! MappedProcessorModel.translate(II)I -/
theorem d_Ref_translate_0 : decode b_Ref_translate 0 = .ok (.iload_n 2, 1) := by decide +kernel
theorem d_Ref_translate_1 : decode b_Ref_translate 1 = .ok (.ifCond .lt 8, 3) := by decide +kernel
theorem d_Ref_translate_4 : decode b_Ref_translate 4 = .ok (.iload_n 2, 1) := by decide +kernel
theorem d_Ref_translate_5 : decode b_Ref_translate 5 = .ok (.iconst 2, 1) := by decide +kernel
theorem d_Ref_translate_6 : decode b_Ref_translate 6 = .ok (.if_icmp .le 6, 3) := by decide +kernel
theorem d_Ref_translate_9 : decode b_Ref_translate 9 = .ok (.bipush (-4), 2) := by decide +kernel
theorem d_Ref_translate_11 : decode b_Ref_translate 11 = .ok (.ireturn, 1) := by decide +kernel
theorem d_Ref_translate_12 : decode b_Ref_translate 12 = .ok (.aload_n 0, 1) := by decide +kernel
theorem d_Ref_translate_13 : decode b_Ref_translate 13 = .ok (.iload_n 1, 1) := by decide +kernel
theorem d_Ref_translate_14 : decode b_Ref_translate 14 = .ok (.iload_n 2, 1) := by decide +kernel
theorem d_Ref_translate_15 : decode b_Ref_translate 15 = .ok (.invokevirtual 69, 3) := by decide +kernel
theorem d_Ref_translate_18 : decode b_Ref_translate 18 = .ok (.istore_n 3, 1) := by decide +kernel
theorem d_Ref_translate_19 : decode b_Ref_translate 19 = .ok (.aload_n 0, 1) := by decide +kernel
theorem d_Ref_translate_20 : decode b_Ref_translate 20 = .ok (.getfield 21, 3) := by decide +kernel
theorem d_Ref_translate_23 : decode b_Ref_translate 23 = .ok (.ifCond .eq 10, 3) := by decide +kernel
theorem d_Ref_translate_26 : decode b_Ref_translate 26 = .ok (.aload_n 0, 1) := by decide +kernel
theorem d_Ref_translate_27 : decode b_Ref_translate 27 = .ok (.getfield 21, 3) := by decide +kernel
theorem d_Ref_translate_30 : decode b_Ref_translate 30 = .ok (.goto 7, 3) := by decide +kernel
theorem d_Ref_translate_33 : decode b_Ref_translate 33 = .ok (.iload_n 3, 1) := by decide +kernel
theorem d_Ref_translate_34 : decode b_Ref_translate 34 = .ok (.ldc 42, 2) := by decide +kernel
theorem d_Ref_translate_36 : decode b_Ref_translate 36 = .ok (.iand, 1) := by decide +kernel
theorem d_Ref_translate_37 : decode b_Ref_translate 37 = .ok (.ireturn, 1) := by decide +kernel
def f_Ref_translate (p0 : Int32) (p1 : Int32) (rs : Nat → Int32) (rm : Nat → Int32) (rr : Int32) (re : Int32) : Int32 × Int32 × Int32 :=
  if p1 < (0 : Int32) then
    ((-4 : Int32), rr, re)
  else
    if p1 ≤ (2 : Int32) then
      let t3 := (f_Ref_resolve p0 p1 rs rm)
      ((if t3.2.1 = (0 : Int32) then (t3.1 &&& (65535 : Int32)) else t3.2.1), t3.2.1, t3.2.2)
    else
      ((-4 : Int32), rr, re)
set_option maxHeartbeats 4000000 in
set_option maxRecDepth 100000 in
theorem c_Ref_translate (l : Launch) (D : va_G) (aT bG bS bM : Nat) (dG dS dM : ClassId) (rg : Nat → Int32) (rs : Nat → Int32) (rm : Nat → Int32) (rl : Int32) (rk : Int32) (rr : Int32) (re : Int32) (rc : Int32) (rd : Int32) (ra : Int32) (rb : Int32) (rn : Int32) (rf : Int32) (rw : Int32) (p0 : Int32) (p1 : Int32) : kMi l y_Ref_translate b_Ref_translate 4 (some .int) 3 82 D kCl [(dG, .int), (dS, .int), (dM, .int)] [.ref aT, .int p0, .int p1] [(aT, .inr (11, [.ref bG, .ref bS, .ref bM, .int rl, .int rk, .int rr, .int re, .int rc, .int rd, .int ra, .int rb, .int rn, .int rf, .int rw])), (bG, .inl (dG, 32, .inl rg)), (bS, .inl (dS, 48, .inl rs)), (bM, .inl (dM, 16384, .inl rm))] (f_Ref_translate p0 p1 rs rm rr re).1 [(aT, .inr (11, [.ref bG, .ref bS, .ref bM, .int rl, .int rk, .int (f_Ref_translate p0 p1 rs rm rr re).2.1, .int (f_Ref_translate p0 p1 rs rm rr re).2.2, .int rc, .int rd, .int ra, .int rb, .int rn, .int rf, .int rw])), (bG, .inl (dG, 32, .inl rg)), (bS, .inl (dS, 48, .inl rs)), (bM, .inl (dM, 16384, .inl rm))] := by
  refine k_entry (Qc := fun A => kQi D kCl [(dG, .int), (dS, .int), (dM, .int)] (f_Ref_translate p0 p1 rs rm rr re).1 [(aT, .inr (11, [.ref bG, .ref bS, .ref bM, .int rl, .int rk, .int (f_Ref_translate p0 p1 rs rm rr re).2.1, .int (f_Ref_translate p0 p1 rs rm rr re).2.2, .int rc, .int rd, .int ra, .int rb, .int rn, .int rf, .int rw])), (bG, .inl (dG, 32, .inl rg)), (bS, .inl (dS, 48, .inl rs)), (bM, .inl (dM, 16384, .inl rm))] A) (lv := [(0, .ref aT), (1, .int p0), (2, .int p1)]) (by decide) (Nat.le_of_ble_eq_true rfl) rfl ?_
  intro p e s m below meth c A ls hx hb hr hml hB hown hlocks hin hA hK hN hP hD hS hl
  have hown : s.vm.findClass "MappedProcessorModel" = some m.cls := hown
  refine lv_iload_n hx hb d_Ref_translate_0 rfl (lv_at hl 2 rfl) ?_
  refine lv_if_lt (tgt := 9) hx hb d_Ref_translate_1 (by decide) (fun (h1 : p1 < (0 : Int32)) => ?_) (fun (h1 : ¬ p1 < (0 : Int32)) => ?_)
  · refine lv_bipush (v := (-4 : Int32)) hx hb d_Ref_translate_9 (by decide) ?_
    have ef : f_Ref_translate p0 p1 rs rm rr re = ((-4 : Int32), rr, re) := by unfold f_Ref_translate; try dsimp only; rw [if_pos h1]
    exact k_iret hx hb hr hlocks hK hP hD hS [0, 1, 2, 3] rfl (by rw [ef] <;> rfl) (by rw [ef] <;> rfl) d_Ref_translate_11
  · refine lv_iload_n hx hb d_Ref_translate_4 rfl (lv_at hl 2 rfl) ?_
    refine lv_iconst (v := (2 : Int32)) hx hb d_Ref_translate_5 (by decide) ?_
    refine lv_icmp_le (tgt := 12) hx hb d_Ref_translate_6 (by decide) (fun (h2 : p1 ≤ (2 : Int32)) => ?_) (fun (h2 : ¬ p1 ≤ (2 : Int32)) => ?_)
    · refine lv_aload_n hx hb d_Ref_translate_12 rfl (lv_at hl 0 rfl) ?_
      refine lv_iload_n hx hb d_Ref_translate_13 rfl (lv_at hl 1 rfl) ?_
      refine lv_iload_n hx hb d_Ref_translate_14 rfl (lv_at hl 2 rfl) ?_
      let t3 := (f_Ref_resolve p0 p1 rs rm)
      refine k_cVi (As := [.int p0, .int p1]) (rest := []) (wr := []) (wj := [(aT, .inr (11, [.ref bG, .ref bS, .ref bM, .int rl, .int rk, .int t3.2.1, .int t3.2.2, .int rc, .int rd, .int ra, .int rb, .int rn, .int rf, .int rw])), (bG, .inl (dG, 32, .inl rg)), (bS, .inl (dS, 48, .inl rs)), (bM, .inl (dM, 16384, .inl rm))]) ⟨hx, hb, hml, hown, hB⟩ (c_Ref_resolve l D aT bG bS bM dG dS dM rg rs rm rl rk rr re rc rd ra rb rn rf rw p0 p1) yl_Ref_resolve mw_721 hK hN hP hD hS hA [0, 1, 2] [0, 1, 2, 3] [] [0, 1, 2, 3] rfl rfl rfl rfl (by decide +kernel) 0 rfl rfl rfl rfl hl.1 rfl (Nat.le_of_ble_eq_true rfl) ⟨Nat.le_of_ble_eq_true rfl, Nat.le_of_ble_eq_true rfl⟩ d_Ref_translate_15 ⟨Nat.le_of_ble_eq_true rfl, Nat.le_of_ble_eq_true rfl⟩ (fun H locs hP hD hS => ?_)
      refine lv_istore_n (lv' := [(3, .int t3.1), (0, .ref aT), (1, .int p0), (2, .int p1)]) hx hb d_Ref_translate_18 rfl hl (by decide) rfl (fun ls hl => ?_)
      refine lv_aload_n hx hb d_Ref_translate_19 rfl (lv_at hl 1 rfl) ?_
      refine va_get (D := D) (ci := 11) (v := .int t3.2.1) (C := "MappedProcessorModel") (T := T_Ref) (N := 14) hx hb hB iw_Ref hown hK hP 0 rfl rfl 5 (by decide) (hB _ mw_648) (fun _ h9 => h9) rfl d_Ref_translate_20 ?_
      refine k_join2 (c0 := t3.2.1 = (0 : Int32)) (x1 := (t3.1 &&& (65535 : Int32))) (x2 := t3.2.1) (rest := []) 37 ?_ (fun k5 k6 => ?_)
      rotate_left
      · refine lv_if_eq (tgt := 33) hx hb d_Ref_translate_23 (by decide) (fun (h4 : t3.2.1 = (0 : Int32)) => ?_) (fun (h4 : ¬ t3.2.1 = (0 : Int32)) => ?_)
        · refine lv_iload_n hx hb d_Ref_translate_33 rfl (lv_at hl 0 rfl) ?_
          refine lv_ldc (v := (65535 : Int32)) hx hb hown (hB _ mw_737) d_Ref_translate_34 ?_
          refine lv_iand hx hb d_Ref_translate_36 ?_
          exact k5 h4
        · refine lv_aload_n hx hb d_Ref_translate_26 rfl (lv_at hl 1 rfl) ?_
          refine va_get (D := D) (ci := 11) (v := .int t3.2.1) (C := "MappedProcessorModel") (T := T_Ref) (N := 14) hx hb hB iw_Ref hown hK hP 0 rfl rfl 5 (by decide) (hB _ mw_648) (fun _ h9 => h9) rfl d_Ref_translate_27 ?_
          refine lv_goto (tgt := 37) hx hb d_Ref_translate_30 (by decide) ?_
          exact k6 h4
      have ef : f_Ref_translate p0 p1 rs rm rr re = ((if t3.2.1 = (0 : Int32) then (t3.1 &&& (65535 : Int32)) else t3.2.1), t3.2.1, t3.2.2) := by unfold f_Ref_translate; try dsimp only; rw [if_neg h1, if_pos h2]
      exact k_iret hx hb hr hlocks hK hP hD hS [0, 1, 2, 3] rfl (by rw [ef] <;> rfl) (by rw [ef] <;> rfl) d_Ref_translate_37
    · refine lv_bipush (v := (-4 : Int32)) hx hb d_Ref_translate_9 (by decide) ?_
      have ef : f_Ref_translate p0 p1 rs rm rr re = ((-4 : Int32), rr, re) := by unfold f_Ref_translate; try dsimp only; rw [if_neg h1, if_neg h2]
      exact k_iret hx hb hr hlocks hK hP hD hS [0, 1, 2, 3] rfl (by rw [ef] <;> rfl) (by rw [ef] <;> rfl) d_Ref_translate_11
/-! MappedProcessorModel.vector()I -/
theorem d_Ref_vector_0 : decode b_Ref_vector 0 = .ok (.aload_n 0, 1) := by decide +kernel
theorem d_Ref_vector_1 : decode b_Ref_vector 1 = .ok (.getfield 53, 3) := by decide +kernel
theorem d_Ref_vector_4 : decode b_Ref_vector 4 = .ok (.ireturn, 1) := by decide +kernel
def f_Ref_vector (rl : Int32) : Int32 :=
  rl
set_option maxHeartbeats 4000000 in
set_option maxRecDepth 100000 in
theorem c_Ref_vector (l : Launch) (D : va_G) (aT bG bS bM : Nat) (dG dS dM : ClassId) (rg : Nat → Int32) (rs : Nat → Int32) (rm : Nat → Int32) (rl : Int32) (rk : Int32) (rr : Int32) (re : Int32) (rc : Int32) (rd : Int32) (ra : Int32) (rb : Int32) (rn : Int32) (rf : Int32) (rw : Int32) : kMi l y_Ref_vector b_Ref_vector 1 (some .int) 0 0 D kCl [(dG, .int), (dS, .int), (dM, .int)] [.ref aT] [(aT, .inr (11, [.ref bG, .ref bS, .ref bM, .int rl, .int rk, .int rr, .int re, .int rc, .int rd, .int ra, .int rb, .int rn, .int rf, .int rw])), (bG, .inl (dG, 32, .inl rg)), (bS, .inl (dS, 48, .inl rs)), (bM, .inl (dM, 16384, .inl rm))] (f_Ref_vector rl) [(aT, .inr (11, [.ref bG, .ref bS, .ref bM, .int rl, .int rk, .int rr, .int re, .int rc, .int rd, .int ra, .int rb, .int rn, .int rf, .int rw])), (bG, .inl (dG, 32, .inl rg)), (bS, .inl (dS, 48, .inl rs)), (bM, .inl (dM, 16384, .inl rm))] := by
  refine k_entry (Qc := fun A => kQi D kCl [(dG, .int), (dS, .int), (dM, .int)] (f_Ref_vector rl) [(aT, .inr (11, [.ref bG, .ref bS, .ref bM, .int rl, .int rk, .int rr, .int re, .int rc, .int rd, .int ra, .int rb, .int rn, .int rf, .int rw])), (bG, .inl (dG, 32, .inl rg)), (bS, .inl (dS, 48, .inl rs)), (bM, .inl (dM, 16384, .inl rm))] A) (lv := [(0, .ref aT)]) (by decide) (Nat.le_of_ble_eq_true rfl) rfl ?_
  intro p e s m below meth c A ls hx hb hr hml hB hown hlocks hin hA hK hN hP hD hS hl
  have hown : s.vm.findClass "MappedProcessorModel" = some m.cls := hown
  refine lv_aload_n hx hb d_Ref_vector_0 rfl (lv_at hl 0 rfl) ?_
  refine va_get (D := D) (ci := 11) (v := .int rl) (C := "MappedProcessorModel") (T := T_Ref) (N := 14) hx hb hB iw_Ref hown hK hP 0 rfl rfl 3 (by decide) (hB _ mw_646) (fun _ h9 => h9) rfl d_Ref_vector_1 ?_
  have ef : f_Ref_vector rl = rl := rfl
  exact k_iret hx hb hr hlocks hK hP hD hS [0, 1, 2, 3] rfl rfl (by rw [ef] <;> rfl) d_Ref_vector_4
/-! MappedProcessorModel.steps()I -/
theorem d_Ref_steps_0 : decode b_Ref_steps 0 = .ok (.aload_n 0, 1) := by decide +kernel
theorem d_Ref_steps_1 : decode b_Ref_steps 1 = .ok (.getfield 66, 3) := by decide +kernel
theorem d_Ref_steps_4 : decode b_Ref_steps 4 = .ok (.ireturn, 1) := by decide +kernel
def f_Ref_steps (rk : Int32) : Int32 :=
  rk
set_option maxHeartbeats 4000000 in
set_option maxRecDepth 100000 in
theorem c_Ref_steps (l : Launch) (D : va_G) (aT bG bS bM : Nat) (dG dS dM : ClassId) (rg : Nat → Int32) (rs : Nat → Int32) (rm : Nat → Int32) (rl : Int32) (rk : Int32) (rr : Int32) (re : Int32) (rc : Int32) (rd : Int32) (ra : Int32) (rb : Int32) (rn : Int32) (rf : Int32) (rw : Int32) : kMi l y_Ref_steps b_Ref_steps 1 (some .int) 0 0 D kCl [(dG, .int), (dS, .int), (dM, .int)] [.ref aT] [(aT, .inr (11, [.ref bG, .ref bS, .ref bM, .int rl, .int rk, .int rr, .int re, .int rc, .int rd, .int ra, .int rb, .int rn, .int rf, .int rw])), (bG, .inl (dG, 32, .inl rg)), (bS, .inl (dS, 48, .inl rs)), (bM, .inl (dM, 16384, .inl rm))] (f_Ref_steps rk) [(aT, .inr (11, [.ref bG, .ref bS, .ref bM, .int rl, .int rk, .int rr, .int re, .int rc, .int rd, .int ra, .int rb, .int rn, .int rf, .int rw])), (bG, .inl (dG, 32, .inl rg)), (bS, .inl (dS, 48, .inl rs)), (bM, .inl (dM, 16384, .inl rm))] := by
  refine k_entry (Qc := fun A => kQi D kCl [(dG, .int), (dS, .int), (dM, .int)] (f_Ref_steps rk) [(aT, .inr (11, [.ref bG, .ref bS, .ref bM, .int rl, .int rk, .int rr, .int re, .int rc, .int rd, .int ra, .int rb, .int rn, .int rf, .int rw])), (bG, .inl (dG, 32, .inl rg)), (bS, .inl (dS, 48, .inl rs)), (bM, .inl (dM, 16384, .inl rm))] A) (lv := [(0, .ref aT)]) (by decide) (Nat.le_of_ble_eq_true rfl) rfl ?_
  intro p e s m below meth c A ls hx hb hr hml hB hown hlocks hin hA hK hN hP hD hS hl
  have hown : s.vm.findClass "MappedProcessorModel" = some m.cls := hown
  refine lv_aload_n hx hb d_Ref_steps_0 rfl (lv_at hl 0 rfl) ?_
  refine va_get (D := D) (ci := 11) (v := .int rk) (C := "MappedProcessorModel") (T := T_Ref) (N := 14) hx hb hB iw_Ref hown hK hP 0 rfl rfl 4 (by decide) (hB _ mw_647) (fun _ h9 => h9) rfl d_Ref_steps_1 ?_
  have ef : f_Ref_steps rk = rk := rfl
  exact k_iret hx hb hr hlocks hK hP hD hS [0, 1, 2, 3] rfl rfl (by rw [ef] <;> rfl) d_Ref_steps_4
