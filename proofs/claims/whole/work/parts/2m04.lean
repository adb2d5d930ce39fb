def Mo_pass_w (fi : Nat → Int32) (fl : Nat → Int64) (ai : Nat → Nat → Int32) (al : Nat → Nat → Int64) (K : (Nat → Nat → Int32) → (Nat → Nat → Int64) → Prop) : Prop :=
  zw_nm (0 : Int32) (fun (v1 : Int32) =>
  zw_nm (0 : Int32) (fun (v3 : Int32) =>
  zw_lp3 (fun L4 (x4_2 : Int32) (ai4 : Nat → Nat → Int32) (al4 : Nat → Nat → Int64) =>
  if (3 : Int32) ≤ x4_2 then (
    zw_nm (0 : Int32) (fun (v30 : Int32) =>
    zw_lp2 (fun L31 (x31_2 : Int32) (ai31 : Nat → Nat → Int32) =>
    if (6 : Int32) ≤ x31_2 then (
      zw_nm (0 : Int32) (fun (v51 : Int32) =>
      zw_lp4 (fun L52 (x52_1 : Int32) (x52_2 : Int32) (ai52 : Nat → Nat → Int32) (al52 : Nat → Nat → Int64) =>
      if (fi 3) ≤ x52_2 then (
        K ai52 al52)
      else (
        zw_nm (0 : Int32) (fun (v61 : Int32) =>
        zw_lp2 (fun L62 (x62_3 : Int32) (al62 : Nat → Nat → Int64) =>
        if (6 : Int32) ≤ x62_3 then (
          vp_in x52_2 40 ∧ (
          zw_jn3 (fun (x255_1 : Int32) (ai255 : Nat → Nat → Int32) (al255 : Nat → Nat → Int64) =>
          zw_nm (0 : Int32) (fun (v256 : Int32) =>
          zw_lp2 (fun L257 (x257_3 : Int32) (al257 : Nat → Nat → Int64) =>
          if (3 : Int32) ≤ x257_3 then (
            zw_nm (x52_2 + (1 : Int32)) (fun (v284 : Int32) =>
            L52 x255_1 v284 ai255 al257))
          else (
            vp_in x257_3 3 ∧ (
            vp_in (((3 : Int32) * x52_2) + x257_3) 120 ∧ (zw_nm (va_up al257 23 (vp_updL (al257 23) (((3 : Int32) * x52_2) + x257_3).toNatClampNeg (al257 25 x257_3.toNatClampNeg))) (fun (al_277 : Nat → Nat → Int64) =>
            zw_nm (x257_3 + (1 : Int32)) (fun (v278 : Int32) =>
            L257 v278 al_277)))))) v256 al255)) (fun J255 =>
          if (ai52 10 x52_2.toNatClampNeg) = 0 then (
            vp_in x52_1 6 ∧ (
            zw_nm (ai52 20 x52_1.toNatClampNeg) (fun (v101 : Int32) =>
            zw_nm (x52_1 + (1 : Int32)) (fun (v102 : Int32) =>
            vp_in v101 6 ∧ (zw_nm (va_up ai52 22 (upd (ai52 22) v101.toNatClampNeg x52_2)) (fun (ai_111 : Nat → Nat → Int32) =>
            vp_in v101 6 ∧ (
            Mo_loadOn_w fi fl ai_111 al62 x52_2 v101 ((ai_111 1 v101.toNatClampNeg).toInt64) (fun (al_122 : Nat → Nat → Int64) =>
            J255 v102 ai_111 al_122))))))))
          else (
            vp_in x52_2 40 ∧ (
            if (ai52 10 x52_2.toNatClampNeg) = (1 : Int32) then (
              vp_in x52_2 40 ∧ (
              vp_in x52_2 40 ∧ (
              Mo_loadOn_w fi fl ai52 al62 x52_2 (ai52 11 x52_2.toNatClampNeg) ((ai52 12 x52_2.toNatClampNeg).toInt64) (fun (al_153 : Nat → Nat → Int64) =>
              J255 x52_1 ai52 al_153))))
            else (
              vp_in x52_2 40 ∧ (
              if (ai52 10 x52_2.toNatClampNeg) = (2 : Int32) then (
                vp_in x52_2 40 ∧ (
                vp_in (ai52 11 x52_2.toNatClampNeg) 3 ∧ (zw_nm (va_up ai52 24 (upd (ai52 24) (ai52 11 x52_2.toNatClampNeg).toNatClampNeg (vp_nar .boolean (1 : Int32)))) (fun (ai_180 : Nat → Nat → Int32) =>
                J255 x52_1 ai_180 al62))))
              else (
                vp_in x52_2 40 ∧ (
                zw_nm (ai52 11 x52_2.toNatClampNeg) (fun (v190 : Int32) =>
                zw_nm (0 : Int32) (fun (v192 : Int32) =>
                zw_lp2 (fun L194 (x194_4 : Int32) (al194 : Nat → Nat → Int64) =>
                if (fi 0) ≤ x194_4 then (
                  vp_in v190 3 ∧ (zw_nm (va_up ai52 24 (upd (ai52 24) v190.toNatClampNeg (vp_nar .boolean (0 : Int32)))) (fun (ai_247 : Nat → Nat → Int32) =>
                  vp_in v190 3 ∧ (zw_nm (va_up al194 25 (vp_updL (al194 25) v190.toNatClampNeg (0 : Int64))) (fun (al_254 : Nat → Nat → Int64) =>
                  J255 x52_1 ai_247 al_254)))))
                else (
                  vp_in v190 3 ∧ (
                  vp_in (((6 : Int32) * v190) + x194_4) 18 ∧ (
                  vp_in (((6 : Int32) * x52_2) + x194_4) 240 ∧ (zw_nm (va_up al194 21 (vp_updL (al194 21) (((6 : Int32) * x52_2) + x194_4).toNatClampNeg ((al194 25 v190.toNatClampNeg) * (ai52 5 (((6 : Int32) * v190) + x194_4).toNatClampNeg).toInt64))) (fun (al_234 : Nat → Nat → Int64) =>
                  zw_nm (x194_4 + (1 : Int32)) (fun (v235 : Int32) =>
                  L194 v235 al_234))))))) v192 al62)))))))))))
        else (
          vp_in (((6 : Int32) * x52_2) + x62_3) 240 ∧ (zw_nm (va_up al62 21 (vp_updL (al62 21) (((6 : Int32) * x52_2) + x62_3).toNatClampNeg (0 : Int64))) (fun (al_79 : Nat → Nat → Int64) =>
          zw_nm (x62_3 + (1 : Int32)) (fun (v80 : Int32) =>
          L62 v80 al_79))))) v61 al52))) v1 v51 ai31 al4))
    else (
      vp_in x31_2 6 ∧ (zw_nm (va_up ai31 22 (upd (ai31 22) x31_2.toNatClampNeg (-1 : Int32))) (fun (ai_43 : Nat → Nat → Int32) =>
      zw_nm (x31_2 + (1 : Int32)) (fun (v44 : Int32) =>
      L31 v44 ai_43))))) v30 ai4))
  else (
    vp_in x4_2 3 ∧ (zw_nm (va_up ai4 24 (upd (ai4 24) x4_2.toNatClampNeg (vp_nar .boolean (0 : Int32)))) (fun (ai_15 : Nat → Nat → Int32) =>
    vp_in x4_2 3 ∧ (zw_nm (va_up al4 25 (vp_updL (al4 25) x4_2.toNatClampNeg (0 : Int64))) (fun (al_22 : Nat → Nat → Int64) =>
    zw_nm (x4_2 + (1 : Int32)) (fun (v23 : Int32) =>
    L4 v23 ai_15 al_22))))))) v3 ai al))
theorem d_Mo_pass_0 : decode b_Mo_pass 0 = .ok (.iconst 0, 1) := by decide +kernel
theorem d_Mo_pass_1 : decode b_Mo_pass 1 = .ok (.istore_n 1, 1) := by decide +kernel
theorem d_Mo_pass_2 : decode b_Mo_pass 2 = .ok (.iconst 0, 1) := by decide +kernel
theorem d_Mo_pass_3 : decode b_Mo_pass 3 = .ok (.istore_n 2, 1) := by decide +kernel
theorem d_Mo_pass_4 : decode b_Mo_pass 4 = .ok (.iload_n 2, 1) := by decide +kernel
theorem d_Mo_pass_5 : decode b_Mo_pass 5 = .ok (.iconst 3, 1) := by decide +kernel
theorem d_Mo_pass_6 : decode b_Mo_pass 6 = .ok (.if_icmp .ge (23), 3) := by decide +kernel
theorem d_Mo_pass_9 : decode b_Mo_pass 9 = .ok (.aload_n 0, 1) := by decide +kernel
theorem d_Mo_pass_10 : decode b_Mo_pass 10 = .ok (.getfield 88, 3) := by decide +kernel
theorem d_Mo_pass_13 : decode b_Mo_pass 13 = .ok (.iload_n 2, 1) := by decide +kernel
theorem d_Mo_pass_14 : decode b_Mo_pass 14 = .ok (.iconst 0, 1) := by decide +kernel
theorem d_Mo_pass_15 : decode b_Mo_pass 15 = .ok (.bastore, 1) := by decide +kernel
theorem d_Mo_pass_16 : decode b_Mo_pass 16 = .ok (.aload_n 0, 1) := by decide +kernel
theorem d_Mo_pass_17 : decode b_Mo_pass 17 = .ok (.getfield 91, 3) := by decide +kernel
theorem d_Mo_pass_20 : decode b_Mo_pass 20 = .ok (.iload_n 2, 1) := by decide +kernel
theorem d_Mo_pass_21 : decode b_Mo_pass 21 = .ok (.lconst 0, 1) := by decide +kernel
theorem d_Mo_pass_22 : decode b_Mo_pass 22 = .ok (.lastore, 1) := by decide +kernel
theorem d_Mo_pass_23 : decode b_Mo_pass 23 = .ok (.iinc 2 (1), 3) := by decide +kernel
theorem d_Mo_pass_26 : decode b_Mo_pass 26 = .ok (.goto (-22), 3) := by decide +kernel
theorem d_Mo_pass_29 : decode b_Mo_pass 29 = .ok (.iconst 0, 1) := by decide +kernel
theorem d_Mo_pass_30 : decode b_Mo_pass 30 = .ok (.istore_n 2, 1) := by decide +kernel
theorem d_Mo_pass_31 : decode b_Mo_pass 31 = .ok (.iload_n 2, 1) := by decide +kernel
theorem d_Mo_pass_32 : decode b_Mo_pass 32 = .ok (.bipush (6), 2) := by decide +kernel
theorem d_Mo_pass_34 : decode b_Mo_pass 34 = .ok (.if_icmp .ge (16), 3) := by decide +kernel
theorem d_Mo_pass_37 : decode b_Mo_pass 37 = .ok (.aload_n 0, 1) := by decide +kernel
theorem d_Mo_pass_38 : decode b_Mo_pass 38 = .ok (.getfield 82, 3) := by decide +kernel
theorem d_Mo_pass_41 : decode b_Mo_pass 41 = .ok (.iload_n 2, 1) := by decide +kernel
theorem d_Mo_pass_42 : decode b_Mo_pass 42 = .ok (.iconst (-1), 1) := by decide +kernel
theorem d_Mo_pass_43 : decode b_Mo_pass 43 = .ok (.iastore, 1) := by decide +kernel
theorem d_Mo_pass_44 : decode b_Mo_pass 44 = .ok (.iinc 2 (1), 3) := by decide +kernel
theorem d_Mo_pass_47 : decode b_Mo_pass 47 = .ok (.goto (-16), 3) := by decide +kernel
theorem d_Mo_pass_50 : decode b_Mo_pass 50 = .ok (.iconst 0, 1) := by decide +kernel
theorem d_Mo_pass_51 : decode b_Mo_pass 51 = .ok (.istore_n 2, 1) := by decide +kernel
theorem d_Mo_pass_52 : decode b_Mo_pass 52 = .ok (.iload_n 2, 1) := by decide +kernel
theorem d_Mo_pass_53 : decode b_Mo_pass 53 = .ok (.aload_n 0, 1) := by decide +kernel
theorem d_Mo_pass_54 : decode b_Mo_pass 54 = .ok (.getfield 133, 3) := by decide +kernel
theorem d_Mo_pass_57 : decode b_Mo_pass 57 = .ok (.if_icmp .ge (233), 3) := by decide +kernel
theorem d_Mo_pass_60 : decode b_Mo_pass 60 = .ok (.iconst 0, 1) := by decide +kernel
theorem d_Mo_pass_61 : decode b_Mo_pass 61 = .ok (.istore_n 3, 1) := by decide +kernel
theorem d_Mo_pass_62 : decode b_Mo_pass 62 = .ok (.iload_n 3, 1) := by decide +kernel
theorem d_Mo_pass_63 : decode b_Mo_pass 63 = .ok (.bipush (6), 2) := by decide +kernel
theorem d_Mo_pass_65 : decode b_Mo_pass 65 = .ok (.if_icmp .ge (21), 3) := by decide +kernel
theorem d_Mo_pass_68 : decode b_Mo_pass 68 = .ok (.aload_n 0, 1) := by decide +kernel
theorem d_Mo_pass_69 : decode b_Mo_pass 69 = .ok (.getfield 79, 3) := by decide +kernel
theorem d_Mo_pass_72 : decode b_Mo_pass 72 = .ok (.bipush (6), 2) := by decide +kernel
theorem d_Mo_pass_74 : decode b_Mo_pass 74 = .ok (.iload_n 2, 1) := by decide +kernel
theorem d_Mo_pass_75 : decode b_Mo_pass 75 = .ok (.imul, 1) := by decide +kernel
theorem d_Mo_pass_76 : decode b_Mo_pass 76 = .ok (.iload_n 3, 1) := by decide +kernel
theorem d_Mo_pass_77 : decode b_Mo_pass 77 = .ok (.iadd, 1) := by decide +kernel
theorem d_Mo_pass_78 : decode b_Mo_pass 78 = .ok (.lconst 0, 1) := by decide +kernel
theorem d_Mo_pass_79 : decode b_Mo_pass 79 = .ok (.lastore, 1) := by decide +kernel
theorem d_Mo_pass_80 : decode b_Mo_pass 80 = .ok (.iinc 3 (1), 3) := by decide +kernel
theorem d_Mo_pass_83 : decode b_Mo_pass 83 = .ok (.goto (-21), 3) := by decide +kernel
theorem d_Mo_pass_86 : decode b_Mo_pass 86 = .ok (.aload_n 0, 1) := by decide +kernel
theorem d_Mo_pass_87 : decode b_Mo_pass 87 = .ok (.getfield 38, 3) := by decide +kernel
theorem d_Mo_pass_90 : decode b_Mo_pass 90 = .ok (.iload_n 2, 1) := by decide +kernel
theorem d_Mo_pass_91 : decode b_Mo_pass 91 = .ok (.iaload, 1) := by decide +kernel
theorem d_Mo_pass_92 : decode b_Mo_pass 92 = .ok (.ifCond .ne (36), 3) := by decide +kernel
theorem d_Mo_pass_95 : decode b_Mo_pass 95 = .ok (.aload_n 0, 1) := by decide +kernel
theorem d_Mo_pass_96 : decode b_Mo_pass 96 = .ok (.getfield 76, 3) := by decide +kernel
theorem d_Mo_pass_99 : decode b_Mo_pass 99 = .ok (.iload_n 1, 1) := by decide +kernel
theorem d_Mo_pass_100 : decode b_Mo_pass 100 = .ok (.iaload, 1) := by decide +kernel
theorem d_Mo_pass_101 : decode b_Mo_pass 101 = .ok (.istore_n 3, 1) := by decide +kernel
theorem d_Mo_pass_102 : decode b_Mo_pass 102 = .ok (.iinc 1 (1), 3) := by decide +kernel
theorem d_Mo_pass_105 : decode b_Mo_pass 105 = .ok (.aload_n 0, 1) := by decide +kernel
theorem d_Mo_pass_106 : decode b_Mo_pass 106 = .ok (.getfield 82, 3) := by decide +kernel
theorem d_Mo_pass_109 : decode b_Mo_pass 109 = .ok (.iload_n 3, 1) := by decide +kernel
theorem d_Mo_pass_110 : decode b_Mo_pass 110 = .ok (.iload_n 2, 1) := by decide +kernel
theorem d_Mo_pass_111 : decode b_Mo_pass 111 = .ok (.iastore, 1) := by decide +kernel
theorem d_Mo_pass_112 : decode b_Mo_pass 112 = .ok (.aload_n 0, 1) := by decide +kernel
theorem d_Mo_pass_113 : decode b_Mo_pass 113 = .ok (.iload_n 2, 1) := by decide +kernel
theorem d_Mo_pass_114 : decode b_Mo_pass 114 = .ok (.iload_n 3, 1) := by decide +kernel
theorem d_Mo_pass_115 : decode b_Mo_pass 115 = .ok (.aload_n 0, 1) := by decide +kernel
theorem d_Mo_pass_116 : decode b_Mo_pass 116 = .ok (.getfield 7, 3) := by decide +kernel
theorem d_Mo_pass_119 : decode b_Mo_pass 119 = .ok (.iload_n 3, 1) := by decide +kernel
theorem d_Mo_pass_120 : decode b_Mo_pass 120 = .ok (.iaload, 1) := by decide +kernel
theorem d_Mo_pass_121 : decode b_Mo_pass 121 = .ok (.i2l, 1) := by decide +kernel
theorem d_Mo_pass_122 : decode b_Mo_pass 122 = .ok (.invokevirtual 168, 3) := by decide +kernel
theorem d_Mo_pass_125 : decode b_Mo_pass 125 = .ok (.goto (130), 3) := by decide +kernel
theorem d_Mo_pass_128 : decode b_Mo_pass 128 = .ok (.aload_n 0, 1) := by decide +kernel
theorem d_Mo_pass_129 : decode b_Mo_pass 129 = .ok (.getfield 38, 3) := by decide +kernel
theorem d_Mo_pass_132 : decode b_Mo_pass 132 = .ok (.iload_n 2, 1) := by decide +kernel
theorem d_Mo_pass_133 : decode b_Mo_pass 133 = .ok (.iaload, 1) := by decide +kernel
theorem d_Mo_pass_134 : decode b_Mo_pass 134 = .ok (.iconst 1, 1) := by decide +kernel
theorem d_Mo_pass_135 : decode b_Mo_pass 135 = .ok (.if_icmp .ne (24), 3) := by decide +kernel
theorem d_Mo_pass_138 : decode b_Mo_pass 138 = .ok (.aload_n 0, 1) := by decide +kernel
theorem d_Mo_pass_139 : decode b_Mo_pass 139 = .ok (.iload_n 2, 1) := by decide +kernel
theorem d_Mo_pass_140 : decode b_Mo_pass 140 = .ok (.aload_n 0, 1) := by decide +kernel
theorem d_Mo_pass_141 : decode b_Mo_pass 141 = .ok (.getfield 41, 3) := by decide +kernel
theorem d_Mo_pass_144 : decode b_Mo_pass 144 = .ok (.iload_n 2, 1) := by decide +kernel
theorem d_Mo_pass_145 : decode b_Mo_pass 145 = .ok (.iaload, 1) := by decide +kernel
theorem d_Mo_pass_146 : decode b_Mo_pass 146 = .ok (.aload_n 0, 1) := by decide +kernel
theorem d_Mo_pass_147 : decode b_Mo_pass 147 = .ok (.getfield 44, 3) := by decide +kernel
theorem d_Mo_pass_150 : decode b_Mo_pass 150 = .ok (.iload_n 2, 1) := by decide +kernel
theorem d_Mo_pass_151 : decode b_Mo_pass 151 = .ok (.iaload, 1) := by decide +kernel
theorem d_Mo_pass_152 : decode b_Mo_pass 152 = .ok (.i2l, 1) := by decide +kernel
theorem d_Mo_pass_153 : decode b_Mo_pass 153 = .ok (.invokevirtual 168, 3) := by decide +kernel
theorem d_Mo_pass_156 : decode b_Mo_pass 156 = .ok (.goto (99), 3) := by decide +kernel
theorem d_Mo_pass_159 : decode b_Mo_pass 159 = .ok (.aload_n 0, 1) := by decide +kernel
theorem d_Mo_pass_160 : decode b_Mo_pass 160 = .ok (.getfield 38, 3) := by decide +kernel
theorem d_Mo_pass_163 : decode b_Mo_pass 163 = .ok (.iload_n 2, 1) := by decide +kernel
theorem d_Mo_pass_164 : decode b_Mo_pass 164 = .ok (.iaload, 1) := by decide +kernel
theorem d_Mo_pass_165 : decode b_Mo_pass 165 = .ok (.iconst 2, 1) := by decide +kernel
theorem d_Mo_pass_166 : decode b_Mo_pass 166 = .ok (.if_icmp .ne (18), 3) := by decide +kernel
theorem d_Mo_pass_169 : decode b_Mo_pass 169 = .ok (.aload_n 0, 1) := by decide +kernel
theorem d_Mo_pass_170 : decode b_Mo_pass 170 = .ok (.getfield 88, 3) := by decide +kernel
theorem d_Mo_pass_173 : decode b_Mo_pass 173 = .ok (.aload_n 0, 1) := by decide +kernel
theorem d_Mo_pass_174 : decode b_Mo_pass 174 = .ok (.getfield 41, 3) := by decide +kernel
theorem d_Mo_pass_177 : decode b_Mo_pass 177 = .ok (.iload_n 2, 1) := by decide +kernel
theorem d_Mo_pass_178 : decode b_Mo_pass 178 = .ok (.iaload, 1) := by decide +kernel
theorem d_Mo_pass_179 : decode b_Mo_pass 179 = .ok (.iconst 1, 1) := by decide +kernel
theorem d_Mo_pass_180 : decode b_Mo_pass 180 = .ok (.bastore, 1) := by decide +kernel
theorem d_Mo_pass_181 : decode b_Mo_pass 181 = .ok (.goto (74), 3) := by decide +kernel
theorem d_Mo_pass_184 : decode b_Mo_pass 184 = .ok (.aload_n 0, 1) := by decide +kernel
theorem d_Mo_pass_185 : decode b_Mo_pass 185 = .ok (.getfield 41, 3) := by decide +kernel
theorem d_Mo_pass_188 : decode b_Mo_pass 188 = .ok (.iload_n 2, 1) := by decide +kernel
theorem d_Mo_pass_189 : decode b_Mo_pass 189 = .ok (.iaload, 1) := by decide +kernel
theorem d_Mo_pass_190 : decode b_Mo_pass 190 = .ok (.istore_n 3, 1) := by decide +kernel
theorem d_Mo_pass_191 : decode b_Mo_pass 191 = .ok (.iconst 0, 1) := by decide +kernel
theorem d_Mo_pass_192 : decode b_Mo_pass 192 = .ok (.istore 4, 2) := by decide +kernel
theorem d_Mo_pass_194 : decode b_Mo_pass 194 = .ok (.iload 4, 2) := by decide +kernel
theorem d_Mo_pass_196 : decode b_Mo_pass 196 = .ok (.aload_n 0, 1) := by decide +kernel
theorem d_Mo_pass_197 : decode b_Mo_pass 197 = .ok (.getfield 100, 3) := by decide +kernel
theorem d_Mo_pass_200 : decode b_Mo_pass 200 = .ok (.if_icmp .ge (41), 3) := by decide +kernel
theorem d_Mo_pass_203 : decode b_Mo_pass 203 = .ok (.aload_n 0, 1) := by decide +kernel
theorem d_Mo_pass_204 : decode b_Mo_pass 204 = .ok (.getfield 79, 3) := by decide +kernel
theorem d_Mo_pass_207 : decode b_Mo_pass 207 = .ok (.bipush (6), 2) := by decide +kernel
theorem d_Mo_pass_209 : decode b_Mo_pass 209 = .ok (.iload_n 2, 1) := by decide +kernel
theorem d_Mo_pass_210 : decode b_Mo_pass 210 = .ok (.imul, 1) := by decide +kernel
theorem d_Mo_pass_211 : decode b_Mo_pass 211 = .ok (.iload 4, 2) := by decide +kernel
theorem d_Mo_pass_213 : decode b_Mo_pass 213 = .ok (.iadd, 1) := by decide +kernel
theorem d_Mo_pass_214 : decode b_Mo_pass 214 = .ok (.aload_n 0, 1) := by decide +kernel
theorem d_Mo_pass_215 : decode b_Mo_pass 215 = .ok (.getfield 91, 3) := by decide +kernel
theorem d_Mo_pass_218 : decode b_Mo_pass 218 = .ok (.iload_n 3, 1) := by decide +kernel
theorem d_Mo_pass_219 : decode b_Mo_pass 219 = .ok (.laload, 1) := by decide +kernel
theorem d_Mo_pass_220 : decode b_Mo_pass 220 = .ok (.aload_n 0, 1) := by decide +kernel
theorem d_Mo_pass_221 : decode b_Mo_pass 221 = .ok (.getfield 22, 3) := by decide +kernel
theorem d_Mo_pass_224 : decode b_Mo_pass 224 = .ok (.bipush (6), 2) := by decide +kernel
theorem d_Mo_pass_226 : decode b_Mo_pass 226 = .ok (.iload_n 3, 1) := by decide +kernel
theorem d_Mo_pass_227 : decode b_Mo_pass 227 = .ok (.imul, 1) := by decide +kernel
theorem d_Mo_pass_228 : decode b_Mo_pass 228 = .ok (.iload 4, 2) := by decide +kernel
theorem d_Mo_pass_230 : decode b_Mo_pass 230 = .ok (.iadd, 1) := by decide +kernel
theorem d_Mo_pass_231 : decode b_Mo_pass 231 = .ok (.iaload, 1) := by decide +kernel
theorem d_Mo_pass_232 : decode b_Mo_pass 232 = .ok (.i2l, 1) := by decide +kernel
theorem d_Mo_pass_233 : decode b_Mo_pass 233 = .ok (.lmul, 1) := by decide +kernel
theorem d_Mo_pass_234 : decode b_Mo_pass 234 = .ok (.lastore, 1) := by decide +kernel
theorem d_Mo_pass_235 : decode b_Mo_pass 235 = .ok (.iinc 4 (1), 3) := by decide +kernel
theorem d_Mo_pass_238 : decode b_Mo_pass 238 = .ok (.goto (-44), 3) := by decide +kernel
theorem d_Mo_pass_241 : decode b_Mo_pass 241 = .ok (.aload_n 0, 1) := by decide +kernel
theorem d_Mo_pass_242 : decode b_Mo_pass 242 = .ok (.getfield 88, 3) := by decide +kernel
theorem d_Mo_pass_245 : decode b_Mo_pass 245 = .ok (.iload_n 3, 1) := by decide +kernel
theorem d_Mo_pass_246 : decode b_Mo_pass 246 = .ok (.iconst 0, 1) := by decide +kernel
theorem d_Mo_pass_247 : decode b_Mo_pass 247 = .ok (.bastore, 1) := by decide +kernel
theorem d_Mo_pass_248 : decode b_Mo_pass 248 = .ok (.aload_n 0, 1) := by decide +kernel
theorem d_Mo_pass_249 : decode b_Mo_pass 249 = .ok (.getfield 91, 3) := by decide +kernel
theorem d_Mo_pass_252 : decode b_Mo_pass 252 = .ok (.iload_n 3, 1) := by decide +kernel
theorem d_Mo_pass_253 : decode b_Mo_pass 253 = .ok (.lconst 0, 1) := by decide +kernel
theorem d_Mo_pass_254 : decode b_Mo_pass 254 = .ok (.lastore, 1) := by decide +kernel
theorem d_Mo_pass_255 : decode b_Mo_pass 255 = .ok (.iconst 0, 1) := by decide +kernel
theorem d_Mo_pass_256 : decode b_Mo_pass 256 = .ok (.istore_n 3, 1) := by decide +kernel
theorem d_Mo_pass_257 : decode b_Mo_pass 257 = .ok (.iload_n 3, 1) := by decide +kernel
theorem d_Mo_pass_258 : decode b_Mo_pass 258 = .ok (.iconst 3, 1) := by decide +kernel
theorem d_Mo_pass_259 : decode b_Mo_pass 259 = .ok (.if_icmp .ge (25), 3) := by decide +kernel
theorem d_Mo_pass_262 : decode b_Mo_pass 262 = .ok (.aload_n 0, 1) := by decide +kernel
theorem d_Mo_pass_263 : decode b_Mo_pass 263 = .ok (.getfield 85, 3) := by decide +kernel
theorem d_Mo_pass_266 : decode b_Mo_pass 266 = .ok (.iconst 3, 1) := by decide +kernel
theorem d_Mo_pass_267 : decode b_Mo_pass 267 = .ok (.iload_n 2, 1) := by decide +kernel
theorem d_Mo_pass_268 : decode b_Mo_pass 268 = .ok (.imul, 1) := by decide +kernel
theorem d_Mo_pass_269 : decode b_Mo_pass 269 = .ok (.iload_n 3, 1) := by decide +kernel
theorem d_Mo_pass_270 : decode b_Mo_pass 270 = .ok (.iadd, 1) := by decide +kernel
theorem d_Mo_pass_271 : decode b_Mo_pass 271 = .ok (.aload_n 0, 1) := by decide +kernel
theorem d_Mo_pass_272 : decode b_Mo_pass 272 = .ok (.getfield 91, 3) := by decide +kernel
theorem d_Mo_pass_275 : decode b_Mo_pass 275 = .ok (.iload_n 3, 1) := by decide +kernel
theorem d_Mo_pass_276 : decode b_Mo_pass 276 = .ok (.laload, 1) := by decide +kernel
theorem d_Mo_pass_277 : decode b_Mo_pass 277 = .ok (.lastore, 1) := by decide +kernel
theorem d_Mo_pass_278 : decode b_Mo_pass 278 = .ok (.iinc 3 (1), 3) := by decide +kernel
theorem d_Mo_pass_281 : decode b_Mo_pass 281 = .ok (.goto (-24), 3) := by decide +kernel
theorem d_Mo_pass_284 : decode b_Mo_pass 284 = .ok (.iinc 2 (1), 3) := by decide +kernel
theorem d_Mo_pass_287 : decode b_Mo_pass 287 = .ok (.goto (-235), 3) := by decide +kernel
theorem d_Mo_pass_290 : decode b_Mo_pass 290 = .ok (.return_, 1) := by decide +kernel
set_option maxHeartbeats 4000000 in
set_option maxRecDepth 100000 in
theorem c_Mo_pass (l : Launch) (dC : Nat → ClassId) (dI : Nat → Nat → Nat) (cI cJ cG cZ : ClassId) (a : Nat → Nat) (sz : Nat) (fi : Nat → Int32) (fl : Nat → Int64) (ai : Nat → Nat → Int32) (al : Nat → Nat → Int64) (K : (Nat → Nat → Int32) → (Nat → Nat → Int64) → Prop) (hw : Mo_pass_w fi fl ai al K) : Met l y_Mo_pass ws_Mo_pass ({ frames := 1, cells := 0, slots := 0, locals := 26 }) (va_Pc [.ref (a 0)] (zw_Bw (dC, dI) vwCl [(cI, .int), (cJ, .long), (cG, .array .int), (cZ, .boolean)] (mw cI cJ cG cZ a fi fl ai al) sz)) (va_Qv (fun (u : zw_Z) => (zw_k_ai_alv fi fl K) u.1 u.2.1 u.2.2.1 u.2.2.2) (fun u t => zw_E (dC, dI) vwCl [(cI, .int), (cJ, .long), (cG, .array .int), (cZ, .boolean)] (va_A (mw cI cJ cG cZ a fi fl ai al) sz) (mw cI cJ cG cZ a u.1 u.2.1 u.2.2.1 u.2.2.2) t) (va_A (mw cI cJ cG cZ a fi fl ai al) sz)) 0 0 (va_A (mw cI cJ cG cZ a fi fl ai al) sz) := by
  refine Met.ofW (cc := b_Mo_pass) (maxL := 5) (ret := (Option.none : Option FieldType)) (by decide) rfl ?_
  intro p e s m args below meth c s₁ B hml hv
  obtain ⟨rfl, hsz, hP, hK, hD0, hN⟩ := hv
  have hx := B.exec
  have hb := B.bytes
  have hr := B.returns
  have hts := atoms_spec (ws := ws_Mo_pass) B.pre
  have ht : ∀ w ∈ zw_tbl, w.before _ s = true := fun w h => hts w (List.mem_cons_of_mem _ h)
  have hown : s.vm.findClass R_Mo = some m.cls := findClass_of_methodNamed B.named
  have hlocks := B.notSynchronized
  subst hsz
  have hD := hD0.self (sz := s.heap.size)
  generalize hAe : va_A (mw cI cJ cG cZ a fi fl ai al) s.heap.size = A at hD ⊢
  have hA : ∀ q : Nat, s.heap.size ≤ q → A q := fun q h => by rw [← hAe]; exact Or.inr h
  have hS : va_S A s.heap s.heap [] := va_S.rf
  have hl := lv_entry ([.ref (a 0)] : List Value) (n := 5) (Nat.le_of_ble_eq_true rfl)
  rw [lg_entry_eq]
  generalize (lg_sl ([.ref (a 0)] : List Value) ++ List.replicate (5 - (lg_sl ([.ref (a 0)] : List Value)).length) Slot.unset).toArray = ls at hl ⊢
  have hl : lv_has ls 5 [(0, .ref (a 0))] := hl
  unfold Mo_pass_w at hw
  obtain ⟨H, hH⟩ : ∃ H, H = s.heap := ⟨_, rfl⟩
  obtain ⟨locs, hlo⟩ : ∃ q : List Loc, q = [] := ⟨_, rfl⟩
  have hP : va_P (dC, dI) vwCl (mw cI cJ cG cZ a fi fl ai al) H := by rw [hH]; exact hP
  have hS : va_S A s.heap H locs := by rw [hH, hlo]; exact hS
  have key : W p l e (headSpec ws_Mo_pass ({ frames := 1, cells := 0, slots := 0, locals := 26 })).room s m ([.ref (a 0)] : List Value).toArray below meth c H locs 0 0 (MQ below (va_Qv (fun (u : zw_Z) => (zw_k_ai_alv fi fl K) u.1 u.2.1 u.2.2.1 u.2.2.2) (fun u t => zw_E (dC, dI) vwCl [(cI, .int), (cJ, .long), (cG, .array .int), (cZ, .boolean)] A (mw cI cJ cG cZ a u.1 u.2.1 u.2.2.1 u.2.2.2) t) A) ([.ref (a 0)] : List Value).toArray s 0 0 A) (F0 m 0 ls []) := by
    refine lv_iconst (v := (0 : Int32)) hx hb d_Mo_pass_0 (by decide) ?_
    refine lv_topi (fun v1 ev1 => ?_)
    have hw := zw_nm_x ev1 hw
    refine lv_istore_n (lv' := [(1, .int v1), (0, .ref (a 0))]) hx hb d_Mo_pass_1 rfl hl (by decide) rfl (fun ls hl => ?_)
    refine lv_iconst (v := (0 : Int32)) hx hb d_Mo_pass_2 (by decide) ?_
    refine lv_topi (fun v3 ev3 => ?_)
    have hw := zw_nm_x ev3 hw
    refine lv_istore_n (lv' := [(2, .int v3), (1, .int v1), (0, .ref (a 0))]) hx hb d_Mo_pass_3 rfl hl (by decide) rfl (fun ls hl => ?_)
    refine (zw_lp3_i (P := fun (x4_2 : Int32) (ai4 : Nat → Nat → Int32) (al4 : Nat → Nat → Int64) => ∀ (H : Heap) (locs : List Loc) (ls : Array Slot), va_P (dC, dI) vwCl (mw cI cJ cG cZ a fi fl ai4 al4) H → va_D A (mw cI cJ cG cZ a fi fl ai4 al4) → va_S A s.heap H locs → lv_has ls 5 [(0, .ref (a 0)), (1, .int v1), (2, .int x4_2)] → W p l e (headSpec ws_Mo_pass ({ frames := 1, cells := 0, slots := 0, locals := 26 })).room s m ([.ref (a 0)] : List Value).toArray below meth c H locs 0 0 (MQ below (va_Qv (fun (u : zw_Z) => (zw_k_ai_alv fi fl K) u.1 u.2.1 u.2.2.1 u.2.2.2) (fun u t => zw_E (dC, dI) vwCl [(cI, .int), (cJ, .long), (cG, .array .int), (cZ, .boolean)] A (mw cI cJ cG cZ a u.1 u.2.1 u.2.2.1 u.2.2.2) t) A) ([.ref (a 0)] : List Value).toArray s 0 0 A) (F0 m 4 ls [])) hw (fun L4 x4_2 ai4 al4 ih4 hw H locs ls hP hD hS hl => ?_)) H locs ls hP hD hS (lv_sub hl [2, 1, 0] rfl)
    refine lv_iload_n hx hb d_Mo_pass_4 rfl (lv_at hl 2 rfl) ?_
    refine lv_iconst (v := (3 : Int32)) hx hb d_Mo_pass_5 (by decide) ?_
    refine lv_icmp_ge (tgt := 29) hx hb d_Mo_pass_6 (by decide) (fun c6 => ?_) (fun c6 => ?_)
    · have hw := zw_ite_t c6 hw
      refine lv_iconst (v := (0 : Int32)) hx hb d_Mo_pass_29 (by decide) ?_
      refine lv_topi (fun v30 ev30 => ?_)
      have hw := zw_nm_x ev30 hw
      refine lv_istore_n (lv' := [(2, .int v30), (0, .ref (a 0)), (1, .int v1)]) hx hb d_Mo_pass_30 rfl hl (by decide) rfl (fun ls hl => ?_)
      refine (zw_lp2_i (P := fun (x31_2 : Int32) (ai31 : Nat → Nat → Int32) => ∀ (H : Heap) (locs : List Loc) (ls : Array Slot), va_P (dC, dI) vwCl (mw cI cJ cG cZ a fi fl ai31 al4) H → va_D A (mw cI cJ cG cZ a fi fl ai31 al4) → va_S A s.heap H locs → lv_has ls 5 [(0, .ref (a 0)), (1, .int v1), (2, .int x31_2)] → W p l e (headSpec ws_Mo_pass ({ frames := 1, cells := 0, slots := 0, locals := 26 })).room s m ([.ref (a 0)] : List Value).toArray below meth c H locs 0 0 (MQ below (va_Qv (fun (u : zw_Z) => (zw_k_ai_alv fi fl K) u.1 u.2.1 u.2.2.1 u.2.2.2) (fun u t => zw_E (dC, dI) vwCl [(cI, .int), (cJ, .long), (cG, .array .int), (cZ, .boolean)] A (mw cI cJ cG cZ a u.1 u.2.1 u.2.2.1 u.2.2.2) t) A) ([.ref (a 0)] : List Value).toArray s 0 0 A) (F0 m 31 ls [])) hw (fun L31 x31_2 ai31 ih31 hw H locs ls hP hD hS hl => ?_)) H locs ls hP hD hS (lv_sub hl [1, 2, 0] rfl)
      refine lv_iload_n hx hb d_Mo_pass_31 rfl (lv_at hl 2 rfl) ?_
      refine lv_bipush (v := (6 : Int32)) hx hb d_Mo_pass_32 (by decide) ?_
      refine lv_icmp_ge (tgt := 50) hx hb d_Mo_pass_34 (by decide) (fun c34 => ?_) (fun c34 => ?_)
      · have hw := zw_ite_t c34 hw
        refine lv_iconst (v := (0 : Int32)) hx hb d_Mo_pass_50 (by decide) ?_
        refine lv_topi (fun v51 ev51 => ?_)
        have hw := zw_nm_x ev51 hw
        refine lv_istore_n (lv' := [(2, .int v51), (0, .ref (a 0)), (1, .int v1)]) hx hb d_Mo_pass_51 rfl hl (by decide) rfl (fun ls hl => ?_)
        refine (zw_lp4_i (P := fun (x52_1 : Int32) (x52_2 : Int32) (ai52 : Nat → Nat → Int32) (al52 : Nat → Nat → Int64) => ∀ (H : Heap) (locs : List Loc) (ls : Array Slot), va_P (dC, dI) vwCl (mw cI cJ cG cZ a fi fl ai52 al52) H → va_D A (mw cI cJ cG cZ a fi fl ai52 al52) → va_S A s.heap H locs → lv_has ls 5 [(0, .ref (a 0)), (1, .int x52_1), (2, .int x52_2)] → W p l e (headSpec ws_Mo_pass ({ frames := 1, cells := 0, slots := 0, locals := 26 })).room s m ([.ref (a 0)] : List Value).toArray below meth c H locs 0 0 (MQ below (va_Qv (fun (u : zw_Z) => (zw_k_ai_alv fi fl K) u.1 u.2.1 u.2.2.1 u.2.2.2) (fun u t => zw_E (dC, dI) vwCl [(cI, .int), (cJ, .long), (cG, .array .int), (cZ, .boolean)] A (mw cI cJ cG cZ a u.1 u.2.1 u.2.2.1 u.2.2.2) t) A) ([.ref (a 0)] : List Value).toArray s 0 0 A) (F0 m 52 ls [])) hw (fun L52 x52_1 x52_2 ai52 al52 ih52 hw H locs ls hP hD hS hl => ?_)) H locs ls hP hD hS (lv_sub hl [1, 2, 0] rfl)
        refine lv_iload_n hx hb d_Mo_pass_52 rfl (lv_at hl 2 rfl) ?_
        refine lv_aload_n hx hb d_Mo_pass_53 rfl (lv_at hl 0 rfl) ?_
        refine va_get (D := (dC, dI)) (ci := 7) (v := .int (fi 3)) (C := R_Mo) (T := T_Mo) (N := 36) hx hb ht in_Mo hown hK hP 0 rfl rfl 16 (by decide) (ht _ kw_629) (fun _ h9 => h9) rfl d_Mo_pass_54 ?_
        refine lv_icmp_ge (tgt := 290) hx hb d_Mo_pass_57 (by decide) (fun c57 => ?_) (fun c57 => ?_)
        · have hw := zw_ite_t c57 hw
          exact W.vret hx hb hr (fun t ht hW => ⟨⟨(fi, fl, ai52, al52), rfl, ⟨rfl, rfl, hw⟩, by rw [ht]; exact hP, va_K.moved hW.alike hK, hD⟩, hS.F ht⟩) hS.2.2 d_Mo_pass_290
        · have hw := zw_ite_f c57 hw
          refine lv_iconst (v := (0 : Int32)) hx hb d_Mo_pass_60 (by decide) ?_
          refine lv_topi (fun v61 ev61 => ?_)
          have hw := zw_nm_x ev61 hw
          refine lv_istore_n (lv' := [(3, .int v61), (0, .ref (a 0)), (1, .int x52_1), (2, .int x52_2)]) hx hb d_Mo_pass_61 rfl hl (by decide) rfl (fun ls hl => ?_)
          refine (zw_lp2_i (P := fun (x62_3 : Int32) (al62 : Nat → Nat → Int64) => ∀ (H : Heap) (locs : List Loc) (ls : Array Slot), va_P (dC, dI) vwCl (mw cI cJ cG cZ a fi fl ai52 al62) H → va_D A (mw cI cJ cG cZ a fi fl ai52 al62) → va_S A s.heap H locs → lv_has ls 5 [(0, .ref (a 0)), (1, .int x52_1), (2, .int x52_2), (3, .int x62_3)] → W p l e (headSpec ws_Mo_pass ({ frames := 1, cells := 0, slots := 0, locals := 26 })).room s m ([.ref (a 0)] : List Value).toArray below meth c H locs 0 0 (MQ below (va_Qv (fun (u : zw_Z) => (zw_k_ai_alv fi fl K) u.1 u.2.1 u.2.2.1 u.2.2.2) (fun u t => zw_E (dC, dI) vwCl [(cI, .int), (cJ, .long), (cG, .array .int), (cZ, .boolean)] A (mw cI cJ cG cZ a u.1 u.2.1 u.2.2.1 u.2.2.2) t) A) ([.ref (a 0)] : List Value).toArray s 0 0 A) (F0 m 62 ls [])) hw (fun L62 x62_3 al62 ih62 hw H locs ls hP hD hS hl => ?_)) H locs ls hP hD hS (lv_sub hl [1, 2, 3, 0] rfl)
          refine lv_iload_n hx hb d_Mo_pass_62 rfl (lv_at hl 3 rfl) ?_
          refine lv_bipush (v := (6 : Int32)) hx hb d_Mo_pass_63 (by decide) ?_
          refine lv_icmp_ge (tgt := 86) hx hb d_Mo_pass_65 (by decide) (fun c65 => ?_) (fun c65 => ?_)
          · have hw := zw_ite_t c65 hw
            refine lv_aload_n hx hb d_Mo_pass_86 rfl (lv_at hl 0 rfl) ?_
            refine va_get (D := (dC, dI)) (ci := 7) (v := .ref (a 10)) (C := R_Mo) (T := T_Mo) (N := 36) hx hb ht in_Mo hown hK hP 0 rfl rfl 12 (by decide) (ht _ kw_625) (fun _ h9 => h9) rfl d_Mo_pass_87 ?_
            refine lv_iload_n hx hb d_Mo_pass_90 rfl (lv_at hl 2 rfl) ?_
            obtain ⟨h91, hw⟩ := hw
            refine va_iald (f := ai52 10) hx hb hK hP 10 0 rfl rfl h91 d_Mo_pass_91 ?_
            refine zw_jn3_i (P := fun (x255_1 : Int32) (ai255 : Nat → Nat → Int32) (al255 : Nat → Nat → Int64) => ∀ (H : Heap) (locs : List Loc) (ls : Array Slot), va_P (dC, dI) vwCl (mw cI cJ cG cZ a fi fl ai255 al255) H → va_D A (mw cI cJ cG cZ a fi fl ai255 al255) → va_S A s.heap H locs → lv_has ls 5 [(0, .ref (a 0)), (1, .int x255_1), (2, .int x52_2)] → W p l e (headSpec ws_Mo_pass ({ frames := 1, cells := 0, slots := 0, locals := 26 })).room s m ([.ref (a 0)] : List Value).toArray below meth c H locs 0 0 (MQ below (va_Qv (fun (u : zw_Z) => (zw_k_ai_alv fi fl K) u.1 u.2.1 u.2.2.1 u.2.2.2) (fun u t => zw_E (dC, dI) vwCl [(cI, .int), (cJ, .long), (cG, .array .int), (cZ, .boolean)] A (mw cI cJ cG cZ a u.1 u.2.1 u.2.2.1 u.2.2.2) t) A) ([.ref (a 0)] : List Value).toArray s 0 0 A) (F0 m 255 ls [])) hw (fun x255_1 ai255 al255 hw H locs ls hP hD hS hl => ?_) (fun J255 hj255 hw => ?_)
            · refine lv_iconst (v := (0 : Int32)) hx hb d_Mo_pass_255 (by decide) ?_
              refine lv_topi (fun v256 ev256 => ?_)
              have hw := zw_nm_x ev256 hw
              refine lv_istore_n (lv' := [(3, .int v256), (0, .ref (a 0)), (1, .int x255_1), (2, .int x52_2)]) hx hb d_Mo_pass_256 rfl hl (by decide) rfl (fun ls hl => ?_)
              refine (zw_lp2_i (P := fun (x257_3 : Int32) (al257 : Nat → Nat → Int64) => ∀ (H : Heap) (locs : List Loc) (ls : Array Slot), va_P (dC, dI) vwCl (mw cI cJ cG cZ a fi fl ai255 al257) H → va_D A (mw cI cJ cG cZ a fi fl ai255 al257) → va_S A s.heap H locs → lv_has ls 5 [(0, .ref (a 0)), (1, .int x255_1), (2, .int x52_2), (3, .int x257_3)] → W p l e (headSpec ws_Mo_pass ({ frames := 1, cells := 0, slots := 0, locals := 26 })).room s m ([.ref (a 0)] : List Value).toArray below meth c H locs 0 0 (MQ below (va_Qv (fun (u : zw_Z) => (zw_k_ai_alv fi fl K) u.1 u.2.1 u.2.2.1 u.2.2.2) (fun u t => zw_E (dC, dI) vwCl [(cI, .int), (cJ, .long), (cG, .array .int), (cZ, .boolean)] A (mw cI cJ cG cZ a u.1 u.2.1 u.2.2.1 u.2.2.2) t) A) ([.ref (a 0)] : List Value).toArray s 0 0 A) (F0 m 257 ls [])) hw (fun L257 x257_3 al257 ih257 hw H locs ls hP hD hS hl => ?_)) H locs ls hP hD hS (lv_sub hl [1, 2, 3, 0] rfl)
              refine lv_iload_n hx hb d_Mo_pass_257 rfl (lv_at hl 3 rfl) ?_
              refine lv_iconst (v := (3 : Int32)) hx hb d_Mo_pass_258 (by decide) ?_
              refine lv_icmp_ge (tgt := 284) hx hb d_Mo_pass_259 (by decide) (fun c259 => ?_) (fun c259 => ?_)
              · have hw := zw_ite_t c259 hw
                obtain ⟨v284, ev284⟩ : ∃ y : Int32, y = x52_2 + (1 : Int32) := ⟨_, rfl⟩
                refine lv_iinc (v := v284) (lv' := [(2, .int v284), (0, .ref (a 0)), (1, .int x255_1), (3, .int x257_3)]) hx hb d_Mo_pass_284 hl (k := 2) rfl (by rw [ev284]; rfl) (by decide) rfl (fun ls hl => ?_)
                have hw := zw_nm_x ev284 hw
                refine lv_goto (tgt := 52) hx hb d_Mo_pass_287 (by decide) ?_
                exact (ih52 x255_1 v284 ai255 al257 hw) H locs ls hP hD hS (lv_sub hl [1, 2, 0] rfl)
              · have hw := zw_ite_f c259 hw
                refine lv_aload_n hx hb d_Mo_pass_262 rfl (lv_at hl 0 rfl) ?_
                refine va_get (D := (dC, dI)) (ci := 7) (v := .ref (a 23)) (C := R_Mo) (T := T_Mo) (N := 36) hx hb ht in_Mo hown hK hP 0 rfl rfl 31 (by decide) (ht _ kw_644) (fun _ h9 => h9) rfl d_Mo_pass_263 ?_
                refine lv_iconst (v := (3 : Int32)) hx hb d_Mo_pass_266 (by decide) ?_
                refine lv_iload_n hx hb d_Mo_pass_267 rfl (lv_at hl 2 rfl) ?_
                refine lv_imul hx hb d_Mo_pass_268 ?_
                refine lv_iload_n hx hb d_Mo_pass_269 rfl (lv_at hl 3 rfl) ?_
                refine lv_iadd hx hb d_Mo_pass_270 ?_
                refine lv_aload_n hx hb d_Mo_pass_271 rfl (lv_at hl 0 rfl) ?_
                refine va_get (D := (dC, dI)) (ci := 7) (v := .ref (a 25)) (C := R_Mo) (T := T_Mo) (N := 36) hx hb ht in_Mo hown hK hP 0 rfl rfl 33 (by decide) (ht _ kw_646) (fun _ h9 => h9) rfl d_Mo_pass_272 ?_
                refine lv_iload_n hx hb d_Mo_pass_275 rfl (lv_at hl 3 rfl) ?_
                obtain ⟨h276, hw⟩ := hw
                refine va_lald (f := al257 25) hx hb hK hP 25 1 rfl rfl h276 d_Mo_pass_276 ?_
                obtain ⟨h277, hw⟩ := hw
                refine va_last (f := al257 23) hx hb hK hP hD hS 23 1 rfl rfl h277 d_Mo_pass_277 (fun H locs hP hD hS => ?_)
                have hP := mwpal_23 hP
                have hD := mwdal_23 hD
                obtain ⟨al_277, eal_277⟩ : ∃ z, z = va_up al257 23 (vp_updL (al257 23) (((3 : Int32) * x52_2) + x257_3).toNatClampNeg (al257 25 x257_3.toNatClampNeg)) := ⟨_, rfl⟩
                rw [← eal_277] at hP hD
                have hw := zw_nm_x eal_277 hw
                obtain ⟨v278, ev278⟩ : ∃ y : Int32, y = x257_3 + (1 : Int32) := ⟨_, rfl⟩
                refine lv_iinc (v := v278) (lv' := [(3, .int v278), (0, .ref (a 0)), (1, .int x255_1), (2, .int x52_2)]) hx hb d_Mo_pass_278 hl (k := 3) rfl (by rw [ev278]; rfl) (by decide) rfl (fun ls hl => ?_)
                have hw := zw_nm_x ev278 hw
                refine lv_goto (tgt := 257) hx hb d_Mo_pass_281 (by decide) ?_
                exact (ih257 v278 al_277 hw) H locs ls hP hD hS (lv_sub hl [1, 2, 3, 0] rfl)
            · refine lv_if_ne (tgt := 128) hx hb d_Mo_pass_92 (by decide) (fun c92 => ?_) (fun c92 => ?_)
              · have hw := zw_ite_f c92 hw
                refine lv_aload_n hx hb d_Mo_pass_128 rfl (lv_at hl 0 rfl) ?_
                refine va_get (D := (dC, dI)) (ci := 7) (v := .ref (a 10)) (C := R_Mo) (T := T_Mo) (N := 36) hx hb ht in_Mo hown hK hP 0 rfl rfl 12 (by decide) (ht _ kw_625) (fun _ h9 => h9) rfl d_Mo_pass_129 ?_
                refine lv_iload_n hx hb d_Mo_pass_132 rfl (lv_at hl 2 rfl) ?_
                obtain ⟨h133, hw⟩ := hw
                refine va_iald (f := ai52 10) hx hb hK hP 10 0 rfl rfl h133 d_Mo_pass_133 ?_
                refine lv_iconst (v := (1 : Int32)) hx hb d_Mo_pass_134 (by decide) ?_
                refine lv_icmp_ne (tgt := 159) hx hb d_Mo_pass_135 (by decide) (fun c135 => ?_) (fun c135 => ?_)
                · have hw := zw_ite_f c135 hw
                  refine lv_aload_n hx hb d_Mo_pass_159 rfl (lv_at hl 0 rfl) ?_
                  refine va_get (D := (dC, dI)) (ci := 7) (v := .ref (a 10)) (C := R_Mo) (T := T_Mo) (N := 36) hx hb ht in_Mo hown hK hP 0 rfl rfl 12 (by decide) (ht _ kw_625) (fun _ h9 => h9) rfl d_Mo_pass_160 ?_
                  refine lv_iload_n hx hb d_Mo_pass_163 rfl (lv_at hl 2 rfl) ?_
                  obtain ⟨h164, hw⟩ := hw
                  refine va_iald (f := ai52 10) hx hb hK hP 10 0 rfl rfl h164 d_Mo_pass_164 ?_
                  refine lv_iconst (v := (2 : Int32)) hx hb d_Mo_pass_165 (by decide) ?_
                  refine lv_icmp_ne (tgt := 184) hx hb d_Mo_pass_166 (by decide) (fun c166 => ?_) (fun c166 => ?_)
                  · have hw := zw_ite_f c166 hw
                    refine lv_aload_n hx hb d_Mo_pass_184 rfl (lv_at hl 0 rfl) ?_
                    refine va_get (D := (dC, dI)) (ci := 7) (v := .ref (a 11)) (C := R_Mo) (T := T_Mo) (N := 36) hx hb ht in_Mo hown hK hP 0 rfl rfl 13 (by decide) (ht _ kw_626) (fun _ h9 => h9) rfl d_Mo_pass_185 ?_
                    refine lv_iload_n hx hb d_Mo_pass_188 rfl (lv_at hl 2 rfl) ?_
                    obtain ⟨h189, hw⟩ := hw
                    refine va_iald (f := ai52 11) hx hb hK hP 11 0 rfl rfl h189 d_Mo_pass_189 ?_
                    refine lv_topi (fun v190 ev190 => ?_)
                    have hw := zw_nm_x ev190 hw
                    refine lv_istore_n (lv' := [(3, .int v190), (0, .ref (a 0)), (1, .int x52_1), (2, .int x52_2)]) hx hb d_Mo_pass_190 rfl hl (by decide) rfl (fun ls hl => ?_)
                    refine lv_iconst (v := (0 : Int32)) hx hb d_Mo_pass_191 (by decide) ?_
                    refine lv_topi (fun v192 ev192 => ?_)
                    have hw := zw_nm_x ev192 hw
                    refine lv_istore (lv' := [(4, .int v192), (3, .int v190), (0, .ref (a 0)), (1, .int x52_1), (2, .int x52_2)]) hx hb d_Mo_pass_192 hl (by decide) rfl (fun ls hl => ?_)
                    refine (zw_lp2_i (P := fun (x194_4 : Int32) (al194 : Nat → Nat → Int64) => ∀ (H : Heap) (locs : List Loc) (ls : Array Slot), va_P (dC, dI) vwCl (mw cI cJ cG cZ a fi fl ai52 al194) H → va_D A (mw cI cJ cG cZ a fi fl ai52 al194) → va_S A s.heap H locs → lv_has ls 5 [(0, .ref (a 0)), (1, .int x52_1), (2, .int x52_2), (3, .int v190), (4, .int x194_4)] → W p l e (headSpec ws_Mo_pass ({ frames := 1, cells := 0, slots := 0, locals := 26 })).room s m ([.ref (a 0)] : List Value).toArray below meth c H locs 0 0 (MQ below (va_Qv (fun (u : zw_Z) => (zw_k_ai_alv fi fl K) u.1 u.2.1 u.2.2.1 u.2.2.2) (fun u t => zw_E (dC, dI) vwCl [(cI, .int), (cJ, .long), (cG, .array .int), (cZ, .boolean)] A (mw cI cJ cG cZ a u.1 u.2.1 u.2.2.1 u.2.2.2) t) A) ([.ref (a 0)] : List Value).toArray s 0 0 A) (F0 m 194 ls [])) hw (fun L194 x194_4 al194 ih194 hw H locs ls hP hD hS hl => ?_)) H locs ls hP hD hS (lv_sub hl [2, 3, 4, 1, 0] rfl)
                    refine lv_iload hx hb d_Mo_pass_194 (lv_at hl 4 rfl) ?_
                    refine lv_aload_n hx hb d_Mo_pass_196 rfl (lv_at hl 0 rfl) ?_
                    refine va_get (D := (dC, dI)) (ci := 7) (v := .int (fi 0)) (C := R_Mo) (T := T_Mo) (N := 36) hx hb ht in_Mo hown hK hP 0 rfl rfl 0 (by decide) (ht _ kw_613) (fun _ h9 => h9) rfl d_Mo_pass_197 ?_
                    refine lv_icmp_ge (tgt := 241) hx hb d_Mo_pass_200 (by decide) (fun c200 => ?_) (fun c200 => ?_)
                    · have hw := zw_ite_t c200 hw
                      refine lv_aload_n hx hb d_Mo_pass_241 rfl (lv_at hl 0 rfl) ?_
                      refine va_get (D := (dC, dI)) (ci := 7) (v := .ref (a 24)) (C := R_Mo) (T := T_Mo) (N := 36) hx hb ht in_Mo hown hK hP 0 rfl rfl 32 (by decide) (ht _ kw_645) (fun _ h9 => h9) rfl d_Mo_pass_242 ?_
                      refine lv_iload_n hx hb d_Mo_pass_245 rfl (lv_at hl 3 rfl) ?_
                      refine lv_iconst (v := (0 : Int32)) hx hb d_Mo_pass_246 (by decide) ?_
                      obtain ⟨h247, hw⟩ := hw
                      refine va_zast (f := ai52 24) hx hb hK hP hD hS 24 3 rfl rfl h247 d_Mo_pass_247 (fun H locs hP hD hS => ?_)
                      have hP := mwpai_24 hP
                      have hD := mwdai_24 hD
                      obtain ⟨ai_247, eai_247⟩ : ∃ z, z = va_up ai52 24 (upd (ai52 24) v190.toNatClampNeg (vp_nar .boolean (0 : Int32))) := ⟨_, rfl⟩
                      rw [← eai_247] at hP hD
                      have hw := zw_nm_x eai_247 hw
                      refine lv_aload_n hx hb d_Mo_pass_248 rfl (lv_at hl 0 rfl) ?_
                      refine va_get (D := (dC, dI)) (ci := 7) (v := .ref (a 25)) (C := R_Mo) (T := T_Mo) (N := 36) hx hb ht in_Mo hown hK hP 0 rfl rfl 33 (by decide) (ht _ kw_646) (fun _ h9 => h9) rfl d_Mo_pass_249 ?_
                      refine lv_iload_n hx hb d_Mo_pass_252 rfl (lv_at hl 3 rfl) ?_
                      refine lv_lconst (v := (0 : Int64)) hx hb d_Mo_pass_253 (by decide) ?_
                      obtain ⟨h254, hw⟩ := hw
                      refine va_last (f := al194 25) hx hb hK hP hD hS 25 1 rfl rfl h254 d_Mo_pass_254 (fun H locs hP hD hS => ?_)
                      have hP := mwpal_25 hP
                      have hD := mwdal_25 hD
                      obtain ⟨al_254, eal_254⟩ : ∃ z, z = va_up al194 25 (vp_updL (al194 25) v190.toNatClampNeg (0 : Int64)) := ⟨_, rfl⟩
                      rw [← eal_254] at hP hD
                      have hw := zw_nm_x eal_254 hw
                      exact (hj255 x52_1 ai_247 al_254 hw) H locs ls hP hD hS (lv_sub hl [0, 1, 2] rfl)
                    · have hw := zw_ite_f c200 hw
                      refine lv_aload_n hx hb d_Mo_pass_203 rfl (lv_at hl 0 rfl) ?_
                      refine va_get (D := (dC, dI)) (ci := 7) (v := .ref (a 21)) (C := R_Mo) (T := T_Mo) (N := 36) hx hb ht in_Mo hown hK hP 0 rfl rfl 29 (by decide) (ht _ kw_642) (fun _ h9 => h9) rfl d_Mo_pass_204 ?_
                      refine lv_bipush (v := (6 : Int32)) hx hb d_Mo_pass_207 (by decide) ?_
                      refine lv_iload_n hx hb d_Mo_pass_209 rfl (lv_at hl 2 rfl) ?_
                      refine lv_imul hx hb d_Mo_pass_210 ?_
                      refine lv_iload hx hb d_Mo_pass_211 (lv_at hl 4 rfl) ?_
                      refine lv_iadd hx hb d_Mo_pass_213 ?_
                      refine lv_aload_n hx hb d_Mo_pass_214 rfl (lv_at hl 0 rfl) ?_
                      refine va_get (D := (dC, dI)) (ci := 7) (v := .ref (a 25)) (C := R_Mo) (T := T_Mo) (N := 36) hx hb ht in_Mo hown hK hP 0 rfl rfl 33 (by decide) (ht _ kw_646) (fun _ h9 => h9) rfl d_Mo_pass_215 ?_
                      refine lv_iload_n hx hb d_Mo_pass_218 rfl (lv_at hl 3 rfl) ?_
                      obtain ⟨h219, hw⟩ := hw
                      refine va_lald (f := al194 25) hx hb hK hP 25 1 rfl rfl h219 d_Mo_pass_219 ?_
                      refine lv_aload_n hx hb d_Mo_pass_220 rfl (lv_at hl 0 rfl) ?_
                      refine va_get (D := (dC, dI)) (ci := 7) (v := .ref (a 5)) (C := R_Mo) (T := T_Mo) (N := 36) hx hb ht in_Mo hown hK hP 0 rfl rfl 5 (by decide) (ht _ kw_618) (fun _ h9 => h9) rfl d_Mo_pass_221 ?_
                      refine lv_bipush (v := (6 : Int32)) hx hb d_Mo_pass_224 (by decide) ?_
                      refine lv_iload_n hx hb d_Mo_pass_226 rfl (lv_at hl 3 rfl) ?_
                      refine lv_imul hx hb d_Mo_pass_227 ?_
                      refine lv_iload hx hb d_Mo_pass_228 (lv_at hl 4 rfl) ?_
                      refine lv_iadd hx hb d_Mo_pass_230 ?_
                      obtain ⟨h231, hw⟩ := hw
                      refine va_iald (f := ai52 5) hx hb hK hP 5 0 rfl rfl h231 d_Mo_pass_231 ?_
                      refine lv_i2l hx hb d_Mo_pass_232 rfl ?_
                      refine lv_lmul hx hb d_Mo_pass_233 ?_
                      obtain ⟨h234, hw⟩ := hw
                      refine va_last (f := al194 21) hx hb hK hP hD hS 21 1 rfl rfl h234 d_Mo_pass_234 (fun H locs hP hD hS => ?_)
                      have hP := mwpal_21 hP
                      have hD := mwdal_21 hD
                      obtain ⟨al_234, eal_234⟩ : ∃ z, z = va_up al194 21 (vp_updL (al194 21) (((6 : Int32) * x52_2) + x194_4).toNatClampNeg ((al194 25 v190.toNatClampNeg) * (ai52 5 (((6 : Int32) * v190) + x194_4).toNatClampNeg).toInt64)) := ⟨_, rfl⟩
                      rw [← eal_234] at hP hD
                      have hw := zw_nm_x eal_234 hw
                      obtain ⟨v235, ev235⟩ : ∃ y : Int32, y = x194_4 + (1 : Int32) := ⟨_, rfl⟩
                      refine lv_iinc (v := v235) (lv' := [(4, .int v235), (0, .ref (a 0)), (1, .int x52_1), (2, .int x52_2), (3, .int v190)]) hx hb d_Mo_pass_235 hl (k := 4) rfl (by rw [ev235]; rfl) (by decide) rfl (fun ls hl => ?_)
                      have hw := zw_nm_x ev235 hw
                      refine lv_goto (tgt := 194) hx hb d_Mo_pass_238 (by decide) ?_
                      exact (ih194 v235 al_234 hw) H locs ls hP hD hS (lv_sub hl [1, 2, 3, 4, 0] rfl)
                  · have hw := zw_ite_t c166 hw
                    refine lv_aload_n hx hb d_Mo_pass_169 rfl (lv_at hl 0 rfl) ?_
                    refine va_get (D := (dC, dI)) (ci := 7) (v := .ref (a 24)) (C := R_Mo) (T := T_Mo) (N := 36) hx hb ht in_Mo hown hK hP 0 rfl rfl 32 (by decide) (ht _ kw_645) (fun _ h9 => h9) rfl d_Mo_pass_170 ?_
                    refine lv_aload_n hx hb d_Mo_pass_173 rfl (lv_at hl 0 rfl) ?_
                    refine va_get (D := (dC, dI)) (ci := 7) (v := .ref (a 11)) (C := R_Mo) (T := T_Mo) (N := 36) hx hb ht in_Mo hown hK hP 0 rfl rfl 13 (by decide) (ht _ kw_626) (fun _ h9 => h9) rfl d_Mo_pass_174 ?_
                    refine lv_iload_n hx hb d_Mo_pass_177 rfl (lv_at hl 2 rfl) ?_
                    obtain ⟨h178, hw⟩ := hw
                    refine va_iald (f := ai52 11) hx hb hK hP 11 0 rfl rfl h178 d_Mo_pass_178 ?_
                    refine lv_iconst (v := (1 : Int32)) hx hb d_Mo_pass_179 (by decide) ?_
                    obtain ⟨h180, hw⟩ := hw
                    refine va_zast (f := ai52 24) hx hb hK hP hD hS 24 3 rfl rfl h180 d_Mo_pass_180 (fun H locs hP hD hS => ?_)
                    have hP := mwpai_24 hP
                    have hD := mwdai_24 hD
                    obtain ⟨ai_180, eai_180⟩ : ∃ z, z = va_up ai52 24 (upd (ai52 24) (ai52 11 x52_2.toNatClampNeg).toNatClampNeg (vp_nar .boolean (1 : Int32))) := ⟨_, rfl⟩
                    rw [← eai_180] at hP hD
                    have hw := zw_nm_x eai_180 hw
                    refine lv_goto (tgt := 255) hx hb d_Mo_pass_181 (by decide) ?_
                    exact (hj255 x52_1 ai_180 al62 hw) H locs ls hP hD hS (lv_sub hl [0, 1, 2] rfl)
                · have hw := zw_ite_t c135 hw
                  refine lv_aload_n hx hb d_Mo_pass_138 rfl (lv_at hl 0 rfl) ?_
                  refine lv_iload_n hx hb d_Mo_pass_139 rfl (lv_at hl 2 rfl) ?_
                  refine lv_aload_n hx hb d_Mo_pass_140 rfl (lv_at hl 0 rfl) ?_
                  refine va_get (D := (dC, dI)) (ci := 7) (v := .ref (a 11)) (C := R_Mo) (T := T_Mo) (N := 36) hx hb ht in_Mo hown hK hP 0 rfl rfl 13 (by decide) (ht _ kw_626) (fun _ h9 => h9) rfl d_Mo_pass_141 ?_
                  refine lv_iload_n hx hb d_Mo_pass_144 rfl (lv_at hl 2 rfl) ?_
                  obtain ⟨h145, hw⟩ := hw
                  refine va_iald (f := ai52 11) hx hb hK hP 11 0 rfl rfl h145 d_Mo_pass_145 ?_
                  refine lv_aload_n hx hb d_Mo_pass_146 rfl (lv_at hl 0 rfl) ?_
                  refine va_get (D := (dC, dI)) (ci := 7) (v := .ref (a 12)) (C := R_Mo) (T := T_Mo) (N := 36) hx hb ht in_Mo hown hK hP 0 rfl rfl 14 (by decide) (ht _ kw_627) (fun _ h9 => h9) rfl d_Mo_pass_147 ?_
                  refine lv_iload_n hx hb d_Mo_pass_150 rfl (lv_at hl 2 rfl) ?_
                  obtain ⟨h151, hw⟩ := hw
                  refine va_iald (f := ai52 12) hx hb hK hP 12 0 rfl rfl h151 d_Mo_pass_151 ?_
                  refine lv_i2l hx hb d_Mo_pass_152 rfl ?_
                  refine zw_cv (va_runV (As := [.int x52_2, .int (ai52 11 x52_2.toNatClampNeg), .long (ai52 12 x52_2.toNatClampNeg).toInt64]) (rest := []) ⟨hx, hb, hml, hown, hts⟩ (c_Mo_loadOn l dC dI cI cJ cG cZ a H.size fi fl ai52 al62 x52_2 (ai52 11 x52_2.toNatClampNeg) ((ai52 12 x52_2.toNatClampNeg).toInt64) _ hw) (cwV 3 hts (zw_goodV kw_828 kw_830 kw_s27 kw_9 kw_831) rfl rfl rfl hd_Mo_loadOn ⟨Nat.le_of_ble_eq_true rfl, Nat.le_of_ble_eq_true rfl⟩) (zw_preVw (ci := 7) (q0 := 0) hK hN hP hD rfl rfl) rfl rfl hl.1 rfl (lv_room (Nat.le_of_ble_eq_true rfl)) d_Mo_pass_153 ⟨Nat.le_of_ble_eq_true rfl, Nat.le_of_ble_eq_true rfl⟩) hD hS hA (fun fi_153 fl_153 ai_153 al_153 H locs hw hP hD hS => ?_)
                  obtain ⟨rfl, rfl, rfl, hw⟩ := hw
                  refine lv_goto (tgt := 255) hx hb d_Mo_pass_156 (by decide) ?_
                  exact (hj255 x52_1 ai52 al_153 hw) H locs ls hP hD hS (lv_sub hl [0, 1, 2] rfl)
              · have hw := zw_ite_t c92 hw
                refine lv_aload_n hx hb d_Mo_pass_95 rfl (lv_at hl 0 rfl) ?_
                refine va_get (D := (dC, dI)) (ci := 7) (v := .ref (a 20)) (C := R_Mo) (T := T_Mo) (N := 36) hx hb ht in_Mo hown hK hP 0 rfl rfl 27 (by decide) (ht _ kw_640) (fun _ h9 => h9) rfl d_Mo_pass_96 ?_
                refine lv_iload_n hx hb d_Mo_pass_99 rfl (lv_at hl 1 rfl) ?_
                obtain ⟨h100, hw⟩ := hw
                refine va_iald (f := ai52 20) hx hb hK hP 20 0 rfl rfl h100 d_Mo_pass_100 ?_
                refine lv_topi (fun v101 ev101 => ?_)
                have hw := zw_nm_x ev101 hw
                refine lv_istore_n (lv' := [(3, .int v101), (0, .ref (a 0)), (1, .int x52_1), (2, .int x52_2)]) hx hb d_Mo_pass_101 rfl hl (by decide) rfl (fun ls hl => ?_)
                obtain ⟨v102, ev102⟩ : ∃ y : Int32, y = x52_1 + (1 : Int32) := ⟨_, rfl⟩
                refine lv_iinc (v := v102) (lv' := [(1, .int v102), (3, .int v101), (0, .ref (a 0)), (2, .int x52_2)]) hx hb d_Mo_pass_102 hl (k := 2) rfl (by rw [ev102]; rfl) (by decide) rfl (fun ls hl => ?_)
                have hw := zw_nm_x ev102 hw
                refine lv_aload_n hx hb d_Mo_pass_105 rfl (lv_at hl 2 rfl) ?_
                refine va_get (D := (dC, dI)) (ci := 7) (v := .ref (a 22)) (C := R_Mo) (T := T_Mo) (N := 36) hx hb ht in_Mo hown hK hP 0 rfl rfl 30 (by decide) (ht _ kw_643) (fun _ h9 => h9) rfl d_Mo_pass_106 ?_
                refine lv_iload_n hx hb d_Mo_pass_109 rfl (lv_at hl 1 rfl) ?_
                refine lv_iload_n hx hb d_Mo_pass_110 rfl (lv_at hl 3 rfl) ?_
                obtain ⟨h111, hw⟩ := hw
                refine va_iast (f := ai52 22) hx hb hK hP hD hS 22 0 rfl rfl h111 d_Mo_pass_111 (fun H locs hP hD hS => ?_)
                have hP := mwpai_22 hP
                have hD := mwdai_22 hD
                obtain ⟨ai_111, eai_111⟩ : ∃ z, z = va_up ai52 22 (upd (ai52 22) v101.toNatClampNeg x52_2) := ⟨_, rfl⟩
                rw [← eai_111] at hP hD
                have hw := zw_nm_x eai_111 hw
                refine lv_aload_n hx hb d_Mo_pass_112 rfl (lv_at hl 2 rfl) ?_
                refine lv_iload_n hx hb d_Mo_pass_113 rfl (lv_at hl 3 rfl) ?_
                refine lv_iload_n hx hb d_Mo_pass_114 rfl (lv_at hl 1 rfl) ?_
                refine lv_aload_n hx hb d_Mo_pass_115 rfl (lv_at hl 2 rfl) ?_
                refine va_get (D := (dC, dI)) (ci := 7) (v := .ref (a 1)) (C := R_Mo) (T := T_Mo) (N := 36) hx hb ht in_Mo hown hK hP 0 rfl rfl 1 (by decide) (ht _ kw_614) (fun _ h9 => h9) rfl d_Mo_pass_116 ?_
                refine lv_iload_n hx hb d_Mo_pass_119 rfl (lv_at hl 1 rfl) ?_
                obtain ⟨h120, hw⟩ := hw
                refine va_iald (f := ai_111 1) hx hb hK hP 1 0 rfl rfl h120 d_Mo_pass_120 ?_
                refine lv_i2l hx hb d_Mo_pass_121 rfl ?_
                refine zw_cv (va_runV (As := [.int x52_2, .int v101, .long (ai_111 1 v101.toNatClampNeg).toInt64]) (rest := []) ⟨hx, hb, hml, hown, hts⟩ (c_Mo_loadOn l dC dI cI cJ cG cZ a H.size fi fl ai_111 al62 x52_2 v101 ((ai_111 1 v101.toNatClampNeg).toInt64) _ hw) (cwV 3 hts (zw_goodV kw_828 kw_830 kw_s27 kw_9 kw_831) rfl rfl rfl hd_Mo_loadOn ⟨Nat.le_of_ble_eq_true rfl, Nat.le_of_ble_eq_true rfl⟩) (zw_preVw (ci := 7) (q0 := 0) hK hN hP hD rfl rfl) rfl rfl hl.1 rfl (lv_room (Nat.le_of_ble_eq_true rfl)) d_Mo_pass_122 ⟨Nat.le_of_ble_eq_true rfl, Nat.le_of_ble_eq_true rfl⟩) hD hS hA (fun fi_122 fl_122 ai_122 al_122 H locs hw hP hD hS => ?_)
                obtain ⟨rfl, rfl, rfl, hw⟩ := hw
                refine lv_goto (tgt := 255) hx hb d_Mo_pass_125 (by decide) ?_
                exact (hj255 v102 ai_111 al_122 hw) H locs ls hP hD hS (lv_sub hl [2, 0, 3] rfl)
          · have hw := zw_ite_f c65 hw
            refine lv_aload_n hx hb d_Mo_pass_68 rfl (lv_at hl 0 rfl) ?_
            refine va_get (D := (dC, dI)) (ci := 7) (v := .ref (a 21)) (C := R_Mo) (T := T_Mo) (N := 36) hx hb ht in_Mo hown hK hP 0 rfl rfl 29 (by decide) (ht _ kw_642) (fun _ h9 => h9) rfl d_Mo_pass_69 ?_
            refine lv_bipush (v := (6 : Int32)) hx hb d_Mo_pass_72 (by decide) ?_
            refine lv_iload_n hx hb d_Mo_pass_74 rfl (lv_at hl 2 rfl) ?_
            refine lv_imul hx hb d_Mo_pass_75 ?_
            refine lv_iload_n hx hb d_Mo_pass_76 rfl (lv_at hl 3 rfl) ?_
            refine lv_iadd hx hb d_Mo_pass_77 ?_
            refine lv_lconst (v := (0 : Int64)) hx hb d_Mo_pass_78 (by decide) ?_
            obtain ⟨h79, hw⟩ := hw
            refine va_last (f := al62 21) hx hb hK hP hD hS 21 1 rfl rfl h79 d_Mo_pass_79 (fun H locs hP hD hS => ?_)
            have hP := mwpal_21 hP
            have hD := mwdal_21 hD
            obtain ⟨al_79, eal_79⟩ : ∃ z, z = va_up al62 21 (vp_updL (al62 21) (((6 : Int32) * x52_2) + x62_3).toNatClampNeg (0 : Int64)) := ⟨_, rfl⟩
            rw [← eal_79] at hP hD
            have hw := zw_nm_x eal_79 hw
            obtain ⟨v80, ev80⟩ : ∃ y : Int32, y = x62_3 + (1 : Int32) := ⟨_, rfl⟩
            refine lv_iinc (v := v80) (lv' := [(3, .int v80), (0, .ref (a 0)), (1, .int x52_1), (2, .int x52_2)]) hx hb d_Mo_pass_80 hl (k := 3) rfl (by rw [ev80]; rfl) (by decide) rfl (fun ls hl => ?_)
            have hw := zw_nm_x ev80 hw
            refine lv_goto (tgt := 62) hx hb d_Mo_pass_83 (by decide) ?_
            exact (ih62 v80 al_79 hw) H locs ls hP hD hS (lv_sub hl [1, 2, 3, 0] rfl)
      · have hw := zw_ite_f c34 hw
        refine lv_aload_n hx hb d_Mo_pass_37 rfl (lv_at hl 0 rfl) ?_
        refine va_get (D := (dC, dI)) (ci := 7) (v := .ref (a 22)) (C := R_Mo) (T := T_Mo) (N := 36) hx hb ht in_Mo hown hK hP 0 rfl rfl 30 (by decide) (ht _ kw_643) (fun _ h9 => h9) rfl d_Mo_pass_38 ?_
        refine lv_iload_n hx hb d_Mo_pass_41 rfl (lv_at hl 2 rfl) ?_
        refine lv_iconst (v := (-1 : Int32)) hx hb d_Mo_pass_42 (by decide) ?_
        obtain ⟨h43, hw⟩ := hw
        refine va_iast (f := ai31 22) hx hb hK hP hD hS 22 0 rfl rfl h43 d_Mo_pass_43 (fun H locs hP hD hS => ?_)
        have hP := mwpai_22 hP
        have hD := mwdai_22 hD
        obtain ⟨ai_43, eai_43⟩ : ∃ z, z = va_up ai31 22 (upd (ai31 22) x31_2.toNatClampNeg (-1 : Int32)) := ⟨_, rfl⟩
        rw [← eai_43] at hP hD
        have hw := zw_nm_x eai_43 hw
        obtain ⟨v44, ev44⟩ : ∃ y : Int32, y = x31_2 + (1 : Int32) := ⟨_, rfl⟩
        refine lv_iinc (v := v44) (lv' := [(2, .int v44), (0, .ref (a 0)), (1, .int v1)]) hx hb d_Mo_pass_44 hl (k := 2) rfl (by rw [ev44]; rfl) (by decide) rfl (fun ls hl => ?_)
        have hw := zw_nm_x ev44 hw
        refine lv_goto (tgt := 31) hx hb d_Mo_pass_47 (by decide) ?_
        exact (ih31 v44 ai_43 hw) H locs ls hP hD hS (lv_sub hl [1, 2, 0] rfl)
    · have hw := zw_ite_f c6 hw
      refine lv_aload_n hx hb d_Mo_pass_9 rfl (lv_at hl 0 rfl) ?_
      refine va_get (D := (dC, dI)) (ci := 7) (v := .ref (a 24)) (C := R_Mo) (T := T_Mo) (N := 36) hx hb ht in_Mo hown hK hP 0 rfl rfl 32 (by decide) (ht _ kw_645) (fun _ h9 => h9) rfl d_Mo_pass_10 ?_
      refine lv_iload_n hx hb d_Mo_pass_13 rfl (lv_at hl 2 rfl) ?_
      refine lv_iconst (v := (0 : Int32)) hx hb d_Mo_pass_14 (by decide) ?_
      obtain ⟨h15, hw⟩ := hw
      refine va_zast (f := ai4 24) hx hb hK hP hD hS 24 3 rfl rfl h15 d_Mo_pass_15 (fun H locs hP hD hS => ?_)
      have hP := mwpai_24 hP
      have hD := mwdai_24 hD
      obtain ⟨ai_15, eai_15⟩ : ∃ z, z = va_up ai4 24 (upd (ai4 24) x4_2.toNatClampNeg (vp_nar .boolean (0 : Int32))) := ⟨_, rfl⟩
      rw [← eai_15] at hP hD
      have hw := zw_nm_x eai_15 hw
      refine lv_aload_n hx hb d_Mo_pass_16 rfl (lv_at hl 0 rfl) ?_
      refine va_get (D := (dC, dI)) (ci := 7) (v := .ref (a 25)) (C := R_Mo) (T := T_Mo) (N := 36) hx hb ht in_Mo hown hK hP 0 rfl rfl 33 (by decide) (ht _ kw_646) (fun _ h9 => h9) rfl d_Mo_pass_17 ?_
      refine lv_iload_n hx hb d_Mo_pass_20 rfl (lv_at hl 2 rfl) ?_
      refine lv_lconst (v := (0 : Int64)) hx hb d_Mo_pass_21 (by decide) ?_
      obtain ⟨h22, hw⟩ := hw
      refine va_last (f := al4 25) hx hb hK hP hD hS 25 1 rfl rfl h22 d_Mo_pass_22 (fun H locs hP hD hS => ?_)
      have hP := mwpal_25 hP
      have hD := mwdal_25 hD
      obtain ⟨al_22, eal_22⟩ : ∃ z, z = va_up al4 25 (vp_updL (al4 25) x4_2.toNatClampNeg (0 : Int64)) := ⟨_, rfl⟩
      rw [← eal_22] at hP hD
      have hw := zw_nm_x eal_22 hw
      obtain ⟨v23, ev23⟩ : ∃ y : Int32, y = x4_2 + (1 : Int32) := ⟨_, rfl⟩
      refine lv_iinc (v := v23) (lv' := [(2, .int v23), (0, .ref (a 0)), (1, .int v1)]) hx hb d_Mo_pass_23 hl (k := 2) rfl (by rw [ev23]; rfl) (by decide) rfl (fun ls hl => ?_)
      have hw := zw_nm_x ev23 hw
      refine lv_goto (tgt := 4) hx hb d_Mo_pass_26 (by decide) ?_
      exact (ih4 v23 ai_15 al_22 hw) H locs ls hP hD hS (lv_sub hl [1, 2, 0] rfl)
  rw [hH, hlo] at key
  exact key
